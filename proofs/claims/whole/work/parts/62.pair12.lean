/-! drift -/
section SFP12
variable {V X Y : sf_MV} {n nx c ce cf cg a k m : Nat} {v : Int} {f : Nat → Int}
def sf_DD (V : sf_MV) (n ce cf cg m : Nat) : Prop :=
  ∃ (W : sf_MV) (nx c : Nat), sf_RR W n nx c ce cf cg ∧
    (∀ Y K (k x : Nat), k + m = x → x ≤ 100000 → sf_wp 19 none 68 14 [some (.inr (.inl (some 0))), some (.inl (x : Int)), some (.inl 0), some (.inl (k : Int))] [] (sf_E (sf_mix V Y)) K = sf_wp 19 none 68 29 [some (.inr (.inl (some 0))), some (.inl (x : Int)), some (.inl 0), some (.inl (x : Int))] [] (sf_E (sf_mix W Y)) K) ∧
    (∀ Y K (k x : Nat), k + m = x → x ≤ 100000 → ∀ a b, ∃ a' b', sf_wp 19 none 131 41 [some (.inr (.inl (some 409))), some (.inl (x : Int)), some (.inl (k : Int)), a, b] [] (sf_E (sf_mix Y V)) K = sf_wp 19 none 131 111 [some (.inr (.inl (some 409))), some (.inl (x : Int)), some (.inl (x : Int)), a', b'] [] (sf_E (sf_mix Y W)) K)
theorem sf_driftL (hn : 0 < n) : ∀ (m : Nat) (V : sf_MV) (nx c : Nat), m ≤ 1000 → sf_RR V n nx c ce cf cg → V (sf_rf 409 4) 2 + m ≤ 90099 → sf_DD V n ce cf cg m := by
  intro m
  induction m with
  | zero =>
    intro V nx c hm R hh
    refine ⟨V, nx, c, R, ?_, ?_⟩
    · intro Y K k x hk hx0
      simp only [q68_14, q68_15, q68_16]
      rw [if_pos (by omega), show (k : Int) = (x : Int) by omega]
    · intro Y K k x hk hx0 a b
      refine ⟨a, b, ?_⟩
      simp only [q131_41, q131_42, q131_43]
      rw [if_pos (by omega), show (k : Int) = (x : Int) by omega]
  | succ m ih =>
    intro V nx c hm R hh
    obtain ⟨W, nx', c', RW, hW, h95, a1, b1, h131⟩ := sf_driftH R hn (by omega)
    obtain ⟨U, nx'', c'', RU, hx, hy⟩ := ih W nx' c' (by omega) RW (by omega)
    refine ⟨U, nx'', c'', RU, ?_, ?_⟩
    · intro Y K k x hk hx0
      simp only [q68_14, q68_15, q68_16, q68_19, q68_20, sf_x, h95, Option.toList_some, Option.toList_none, List.cons_append, List.nil_append]
      rw [if_neg (by omega)]
      simp only [q68_23]
      rw [q68_26, sf_wS (by omega)]
      exact hx Y K (k + 1) x (by omega) hx0
    · intro Y K k x hk hx0 a b
      obtain ⟨a2, b2, h2⟩ := hy Y K (k + 1) x (by omega) hx0 (some (.inl a1)) (some (.inl b1))
      refine ⟨a2, b2, ?_⟩
      simp only [q131_41, q131_42, q131_43]
      rw [if_neg (by omega), h131]
      simp only [q131_105]
      rw [q131_108, sf_wS (by omega)]
      exact h2
theorem p_drift (R : sf_RR V n nx c ce cf cg) {x : Int} : sf_P2 68 131 [some (.inl x), none, none] [some (.inl x), none, none, none] V := by
  have c2 := sf_c11_2 sf_x
  have y4 := sf_c12_4 sf_y
  have hr := sf_rfsV R (x := x)
  have hyn := R.a.yn
  by_cases h1 : 1 ≤ x ∧ x ≤ 99
  · rw [if_pos h1] at hr
    by_cases h2 : n = 0
    · rw [if_pos h2] at hr
      refine ⟨-1000000003, V, V, n, nx, c, ce, cf, cg, ?_, ?_, R⟩
      · intro K
        simp only [q68_0, q68_1, q68_2, sf_x, s93, hr, q68_5, q68_6, Option.toList_some, Option.toList_none, List.cons_append, List.nil_append]
        rw [q68_7, if_neg (by decide)]
        simp only [q68_10, q68_11]
      · intro K
        simp only [q131_0, q131_1, q131_2, q131_3, q131_6, q131_9, Option.toList_some, Option.toList_none, List.cons_append, List.nil_append]
        rw [sf_inB_y h1, if_neg (by decide)]
        simp only [q131_15, q131_16, q131_19, sf_y, hyn]
        rw [if_pos (by omega)]
        simp only [q131_22, q131_24]
    · rw [if_neg h2] at hr
      by_cases h3 : V (sf_rf 409 4) 2 ≤ 90000
      · rw [if_pos h3] at hr
        obtain ⟨m, rfl⟩ : ∃ m : Nat, x = (m : Int) := ⟨x.toNat, by omega⟩
        obtain ⟨W, nx', c', RW, hx, hy⟩ := sf_driftL (by omega) m V nx c (by omega) R (by omega)
        have hdy : sf_mix W V (sf_rf 0 2) 3 = W (sf_rf 409 4) 0 := by
          rw [sf_mix_lo sf_lo_now.1]
          exact RW.b.q.d
        refine ⟨W (sf_rf 409 4) 0, sf_mix W V, W, n, nx', c', ce, cf, cg, ?_, ?_, RW⟩
        · intro K
          simp only [q68_0, q68_1, q68_2, sf_x, s93, hr, q68_5, q68_6, Option.toList_some, Option.toList_none, List.cons_append, List.nil_append]
          rw [q68_7, if_pos rfl]
          simp only [q68_12, q68_13]
          have h := hx V K 0 m (by omega) (by omega)
          rw [sf_mix_self] at h
          refine Eq.trans h ?_
          simp only [q68_29, q68_30, q68_33, q68_36, sf_x, c2, hdy]
        · intro K
          have m0 : sf_mix W V 409 = V 409 := sf_mix_hi (by decide)
          have m4 : sf_mix W V (sf_rf 409 4) = V (sf_rf 409 4) := sf_mix_hi (sf_hi_all 4)
          simp only [q131_0, q131_1, q131_2, q131_3, q131_6, q131_9, Option.toList_some, Option.toList_none, List.cons_append, List.nil_append]
          rw [sf_inB_y h1, if_neg (by decide)]
          simp only [q131_15, q131_16, q131_19, sf_y, m0, hyn]
          rw [if_neg (by omega)]
          simp (decide := true) only [q131_25, q131_26, q131_29, q131_30, q131_31, q131_33, sf_y, y4, sf_y4, m4, true_and, Int.reduceToNat]
          rw [if_pos h3]
          simp only [q131_39, q131_40]
          obtain ⟨a', b', h⟩ := hy W K 0 m (by omega) (by omega) none none
          rw [sf_mix_self (V := W)] at h
          refine Eq.trans h ?_
          simp (decide := true) only [q131_111, q131_112, q131_115, q131_116, q131_117, sf_y, y4, sf_y4, true_and, Int.reduceToNat]
      · rw [if_neg h3] at hr
        refine ⟨-1000000004, V, V, n, nx, c, ce, cf, cg, ?_, ?_, R⟩
        · intro K
          simp only [q68_0, q68_1, q68_2, sf_x, s93, hr, q68_5, q68_6, Option.toList_some, Option.toList_none, List.cons_append, List.nil_append]
          rw [q68_7, if_neg (by decide)]
          simp only [q68_10, q68_11]
        · intro K
          simp only [q131_0, q131_1, q131_2, q131_3, q131_6, q131_9, Option.toList_some, Option.toList_none, List.cons_append, List.nil_append]
          rw [sf_inB_y h1, if_neg (by decide)]
          simp only [q131_15, q131_16, q131_19, sf_y, hyn]
          rw [if_neg (by omega)]
          simp (decide := true) only [q131_25, q131_26, q131_29, q131_30, q131_31, q131_33, sf_y, y4, sf_y4, true_and, Int.reduceToNat]
          rw [if_neg h3]
          simp only [q131_36, q131_38]
  · rw [if_neg h1] at hr
    refine ⟨-1000000002, V, V, n, nx, c, ce, cf, cg, ?_, ?_, R⟩
    · intro K
      simp only [q68_0, q68_1, q68_2, sf_x, s93, hr, q68_5, q68_6, Option.toList_some, Option.toList_none, List.cons_append, List.nil_append]
      rw [q68_7, if_neg (by decide)]
      simp only [q68_10, q68_11]
    · intro K
      simp only [q131_0, q131_1, q131_2, q131_3, q131_6, q131_9, Option.toList_some, Option.toList_none, List.cons_append, List.nil_append]
      rw [sf_inB_n h1, if_pos rfl]
      simp only [q131_12, q131_14]
end SFP12

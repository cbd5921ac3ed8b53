/-! sit, drift -/
section SFP10
variable {V X Y : sf_MV} {n nx c ce cf cg a k m : Nat} {v : Int} {f : Nat → Int}
theorem sf_rfsV (R : sf_RR V n nx c ce cf cg) {x : Int} : sf_rfs V x = if 1 ≤ x ∧ x ≤ 99 then (if n = 0 then -1000000003 else if V (sf_rf 409 4) 2 ≤ 90000 then 0 else -1000000004) else -1000000002 := by
  have h1 : V (sf_rf 0 2) 5 = V (sf_rf 409 4) 2 := R.b.q.h
  have h2 : V (sf_rf 0 1) 4 = (n : Int) := R.a.xn
  unfold sf_rfs
  rw [h1, h2]
  by_cases h : n = 0
  · rw [if_pos h, if_pos (show (n : Int) = 0 by omega)]
  · rw [if_neg h, if_neg (show ¬ (n : Int) = 0 by omega)]
def sf_LL (V : sf_MV) (n ce cf cg m : Nat) : Prop :=
  ∃ (W : sf_MV) (nx c : Nat), sf_RR W n nx c ce cf cg ∧
    (∀ Y K (k x : Nat), k + m = x → x ≤ 100000 → sf_wp 19 none 67 14 [some (.inr (.inl (some 0))), some (.inl (x : Int)), some (.inl 0), some (.inl (k : Int))] [] (sf_E (sf_mix V Y)) K = sf_wp 19 none 67 32 [some (.inr (.inl (some 0))), some (.inl (x : Int)), some (.inl 0), some (.inl (x : Int))] [] (sf_E (sf_mix W Y)) K) ∧
    (∀ Y K (k x : Nat), k + m = x → x ≤ 100000 → sf_wp 19 none 129 41 [some (.inr (.inl (some 409))), some (.inl (x : Int)), some (.inl (k : Int))] [] (sf_E (sf_mix Y V)) K = sf_wp 19 none 129 58 [some (.inr (.inl (some 409))), some (.inl (x : Int)), some (.inl (x : Int))] [] (sf_E (sf_mix Y W)) K)
theorem sf_sitL (hn : 0 < n) : ∀ (m : Nat) (V : sf_MV) (nx c : Nat), m ≤ 1000 → sf_RR V n nx c ce cf cg → V (sf_rf 409 4) 2 + m ≤ 90099 → sf_LL V n ce cf cg m := by
  intro m
  induction m with
  | zero =>
    intro V nx c hm R hh
    refine ⟨V, nx, c, R, ?_, ?_⟩
    · intro Y K k x hk hx0
      simp only [q67_14, q67_15, q67_16]
      rw [if_pos (by omega), show (k : Int) = (x : Int) by omega]
    · intro Y K k x hk hx0
      simp only [q129_41, q129_42, q129_43]
      rw [if_pos (by omega), show (k : Int) = (x : Int) by omega]
  | succ m ih =>
    intro V nx c hm R hh
    obtain ⟨W, nx', c', RW, hW, h94, h127⟩ := sf_hourN R hn (by omega) (p := -1) (q := 0)
    obtain ⟨U, nx'', c'', RU, hx, hy⟩ := ih W nx' c' (by omega) RW (by omega)
    refine ⟨U, nx'', c'', RU, ?_, ?_⟩
    · intro Y K k x hk hx0
      simp only [q67_14, q67_15, q67_16, q67_19, q67_20, q67_21, q67_22, q67_25, sf_x, h94 14, Option.toList_some, Option.toList_none, List.cons_append, List.nil_append]
      rw [if_neg (by omega)]
      simp only [q67_26]
      rw [q67_29, sf_wS (by omega)]
      exact hx Y K (k + 1) x (by omega) hx0
    · intro Y K k x hk hx0
      simp only [q129_41, q129_42, q129_43, q129_46, q129_47, q129_48, q129_49, sf_y, h127 15, Option.toList_some, Option.toList_none, List.cons_append, List.nil_append]
      rw [if_neg (by omega)]
      simp only [q129_52]
      rw [q129_55, sf_wS (by omega)]
      exact hy Y K (k + 1) x (by omega) hx0
theorem p_sit (R : sf_RR V n nx c ce cf cg) {x : Int} : sf_P2 67 129 [some (.inl x), none, none] [some (.inl x), none] V := by
  have c2 := sf_c11_2 sf_x
  have y4 := sf_c12_4 sf_y
  have hr := sf_rfsV R (x := x)
  have hyn := R.a.yn
  by_cases h1 : 1 ≤ x ∧ x ≤ 99
  · rw [if_pos h1] at hr
    by_cases h2 : n = 0
    · rw [if_pos h2] at hr
      refine ⟨-1000000003, V, V, n, nx, c, ce, cf, cg, ?_, ?_, R⟩
      · intro K
        simp only [q67_0, q67_1, q67_2, sf_x, s93, hr, q67_5, q67_6, Option.toList_some, Option.toList_none, List.cons_append, List.nil_append]
        rw [q67_7, if_neg (by decide)]
        simp only [q67_10, q67_11]
      · intro K
        simp only [q129_0, q129_1, q129_2, q129_3, q129_6, q129_9, Option.toList_some, Option.toList_none, List.cons_append, List.nil_append]
        rw [sf_inB_y h1, if_neg (by decide)]
        simp only [q129_15, q129_16, q129_19, sf_y, hyn]
        rw [if_pos (by omega)]
        simp only [q129_22, q129_24]
    · rw [if_neg h2] at hr
      by_cases h3 : V (sf_rf 409 4) 2 ≤ 90000
      · rw [if_pos h3] at hr
        obtain ⟨m, rfl⟩ : ∃ m : Nat, x = (m : Int) := ⟨x.toNat, by omega⟩
        obtain ⟨W, nx', c', RW, hx, hy⟩ := sf_sitL (by omega) m V nx c (by omega) R (by omega)
        have hdy : sf_mix W V (sf_rf 0 2) 3 = W (sf_rf 409 4) 0 := by
          rw [sf_mix_lo sf_lo_now.1]
          exact RW.b.q.d
        refine ⟨W (sf_rf 409 4) 0, sf_mix W V, W, n, nx', c', ce, cf, cg, ?_, ?_, RW⟩
        · intro K
          simp only [q67_0, q67_1, q67_2, sf_x, s93, hr, q67_5, q67_6, Option.toList_some, Option.toList_none, List.cons_append, List.nil_append]
          rw [q67_7, if_pos rfl]
          simp only [q67_12, q67_13]
          have h := hx V K 0 m (by omega) (by omega)
          rw [sf_mix_self] at h
          refine Eq.trans h ?_
          simp only [q67_32, q67_33, q67_36, q67_39, sf_x, c2, hdy]
        · intro K
          have m0 : sf_mix W V 409 = V 409 := sf_mix_hi (by decide)
          have m4 : sf_mix W V (sf_rf 409 4) = V (sf_rf 409 4) := sf_mix_hi (sf_hi_all 4)
          simp only [q129_0, q129_1, q129_2, q129_3, q129_6, q129_9, Option.toList_some, Option.toList_none, List.cons_append, List.nil_append]
          rw [sf_inB_y h1, if_neg (by decide)]
          simp only [q129_15, q129_16, q129_19, sf_y, m0, hyn]
          rw [if_neg (by omega)]
          simp (decide := true) only [q129_25, q129_26, q129_29, q129_30, q129_31, q129_33, sf_y, y4, sf_y4, m4, true_and, Int.reduceToNat]
          rw [if_pos h3]
          simp only [q129_39, q129_40]
          have h := hy W K 0 m (by omega) (by omega)
          rw [sf_mix_self (V := W)] at h
          refine Eq.trans h ?_
          simp (decide := true) only [q129_58, q129_59, q129_62, q129_63, q129_64, sf_y, y4, sf_y4, true_and, Int.reduceToNat]
      · rw [if_neg h3] at hr
        refine ⟨-1000000004, V, V, n, nx, c, ce, cf, cg, ?_, ?_, R⟩
        · intro K
          simp only [q67_0, q67_1, q67_2, sf_x, s93, hr, q67_5, q67_6, Option.toList_some, Option.toList_none, List.cons_append, List.nil_append]
          rw [q67_7, if_neg (by decide)]
          simp only [q67_10, q67_11]
        · intro K
          simp only [q129_0, q129_1, q129_2, q129_3, q129_6, q129_9, Option.toList_some, Option.toList_none, List.cons_append, List.nil_append]
          rw [sf_inB_y h1, if_neg (by decide)]
          simp only [q129_15, q129_16, q129_19, sf_y, hyn]
          rw [if_neg (by omega)]
          simp (decide := true) only [q129_25, q129_26, q129_29, q129_30, q129_31, q129_33, sf_y, y4, sf_y4, true_and, Int.reduceToNat]
          rw [if_neg h3]
          simp only [q129_36, q129_38]
  · rw [if_neg h1] at hr
    refine ⟨-1000000002, V, V, n, nx, c, ce, cf, cg, ?_, ?_, R⟩
    · intro K
      simp only [q67_0, q67_1, q67_2, sf_x, s93, hr, q67_5, q67_6, Option.toList_some, Option.toList_none, List.cons_append, List.nil_append]
      rw [q67_7, if_neg (by decide)]
      simp only [q67_10, q67_11]
    · intro K
      simp only [q129_0, q129_1, q129_2, q129_3, q129_6, q129_9, Option.toList_some, Option.toList_none, List.cons_append, List.nil_append]
      rw [sf_inB_n h1, if_pos rfl]
      simp only [q129_12, q129_14]
end SFP10

/-! duel: the class -/
theorem sf_cxLen : sf_len (sf_rf (sf_rf (sf_rf 0 11) 0) 0) = 5 := by decide +kernel
def sf_cx (t : Nat) : Nat := sf_rf (sf_rf (sf_rf (sf_rf 0 11) 0) 0) t
theorem sf_cxCls {t : Nat} (h : t < 5) : sf_cls (sf_cx t) = 9 := (sf_elem (sf_c8_0 (sf_c1_0 (sf_c11_11 sf_x))) (by rw [sf_cxLen]; exact h)).1
section SFP45
variable {V X U : sf_MV} {n nx c ce cf cg : Nat}
def sf_FG (k : Nat) (V V' : sf_MV) : Prop := (∀ x, ¬ x = sf_rf 0 11 → (∀ t, k < t → t < 5 → ¬ x = sf_cx t ∧ ¬ x = sf_rf (sf_rf (sf_cx t) 0) 0 ∧ ¬ x = sf_rf (sf_rf (sf_cx t) 1) 0 ∧ ¬ x = sf_rf (sf_rf (sf_cx t) 2) 0) → V' x = V x) ∧ ∀ j, ¬ j = 5 → V' (sf_rf 0 11) j = V (sf_rf 0 11) j
theorem sf_FG_refl {k : Nat} : sf_FG k V V := ⟨fun _ _ _ => rfl, fun _ _ => rfl⟩
theorem sf_FG_trans {k : Nat} {V1 V2 V3 : sf_MV} (h : sf_FG k V1 V2) (g : sf_FG k V2 V3) : sf_FG k V1 V3 :=
  ⟨fun x q1 q2 => by rw [g.1 x q1 q2, h.1 x q1 q2], fun j q => by rw [g.2 j q, h.2 j q]⟩
theorem sf_FG_le {k k' : Nat} {V1 V2 : sf_MV} (h : sf_FG k' V1 V2) (hk : k ≤ k') : sf_FG k V1 V2 :=
  ⟨fun x q1 q2 => h.1 x q1 (fun t h1 h2 => q2 t (by omega) h2), h.2⟩
theorem sf_FG_row {k j : Nat} {V1 V2 : sf_MV} (h : sf_FG k V1 V2) (hj : j ≤ k) : sf_getS V2 (sf_cx j) = sf_getS V1 (sf_cx j) := by
  have ne : ∀ t, k < t → ¬ j = t := fun t ht => by omega
  refine sf_getS_congr ?_ ?_ ?_ ?_
  · exact h.1 _ (by simp [sf_cx, sf_rf_inj, sf_rf_ne0]) (fun t h1 _ => by simp [sf_cx, sf_rf_inj, ne t h1, sf_self2_rf, sf_rf_self2, sf_self_rf, sf_rf_self])
  · exact h.1 _ (by simp [sf_cx, sf_rf_inj, sf_rf_ne0]) (fun t h1 _ => by simp [sf_cx, sf_rf_inj, ne t h1, sf_self2_rf, sf_rf_self2, sf_self_rf, sf_rf_self])
  · exact h.1 _ (by simp [sf_cx, sf_rf_inj, sf_rf_ne0]) (fun t h1 _ => by simp [sf_cx, sf_rf_inj, ne t h1, sf_self2_rf, sf_rf_self2, sf_self_rf, sf_rf_self])
  · exact h.1 _ (by simp [sf_cx, sf_rf_inj, sf_rf_ne0]) (fun t h1 _ => by simp [sf_cx, sf_rf_inj, ne t h1, sf_self2_rf, sf_rf_self2, sf_self_rf, sf_rf_self])
theorem sf_FG_home {k : Nat} {V1 V2 : sf_MV} (h : sf_FG k V1 V2) : V2 (sf_rf 0 1) = V1 (sf_rf 0 1) ∧ V2 (sf_si (sf_rf 0 1)) = V1 (sf_si (sf_rf 0 1)) := by
  refine ⟨h.1 _ (by simp [sf_rf_inj]) (fun t _ _ => by simp [sf_cx, sf_rf_inj, sf_0ne_rf]), h.1 _ (by simp [sf_si, sf_rf_inj, sf_rf_ne0]) (fun t _ _ => by simp [sf_si, sf_cx, sf_rf_inj, sf_0ne_rf, sf_rf_ne0])⟩
theorem sf_FG_set {k : Nat} {S : Nat → Int} (hk : k < 4) : sf_FG k V (sf_setS V (sf_cx (k + 1)) S) := by
  refine ⟨fun x _ h => ?_, fun j _ => ?_⟩
  · obtain ⟨h1, h2, h3, h4⟩ := h (k + 1) (by omega) (by omega)
    exact sf_setS_ne3 h1 h2 h3 h4
  · rw [sf_setS_ne3 (by simp [sf_cx, sf_rf_inj, sf_0ne_rf]) (by simp [sf_cx, sf_rf_inj, sf_0ne_rf]) (by simp [sf_cx, sf_rf_inj, sf_0ne_rf]) (by simp [sf_cx, sf_rf_inj, sf_0ne_rf])]
theorem s4 {g a b : Int} {cold : Nat → Int} {N : Nat} (hn : 0 < n) (hn5 : n ≤ 5) (ha : 0 ≤ a ∧ a < n) (hb : 0 ≤ b ∧ b < n) (hN : N ≤ 4) (hg : 0 ≤ g ∧ g ≤ 20) (hc : ∀ p, p < 5 → 0 ≤ cold p ∧ cold p ≤ 9) : ∀ (r k : Nat) (V : sf_MV) (B : Int), k + r = N → V (sf_rf 0 11) 1 = a → V (sf_rf 0 11) 2 = b → V (sf_rf 0 11) 3 = (N : Int) → V (sf_rf 0 1) 4 = (n : Int) → V (sf_rf 0 1) 6 = g → V (sf_si (sf_rf 0 1)) = cold → sf_rok n B (sf_getS V (sf_cx k)) → B + r ≤ 99999 →
    ∃ V', sf_FG k V V' ∧ (0 < k → V' (sf_rf 0 11) = V (sf_rf 0 11)) ∧ (k = 0 → 0 < r → V' (sf_rf 0 11) 5 = (sf_vf (fun x => sf_vl n g cold a b (r - 1) (k + 1) (sf_goes n g cold (sf_getS V (sf_cx k)) (sf_ntx n (sf_getS V (sf_cx k)) (sf_who a b k) x))) (decide (k % 2 = 0)) 7).2) ∧
      ∀ D K, 2 * r + 4 ≤ D → sf_wp D none 4 0 [some (.inr (.inl (some (sf_rf 0 11)))), some (.inr (.inl (some (sf_rf 0 1)))), some (.inl (k : Int)), none, none, none, none, none, none, none] [] (sf_E V) K = K (some (.inl (sf_vl n g cold a b r k (sf_getS V (sf_cx k))))) (sf_E V') := by
  have x11 := sf_c11_11 sf_x
  have s0 := sf_c1_0 x11
  have x1 := sf_c11_1 sf_x
  intro r
  induction r with
  | zero =>
    intro k V B hk h1 h2 h3 h4 h5 h6 hr hB
    have ck := sf_cxCls (show k < 5 by omega)
    refine ⟨V, sf_FG_refl, fun _ => rfl, fun _ z => absurd z (by omega), fun D K hD => ?_⟩
    have ed : V (sf_cx k) 3 = sf_getS V (sf_cx k) 0 := sf_getS_d.symm
    obtain ⟨e, rfl⟩ : ∃ e, D = e + 4 := ⟨D - 4, by omega⟩
    simp only [q4_0, q4_1, q4_4, x11]
    simp only [q4_5, s0]
    rw [s36 s0 (by rw [sf_cxLen]; omega)]
    have ee : sf_rf (sf_rf (sf_rf (sf_rf 0 11) 0) 0) k = sf_cx k := rfl
    rw [ee]
    simp only [q4_8, q4_9, q4_10, q4_11, q4_14, x11, h3, Option.toList_some, Option.toList_none, List.cons_append, List.nil_append]
    rw [if_neg (by omega)]
    simp only [q4_17, q4_18, q4_21, q4_22, q4_25, x11, ck, ed, h1]
    unfold sf_vl
    by_cases q1 : sf_getS V (sf_cx k) 0 = a
    · rw [if_pos q1, if_pos q1]
      simp only [q4_28, q4_29, q4_48]
    · rw [if_neg q1, if_neg q1]
      simp only [q4_32, q4_33, q4_36, q4_37, q4_40, x11, ck, ed, h2]
      by_cases q2 : sf_getS V (sf_cx k) 0 = b
      · rw [if_pos q2, if_pos q2]
        simp only [q4_43, q4_44, q4_48]
      · rw [if_neg q2, if_neg q2]
        simp only [q4_47, q4_48]
  | succ r ih =>
    intro k V B hk h1 h2 h3 h4 h5 h6 hr hB
    have ck := sf_cxCls (show k < 5 by omega)
    have ck1 := sf_cxCls (show k + 1 < 5 by omega)
    have hrd := hr.d
    have hrh := hr.h
    have hw : 0 ≤ sf_who a b k ∧ sf_who a b k < n := by
      unfold sf_who
      split <;> assumption
    generalize hS : sf_getS V (sf_cx k) = S at hr hrd hrh ⊢
    have hd : 0 ≤ S 0 ∧ S 0 < n := by omega
    have nt := fun x => sf_ntx_in (x := x) hn hw hd
    generalize hf : (fun x => sf_vl n g cold a b r (k + 1) (sf_goes n g cold S (sf_ntx n S (sf_who a b k) x))) = f
    have hf0 : ∀ x, 0 ≤ f x := fun x => by
      rw [← hf]
      exact sf_vl_0 _ _ _
    have hfx : ∀ x, f x = sf_vl n g cold a b r (k + 1) (sf_goes n g cold S (sf_ntx n S (sf_who a b k) x)) := fun x => by rw [← hf]
    have hval : sf_vl n g cold a b (r + 1) k S = (sf_vf f (decide (k % 2 = 0)) 7).1 := by
      rw [← hf]
      rfl
    rw [hval, show r + 1 - 1 = r by omega, hf]
    -- the loop over things
    have loop : ∀ (m x : Nat) (V0 : sf_MV) (F : Nat → Bool) (l8 l9 : Option sf_V), 7 - x = m → x ≤ 7 → sf_FG k V V0 → (0 < k → V0 (sf_rf 0 11) = V (sf_rf 0 11)) → (k = 0 → 0 < x → V0 (sf_rf 0 11) 5 = (sf_vf f (decide (k % 2 = 0)) x).2) → (∀ t, t < 5 → F t = true → ∃ y, y < x ∧ sf_ntx n S (sf_who a b k) y = t) → (x = 0 → ∀ t, F t = false) →
        ∃ V', sf_FG k V V' ∧ (0 < k → V' (sf_rf 0 11) = V (sf_rf 0 11)) ∧ (k = 0 → V' (sf_rf 0 11) 5 = (sf_vf f (decide (k % 2 = 0)) 7).2) ∧
          ∀ e K, 2 * r + 2 ≤ e → sf_wp (e + 4) none 4 71 [some (.inr (.inl (some (sf_rf 0 11)))), some (.inr (.inl (some (sf_rf 0 1)))), some (.inl (k : Int)), some (.inr (.inl (some (sf_cx k)))), some (.inl (if k % 2 = 0 then 1 else 0)), some (.inl (sf_vf f (decide (k % 2 = 0)) x).1), some (.inl (sf_fq F).toInt), some (.inl (x : Int)), l8, l9] [] (sf_E V0) K = K (some (.inl (sf_vf f (decide (k % 2 = 0)) 7).1)) (sf_E V') := by
      intro m
      induction m with
      | zero =>
        intro x V0 F l8 l9 hm hx fg c1 c5 hF hF0
        have x7 : x = 7 := by omega
        subst x7
        refine ⟨V0, fg, c1, fun z => c5 z (by decide), fun e K he => ?_⟩
        simp only [q4_71, q4_73, q4_75]
        rw [if_pos (by decide)]
        simp only [q4_204, q4_206]
      | succ m ihm =>
        intro x V0 F l8 l9 hm hx fg c1 c5 hF hF0
        have hx7 : x < 7 := by omega
        obtain ⟨nt1, nt5⟩ := nt x
        have row0 : sf_getS V0 (sf_cx k) = S := by rw [sf_FG_row fg (Nat.le_refl k), hS]
        have ho := sf_FG_home fg
        have n4 : V0 (sf_rf 0 1) 4 = (n : Int) := by rw [ho.1]; exact h4
        have head : ∀ e K, 2 * r + 2 ≤ e → sf_wp (e + 4) none 4 71 [some (.inr (.inl (some (sf_rf 0 11)))), some (.inr (.inl (some (sf_rf 0 1)))), some (.inl (k : Int)), some (.inr (.inl (some (sf_cx k)))), some (.inl (if k % 2 = 0 then 1 else 0)), some (.inl (sf_vf f (decide (k % 2 = 0)) x).1), some (.inl (sf_fq F).toInt), some (.inl (x : Int)), l8, l9] [] (sf_E V0) K = sf_wp (e + 3 + 1) none 4 118 [some (.inr (.inl (some (sf_rf 0 11)))), some (.inr (.inl (some (sf_rf 0 1)))), some (.inl (k : Int)), some (.inr (.inl (some (sf_cx k)))), some (.inl (if k % 2 = 0 then 1 else 0)), some (.inl (sf_vf f (decide (k % 2 = 0)) x).1), some (.inl (sf_fq F).toInt), some (.inl (x : Int)), l8, l9] [.inl ((sf_ntx n S (sf_who a b k) x : Nat) : Int)] (sf_E V0) K := fun e K he => by
          rw [nt1]
          simp only [q4_71, q4_73, q4_75, q4_78, q4_80, q4_82]
          rw [if_neg (by omega)]
          by_cases hx6 : x < 6
          · rw [if_neg (by omega), if_pos hx6]
            have w1 : V0 (sf_rf 0 11) 1 = a := by rw [fg.2 1 (by decide)]; exact h1
            have w2 : V0 (sf_rf 0 11) 2 = b := by rw [fg.2 2 (by decide)]; exact h2
            simp only [q4_85, q4_86, q4_88]
            rw [q4_90]
            unfold sf_who
            by_cases hev : k % 2 = 0
            · rw [if_pos hev, if_neg (by decide)]
              simp only [q4_93, q4_94, q4_97, q4_104, q4_105, q4_108, x11, x1, ck, w1, n4]
              rw [s40g (d := e + 1) ck hx6 hn5 (by omega) (by rw [row0]; omega), row0]
              simp only [q4_111, if_pos hev, Option.toList_some, Option.toList_none, List.cons_append, List.nil_append]
            · rw [if_neg hev, if_pos rfl]
              simp only [q4_100, q4_101, q4_104, q4_105, q4_108, x11, x1, ck, w2, n4]
              rw [s40g (d := e + 1) ck hx6 hn5 (by omega) (by rw [row0]; omega), row0]
              simp only [q4_111, if_neg hev, Option.toList_some, Option.toList_none, List.cons_append, List.nil_append]
          · rw [if_pos (by omega), if_neg hx6]
            have e0 : V0 (sf_cx k) 3 = S 0 := by
              have h := congrFun row0 0
              rw [sf_getS_d] at h
              exact h
            simp only [q4_114, q4_115, ck, e0]
        generalize htt : sf_ntx n S (sf_who a b k) x = tt at head nt1 nt5
        have tt5 : tt < 5 := by omega
        by_cases hb1 : F tt = true
        · -- tried before
          obtain ⟨y, hy, hyt⟩ := hF tt tt5 hb1
          have dup : sf_vf f (decide (k % 2 = 0)) (x + 1) = sf_vf f (decide (k % 2 = 0)) x := sf_vf_dup hf0 hy (by rw [hfx, hfx, hyt, htt])
          obtain ⟨V', z1, z2, z3, z4⟩ := ihm (x + 1) V0 F (some (.inl (tt : Int))) l9 (by omega) (by omega) fg c1 (fun q _ => by rw [dup]; exact c5 q (by omega)) (fun t ht hFt => by
            obtain ⟨y, q1, q2⟩ := hF t ht hFt
            exact ⟨y, by omega, q2⟩) (fun z => absurd z (by omega))
          refine ⟨V', z1, z2, z3, fun e K he => ?_⟩
          have z5 := z4 e K he
          rw [dup] at z5
          rw [head e K he]
          simp only [q4_118, q4_120, q4_122, q4_124, q4_125, q4_126]
          rw [sf_i32, sf_i32, sf_fq_bit tt5, if_pos hb1, q4_127, if_neg (by decide)]
          simp only [q4_198]
          rw [q4_201, sf_wS (by omega)]
          exact z5
        · -- tried now
          have fset := sf_FG_set (V := V0) (k := k) (S := sf_goes n g cold S tt) (by omega)
          have fg1 := sf_FG_trans fg fset
          have rowk1 : ∀ j, j < 20 → j ≠ 3 → sf_getS (sf_setS V0 (sf_cx (k + 1)) (sf_goes n g cold S tt)) (sf_cx (k + 1)) j = sf_goes n g cold S tt j := fun j j1 j2 => sf_getS_set j1 j2
          have rg := sf_rok_goes (gain := g) (cold := cold) hr hn5 nt5 hg.1 (fun p hp => (hc p (by omega)).1)
          have ho1 := sf_FG_home fg1
          obtain ⟨V1, y1, y2, _, y4⟩ := ih (k + 1) (sf_setS V0 (sf_cx (k + 1)) (sf_goes n g cold S tt)) (B + 1) (by omega) (by rw [fg1.2 1 (by decide)]; exact h1) (by rw [fg1.2 2 (by decide)]; exact h2) (by rw [fg1.2 3 (by decide)]; exact h3) (by rw [ho1.1]; exact h4) (by rw [ho1.1]; exact h5) (by rw [ho1.2]; exact h6) (sf_rok_c rg hn5 rowk1) (by omega)
          have veq : sf_vl n g cold a b r (k + 1) (sf_getS (sf_setS V0 (sf_cx (k + 1)) (sf_goes n g cold S tt)) (sf_cx (k + 1))) = f x := by
            rw [hfx, htt]
            refine sf_vl_c (v := 0) hn hn5 ha hb (fun _ _ => rfl) r (k + 1) _ _ (sf_req_l (sf_req_self hn5 rowk1)) ?_
            rw [rowk1 0 (by decide) (by decide), sf_goes_0]
            omega
          rw [veq] at y4
          have y2' := y2 (by omega)
          have fg2 : sf_FG k V V1 := sf_FG_trans fg1 (sf_FG_le y1 (by omega))
          have V1C : V1 (sf_rf 0 11) = V0 (sf_rf 0 11) := by
            rw [y2', sf_setS_ne3 (by simp [sf_cx, sf_rf_inj, sf_0ne_rf]) (by simp [sf_cx, sf_rf_inj, sf_0ne_rf]) (by simp [sf_cx, sf_rf_inj, sf_0ne_rf]) (by simp [sf_cx, sf_rf_inj, sf_0ne_rf])]
          have end5 : ∀ e K, 2 * r + 2 ≤ e → sf_wp (e + 3) none 5 0 [some (.inr (.inl (some (sf_rf 0 11)))), some (.inr (.inl (some (sf_rf 0 1)))), some (.inl (k : Int)), some (.inl (tt : Int)), none] [] (sf_E V0) K = K (some (.inl (f x))) (sf_E V1) := fun e K he => by
            have ee : ∀ t, sf_rf (sf_rf (sf_rf (sf_rf 0 11) 0) 0) t = sf_cx t := fun _ => rfl
            simp only [q5_0, q5_1, q5_4, q5_5, q5_6, q5_7, x11, s0]
            rw [sf_wS (by omega), s36 s0 (by rw [sf_cxLen]; omega), ee]
            simp only [q5_10, q5_12, q5_14, q5_15, q5_18, q5_19, x11, s0, Option.toList_some, Option.toList_none, List.cons_append, List.nil_append]
            rw [s36 s0 (by rw [sf_cxLen]; omega), ee]
            simp only [q5_22, ck, ck1, Option.toList_some, Option.toList_none, List.cons_append, List.nil_append]
            rw [s39 ck1 ck (by simp [sf_cx, sf_rf_inj]), row0]
            simp only [q5_25, q5_27, q5_28, q5_29, ck1, x1, Option.toList_some, Option.toList_none, List.cons_append, List.nil_append]
            obtain ⟨e', rfl⟩ : ∃ e', e = e' + 2 := ⟨e - 2, by omega⟩
            rw [s44 (d := e' + 2) (n := n) (t := tt) ck1 x1 n4 hn5 (by omega) (by rw [ho.1, h5]; exact hg) (by rw [ho.2, h6]; exact hc) hr.w (by omega)]
            simp only [q5_32, q5_33, q5_34, q5_35, q5_36, q5_37, x11, Option.toList_some, Option.toList_none, List.cons_append, List.nil_append]
            rw [sf_wS (by omega), ho.1, h5, ho.2, h6, y4 _ _ (by omega)]
            simp only [q5_40, Option.toList_some, Option.toList_none, List.cons_append, List.nil_append]
          have hF' : ∀ t, t < 5 → (fun j => F j || tt == j) t = true → ∃ y, y < x + 1 ∧ sf_ntx n S (sf_who a b k) y = t := fun t ht hFt => by
            by_cases q : tt = t
            · exact ⟨x, by omega, by rw [htt, q]⟩
            · have : F t = true := by
                have hne : (tt == t) = false := beq_false_of_ne q
                have hFt2 : (F t || tt == t) = true := hFt
                rw [hne, Bool.or_false] at hFt2
                exact hFt2
              obtain ⟨y, q1, q2⟩ := hF t ht this
              exact ⟨y, by omega, q2⟩
          have mid : ∀ e K, 2 * r + 2 ≤ e → sf_wp (e + 3 + 1) none 4 118 [some (.inr (.inl (some (sf_rf 0 11)))), some (.inr (.inl (some (sf_rf 0 1)))), some (.inl (k : Int)), some (.inr (.inl (some (sf_cx k)))), some (.inl (if k % 2 = 0 then 1 else 0)), some (.inl (sf_vf f (decide (k % 2 = 0)) x).1), some (.inl (sf_fq F).toInt), some (.inl (x : Int)), l8, l9] [.inl (tt : Int)] (sf_E V0) K = sf_wp (e + 3 + 1) none 4 149 [some (.inr (.inl (some (sf_rf 0 11)))), some (.inr (.inl (some (sf_rf 0 1)))), some (.inl (k : Int)), some (.inr (.inl (some (sf_cx k)))), some (.inl (if k % 2 = 0 then 1 else 0)), some (.inl (sf_vf f (decide (k % 2 = 0)) x).1), some (.inl (sf_fq (fun j => F j || tt == j)).toInt), some (.inl (x : Int)), some (.inl (tt : Int)), some (.inl (f x))] [] (sf_E V1) K := fun e K he => by
            simp only [q4_118, q4_120, q4_122, q4_124, q4_125, q4_126]
            rw [sf_i32, sf_i32, sf_fq_bit tt5, if_neg hb1, q4_127, if_pos rfl]
            simp only [q4_130, q4_132, q4_133, q4_135, q4_136, q4_137, q4_139, q4_140, q4_141, q4_142, q4_144, x11, end5 e _ he, Option.toList_some, Option.toList_none, List.cons_append, List.nil_append]
            rw [sf_i32, sf_i32]
            have es : sf_fq F ||| Int32.ofInt 1 <<< (Int32.ofInt (tt : Int) &&& 31) = sf_fq (fun j => F j || tt == j) := sf_fq_set tt5
            rw [es]
            simp only [q4_147]
          have step : sf_vf f (decide (k % 2 = 0)) (x + 1) = if (sf_vf f (decide (k % 2 = 0)) x).1 = -1 ∨ (if decide (k % 2 = 0) = true then (sf_vf f (decide (k % 2 = 0)) x).1 < f x else f x < (sf_vf f (decide (k % 2 = 0)) x).1) then (f x, (x : Int)) else sf_vf f (decide (k % 2 = 0)) x := rfl
          by_cases better : (sf_vf f (decide (k % 2 = 0)) x).1 = -1 ∨ (if decide (k % 2 = 0) = true then (sf_vf f (decide (k % 2 = 0)) x).1 < f x else f x < (sf_vf f (decide (k % 2 = 0)) x).1)
          · rw [if_pos better] at step
            generalize hV2 : sf_upd V1 (sf_rf 0 11) 5 (if k = 0 then (x : Int) else V1 (sf_rf 0 11) 5) = V2
            have fg3 : sf_FG k V V2 := sf_FG_trans fg2 ⟨fun y q _ => by rw [← hV2]; exact sf_upd_ne q, fun j q => by rw [← hV2]; exact sf_upd_ne2 q⟩
            obtain ⟨V', z1, z2, z3, z4⟩ := ihm (x + 1) V2 (fun j => F j || tt == j) (some (.inl (tt : Int))) (some (.inl (f x))) (by omega) (by omega) fg3 (fun q => by
              rw [← hV2, if_neg (by omega), sf_upd_self rfl, V1C]
              exact c1 q) (fun q _ => by rw [← hV2, sf_upd_eq, if_pos q, step]) hF' (fun z => absurd z (by omega))
            refine ⟨V', z1, z2, z3, fun e K he => ?_⟩
            have z5 := z4 e K he
            rw [step] at z5
            have tail : sf_wp (e + 3 + 1) none 4 177 [some (.inr (.inl (some (sf_rf 0 11)))), some (.inr (.inl (some (sf_rf 0 1)))), some (.inl (k : Int)), some (.inr (.inl (some (sf_cx k)))), some (.inl (if k % 2 = 0 then 1 else 0)), some (.inl (sf_vf f (decide (k % 2 = 0)) x).1), some (.inl (sf_fq (fun j => F j || tt == j)).toInt), some (.inl (x : Int)), some (.inl (tt : Int)), some (.inl (f x))] [] (sf_E V1) K = K (some (.inl (sf_vf f (decide (k % 2 = 0)) 7).1)) (sf_E V') := by
              rw [← z5]
              simp only [q4_177, q4_179, q4_181, q4_182]
              rw [q4_183]
              by_cases k0 : k = 0
              · rw [if_pos k0] at hV2
                rw [if_pos (by omega)]
                simp only [q4_186, q4_188, q4_195, q4_198, x11, hV2]
                rw [q4_201, sf_wS (by omega)]
              · rw [if_neg k0] at hV2
                rw [if_neg (by omega)]
                simp only [q4_191, q4_192, q4_195, q4_198, x11, hV2]
                rw [q4_201, sf_wS (by omega)]
            rw [head e K he, mid e K he]
            simp only [q4_149, q4_151, q4_152]
            by_cases q1 : (sf_vf f (decide (k % 2 = 0)) x).1 = -1
            · rw [if_pos q1]
              exact tail
            · rw [if_neg q1]
              have q2 : (if decide (k % 2 = 0) = true then (sf_vf f (decide (k % 2 = 0)) x).1 < f x else f x < (sf_vf f (decide (k % 2 = 0)) x).1) := by
                rcases better with z | z
                · exact absurd z q1
                · exact z
              simp only [q4_155]
              rw [q4_157]
              by_cases hev : k % 2 = 0
              · rw [if_pos (decide_eq_true hev)] at q2
                rw [if_pos hev, if_neg (by decide)]
                simp only [q4_160, q4_162, q4_164]
                rw [if_neg (by omega)]
                simp only [q4_167]
                rw [if_pos hev] at tail
                exact tail
              · rw [if_neg (by simp [hev])] at q2
                rw [if_neg hev, if_pos rfl]
                simp only [q4_170, q4_172, q4_174]
                rw [if_neg (by omega)]
                rw [if_neg hev] at tail
                exact tail
          · rw [if_neg better] at step
            obtain ⟨V', z1, z2, z3, z4⟩ := ihm (x + 1) V1 (fun j => F j || tt == j) (some (.inl (tt : Int))) (some (.inl (f x))) (by omega) (by omega) fg2 (fun q => by rw [V1C]; exact c1 q) (fun q _ => by
              rw [V1C, step]
              by_cases x0 : x = 0
              · subst x0
                exact absurd (Or.inl rfl) better
              · exact c5 q (by omega)) hF' (fun z => absurd z (by omega))
            refine ⟨V', z1, z2, z3, fun e K he => ?_⟩
            have z5 := z4 e K he
            rw [step] at z5
            have tail : sf_wp (e + 3 + 1) none 4 198 [some (.inr (.inl (some (sf_rf 0 11)))), some (.inr (.inl (some (sf_rf 0 1)))), some (.inl (k : Int)), some (.inr (.inl (some (sf_cx k)))), some (.inl (if k % 2 = 0 then 1 else 0)), some (.inl (sf_vf f (decide (k % 2 = 0)) x).1), some (.inl (sf_fq (fun j => F j || tt == j)).toInt), some (.inl (x : Int)), some (.inl (tt : Int)), some (.inl (f x))] [] (sf_E V1) K = K (some (.inl (sf_vf f (decide (k % 2 = 0)) 7).1)) (sf_E V') := by
              rw [← z5]
              simp only [q4_198]
              rw [q4_201, sf_wS (by omega)]
            rw [head e K he, mid e K he]
            simp only [q4_149, q4_151, q4_152]
            rw [if_neg (fun z => better (Or.inl z))]
            have q2 : ¬ (if decide (k % 2 = 0) = true then (sf_vf f (decide (k % 2 = 0)) x).1 < f x else f x < (sf_vf f (decide (k % 2 = 0)) x).1) := fun z => better (Or.inr z)
            simp only [q4_155]
            rw [q4_157]
            by_cases hev : k % 2 = 0
            · rw [if_pos (decide_eq_true hev)] at q2
              rw [if_pos hev, if_neg (by decide)]
              simp only [q4_160, q4_162, q4_164]
              rw [if_pos (by omega)]
              rw [if_pos hev] at tail
              exact tail
            · rw [if_neg (by simp [hev])] at q2
              rw [if_neg hev, if_pos rfl]
              simp only [q4_170, q4_172, q4_174]
              rw [if_pos (by omega)]
              rw [if_neg hev] at tail
              exact tail
    obtain ⟨V', z1, z2, z3, z4⟩ := loop 7 0 V (fun _ => false) none none rfl (by omega) sf_FG_refl (fun _ => rfl) (fun _ z => absurd z (by omega)) (fun t _ z => absurd z (by simp)) (fun _ _ => rfl)
    refine ⟨V', z1, z2, fun q _ => z3 q, fun D K hD => ?_⟩
    obtain ⟨e, rfl⟩ : ∃ e, D = e + 4 := ⟨D - 4, by omega⟩
    have ee : sf_rf (sf_rf (sf_rf (sf_rf 0 11) 0) 0) k = sf_cx k := rfl
    simp only [q4_0, q4_1, q4_4, x11]
    simp only [q4_5, s0]
    rw [s36 s0 (by rw [sf_cxLen]; omega), ee]
    simp only [q4_8, q4_9, q4_10, q4_11, q4_14, x11, h3, Option.toList_some, Option.toList_none, List.cons_append, List.nil_append]
    rw [if_pos (by omega)]
    have e2 : (2 : Int) ≠ 0 := by decide
    simp only [q4_49, q4_50, q4_51, e2, ne_eq, not_false_eq_true, true_and]
    rw [q4_52]
    have hm : (k : Int).tmod 2 = ((k % 2 : Nat) : Int) := by
      rw [Int.tmod_eq_emod_of_nonneg (by omega)]
      omega
    have z5 := z4 e K (by omega)
    have f0 : (sf_fq (fun _ => false)).toInt = 0 := rfl
    have v0 : (sf_vf f (decide (k % 2 = 0)) 0).1 = -1 := rfl
    rw [f0, v0] at z5
    by_cases hev : k % 2 = 0
    · rw [if_pos hev] at z5
      rw [if_pos (by omega)]
      simp only [q4_55, q4_56, q4_60, q4_62, q4_63, q4_65, q4_66, q4_68, q4_69]
      exact z5
    · rw [if_neg hev] at z5
      rw [if_neg (by omega)]
      simp only [q4_59, q4_60, q4_62, q4_63, q4_65, q4_66, q4_68, q4_69]
      exact z5
end SFP45

/-! undo -/
section SFP13
variable {V X Y : sf_MV} {n nx c ce cf cg a k m : Nat} {v : Int} {f : Nat → Int} {K : Option sf_V → sf_M → Prop}
def sf_ub (V : sf_MV) (u : Nat) : Nat → Int := fun j => if j = 3 then V (sf_rf 409 4) 3 else V (sf_rf 409 5) (20 * u + j)
theorem s134_loop {d u : Nat} {x : Int} (hu : u < 30) : ∀ (m k : Nat) (V : sf_MV), 20 - k = m → k ≤ 20 → V 409 6 = (u : Int) →
    sf_wp d none 134 38 [some (.inr (.inl (some 409))), some (.inl x), some (.inl (k : Int))] [] (sf_E V) K = sf_wp d none 134 84 [some (.inr (.inl (some 409))), some (.inl x), some (.inl 20)] [] (sf_E (sf_put V (sf_rf 409 4) k 20 (sf_ub V u))) K := by
  have c1 := sf_c12_5 sf_y
  have c2 := sf_c12_4 sf_y
  intro m
  induction m with
  | zero =>
    intro k V hm hk h6
    simp only [q134_38, q134_39, q134_41]
    rw [if_pos (by omega), sf_put_nil (by omega), show (k : Int) = 20 by omega]
  | succ m ih =>
    intro k V hm hk h6
    have b1 : k < 20 := by omega
    have b2 : 20 * u + k < 600 := by omega
    have key : ∀ v, v = sf_ub V u k → sf_wp d none 134 81 [some (.inr (.inl (some 409))), some (.inl x), some (.inl ((k : Int) + 1))] [] (sf_E (sf_upd V (sf_rf 409 4) k v)) K = sf_wp d none 134 84 [some (.inr (.inl (some 409))), some (.inl x), some (.inl 20)] [] (sf_E (sf_put V (sf_rf 409 4) k 20 (sf_ub V u))) K := fun v hv => by
      have eu : sf_ub (sf_upd V (sf_rf 409 4) k v) u = sf_ub V u := by
        funext j
        unfold sf_ub
        rw [sf_upd_ne (b := sf_rf 409 5) (by simp [sf_rf_inj])]
        by_cases hj : j = 3
        · rw [if_pos hj, if_pos hj]
          by_cases hk3 : k = 3
          · subst hk3
            rw [sf_upd_eq, hv]
            rfl
          · rw [sf_upd_ne2 (by omega)]
        · rw [if_neg hj, if_neg hj]
      rw [q134_81, show (k : Int) + 1 = ((k + 1 : Nat) : Int) by omega, ih (k + 1) _ (by omega) (by omega) (by rw [sf_upd_ne (by simp [sf_Yne_rf])]; exact h6), eu, hv, sf_put_step b1]
    simp only [q134_38, q134_39, q134_41, q134_44, q134_45, q134_48, q134_49, q134_50, q134_51, sf_y, c1, c2]
    rw [if_neg (by omega)]
    by_cases h3 : k = 3
    · rw [if_pos (by omega)]
      simp only [q134_54, q134_55, q134_58, q134_59, q134_60, q134_77, q134_78, sf_y, c2, sf_y4, sf_bd, b1, true_and, Int.toNat_natCast]
      rw [sf_wS (by omega)]
      exact key _ (by unfold sf_ub; rw [if_pos h3, h3])
    · rw [if_neg (by omega)]
      simp only [q134_63, q134_64, q134_67, q134_69, q134_70, q134_73, q134_74, q134_75, q134_76, q134_77, q134_78, sf_y, c1, c2, sf_y5, sf_y4, h6, sf_w20 (show u < 100 by omega) (show k < 100 by omega), sf_bd, b1, b2, true_and, Int.toNat_natCast]
      rw [sf_wS (by omega)]
      exact key _ (by unfold sf_ub; rw [if_neg h3])
theorem sf_getS_d {s : Nat} : sf_getS V s 0 = V s 3 := rfl
theorem sf_getS_l {s : Nat} : sf_getS V s 1 = V s 4 := rfl
theorem sf_getS_h {s : Nat} : sf_getS V s 2 = V s 5 := rfl
theorem sf_undoC (hnx : nx < 30) (hc : c ≤ 30) {x j : Nat} (hx : x ≤ c) (hj : j < c - x) : sf_bk (sf_bk nx x) (j + 1) = sf_bk nx (j + x + 1) := by
  unfold sf_bk
  (repeat' split) <;> omega
theorem sf_RR_back (R : sf_RR V n nx c ce cf cg) {W : sf_MV} {S T : Nat → Int} {nx' c' : Nat}
    (hfr : ∀ a, ¬ a = sf_rf 0 2 → ¬ a = sf_rf (sf_rf (sf_rf 0 2) 0) 0 → ¬ a = sf_rf (sf_rf (sf_rf 0 2) 1) 0 → ¬ a = sf_rf (sf_rf (sf_rf 0 2) 2) 0 → ¬ a = sf_rf 0 4 → ¬ a = 0 → ¬ a = 409 → ¬ a = sf_rf 409 4 → W a = V a)
    (h7 : ∀ k, ¬ k = 6 → W 409 k = V 409 k)
    (hS : ∀ k, k < 20 → k ≠ 3 → sf_getS W (sf_rf 0 2) k = S k) (hT : ∀ k, k < 20 → W (sf_rf 409 4) k = T k)
    (hz : W 0 13 = T 3) (hz0 : 0 ≤ T 3 ∧ T 3 ≤ 2147483647) (hq : sf_req n S T) (r1 : sf_rok n 90099 S) (r2 : sf_rok n 90099 T)
    (g1 : W (sf_rf 0 4) 1 = (nx' : Int)) (g2 : W (sf_rf 0 4) 2 = (c' : Int)) (g3 : W 409 6 = (c' : Int)) (b1 : nx' < 30) (b2 : c' ≤ 30)
    (hr : ∀ j, j < c' → ∃ i, i < c ∧ sf_bk nx' (j + 1) = sf_bk nx (i + 1) ∧ c' - 1 - j = c - 1 - i) : sf_RR W n nx' c' ce cf cg := by
  have hn5 := R.a.n5
  refine sf_RR.mk ?_ ?_ ?_ ?_ ?_ ?_ ?_
  · (have h := R.a; simp (decide := true) only [hfr, h7, sf_upd_ne, sf_upd_ne2, sf_put_ne, sf_upd_eq, sf_getS_upd, sf_getS_put, sf_rg, sf_sh, sf_rf_inj, sf_rf_ne0, sf_0ne_rf, sf_rf_neY, sf_Yne_rf, sf_rf_self, sf_self_rf, sf_rf_self2, sf_self2_rf, not_false_eq_true, and_false, false_and, and_true, true_and, reduceCtorEq] at h ⊢; exact h)
  · exact sf_GB.mk (sf_req_c hq hn5 hS (fun k hk _ => hT k hk)) (sf_rok_c r1 hn5 hS) (sf_rok_c r2 hn5 (fun k hk _ => hT k hk)) (by rw [hT 3 (by omega)]; exact hz) (by rw [hT 3 (by omega)]; exact hz0)
  · have hc := R.c
    have e3 : ∀ i, sf_getS W (sf_rg i) = sf_getS V (sf_rg i) := fun i => by
      refine sf_getS_congr ?_ ?_ ?_ ?_ <;> simp (decide := true) only [hfr, sf_upd_ne, sf_upd_ne2, sf_put_ne, sf_upd_eq, sf_getS_upd, sf_getS_put, sf_rg, sf_sh, sf_rf_inj, sf_rf_ne0, sf_0ne_rf, sf_rf_neY, sf_Yne_rf, sf_rf_self, sf_self_rf, sf_rf_self2, sf_self2_rf, not_false_eq_true, and_false, false_and, and_true, true_and, reduceCtorEq]
    have e5 : W (sf_rf 409 5) = V (sf_rf 409 5) := by
      simp (decide := true) only [hfr, sf_upd_ne, sf_upd_ne2, sf_put_ne, sf_upd_eq, sf_getS_upd, sf_getS_put, sf_rg, sf_sh, sf_rf_inj, sf_rf_ne0, sf_0ne_rf, sf_rf_neY, sf_Yne_rf, sf_rf_self, sf_self_rf, sf_rf_self2, sf_self2_rf, not_false_eq_true, and_false, false_and, and_true, true_and, reduceCtorEq]
    rw [e5]
    refine sf_GC.mk g1 b1 g2 b2 g3 ?_ ?_ ?_
    · intro j hj
      obtain ⟨i, hi, z1, z2⟩ := hr j hj
      show sf_req n (sf_getS W (sf_rg (sf_bk nx' (j + 1)))) _
      rw [e3, z1, z2]
      exact hc.q i hi
    · intro j hj
      obtain ⟨i, hi, z1, z2⟩ := hr j hj
      show sf_rok n 90099 (sf_getS W (sf_rg (sf_bk nx' (j + 1))))
      rw [e3, z1]
      exact hc.rx i hi
    · intro j hj
      obtain ⟨i, hi, z1, z2⟩ := hr j hj
      rw [z2]
      exact hc.ry i hi
  · have hd := R.d
    have e3 : (fun i => sf_getS W (sf_sh i)) = fun i => sf_getS V (sf_sh i) := by
      funext i
      refine sf_getS_congr ?_ ?_ ?_ ?_ <;> simp (decide := true) only [hfr, sf_upd_ne, sf_upd_ne2, sf_put_ne, sf_upd_eq, sf_getS_upd, sf_getS_put, sf_rg, sf_sh, sf_rf_inj, sf_rf_ne0, sf_0ne_rf, sf_rf_neY, sf_Yne_rf, sf_rf_self, sf_self_rf, sf_rf_self2, sf_self2_rf, not_false_eq_true, and_false, false_and, and_true, true_and, reduceCtorEq]
    rw [e3]
    simp (decide := true) only [hfr, sf_upd_ne, sf_upd_ne2, sf_put_ne, sf_upd_eq, sf_getS_upd, sf_getS_put, sf_rg, sf_sh, sf_rf_inj, sf_rf_ne0, sf_0ne_rf, sf_rf_neY, sf_Yne_rf, sf_rf_self, sf_self_rf, sf_rf_self2, sf_self2_rf, not_false_eq_true, and_false, false_and, and_true, true_and, reduceCtorEq] at hd ⊢
    exact hd
  · (have h := R.e; simp (decide := true) only [hfr, h7, sf_upd_ne, sf_upd_ne2, sf_put_ne, sf_upd_eq, sf_getS_upd, sf_getS_put, sf_rg, sf_sh, sf_rf_inj, sf_rf_ne0, sf_0ne_rf, sf_rf_neY, sf_Yne_rf, sf_rf_self, sf_self_rf, sf_rf_self2, sf_self2_rf, not_false_eq_true, and_false, false_and, and_true, true_and, reduceCtorEq] at h ⊢; exact h)
  · (have h := R.f; simp (decide := true) only [hfr, h7, sf_upd_ne, sf_upd_ne2, sf_put_ne, sf_upd_eq, sf_getS_upd, sf_getS_put, sf_rg, sf_sh, sf_rf_inj, sf_rf_ne0, sf_0ne_rf, sf_rf_neY, sf_Yne_rf, sf_rf_self, sf_self_rf, sf_rf_self2, sf_self2_rf, not_false_eq_true, and_false, false_and, and_true, true_and, reduceCtorEq] at h ⊢; exact h)
  · (have h := R.g; simp (decide := true) only [hfr, h7, sf_upd_ne, sf_upd_ne2, sf_put_ne, sf_upd_eq, sf_getS_upd, sf_getS_put, sf_rg, sf_sh, sf_rf_inj, sf_rf_ne0, sf_0ne_rf, sf_rf_neY, sf_Yne_rf, sf_rf_self, sf_self_rf, sf_rf_self2, sf_self2_rf, not_false_eq_true, and_false, false_and, and_true, true_and, reduceCtorEq] at h ⊢; exact h)
theorem sf_setS_ne3 {s : Nat} {S : Nat → Int} (h1 : ¬ a = s) (h2 : ¬ a = sf_rf (sf_rf s 0) 0) (h3 : ¬ a = sf_rf (sf_rf s 1) 0) (h4 : ¬ a = sf_rf (sf_rf s 2) 0) : sf_setS V s S a = V a := sf_setS_ne h1 h2 h3 h4
theorem p_undo (R : sf_RR V n nx c ce cf cg) {x : Int} : sf_P2 71 134 [some (.inl x)] [some (.inl x), none] V := by
  have x2 := sf_c11_2 sf_x
  have x4 := sf_c11_4 sf_x
  have y4 := sf_c12_4 sf_y
  have ha := R.a
  have hb := R.b
  have hc := R.c
  have hn5 := ha.n5
  have nx30 := hc.nx
  have c30 := hc.c30
  by_cases h1 : 1 ≤ x ∧ x ≤ 30
  · by_cases h2 : x ≤ c
    · obtain ⟨m, rfl⟩ : ∃ m : Nat, x = (m : Int) := ⟨x.toNat, by omega⟩
      have hm : m ≤ c := by omega
      have hbk : sf_bk nx m < 30 := by unfold sf_bk; split <;> omega
      have hrg : sf_cls (sf_rg (sf_bk nx m)) = 9 := sf_rgCls hbk
      have q0 := hc.q (m - 1) (by omega)
      have q1 := hc.rx (m - 1) (by omega)
      have q2 := hc.ry (m - 1) (by omega)
      rw [show m - 1 + 1 = m by omega, show c - 1 - (m - 1) = c - m by omega] at q0
      rw [show m - 1 + 1 = m by omega] at q1
      rw [show c - 1 - (m - 1) = c - m by omega] at q2
      have eub : ∀ j, j ≠ 3 → sf_ub V (c - m) j = V (sf_rf 409 5) (20 * (c - m) + j) := fun j hj => if_neg hj
      generalize hW0 : sf_setS (sf_upd (sf_upd V (sf_rf 0 4) 1 (sf_bk nx m : Nat)) (sf_rf 0 4) 2 ((c - m : Nat) : Int)) (sf_rf 0 2) (sf_getS V (sf_rg (sf_bk nx m))) = W0
      generalize hW1 : sf_put (sf_upd W0 409 6 ((c - m : Nat) : Int)) (sf_rf 409 4) 0 20 (sf_ub V (c - m)) = W1
      have n0 : ∀ a, ¬ a = sf_rf 0 2 → ¬ a = sf_rf (sf_rf (sf_rf 0 2) 0) 0 → ¬ a = sf_rf (sf_rf (sf_rf 0 2) 1) 0 → ¬ a = sf_rf (sf_rf (sf_rf 0 2) 2) 0 → ¬ a = sf_rf 0 4 → W0 a = V a := fun a a1 a2 a3 a4 a5 => by
        rw [← hW0, sf_setS_ne3 a1 a2 a3 a4, sf_upd_ne a5, sf_upd_ne a5]
      have e04 : ∀ k, W0 (sf_rf 0 4) k = sf_upd (sf_upd V (sf_rf 0 4) 1 (sf_bk nx m : Nat)) (sf_rf 0 4) 2 ((c - m : Nat) : Int) (sf_rf 0 4) k := fun k => by
        rw [← hW0, sf_setS_ne3 (by simp [sf_rf_inj]) (by simp [sf_rf_inj, sf_0ne_rf]) (by simp [sf_rf_inj, sf_0ne_rf]) (by simp [sf_rf_inj, sf_0ne_rf])]
      have n1 : ∀ a, ¬ a = 409 → ¬ a = sf_rf 409 4 → W1 a = W0 a := fun a a1 a2 => by
        rw [← hW1, sf_put_ne a2, sf_upd_ne a1]
      have e7 : ∀ k, W1 409 k = sf_upd W0 409 6 ((c - m : Nat) : Int) 409 k := fun k => by
        rw [← hW1, sf_put_ne (by simp [sf_Yne_rf])]
      have e14 : W1 (sf_rf 0 4) = W0 (sf_rf 0 4) := n1 _ (by simp [sf_rf_neY]) (by simp [sf_rf_inj])
      have w07 : W0 409 = V 409 := by simp (decide := true) only [n0, sf_upd_ne, sf_upd_ne2, sf_put_ne, sf_upd_eq, sf_getS_upd, sf_getS_put, sf_rg, sf_sh, sf_rf_inj, sf_rf_ne0, sf_0ne_rf, sf_rf_neY, sf_Yne_rf, sf_rf_self, sf_self_rf, sf_rf_self2, sf_self2_rf, not_false_eq_true, and_false, false_and, and_true, true_and, reduceCtorEq]
      have w074 : W0 (sf_rf 409 4) = V (sf_rf 409 4) := by simp (decide := true) only [n0, sf_upd_ne, sf_upd_ne2, sf_put_ne, sf_upd_eq, sf_getS_upd, sf_getS_put, sf_rg, sf_sh, sf_rf_inj, sf_rf_ne0, sf_0ne_rf, sf_rf_neY, sf_Yne_rf, sf_rf_self, sf_self_rf, sf_rf_self2, sf_self2_rf, not_false_eq_true, and_false, false_and, and_true, true_and, reduceCtorEq]
      have w075 : W0 (sf_rf 409 5) = V (sf_rf 409 5) := by simp (decide := true) only [n0, sf_upd_ne, sf_upd_ne2, sf_put_ne, sf_upd_eq, sf_getS_upd, sf_getS_put, sf_rg, sf_sh, sf_rf_inj, sf_rf_ne0, sf_0ne_rf, sf_rf_neY, sf_Yne_rf, sf_rf_self, sf_self_rf, sf_rf_self2, sf_self2_rf, not_false_eq_true, and_false, false_and, and_true, true_and, reduceCtorEq]
      have hub : sf_ub (sf_upd W0 409 6 ((c - m : Nat) : Int)) (c - m) = sf_ub V (c - m) := by
        unfold sf_ub
        rw [sf_upd_ne (by simp [sf_rf_neY]), sf_upd_ne (by simp [sf_rf_neY]), w074, w075]
      have RW : sf_RR W1 n (sf_bk nx m) (c - m) ce cf cg := by
        refine sf_RR_back R (S := sf_getS V (sf_rg (sf_bk nx m))) (T := sf_ub V (c - m)) (fun a a1 a2 a3 a4 a5 _ a6 a7 => by rw [n1 a a6 a7, n0 a a1 a2 a3 a4 a5]) ?_ ?_ ?_ ?_ ?_ ?_ q1 ?_ ?_ ?_ ?_ hbk (by omega) ?_
        · intro k hk
          rw [e7, sf_upd_ne2 hk, w07]
        · intro k hk hk3
          have g : sf_getS W1 (sf_rf 0 2) = sf_getS W0 (sf_rf 0 2) := by
            refine sf_getS_congr ?_ ?_ ?_ ?_ <;> simp (decide := true) only [n1, sf_upd_ne, sf_upd_ne2, sf_put_ne, sf_upd_eq, sf_getS_upd, sf_getS_put, sf_rg, sf_sh, sf_rf_inj, sf_rf_ne0, sf_0ne_rf, sf_rf_neY, sf_Yne_rf, sf_rf_self, sf_self_rf, sf_rf_self2, sf_self2_rf, not_false_eq_true, and_false, false_and, and_true, true_and, reduceCtorEq]
          rw [g, ← hW0]
          exact sf_getS_set hk hk3
        · intro k hk
          rw [← hW1]
          exact sf_put_at hk
        · rw [n1 0 (by decide) (by simp [sf_0ne_rf])]
          have : W0 0 = V 0 := by simp (decide := true) only [n0, sf_upd_ne, sf_upd_ne2, sf_put_ne, sf_upd_eq, sf_getS_upd, sf_getS_put, sf_rg, sf_sh, sf_rf_inj, sf_rf_ne0, sf_0ne_rf, sf_rf_neY, sf_Yne_rf, sf_rf_self, sf_self_rf, sf_rf_self2, sf_self2_rf, not_false_eq_true, and_false, false_and, and_true, true_and, reduceCtorEq]
          rw [this]
          exact hb.s
        · exact hb.s0
        · exact sf_req_c q0 hn5 (fun _ _ _ => rfl) (fun k _ hk => eub k hk)
        · exact sf_rok_c q2 hn5 (fun k _ hk => eub k hk)
        · rw [e14, e04, sf_upd_ne2 (by decide), sf_upd_eq]
        · rw [e14, e04, sf_upd_eq]
        · rw [e7, sf_upd_eq]
        · intro j hj
          exact ⟨j + m, by omega, by rw [sf_undoC nx30 c30 hm hj], by omega⟩
      refine ⟨W1 (sf_rf 409 4) 2, W0, W1, n, sf_bk nx m, c - m, ce, cf, cg, ?_, ?_, RW⟩
      · intro K
        have hw2 : W0 (sf_rf 0 2) 5 = W1 (sf_rf 409 4) 2 := by
          have h := RW.b.q.h
          rw [sf_getS_h, n1 _ (by simp [sf_rf_neY]) (by simp [sf_rf_inj, sf_0ne_rf])] at h
          exact h
        simp only [q71_0, q71_1, q71_2, q71_4, s90, q71_7, Option.toList_some, Option.toList_none, List.cons_append, List.nil_append]
        rw [if_pos h1, if_neg (by decide)]
        simp only [q71_13, q71_14, q71_17, q71_20, q71_21, sf_x, x4, hc.c]
        rw [if_pos (by omega)]
        simp only [q71_27, q71_28, q71_31, q71_32, q71_35, q71_36, sf_x, x2, x4]
        rw [s15 hc.x nx30 hc.c c30 hm]
        simp only [q71_39, x2, hrg, Option.toList_some, Option.toList_none, List.cons_append, List.nil_append]
        rw [s39 x2 hrg (fun z => sf_rg_ne z.symm)]
        have hg0 : sf_getS (sf_upd (sf_upd V (sf_rf 0 4) 1 (sf_bk nx m : Nat)) (sf_rf 0 4) 2 ((c - m : Nat) : Int)) (sf_rg (sf_bk nx m)) = sf_getS V (sf_rg (sf_bk nx m)) := by
          simp (decide := true) only [sf_upd_ne, sf_upd_ne2, sf_put_ne, sf_upd_eq, sf_getS_upd, sf_getS_put, sf_rg, sf_sh, sf_rf_inj, sf_rf_ne0, sf_0ne_rf, sf_rf_neY, sf_Yne_rf, sf_rf_self, sf_self_rf, sf_rf_self2, sf_self2_rf, not_false_eq_true, and_false, false_and, and_true, true_and, reduceCtorEq]
        rw [hg0, hW0]
        simp only [q71_42, q71_43, q71_46, q71_49, sf_x, x2, hw2, Option.toList_some, Option.toList_none, List.cons_append, List.nil_append]
      · intro K
        simp only [q134_0, q134_1, q134_2, q134_3, q134_6, q134_9, Option.toList_some, Option.toList_none, List.cons_append, List.nil_append]
        rw [sf_inB_y h1, if_neg (by decide)]
        simp only [q134_15, q134_16, q134_17, q134_20, sf_y, w07, hc.u]
        rw [if_pos (by omega)]
        simp only [q134_26, q134_27, q134_28, q134_31, q134_32, q134_33, q134_36, q134_37, sf_y, w07, hc.u]
        rw [sf_w_small (by omega), show (c : Int) - m = ((c - m : Nat) : Int) by omega]
        refine Eq.trans (s134_loop (u := c - m) (by omega) 20 0 _ rfl (by omega) (by rw [sf_upd_eq])) ?_
        rw [hub, hW1]
        simp (decide := true) only [q134_84, q134_85, q134_88, q134_89, q134_90, sf_y, y4, sf_y4, true_and, Int.reduceToNat]
    · refine ⟨-1000000003, V, V, n, nx, c, ce, cf, cg, ?_, ?_, R⟩
      · intro K
        simp only [q71_0, q71_1, q71_2, q71_4, s90, q71_7, Option.toList_some, Option.toList_none, List.cons_append, List.nil_append]
        rw [if_pos h1, if_neg (by decide)]
        simp only [q71_13, q71_14, q71_17, q71_20, q71_21, sf_x, x4, hc.c]
        rw [if_neg (by omega)]
        simp only [q71_24, q71_26]
      · intro K
        simp only [q134_0, q134_1, q134_2, q134_3, q134_6, q134_9, Option.toList_some, Option.toList_none, List.cons_append, List.nil_append]
        rw [sf_inB_y h1, if_neg (by decide)]
        simp only [q134_15, q134_16, q134_17, q134_20, sf_y, hc.u]
        rw [if_neg (by omega)]
        simp only [q134_23, q134_25]
  · refine ⟨-1000000002, V, V, n, nx, c, ce, cf, cg, ?_, ?_, R⟩
    · intro K
      simp only [q71_0, q71_1, q71_2, q71_4, s90, q71_7, Option.toList_some, Option.toList_none, List.cons_append, List.nil_append]
      rw [if_neg h1, if_pos rfl]
      simp only [q71_10, q71_12]
    · intro K
      simp only [q134_0, q134_1, q134_2, q134_3, q134_6, q134_9, Option.toList_some, Option.toList_none, List.cons_append, List.nil_append]
      rw [sf_inB_n h1, if_pos rfl]
      simp only [q134_12, q134_14]
end SFP13

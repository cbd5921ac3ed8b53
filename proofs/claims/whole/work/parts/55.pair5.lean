/-! pairs of calls: write, note -/
theorem sf_bkLen : sf_len (sf_rf (sf_rf (sf_rf 0 9) 0) 0) = 20 ∧ sf_len (sf_rf (sf_rf (sf_rf 0 9) 1) 0) = 20 := by decide +kernel
section SFP5
variable {V : sf_MV} {n nx c ce cf cg : Nat} {K : Option sf_V → sf_M → Prop}
theorem sf_wr_nat {a k : Nat} {v : Int} (h : k < sf_len a) : sf_wr V a (k : Int) v = sf_upd V a k v := by
  unfold sf_wr
  rw [if_pos (by omega), Int.toNat_natCast]
theorem s1 {d : Nat} {e p : Int} (h : V (sf_rf 0 9) 2 = (cf : Int)) (hc : cf < 20) : sf_wp (d + 1) none 1 0 [some (.inr (.inl (some (sf_rf 0 9)))), some (.inl e), some (.inl p)] [] (sf_E V) K = K (some (.inl ((cf + 1 : Nat) : Int))) (sf_E (sf_upd (sf_upd (sf_upd V (sf_rf (sf_rf (sf_rf 0 9) 0) 0) cf e) (sf_rf (sf_rf (sf_rf 0 9) 1) 0) cf p) (sf_rf 0 9) 2 ((cf + 1 : Nat) : Int))) := by
  have c9 := sf_c11_9 sf_x
  have d0 := sf_c0_0 c9
  have d1 := sf_c0_1 c9
  obtain ⟨l1, l2⟩ := sf_bkLen
  have w1 : sf_wr V (sf_rf (sf_rf (sf_rf 0 9) 0) 0) (cf : Int) e = sf_upd V (sf_rf (sf_rf (sf_rf 0 9) 0) 0) cf e := sf_wr_nat (by omega)
  have w2 : ∀ W : sf_MV, sf_wr W (sf_rf (sf_rf (sf_rf 0 9) 1) 0) (cf : Int) p = sf_upd W (sf_rf (sf_rf (sf_rf 0 9) 1) 0) cf p := fun W => sf_wr_nat (by omega)
  have e1 : sf_upd V (sf_rf (sf_rf (sf_rf 0 9) 0) 0) cf e (sf_rf 0 9) = V (sf_rf 0 9) := sf_upd_ne (by simp [sf_self2_rf])
  have e2 : ∀ W : sf_MV, sf_upd W (sf_rf (sf_rf (sf_rf 0 9) 1) 0) cf p (sf_rf 0 9) = W (sf_rf 0 9) := fun W => sf_upd_ne (by simp [sf_self2_rf])
  simp only [q1_0, q1_1, q1_4, q1_5, q1_8, q1_9, q1_12, q1_13, q1_16, q1_17, q1_20, q1_21, q1_24, q1_25, q1_26, q1_29, q1_30, q1_31, q1_34, q1_35, q1_38, c9, d0, d1, s32, w1, w2, e1, e2, h, sf_upd_eq, Option.toList_some, Option.toList_none, List.cons_append, List.nil_append]
  rw [sf_wS (by omega)]
theorem sf_GF_add {b0 b1 bo : Nat → Int} {x y e p : Int} (h : sf_GF n b0 b1 x y bo cf) (hc : cf < 20) (he : 0 ≤ e ∧ e < 6) (hp : 0 ≤ p ∧ p < n) : sf_GF n (sf_ru b0 cf e) (sf_ru b1 cf p) ((cf + 1 : Nat) : Int) ((cf + 1 : Nat) : Int) (sf_ru (sf_ru bo (2 * cf) e) (2 * cf + 1) p) (cf + 1) := by
  refine sf_GF.mk (by omega) rfl rfl (fun j hj => ?_) (fun j hj => ?_)
  · by_cases q : j = cf
    · subst q
      rw [sf_ru_eq, sf_ru_eq, sf_ru_ne (by omega), sf_ru_eq, sf_ru_eq]
      exact ⟨rfl, rfl⟩
    · rw [sf_ru_ne q, sf_ru_ne q, sf_ru_ne (by omega), sf_ru_ne (by omega), sf_ru_ne (by omega), sf_ru_ne (by omega)]
      exact h.e j (by omega)
  · by_cases q : j = cf
    · subst q
      rw [sf_ru_ne (k := 2 * j) (by omega), sf_ru_eq, sf_ru_eq]
      exact ⟨he, hp⟩
    · rw [sf_ru_ne (k := 2 * j) (by omega), sf_ru_ne (k := 2 * j) (by omega), sf_ru_ne (by omega), sf_ru_ne (by omega)]
      exact h.r j (by omega)
theorem p_write (R : sf_RR V n nx c ce cf cg) {e p : Int} : sf_P2 84 158 [some (.inl e), some (.inl p)] [some (.inl e), some (.inl p)] V := by
  have c9 := sf_c11_9 sf_x
  have y11 := sf_c12_11 sf_y
  have ha := R.a
  have hf := R.f
  have hn5 := ha.n5
  by_cases hp : (0 ≤ e ∧ e < 6) ∧ (0 ≤ p ∧ p < n)
  · obtain ⟨hp1, hp2⟩ := hp
    by_cases hc : cf < 20
    · have k0 : 2 * cf < 40 := by omega
      have k1 : 2 * cf + 1 < 40 := by omega
      refine ⟨((cf + 1 : Nat) : Int), sf_upd (sf_upd (sf_upd V (sf_rf (sf_rf (sf_rf 0 9) 0) 0) cf e) (sf_rf (sf_rf (sf_rf 0 9) 1) 0) cf p) (sf_rf 0 9) 2 ((cf + 1 : Nat) : Int),
        sf_upd (sf_upd (sf_upd (sf_upd (sf_upd (sf_upd V (sf_rf (sf_rf (sf_rf 0 9) 0) 0) cf e) (sf_rf (sf_rf (sf_rf 0 9) 1) 0) cf p) (sf_rf 0 9) 2 ((cf + 1 : Nat) : Int)) (sf_rf 409 11) (2 * cf) e) (sf_rf 409 11) (2 * cf + 1) p) 409 12 ((cf + 1 : Nat) : Int), n, nx, c, ce, cf + 1, cg, ?_, ?_, ?_⟩
      · intro K
        simp only [q84_0, q84_1, s92, q84_4, Option.toList_some, Option.toList_none, List.cons_append, List.nil_append]
        rw [if_pos hp1, if_neg (by decide)]
        simp only [q84_7, q84_8, q84_9, s91, q84_12, sf_x, ha.xn, Option.toList_some, Option.toList_none, List.cons_append, List.nil_append]
        rw [if_pos hp2, if_neg (by decide)]
        simp only [q84_18, q84_19, q84_22, q84_25, q84_27, sf_x, c9, hf.x]
        rw [if_pos (by omega)]
        simp only [q84_35, q84_36, q84_39, q84_40, q84_41, sf_x, c9]
        rw [s1 hf.x hc]
        simp only [q84_44, Option.toList_some, Option.toList_none, List.cons_append, List.nil_append]
      · intro K
        generalize hW : sf_upd (sf_upd (sf_upd V (sf_rf (sf_rf (sf_rf 0 9) 0) 0) cf e) (sf_rf (sf_rf (sf_rf 0 9) 1) 0) cf p) (sf_rf 0 9) 2 ((cf + 1 : Nat) : Int) = W
        have w7 : W 409 = V 409 := by
          rw [← hW]
          simp (decide := true) only [sf_upd_ne, sf_upd_ne2, sf_put_ne, sf_upd_eq, sf_getS_upd, sf_getS_put, sf_rg, sf_sh, sf_rf_inj, sf_rf_ne0, sf_0ne_rf, sf_rf_neY, sf_Yne_rf, sf_rf_self, sf_self_rf, sf_rf_self2, sf_self2_rf, not_false_eq_true, and_false, false_and, and_true, true_and, reduceCtorEq]
        simp only [q158_0, q158_1, s118, q158_4, Option.toList_some, Option.toList_none, List.cons_append, List.nil_append]
        rw [sf_inB_y (by omega), if_neg (by decide)]
        simp only [q158_7, q158_8, q158_9, sf_y, Option.toList_some, Option.toList_none, List.cons_append, List.nil_append]
        rw [s117 (by rw [w7, ha.yn]; omega)]
        simp only [q158_12, w7, ha.yn, Option.toList_some, Option.toList_none, List.cons_append, List.nil_append]
        rw [sf_inB_y (by omega), if_neg (by decide)]
        simp only [q158_18, q158_19, q158_22, q158_24, sf_y, w7, hf.y]
        rw [if_neg (by omega)]
        have m1 : sf_w (2 * (cf : Int)) = ((2 * cf : Nat) : Int) := by rw [sf_w_small (by omega)]; omega
        have m2 : sf_w (((2 * cf : Nat) : Int) + 1) = ((2 * cf + 1 : Nat) : Int) := sf_wS (by omega)
        have m3 : sf_w ((cf : Int) + 1) = ((cf + 1 : Nat) : Int) := sf_wS (by omega)
        have u1 : ∀ (X : sf_MV) k v, sf_upd X (sf_rf 409 11) k v 409 = X 409 := fun X k v => sf_upd_ne (by simp [sf_Yne_rf])
        simp only [q158_30, q158_31, q158_34, q158_35, q158_36, q158_39, q158_40, q158_41, q158_42, q158_43, q158_46, q158_47, q158_48, q158_51, q158_52, q158_53, q158_54, q158_55, q158_56, q158_57, q158_58, q158_61, q158_62, q158_63, q158_66, q158_67, q158_70, sf_y, y11, sf_y11, u1, w7, hf.y, m1, m2, m3, sf_bd, k0, k1, true_and, Int.toNat_natCast, sf_upd_eq]
      · refine sf_RR.mk ?_ ?_ ?_ ?_ ?_ ?_ ?_
        · (have h := R.a; simp (decide := true) only [sf_upd_ne, sf_upd_ne2, sf_put_ne, sf_upd_eq, sf_getS_upd, sf_getS_put, sf_rg, sf_sh, sf_rf_inj, sf_rf_ne0, sf_0ne_rf, sf_rf_neY, sf_Yne_rf, sf_rf_self, sf_self_rf, sf_rf_self2, sf_self2_rf, not_false_eq_true, and_false, false_and, and_true, true_and, reduceCtorEq] at h ⊢; exact h)
        · (have h := R.b; simp (decide := true) only [sf_upd_ne, sf_upd_ne2, sf_put_ne, sf_upd_eq, sf_getS_upd, sf_getS_put, sf_rg, sf_sh, sf_rf_inj, sf_rf_ne0, sf_0ne_rf, sf_rf_neY, sf_Yne_rf, sf_rf_self, sf_self_rf, sf_rf_self2, sf_self2_rf, not_false_eq_true, and_false, false_and, and_true, true_and, reduceCtorEq] at h ⊢; exact h)
        · (have h := R.c; simp (decide := true) only [sf_upd_ne, sf_upd_ne2, sf_put_ne, sf_upd_eq, sf_getS_upd, sf_getS_put, sf_rg, sf_sh, sf_rf_inj, sf_rf_ne0, sf_0ne_rf, sf_rf_neY, sf_Yne_rf, sf_rf_self, sf_self_rf, sf_rf_self2, sf_self2_rf, not_false_eq_true, and_false, false_and, and_true, true_and, reduceCtorEq] at h ⊢; exact h)
        · (have h := R.d; simp (decide := true) only [sf_upd_ne, sf_upd_ne2, sf_put_ne, sf_upd_eq, sf_getS_upd, sf_getS_put, sf_rg, sf_sh, sf_rf_inj, sf_rf_ne0, sf_0ne_rf, sf_rf_neY, sf_Yne_rf, sf_rf_self, sf_self_rf, sf_rf_self2, sf_self2_rf, not_false_eq_true, and_false, false_and, and_true, true_and, reduceCtorEq] at h ⊢; exact h)
        · (have h := R.e; simp (decide := true) only [sf_upd_ne, sf_upd_ne2, sf_put_ne, sf_upd_eq, sf_getS_upd, sf_getS_put, sf_rg, sf_sh, sf_rf_inj, sf_rf_ne0, sf_0ne_rf, sf_rf_neY, sf_Yne_rf, sf_rf_self, sf_self_rf, sf_rf_self2, sf_self2_rf, not_false_eq_true, and_false, false_and, and_true, true_and, reduceCtorEq] at h ⊢; exact h)
        · have h := sf_GF_add hf hc hp1 hp2
          simp (decide := true) only [sf_upd_ru, sf_upd_ne, sf_upd_ne2, sf_put_ne, sf_upd_eq, sf_getS_upd, sf_getS_put, sf_rg, sf_sh, sf_rf_inj, sf_rf_ne0, sf_0ne_rf, sf_rf_neY, sf_Yne_rf, sf_rf_self, sf_self_rf, sf_rf_self2, sf_self2_rf, not_false_eq_true, and_false, false_and, and_true, true_and, reduceCtorEq] at h ⊢
          exact h
        · (have h := R.g; simp (decide := true) only [sf_upd_ne, sf_upd_ne2, sf_put_ne, sf_upd_eq, sf_getS_upd, sf_getS_put, sf_rg, sf_sh, sf_rf_inj, sf_rf_ne0, sf_0ne_rf, sf_rf_neY, sf_Yne_rf, sf_rf_self, sf_self_rf, sf_rf_self2, sf_self2_rf, not_false_eq_true, and_false, false_and, and_true, true_and, reduceCtorEq] at h ⊢; exact h)
    · refine ⟨-1000000004, V, V, n, nx, c, ce, cf, cg, ?_, ?_, R⟩
      · intro K
        simp only [q84_0, q84_1, s92, q84_4, Option.toList_some, Option.toList_none, List.cons_append, List.nil_append]
        rw [if_pos hp1, if_neg (by decide)]
        simp only [q84_7, q84_8, q84_9, s91, q84_12, sf_x, ha.xn, Option.toList_some, Option.toList_none, List.cons_append, List.nil_append]
        rw [if_pos hp2, if_neg (by decide)]
        simp only [q84_18, q84_19, q84_22, q84_25, q84_27, sf_x, c9, hf.x]
        rw [if_neg (by omega)]
        simp only [q84_30, q84_32, q84_44]
      · intro K
        simp only [q158_0, q158_1, s118, q158_4, Option.toList_some, Option.toList_none, List.cons_append, List.nil_append]
        rw [sf_inB_y (by omega), if_neg (by decide)]
        simp only [q158_7, q158_8, q158_9, sf_y, Option.toList_some, Option.toList_none, List.cons_append, List.nil_append]
        rw [s117 (by rw [ha.yn]; omega)]
        simp only [q158_12, ha.yn, Option.toList_some, Option.toList_none, List.cons_append, List.nil_append]
        rw [sf_inB_y (by omega), if_neg (by decide)]
        have := hf.c20
        simp only [q158_18, q158_19, q158_22, q158_24, sf_y, hf.y]
        rw [if_pos (by omega)]
        simp only [q158_27, q158_29]
  · refine ⟨-1000000001, V, V, n, nx, c, ce, cf, cg, ?_, ?_, R⟩
    · intro K
      simp only [q84_0, q84_1, s92, q84_4, Option.toList_some, Option.toList_none, List.cons_append, List.nil_append]
      by_cases h1 : 0 ≤ e ∧ e < 6
      · rw [if_pos h1, if_neg (by decide)]
        simp only [q84_7, q84_8, q84_9, s91, q84_12, sf_x, ha.xn, Option.toList_some, Option.toList_none, List.cons_append, List.nil_append]
        rw [if_neg (fun z => hp ⟨h1, z⟩), if_pos rfl]
        simp only [q84_15, q84_17]
      · rw [if_neg h1, if_pos rfl]
        simp only [q84_15, q84_17]
    · intro K
      simp only [q158_0, q158_1, s118, q158_4, Option.toList_some, Option.toList_none, List.cons_append, List.nil_append]
      by_cases h1 : 0 ≤ e ∧ e < 6
      · rw [sf_inB_y (by omega), if_neg (by decide)]
        simp only [q158_7, q158_8, q158_9, sf_y, Option.toList_some, Option.toList_none, List.cons_append, List.nil_append]
        rw [s117 (by rw [ha.yn]; omega)]
        simp only [q158_12, ha.yn, Option.toList_some, Option.toList_none, List.cons_append, List.nil_append]
        rw [sf_inB_n (fun z => hp ⟨h1, by omega⟩), if_pos rfl]
        simp only [q158_15, q158_17]
      · rw [sf_inB_n (by omega), if_pos rfl]
        simp only [q158_15, q158_17]
end SFP5

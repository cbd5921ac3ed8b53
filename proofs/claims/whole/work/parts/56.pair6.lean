/-! pairs of calls: note -/
theorem sf_ntLen : sf_len (sf_rf (sf_rf (sf_rf 0 8) 0) 0) = 12 ∧ sf_len (sf_rf (sf_rf (sf_rf 0 8) 1) 0) = 12 ∧ sf_len (sf_rf (sf_rf (sf_rf 0 8) 2) 0) = 12 ∧ sf_len (sf_rf (sf_rf (sf_rf 0 8) 3) 0) = 12 := by decide +kernel
section SFP6
variable {V : sf_MV} {n nx c ce cf cg : Nat} {K : Option sf_V → sf_M → Prop}
def sf_nt (V : sf_MV) (ce : Nat) (e p a b : Int) : sf_MV := sf_upd (sf_upd (sf_upd (sf_upd (sf_upd V (sf_rf (sf_rf (sf_rf 0 8) 0) 0) ce e) (sf_rf (sf_rf (sf_rf 0 8) 1) 0) ce p) (sf_rf (sf_rf (sf_rf 0 8) 2) 0) ce a) (sf_rf (sf_rf (sf_rf 0 8) 3) 0) ce b) (sf_rf 0 8) 4 ((ce + 1 : Nat) : Int)
theorem s10 {d : Nat} {e p a b : Int} (h : V (sf_rf 0 8) 4 = (ce : Int)) (hc : ce < 12) : sf_wp (d + 1) none 10 0 [some (.inr (.inl (some (sf_rf 0 8)))), some (.inl e), some (.inl p), some (.inl a), some (.inl b)] [] (sf_E V) K = K (some (.inl ((ce + 1 : Nat) : Int))) (sf_E (sf_nt V ce e p a b)) := by
  have c9 := sf_c11_8 sf_x
  have d0 := sf_c3_0 c9
  have d1 := sf_c3_1 c9
  have d2 := sf_c3_2 c9
  have d3 := sf_c3_3 c9
  obtain ⟨l1, l2, l3, l4⟩ := sf_ntLen
  have w0 : ∀ (W : sf_MV) v, sf_wr W (sf_rf (sf_rf (sf_rf 0 8) 0) 0) (ce : Int) v = sf_upd W (sf_rf (sf_rf (sf_rf 0 8) 0) 0) ce v := fun W v => sf_wr_nat (by omega)
  have w1 : ∀ (W : sf_MV) v, sf_wr W (sf_rf (sf_rf (sf_rf 0 8) 1) 0) (ce : Int) v = sf_upd W (sf_rf (sf_rf (sf_rf 0 8) 1) 0) ce v := fun W v => sf_wr_nat (by omega)
  have w2 : ∀ (W : sf_MV) v, sf_wr W (sf_rf (sf_rf (sf_rf 0 8) 2) 0) (ce : Int) v = sf_upd W (sf_rf (sf_rf (sf_rf 0 8) 2) 0) ce v := fun W v => sf_wr_nat (by omega)
  have w3 : ∀ (W : sf_MV) v, sf_wr W (sf_rf (sf_rf (sf_rf 0 8) 3) 0) (ce : Int) v = sf_upd W (sf_rf (sf_rf (sf_rf 0 8) 3) 0) ce v := fun W v => sf_wr_nat (by omega)
  have e1 : ∀ (W : sf_MV) k v, sf_upd W (sf_rf (sf_rf (sf_rf 0 8) k) 0) ce v (sf_rf 0 8) = W (sf_rf 0 8) := fun W k v => sf_upd_ne (by simp [sf_self2_rf])
  simp (decide := true) only [q10_0, q10_1, q10_4, q10_5, q10_8, q10_9, q10_12, q10_13, q10_16, q10_17, q10_20, q10_21, q10_24, q10_25, q10_28, q10_29, q10_32, q10_33, q10_36, q10_37, q10_40, q10_41, q10_44, q10_46, q10_49, q10_50, q10_51, q10_54, q10_55, q10_56, q10_59, q10_60, q10_63, c9, d0, d1, d2, d3, s32, w0, w1, w2, w3, e1, h, sf_upd_eq, Option.toList_some, Option.toList_none, List.cons_append, List.nil_append]
  rw [sf_wS (by omega)]
  rfl
theorem sf_GE_add {b0 b1 b2 b3 bo : Nat → Int} {x y e p a b : Int} (h : sf_GE n b0 b1 b2 b3 x y bo ce) (hc : ce < 12) (he : 0 ≤ e ∧ e < 6) (hp : 0 ≤ p ∧ p < n) (ha : 0 ≤ a ∧ a < n) (hb : 0 ≤ b ∧ b < n) : sf_GE n (sf_ru b0 ce e) (sf_ru b1 ce p) (sf_ru b2 ce a) (sf_ru b3 ce b) ((ce + 1 : Nat) : Int) ((ce + 1 : Nat) : Int) (sf_ru (sf_ru (sf_ru (sf_ru bo (4 * ce) e) (4 * ce + 1) p) (4 * ce + 2) a) (4 * ce + 3) b) (ce + 1) := by
  have g : ∀ j i, j ≠ ce → i < 4 → sf_ru (sf_ru (sf_ru (sf_ru bo (4 * ce) e) (4 * ce + 1) p) (4 * ce + 2) a) (4 * ce + 3) b (4 * j + i) = bo (4 * j + i) := fun j i hj hi => by
    rw [sf_ru_ne (by omega), sf_ru_ne (by omega), sf_ru_ne (by omega), sf_ru_ne (by omega)]
  have g0 : sf_ru (sf_ru (sf_ru (sf_ru bo (4 * ce) e) (4 * ce + 1) p) (4 * ce + 2) a) (4 * ce + 3) b (4 * ce) = e := by
    rw [sf_ru_ne (by omega), sf_ru_ne (by omega), sf_ru_ne (by omega), sf_ru_eq]
  have g1 : sf_ru (sf_ru (sf_ru (sf_ru bo (4 * ce) e) (4 * ce + 1) p) (4 * ce + 2) a) (4 * ce + 3) b (4 * ce + 1) = p := by
    rw [sf_ru_ne (by omega), sf_ru_ne (by omega), sf_ru_eq]
  have g2 : sf_ru (sf_ru (sf_ru (sf_ru bo (4 * ce) e) (4 * ce + 1) p) (4 * ce + 2) a) (4 * ce + 3) b (4 * ce + 2) = a := by
    rw [sf_ru_ne (by omega), sf_ru_eq]
  have g3 : sf_ru (sf_ru (sf_ru (sf_ru bo (4 * ce) e) (4 * ce + 1) p) (4 * ce + 2) a) (4 * ce + 3) b (4 * ce + 3) = b := sf_ru_eq
  refine sf_GE.mk (by omega) rfl rfl (fun j hj => ?_) (fun j hj => ?_)
  · by_cases q : j = ce
    · subst q
      rw [g0, g1, g2, g3, sf_ru_eq, sf_ru_eq, sf_ru_eq, sf_ru_eq]
      exact ⟨rfl, rfl, rfl, rfl⟩
    · rw [sf_ru_ne q, sf_ru_ne q, sf_ru_ne q, sf_ru_ne q, g j 1 q (by omega), g j 2 q (by omega), g j 3 q (by omega)]
      have this : sf_ru (sf_ru (sf_ru (sf_ru bo (4 * ce) e) (4 * ce + 1) p) (4 * ce + 2) a) (4 * ce + 3) b (4 * j) = bo (4 * j) := g j 0 q (by omega)
      rw [this]
      exact h.e j (by omega)
  · by_cases q : j = ce
    · subst q
      rw [g0, g1, g2, g3]
      exact ⟨he, hp, ha, hb⟩
    · rw [g j 1 q (by omega), g j 2 q (by omega), g j 3 q (by omega)]
      have this : sf_ru (sf_ru (sf_ru (sf_ru bo (4 * ce) e) (4 * ce + 1) p) (4 * ce + 2) a) (4 * ce + 3) b (4 * j) = bo (4 * j) := g j 0 q (by omega)
      rw [this]
      exact h.r j (by omega)
theorem p_note (R : sf_RR V n nx c ce cf cg) {e p a b : Int} : sf_P2 81 154 [some (.inl e), some (.inl p), some (.inl a), some (.inl b)] [some (.inl e), some (.inl p), some (.inl a), some (.inl b), none] V := by
  have c9 := sf_c11_8 sf_x
  have y11 := sf_c12_9 sf_y
  have ha := R.a
  have hf := R.e
  have hn5 := ha.n5
  by_cases hp : (0 ≤ e ∧ e < 6) ∧ (0 ≤ p ∧ p < n) ∧ (0 ≤ a ∧ a < n) ∧ (0 ≤ b ∧ b < n)
  · obtain ⟨hp1, hp2, hp3, hp4⟩ := hp
    by_cases hc : ce < 12
    · have k0 : 4 * ce < 48 := by omega
      have k1 : 4 * ce + 1 < 48 := by omega
      have k2 : 4 * ce + 2 < 48 := by omega
      have k3 : 4 * ce + 3 < 48 := by omega
      refine ⟨((ce + 1 : Nat) : Int), sf_nt V ce e p a b,
        sf_upd (sf_upd (sf_upd (sf_upd (sf_upd (sf_nt V ce e p a b) (sf_rf 409 9) (4 * ce) e) (sf_rf 409 9) (4 * ce + 1) p) (sf_rf 409 9) (4 * ce + 2) a) (sf_rf 409 9) (4 * ce + 3) b) 409 10 ((ce + 1 : Nat) : Int), n, nx, c, ce + 1, cf, cg, ?_, ?_, ?_⟩
      · intro K
        simp only [q81_0, q81_1, s92, q81_4, Option.toList_some, Option.toList_none, List.cons_append, List.nil_append]
        rw [if_pos hp1, if_neg (by decide)]
        simp only [q81_7, q81_8, q81_9, s91, q81_12, sf_x, ha.xn, Option.toList_some, Option.toList_none, List.cons_append, List.nil_append]
        rw [if_pos hp2, if_neg (by decide)]
        simp only [q81_15, q81_16, q81_17, s91, q81_20, sf_x, ha.xn, Option.toList_some, Option.toList_none, List.cons_append, List.nil_append]
        rw [if_pos hp3, if_neg (by decide)]
        simp only [q81_23, q81_24, q81_26, s91, q81_29, sf_x, ha.xn, Option.toList_some, Option.toList_none, List.cons_append, List.nil_append]
        rw [if_pos hp4, if_neg (by decide)]
        simp only [q81_35, q81_36, q81_39, q81_42, q81_44, sf_x, c9, hf.x]
        rw [if_pos (by omega)]
        simp only [q81_52, q81_53, q81_56, q81_57, q81_58, q81_59, q81_61, sf_x, c9]
        rw [s10 hf.x hc]
        simp only [q81_64, Option.toList_some, Option.toList_none, List.cons_append, List.nil_append]
      · intro K
        have w7 : sf_nt V ce e p a b 409 = V 409 := by
          unfold sf_nt
          simp (decide := true) only [sf_upd_ne, sf_upd_ne2, sf_put_ne, sf_upd_eq, sf_getS_upd, sf_getS_put, sf_rg, sf_sh, sf_rf_inj, sf_rf_ne0, sf_0ne_rf, sf_rf_neY, sf_Yne_rf, sf_rf_self, sf_self_rf, sf_rf_self2, sf_self2_rf, not_false_eq_true, and_false, false_and, and_true, true_and, reduceCtorEq]
        generalize hW : sf_nt V ce e p a b = W at w7 ⊢
        simp only [q154_0, q154_1, s118, q154_4, Option.toList_some, Option.toList_none, List.cons_append, List.nil_append]
        rw [sf_inB_y (by omega), if_neg (by decide)]
        have i7 : -1000 ≤ W 409 0 ∧ W 409 0 ≤ 1000 := by rw [w7, ha.yn]; omega
        simp only [q154_7, q154_8, q154_9, sf_y, Option.toList_some, Option.toList_none, List.cons_append, List.nil_append]
        rw [s117 i7]
        simp only [q154_12, w7, ha.yn, Option.toList_some, Option.toList_none, List.cons_append, List.nil_append]
        rw [sf_inB_y (by omega), if_neg (by decide)]
        simp only [q154_15, q154_16, q154_17, sf_y, Option.toList_some, Option.toList_none, List.cons_append, List.nil_append]
        rw [s117 i7]
        simp only [q154_20, w7, ha.yn, Option.toList_some, Option.toList_none, List.cons_append, List.nil_append]
        rw [sf_inB_y (by omega), if_neg (by decide)]
        simp only [q154_23, q154_24, q154_26, sf_y, Option.toList_some, Option.toList_none, List.cons_append, List.nil_append]
        rw [s117 i7]
        simp only [q154_29, w7, ha.yn, Option.toList_some, Option.toList_none, List.cons_append, List.nil_append]
        rw [sf_inB_y (by omega), if_neg (by decide)]
        simp only [q154_35, q154_36, q154_39, q154_41, sf_y, w7, hf.y]
        rw [if_neg (by omega)]
        have m1 : sf_w (4 * (ce : Int)) = ((4 * ce : Nat) : Int) := by rw [sf_w_small (by omega)]; omega
        have m2 : sf_w (((4 * ce : Nat) : Int) + 1) = ((4 * ce + 1 : Nat) : Int) := sf_wS (by omega)
        have m4 : sf_w (((4 * ce : Nat) : Int) + 2) = ((4 * ce + 2 : Nat) : Int) := by rw [sf_w_small (by omega)]; omega
        have m5 : sf_w (((4 * ce : Nat) : Int) + 3) = ((4 * ce + 3 : Nat) : Int) := by rw [sf_w_small (by omega)]; omega
        have m3 : sf_w ((ce : Int) + 1) = ((ce + 1 : Nat) : Int) := sf_wS (by omega)
        have u1 : ∀ (X : sf_MV) k v, sf_upd X (sf_rf 409 9) k v 409 = X 409 := fun X k v => sf_upd_ne (by simp [sf_Yne_rf])
        simp only [q154_47, q154_48, q154_49, q154_52, q154_53, q154_55, q154_56, q154_59, q154_61, q154_62, q154_63, q154_64, q154_67, q154_69, q154_70, q154_71, q154_72, q154_73, q154_74, q154_77, q154_79, q154_80, q154_81, q154_82, q154_83, q154_84, q154_87, q154_89, q154_90, q154_91, q154_93, q154_94, q154_95, q154_96, q154_99, q154_100, q154_101, q154_104, q154_105, q154_108, sf_y, y11, sf_y9, u1, w7, hf.y, m1, m2, m3, m4, m5, sf_bd, k0, k1, k2, k3, true_and, Int.toNat_natCast, sf_upd_eq]
      · unfold sf_nt
        refine sf_RR.mk ?_ ?_ ?_ ?_ ?_ ?_ ?_
        · (have h := R.a; simp (decide := true) only [sf_upd_ne, sf_upd_ne2, sf_put_ne, sf_upd_eq, sf_getS_upd, sf_getS_put, sf_rg, sf_sh, sf_rf_inj, sf_rf_ne0, sf_0ne_rf, sf_rf_neY, sf_Yne_rf, sf_rf_self, sf_self_rf, sf_rf_self2, sf_self2_rf, not_false_eq_true, and_false, false_and, and_true, true_and, reduceCtorEq] at h ⊢; exact h)
        · (have h := R.b; simp (decide := true) only [sf_upd_ne, sf_upd_ne2, sf_put_ne, sf_upd_eq, sf_getS_upd, sf_getS_put, sf_rg, sf_sh, sf_rf_inj, sf_rf_ne0, sf_0ne_rf, sf_rf_neY, sf_Yne_rf, sf_rf_self, sf_self_rf, sf_rf_self2, sf_self2_rf, not_false_eq_true, and_false, false_and, and_true, true_and, reduceCtorEq] at h ⊢; exact h)
        · (have h := R.c; simp (decide := true) only [sf_upd_ne, sf_upd_ne2, sf_put_ne, sf_upd_eq, sf_getS_upd, sf_getS_put, sf_rg, sf_sh, sf_rf_inj, sf_rf_ne0, sf_0ne_rf, sf_rf_neY, sf_Yne_rf, sf_rf_self, sf_self_rf, sf_rf_self2, sf_self2_rf, not_false_eq_true, and_false, false_and, and_true, true_and, reduceCtorEq] at h ⊢; exact h)
        · (have h := R.d; simp (decide := true) only [sf_upd_ne, sf_upd_ne2, sf_put_ne, sf_upd_eq, sf_getS_upd, sf_getS_put, sf_rg, sf_sh, sf_rf_inj, sf_rf_ne0, sf_0ne_rf, sf_rf_neY, sf_Yne_rf, sf_rf_self, sf_self_rf, sf_rf_self2, sf_self2_rf, not_false_eq_true, and_false, false_and, and_true, true_and, reduceCtorEq] at h ⊢; exact h)
        · have h := sf_GE_add hf hc hp1 hp2 hp3 hp4
          simp (decide := true) only [sf_upd_ru, sf_upd_ne, sf_upd_ne2, sf_put_ne, sf_upd_eq, sf_getS_upd, sf_getS_put, sf_rg, sf_sh, sf_rf_inj, sf_rf_ne0, sf_0ne_rf, sf_rf_neY, sf_Yne_rf, sf_rf_self, sf_self_rf, sf_rf_self2, sf_self2_rf, not_false_eq_true, and_false, false_and, and_true, true_and, reduceCtorEq] at h ⊢
          exact h
        · (have h := R.f; simp (decide := true) only [sf_upd_ne, sf_upd_ne2, sf_put_ne, sf_upd_eq, sf_getS_upd, sf_getS_put, sf_rg, sf_sh, sf_rf_inj, sf_rf_ne0, sf_0ne_rf, sf_rf_neY, sf_Yne_rf, sf_rf_self, sf_self_rf, sf_rf_self2, sf_self2_rf, not_false_eq_true, and_false, false_and, and_true, true_and, reduceCtorEq] at h ⊢; exact h)
        · (have h := R.g; simp (decide := true) only [sf_upd_ne, sf_upd_ne2, sf_put_ne, sf_upd_eq, sf_getS_upd, sf_getS_put, sf_rg, sf_sh, sf_rf_inj, sf_rf_ne0, sf_0ne_rf, sf_rf_neY, sf_Yne_rf, sf_rf_self, sf_self_rf, sf_rf_self2, sf_self2_rf, not_false_eq_true, and_false, false_and, and_true, true_and, reduceCtorEq] at h ⊢; exact h)
    · refine ⟨-1000000004, V, V, n, nx, c, ce, cf, cg, ?_, ?_, R⟩
      · intro K
        simp only [q81_0, q81_1, s92, q81_4, Option.toList_some, Option.toList_none, List.cons_append, List.nil_append]
        rw [if_pos hp1, if_neg (by decide)]
        simp only [q81_7, q81_8, q81_9, s91, q81_12, sf_x, ha.xn, Option.toList_some, Option.toList_none, List.cons_append, List.nil_append]
        rw [if_pos hp2, if_neg (by decide)]
        simp only [q81_15, q81_16, q81_17, s91, q81_20, sf_x, ha.xn, Option.toList_some, Option.toList_none, List.cons_append, List.nil_append]
        rw [if_pos hp3, if_neg (by decide)]
        simp only [q81_23, q81_24, q81_26, s91, q81_29, sf_x, ha.xn, Option.toList_some, Option.toList_none, List.cons_append, List.nil_append]
        rw [if_pos hp4, if_neg (by decide)]
        simp only [q81_35, q81_36, q81_39, q81_42, q81_44, sf_x, c9, hf.x]
        rw [if_neg (by omega)]
        simp only [q81_47, q81_49, q81_64]
      · intro K
        have i7 : -1000 ≤ V 409 0 ∧ V 409 0 ≤ 1000 := by rw [ha.yn]; omega
        simp only [q154_0, q154_1, s118, q154_4, Option.toList_some, Option.toList_none, List.cons_append, List.nil_append]
        rw [sf_inB_y (by omega), if_neg (by decide)]
        simp only [q154_7, q154_8, q154_9, sf_y, Option.toList_some, Option.toList_none, List.cons_append, List.nil_append]
        rw [s117 i7]
        simp only [q154_12, ha.yn, Option.toList_some, Option.toList_none, List.cons_append, List.nil_append]
        rw [sf_inB_y (by omega), if_neg (by decide)]
        simp only [q154_15, q154_16, q154_17, sf_y, Option.toList_some, Option.toList_none, List.cons_append, List.nil_append]
        rw [s117 i7]
        simp only [q154_20, ha.yn, Option.toList_some, Option.toList_none, List.cons_append, List.nil_append]
        rw [sf_inB_y (by omega), if_neg (by decide)]
        simp only [q154_23, q154_24, q154_26, sf_y, Option.toList_some, Option.toList_none, List.cons_append, List.nil_append]
        rw [s117 i7]
        simp only [q154_29, ha.yn, Option.toList_some, Option.toList_none, List.cons_append, List.nil_append]
        rw [sf_inB_y (by omega), if_neg (by decide)]
        have := hf.c12
        simp only [q154_35, q154_36, q154_39, q154_41, sf_y, hf.y]
        rw [if_pos (by omega)]
        simp only [q154_44, q154_46]
  · refine ⟨-1000000001, V, V, n, nx, c, ce, cf, cg, ?_, ?_, R⟩
    · intro K
      simp only [q81_0, q81_1, s92, q81_4, Option.toList_some, Option.toList_none, List.cons_append, List.nil_append]
      by_cases h1 : 0 ≤ e ∧ e < 6
      · rw [if_pos h1, if_neg (by decide)]
        simp only [q81_7, q81_8, q81_9, s91, q81_12, sf_x, ha.xn, Option.toList_some, Option.toList_none, List.cons_append, List.nil_append]
        by_cases h2 : 0 ≤ p ∧ p < n
        · rw [if_pos h2, if_neg (by decide)]
          simp only [q81_15, q81_16, q81_17, s91, q81_20, sf_x, ha.xn, Option.toList_some, Option.toList_none, List.cons_append, List.nil_append]
          by_cases h3 : 0 ≤ a ∧ a < n
          · rw [if_pos h3, if_neg (by decide)]
            simp only [q81_23, q81_24, q81_26, s91, q81_29, sf_x, ha.xn, Option.toList_some, Option.toList_none, List.cons_append, List.nil_append]
            rw [if_neg (fun z => hp ⟨h1, h2, h3, z⟩), if_pos rfl]
            simp only [q81_32, q81_34]
          · rw [if_neg h3, if_pos rfl]
            simp only [q81_32, q81_34]
        · rw [if_neg h2, if_pos rfl]
          simp only [q81_32, q81_34]
      · rw [if_neg h1, if_pos rfl]
        simp only [q81_32, q81_34]
    · intro K
      have i7 : -1000 ≤ V 409 0 ∧ V 409 0 ≤ 1000 := by rw [ha.yn]; omega
      simp only [q154_0, q154_1, s118, q154_4, Option.toList_some, Option.toList_none, List.cons_append, List.nil_append]
      by_cases h1 : 0 ≤ e ∧ e < 6
      · rw [sf_inB_y (by omega), if_neg (by decide)]
        simp only [q154_7, q154_8, q154_9, sf_y, Option.toList_some, Option.toList_none, List.cons_append, List.nil_append]
        rw [s117 i7]
        simp only [q154_12, ha.yn, Option.toList_some, Option.toList_none, List.cons_append, List.nil_append]
        by_cases h2 : 0 ≤ p ∧ p < n
        · rw [sf_inB_y (by omega), if_neg (by decide)]
          simp only [q154_15, q154_16, q154_17, sf_y, Option.toList_some, Option.toList_none, List.cons_append, List.nil_append]
          rw [s117 i7]
          simp only [q154_20, ha.yn, Option.toList_some, Option.toList_none, List.cons_append, List.nil_append]
          by_cases h3 : 0 ≤ a ∧ a < n
          · rw [sf_inB_y (by omega), if_neg (by decide)]
            simp only [q154_23, q154_24, q154_26, sf_y, Option.toList_some, Option.toList_none, List.cons_append, List.nil_append]
            rw [s117 i7]
            simp only [q154_29, ha.yn, Option.toList_some, Option.toList_none, List.cons_append, List.nil_append]
            rw [sf_inB_n (fun z => hp ⟨h1, h2, h3, by omega⟩), if_pos rfl]
            simp only [q154_32, q154_34]
          · rw [sf_inB_n (by omega), if_pos rfl]
            simp only [q154_32, q154_34]
        · rw [sf_inB_n (by omega), if_pos rfl]
          simp only [q154_32, q154_34]
      · rw [sf_inB_n (by omega), if_pos rfl]
        simp only [q154_32, q154_34]
end SFP6

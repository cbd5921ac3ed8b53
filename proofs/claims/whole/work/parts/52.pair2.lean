/-! pairs of calls: tear, stack, person, doing -/
theorem sf_inB_y {a b c : Int} (h : b ≤ a ∧ a ≤ c) : sf_inB a b c = 1 := if_pos h
theorem sf_inB_n {a b c : Int} (h : ¬ (b ≤ a ∧ a ≤ c)) : sf_inB a b c = 0 := if_neg h
section SFP2
variable {V : sf_MV} {n nx c ce cf cg : Nat}
theorem p_tear (R : sf_RR V n nx c ce cf cg) : sf_P2 86 160 [none] [none] V := by
  have c8 := sf_c11_8 sf_x
  have c9 := sf_c11_9 sf_x
  have he := R.e
  have hf := R.f
  have z1 : (sf_upd (sf_upd V (sf_rf 0 8) 4 0) (sf_rf 0 9) 2 0) 409 = V 409 := by
    rw [sf_upd_ne (by simp [sf_Yne_rf]), sf_upd_ne (by simp [sf_Yne_rf])]
  have z2 : ∀ (W : sf_MV), sf_upd W 409 10 0 409 12 = W 409 12 := fun W => sf_upd_ne2 (by decide)
  have z3 : sf_upd V (sf_rf 0 8) 4 0 (sf_rf 0 9) = V (sf_rf 0 9) := sf_upd_ne (by simp [sf_rf_inj])
  refine ⟨sf_w ((ce : Int) + cf), sf_upd (sf_upd V (sf_rf 0 8) 4 0) (sf_rf 0 9) 2 0, sf_upd (sf_upd (sf_upd (sf_upd V (sf_rf 0 8) 4 0) (sf_rf 0 9) 2 0) 409 10 0) 409 12 0, n, nx, c, 0, 0, cg, ?_, ?_, ?_⟩
  · intro K
    simp only [q86_0, q86_1, q86_4, q86_7, q86_8, q86_11, q86_14, q86_15, q86_16, q86_17, q86_20, q86_21, q86_24, q86_25, q86_28, q86_29, q86_32, q86_33, sf_x, c8, c9, he.x, hf.x]
  · intro K
    simp only [q160_0, q160_1, q160_4, q160_5, q160_8, q160_9, q160_10, q160_11, q160_12, q160_15, q160_16, q160_17, q160_20, q160_21, sf_y, z1, he.y, hf.y]
  · refine sf_RR.mk ?_ ?_ ?_ ?_ ?_ ?_ ?_
    · have h := R.a
      simp (decide := true) only [sf_upd_ne, sf_upd_ne2, sf_put_ne, sf_upd_eq, sf_getS_upd, sf_getS_put, sf_rg, sf_sh, sf_rf_inj, sf_rf_ne0, sf_0ne_rf, sf_rf_neY, sf_Yne_rf, sf_rf_self, sf_self_rf, sf_rf_self2, sf_self2_rf, not_false_eq_true, and_false, false_and, and_true, true_and, reduceCtorEq] at h ⊢
      exact h
    · have h := R.b
      simp (decide := true) only [sf_upd_ne, sf_upd_ne2, sf_put_ne, sf_upd_eq, sf_getS_upd, sf_getS_put, sf_rg, sf_sh, sf_rf_inj, sf_rf_ne0, sf_0ne_rf, sf_rf_neY, sf_Yne_rf, sf_rf_self, sf_self_rf, sf_rf_self2, sf_self2_rf, not_false_eq_true, and_false, false_and, and_true, true_and, reduceCtorEq] at h ⊢
      exact h
    · have h := R.c
      simp (decide := true) only [sf_upd_ne, sf_upd_ne2, sf_put_ne, sf_upd_eq, sf_getS_upd, sf_getS_put, sf_rg, sf_sh, sf_rf_inj, sf_rf_ne0, sf_0ne_rf, sf_rf_neY, sf_Yne_rf, sf_rf_self, sf_self_rf, sf_rf_self2, sf_self2_rf, not_false_eq_true, and_false, false_and, and_true, true_and, reduceCtorEq] at h ⊢
      exact h
    · have h := R.d
      simp (decide := true) only [sf_upd_ne, sf_upd_ne2, sf_put_ne, sf_upd_eq, sf_getS_upd, sf_getS_put, sf_rg, sf_sh, sf_rf_inj, sf_rf_ne0, sf_0ne_rf, sf_rf_neY, sf_Yne_rf, sf_rf_self, sf_self_rf, sf_rf_self2, sf_self2_rf, not_false_eq_true, and_false, false_and, and_true, true_and, reduceCtorEq] at h ⊢
      exact h
    · simp (decide := true) only [sf_upd_ne, sf_upd_ne2, sf_put_ne, sf_upd_eq, sf_getS_upd, sf_getS_put, sf_rg, sf_sh, sf_rf_inj, sf_rf_ne0, sf_0ne_rf, sf_rf_neY, sf_Yne_rf, sf_rf_self, sf_self_rf, sf_rf_self2, sf_self2_rf, not_false_eq_true, and_false, false_and, and_true, true_and, reduceCtorEq]
      exact sf_GE.mk (by omega) rfl rfl (fun j hj => absurd hj (by omega)) (fun j hj => absurd hj (by omega))
    · simp (decide := true) only [sf_upd_ne, sf_upd_ne2, sf_put_ne, sf_upd_eq, sf_getS_upd, sf_getS_put, sf_rg, sf_sh, sf_rf_inj, sf_rf_ne0, sf_0ne_rf, sf_rf_neY, sf_Yne_rf, sf_rf_self, sf_self_rf, sf_rf_self2, sf_self2_rf, not_false_eq_true, and_false, false_and, and_true, true_and, reduceCtorEq]
      exact sf_GF.mk (by omega) rfl rfl (fun j hj => absurd hj (by omega)) (fun j hj => absurd hj (by omega))
    · have h := R.g
      simp (decide := true) only [sf_upd_ne, sf_upd_ne2, sf_put_ne, sf_upd_eq, sf_getS_upd, sf_getS_put, sf_rg, sf_sh, sf_rf_inj, sf_rf_ne0, sf_0ne_rf, sf_rf_neY, sf_Yne_rf, sf_rf_self, sf_self_rf, sf_rf_self2, sf_self2_rf, not_false_eq_true, and_false, false_and, and_true, true_and, reduceCtorEq] at h ⊢
      exact h
theorem p_person (R : sf_RR V n nx c ce cf cg) {p w : Int} : sf_P2 64 120 [some (.inl p), some (.inl w)] [some (.inl p), some (.inl w)] V := by
  have c1 := sf_c11_1 sf_x
  have c2 := sf_c11_2 sf_x
  have d0 := sf_c9_0 c2
  have d1 := sf_c9_1 c2
  have d2 := sf_c2_1 c1
  have y2 := sf_c12_2 sf_y
  have y4 := sf_c12_4 sf_y
  obtain ⟨m1, m2, m3, m4⟩ := sf_homeLen c1
  have ha := R.a
  have hb := R.b
  have hn5 := ha.n5
  by_cases hp : 0 ≤ p ∧ p < n
  · obtain ⟨q, rfl⟩ : ∃ q : Nat, p = (q : Int) := ⟨p.toNat, by omega⟩
    have hq : q < n := by omega
    have k4 : q + 4 < 20 := by omega
    have k9 : q + 9 < 20 := by omega
    have k0 : q < 5 := by omega
    have r1 := sf_rdw (V := V) c2 (show q < 5 by omega)
    have r2 := sf_rdi (V := V) c2 (show q < 5 by omega)
    have r3 : sf_rd V (sf_rf (sf_rf (sf_rf 0 1) 1) 0) (q : Int) = V (sf_rf 409 2) q := by
      rw [sf_rd_nat (by omega)]
      exact ha.c q hq
    refine ⟨if w = 0 then V (sf_rf 409 4) (q + 4) else if w = 1 then V (sf_rf 409 2) q else if w = 2 then V (sf_rf 409 4) (q + 9) else -1000000002, V, V, n, nx, c, ce, cf, cg, ?_, ?_, R⟩
    · intro K
      simp only [q64_0, q64_1, q64_2, s91, q64_5, sf_x, ha.xn, Option.toList_some, Option.toList_none, List.cons_append, List.nil_append]
      rw [if_pos hp, if_neg (by decide)]
      simp only [q64_11, q64_12, q64_40, q64_41, q64_44, q64_47, q64_48, q64_51, q64_52, q64_53, q64_56, q64_59, q64_60, q64_63, q64_64, q64_65, q64_68, q64_71, q64_72, q64_75, q64_76, q64_78, sf_x, c1, c2, d0, d1, d2, s31, r1, r2, r3, hb.q.w q hq, hb.q.i q hq, Option.toList_some, Option.toList_none, List.cons_append, List.nil_append]
      split
      · rfl
      split
      · rfl
      split <;> rfl
    · intro K
      simp only [q120_0, q120_1, q120_2, sf_y, Option.toList_some, Option.toList_none, List.cons_append, List.nil_append]
      rw [s117 (by rw [ha.yn]; omega)]
      simp only [q120_5, ha.yn, Option.toList_some, Option.toList_none, List.cons_append, List.nil_append]
      rw [if_neg (by unfold sf_inB; rw [if_pos (by omega)]; decide)]
      simp only [q120_11, q120_12, q120_13, q120_14, q120_17, q120_20]
      by_cases w0 : w = 0
      · rw [sf_inB_y (by omega), if_neg (by decide), if_pos w0]
        simp only [q120_28, q120_29, q120_32, q120_33, q120_36, q120_37, q120_38, q120_39, q120_40, q120_66, sf_y, y4, sf_y4, sf_n4 (show q < 1000 by omega), sf_bd, k4, true_and, Int.toNat_natCast]
        rw [if_pos w0]
      by_cases w1 : w = 1
      · rw [sf_inB_y (by omega), if_neg (by decide), if_neg w0, if_pos w1]
        simp only [q120_28, q120_29, q120_43, q120_44, q120_45, q120_48, q120_49, q120_52, q120_53, q120_54, q120_66, sf_y, y2, sf_y2, sf_bd, k0, true_and, Int.toNat_natCast]
        rw [if_neg w0, if_pos w1]
      by_cases w2 : w = 2
      · rw [sf_inB_y (by omega), if_neg (by decide), if_neg w0, if_neg w1, if_pos w2]
        simp only [q120_28, q120_29, q120_43, q120_44, q120_45, q120_57, q120_58, q120_61, q120_63, q120_64, q120_65, q120_66, sf_y, y4, sf_y4, sf_n9 (show q < 1000 by omega), sf_bd, k9, true_and, Int.toNat_natCast]
        rw [if_neg w0, if_neg w1]
      · rw [sf_inB_n (by omega), if_pos rfl, if_neg w0, if_neg w1, if_neg w2]
        simp only [q120_23, q120_25, q120_66]
  · refine ⟨-1000000001, V, V, n, nx, c, ce, cf, cg, ?_, ?_, R⟩
    · intro K
      simp only [q64_0, q64_1, q64_2, s91, q64_5, sf_x, ha.xn, Option.toList_some, Option.toList_none, List.cons_append, List.nil_append]
      rw [if_neg hp, if_pos rfl]
      simp only [q64_8, q64_10]
    · intro K
      simp only [q120_0, q120_1, q120_2, sf_y, Option.toList_some, Option.toList_none, List.cons_append, List.nil_append]
      rw [s117 (by rw [ha.yn]; omega)]
      simp only [q120_5, ha.yn, Option.toList_some, Option.toList_none, List.cons_append, List.nil_append]
      rw [if_pos (by unfold sf_inB; rw [if_neg (by omega)])]
      simp only [q120_8, q120_10]
theorem p_doing (R : sf_RR V n nx c ce cf cg) {p w : Int} : sf_P2 65 121 [some (.inl p), some (.inl w)] [some (.inl p), some (.inl w)] V := by
  have c1 := sf_c11_1 sf_x
  have c2 := sf_c11_2 sf_x
  have d0 := sf_c9_2 c2
  have d2 := sf_c2_2 c1
  have y3 := sf_c12_3 sf_y
  have y4 := sf_c12_4 sf_y
  obtain ⟨m1, m2, m3, m4⟩ := sf_homeLen c1
  have ha := R.a
  have hb := R.b
  by_cases hp : 0 ≤ p ∧ p < 6
  · obtain ⟨q, rfl⟩ : ∃ q : Nat, p = (q : Int) := ⟨p.toNat, by omega⟩
    have hq : q < 6 := by omega
    have k4 : q + 14 < 20 := by omega
    have r1 := sf_rdr (V := V) c2 hq
    have r3 : sf_rd V (sf_rf (sf_rf (sf_rf 0 1) 2) 0) (q : Int) = V (sf_rf 409 3) q := by
      rw [sf_rd_nat (by omega)]
      exact ha.s q hq
    refine ⟨if w = 0 then V (sf_rf 409 3) q else if w = 1 then V (sf_rf 409 4) (q + 14) else -1000000002, V, V, n, nx, c, ce, cf, cg, ?_, ?_, R⟩
    · intro K
      simp only [q65_0, q65_1, s92, q65_4, Option.toList_some, Option.toList_none, List.cons_append, List.nil_append]
      rw [if_pos hp, if_neg (by decide)]
      simp only [q65_10, q65_11, q65_36, q65_37, q65_40, q65_43, q65_44, q65_47, q65_48, q65_49, q65_52, q65_55, q65_56, q65_59, q65_60, q65_62, sf_x, c1, c2, d0, d2, s31, r1, r3, hb.q.r q hq, Option.toList_some, Option.toList_none, List.cons_append, List.nil_append]
      split
      · rfl
      split <;> rfl
    · intro K
      simp only [q121_0, q121_1, s118, q121_4, Option.toList_some, Option.toList_none, List.cons_append, List.nil_append]
      rw [sf_inB_y (by omega), if_neg (by decide)]
      simp only [q121_10, q121_11, q121_12, q121_13, q121_14, q121_17]
      by_cases w0 : w = 0
      · rw [sf_inB_y (by omega), if_neg (by decide), if_pos w0]
        simp only [q121_25, q121_26, q121_29, q121_30, q121_33, q121_34, q121_35, q121_47, sf_y, y3, sf_y3, sf_bd, hq, true_and, Int.toNat_natCast]
        rw [if_pos w0]
      by_cases w1 : w = 1
      · rw [sf_inB_y (by omega), if_neg (by decide), if_neg w0, if_pos w1]
        simp only [q121_25, q121_26, q121_38, q121_39, q121_42, q121_44, q121_45, q121_46, q121_47, sf_y, y4, sf_y4, sf_n14 (show q < 1000 by omega), sf_bd, k4, true_and, Int.toNat_natCast]
        rw [if_neg w0]
      · rw [sf_inB_n (by omega), if_pos rfl, if_neg w0, if_neg w1]
        simp only [q121_20, q121_22, q121_47]
  · refine ⟨-1000000001, V, V, n, nx, c, ce, cf, cg, ?_, ?_, R⟩
    · intro K
      simp only [q65_0, q65_1, s92, q65_4, Option.toList_some, Option.toList_none, List.cons_append, List.nil_append]
      rw [if_neg hp, if_pos rfl]
      simp only [q65_7, q65_9]
    · intro K
      simp only [q121_0, q121_1, s118, q121_4, Option.toList_some, Option.toList_none, List.cons_append, List.nil_append]
      rw [sf_inB_n (by omega), if_pos rfl]
      simp only [q121_7, q121_9]
end SFP2

/-! pairs of calls: stack, law -/
section SFP4
variable {V : sf_MV} {n nx c ce cf cg : Nat}
theorem p_stack (R : sf_RR V n nx c ce cf cg) {v : Int} : sf_P2 69 132 [some (.inl v)] [some (.inl v)] V := by
  have c2 := sf_c11_2 sf_x
  have y4 := sf_c12_4 sf_y
  have hb := R.b
  have hl := hb.x.l
  have el : V (sf_rf 0 2) 4 = sf_getS V (sf_rf 0 2) 1 := rfl
  have er : V (sf_rf 409 4) 1 = sf_getS V (sf_rf 0 2) 1 := hb.q.l.symm
  by_cases h : 0 ≤ v ∧ v ≤ 999
  · generalize hz : (if sf_getS V (sf_rf 0 2) 1 + v < 9999 then sf_getS V (sf_rf 0 2) 1 + v else 9999) = z
    have hz0 : 0 ≤ z ∧ z ≤ 9999 := by rw [← hz]; split <;> omega
    refine ⟨z, sf_upd V (sf_rf 0 2) 4 z, sf_upd (sf_upd V (sf_rf 0 2) 4 z) (sf_rf 409 4) 1 z, n, nx, c, ce, cf, cg, ?_, ?_, ?_⟩
    · intro K
      simp only [q69_0, q69_1, q69_2, q69_5, s90, q69_8, Option.toList_some, Option.toList_none, List.cons_append, List.nil_append]
      rw [if_pos h, if_neg (by decide)]
      simp only [q69_14, q69_15, q69_18, q69_21, q69_22, q69_25, q69_28, q69_29, q69_30, q69_33, q69_36, q69_37, q69_40, q69_43, sf_x, c2, el, sf_upd_eq]
      rw [sf_w_small (by omega), hz]
    · intro K
      have e1 : sf_upd V (sf_rf 0 2) 4 z (sf_rf 409 4) = V (sf_rf 409 4) := sf_upd_ne (by simp [sf_rf_inj])
      simp only [q132_0, q132_1, q132_2, q132_3, q132_6, q132_9, Option.toList_some, Option.toList_none, List.cons_append, List.nil_append]
      rw [sf_inB_y h, if_neg (by decide)]
      simp (decide := true) only [q132_15, q132_16, q132_19, q132_20, q132_23, q132_24, q132_27, q132_28, q132_29, q132_30, q132_31, s101, Option.toList_some, Option.toList_none, List.cons_append, List.nil_append, sf_y, y4, sf_y4, true_and, Int.reduceToNat, e1, er]
      rw [sf_w_small (by omega)]
      have hz' : (if 9999 < sf_getS V (sf_rf 0 2) 1 + v then 9999 else sf_getS V (sf_rf 0 2) 1 + v) = z := by
        rw [← hz]; split <;> split <;> omega
      rw [hz']
      simp (decide := true) only [q132_34, q132_35, q132_36, q132_39, q132_40, q132_41, Option.toList_some, Option.toList_none, List.cons_append, List.nil_append, sf_y, y4, sf_y4, true_and, Int.reduceToNat, sf_upd_eq]
    · refine sf_RR.mk ?_ ?_ ?_ ?_ ?_ ?_ ?_
      · have h := R.a
        simp (decide := true) only [sf_upd_ne, sf_upd_ne2, sf_put_ne, sf_upd_eq, sf_getS_upd, sf_getS_put, sf_rg, sf_sh, sf_rf_inj, sf_rf_ne0, sf_0ne_rf, sf_rf_neY, sf_Yne_rf, sf_rf_self, sf_self_rf, sf_rf_self2, sf_self2_rf, not_false_eq_true, and_false, false_and, and_true, true_and, reduceCtorEq] at h ⊢
        exact h
      · simp (decide := true) only [sf_upd_ne, sf_upd_ne2, sf_put_ne, sf_upd_eq, sf_getS_upd, sf_getS_put, sf_rg, sf_sh, sf_rf_inj, sf_rf_ne0, sf_0ne_rf, sf_rf_neY, sf_Yne_rf, sf_rf_self, sf_self_rf, sf_rf_self2, sf_self2_rf, not_false_eq_true, and_false, false_and, and_true, true_and, reduceCtorEq]
        rw [sf_getS_ul, sf_upd_ru, sf_upd_ne (by simp [sf_rf_inj])]
        exact sf_GB.mk (sf_req_l hb.q) (sf_rok_l hb.x hz0) (sf_rok_l hb.y hz0) (by rw [sf_ru_ne (by decide)]; exact hb.s) (by rw [sf_ru_ne (by decide)]; exact hb.s0)
      · have h := R.c
        simp (decide := true) only [sf_upd_ne, sf_upd_ne2, sf_put_ne, sf_upd_eq, sf_getS_upd, sf_getS_put, sf_rg, sf_sh, sf_rf_inj, sf_rf_ne0, sf_0ne_rf, sf_rf_neY, sf_Yne_rf, sf_rf_self, sf_self_rf, sf_rf_self2, sf_self2_rf, not_false_eq_true, and_false, false_and, and_true, true_and, reduceCtorEq] at h ⊢
        exact h
      · have h := R.d
        simp (decide := true) only [sf_upd_ne, sf_upd_ne2, sf_put_ne, sf_upd_eq, sf_getS_upd, sf_getS_put, sf_rg, sf_sh, sf_rf_inj, sf_rf_ne0, sf_0ne_rf, sf_rf_neY, sf_Yne_rf, sf_rf_self, sf_self_rf, sf_rf_self2, sf_self2_rf, not_false_eq_true, and_false, false_and, and_true, true_and, reduceCtorEq] at h ⊢
        exact h
      · have h := R.e
        simp (decide := true) only [sf_upd_ne, sf_upd_ne2, sf_put_ne, sf_upd_eq, sf_getS_upd, sf_getS_put, sf_rg, sf_sh, sf_rf_inj, sf_rf_ne0, sf_0ne_rf, sf_rf_neY, sf_Yne_rf, sf_rf_self, sf_self_rf, sf_rf_self2, sf_self2_rf, not_false_eq_true, and_false, false_and, and_true, true_and, reduceCtorEq] at h ⊢
        exact h
      · have h := R.f
        simp (decide := true) only [sf_upd_ne, sf_upd_ne2, sf_put_ne, sf_upd_eq, sf_getS_upd, sf_getS_put, sf_rg, sf_sh, sf_rf_inj, sf_rf_ne0, sf_0ne_rf, sf_rf_neY, sf_Yne_rf, sf_rf_self, sf_self_rf, sf_rf_self2, sf_self2_rf, not_false_eq_true, and_false, false_and, and_true, true_and, reduceCtorEq] at h ⊢
        exact h
      · have h := R.g
        simp (decide := true) only [sf_upd_ne, sf_upd_ne2, sf_put_ne, sf_upd_eq, sf_getS_upd, sf_getS_put, sf_rg, sf_sh, sf_rf_inj, sf_rf_ne0, sf_0ne_rf, sf_rf_neY, sf_Yne_rf, sf_rf_self, sf_self_rf, sf_rf_self2, sf_self2_rf, not_false_eq_true, and_false, false_and, and_true, true_and, reduceCtorEq] at h ⊢
        exact h
  · refine ⟨-1000000002, V, V, n, nx, c, ce, cf, cg, ?_, ?_, R⟩
    · intro K
      simp only [q69_0, q69_1, q69_2, q69_5, s90, q69_8, Option.toList_some, Option.toList_none, List.cons_append, List.nil_append]
      rw [if_neg h, if_pos rfl]
      simp only [q69_11, q69_13]
    · intro K
      simp only [q132_0, q132_1, q132_2, q132_3, q132_6, q132_9, Option.toList_some, Option.toList_none, List.cons_append, List.nil_append]
      rw [sf_inB_n h, if_pos rfl]
      simp only [q132_12, q132_14]
theorem p_law (R : sf_RR V n nx c ce cf cg) {p v : Int} : sf_P2 70 133 [some (.inl p), some (.inl v), none] [some (.inl p), some (.inl v), none] V := by
  have c2 := sf_c11_2 sf_x
  have d2 := sf_c9_2 c2
  have y4 := sf_c12_4 sf_y
  have hb := R.b
  have hn5 := R.a.n5
  obtain ⟨l1, l2, l3⟩ := sf_stoveLen c2
  by_cases hp : 0 ≤ p ∧ p < 6
  · obtain ⟨q, rfl⟩ : ∃ q : Nat, p = (q : Int) := ⟨p.toNat, by omega⟩
    have hq : q < 6 := by omega
    have k4 : q + 14 < 20 := by omega
    have r1 := sf_rdr (V := V) c2 hq
    by_cases h : 0 ≤ v ∧ v ≤ 6
    · have w1 : sf_wr V (sf_rf (sf_rf (sf_rf 0 2) 2) 0) (q : Int) v = sf_upd V (sf_rf (sf_rf (sf_rf 0 2) 2) 0) q v := by
        unfold sf_wr
        rw [if_pos (by omega), Int.toNat_natCast]
      refine ⟨sf_getS V (sf_rf 0 2) (q + 14), sf_upd V (sf_rf (sf_rf (sf_rf 0 2) 2) 0) q v, sf_upd (sf_upd V (sf_rf (sf_rf (sf_rf 0 2) 2) 0) q v) (sf_rf 409 4) (q + 14) v, n, nx, c, ce, cf, cg, ?_, ?_, ?_⟩
      · intro K
        simp only [q70_0, q70_1, s92, q70_4, Option.toList_some, Option.toList_none, List.cons_append, List.nil_append]
        rw [if_pos hp, if_neg (by decide)]
        simp only [q70_7, q70_8, q70_9, q70_11, s90, q70_14, Option.toList_some, Option.toList_none, List.cons_append, List.nil_append]
        rw [if_pos h, if_neg (by decide)]
        simp only [q70_20, q70_21, q70_24, q70_27, q70_28, q70_31, q70_32, q70_33, q70_36, q70_39, q70_40, q70_41, q70_44, q70_45, sf_x, c2, d2, s31, s32, r1, w1, Option.toList_some, Option.toList_none, List.cons_append, List.nil_append]
      · intro K
        have e1 : sf_upd V (sf_rf (sf_rf (sf_rf 0 2) 2) 0) q v (sf_rf 409 4) = V (sf_rf 409 4) := sf_upd_ne (by simp [sf_rf_inj, sf_self_rf, sf_Yne_rf])
        have er : V (sf_rf 409 4) (q + 14) = sf_getS V (sf_rf 0 2) (q + 14) := (hb.q.r q hq).symm
        simp only [q133_0, q133_1, s118, q133_4, Option.toList_some, Option.toList_none, List.cons_append, List.nil_append]
        rw [sf_inB_y (by omega), if_neg (by decide)]
        simp only [q133_7, q133_8, q133_9, q133_10, q133_13, q133_16, Option.toList_some, Option.toList_none, List.cons_append, List.nil_append]
        rw [sf_inB_y h, if_neg (by decide)]
        simp only [q133_22, q133_23, q133_26, q133_28, q133_29, q133_30, q133_31, q133_32, q133_33, q133_36, q133_38, q133_39, q133_40, q133_41, q133_42, q133_43, Option.toList_some, Option.toList_none, List.cons_append, List.nil_append, sf_y, y4, sf_y4, sf_n14 (show q < 1000 by omega), sf_bd, k4, true_and, Int.toNat_natCast, e1, er]
      · refine sf_RR.mk ?_ ?_ ?_ ?_ ?_ ?_ ?_
        · have h := R.a
          simp (decide := true) only [sf_upd_ne, sf_upd_ne2, sf_put_ne, sf_upd_eq, sf_getS_upd, sf_getS_put, sf_rg, sf_sh, sf_rf_inj, sf_rf_ne0, sf_0ne_rf, sf_rf_neY, sf_Yne_rf, sf_rf_self, sf_self_rf, sf_rf_self2, sf_self2_rf, not_false_eq_true, and_false, false_and, and_true, true_and, reduceCtorEq] at h ⊢
          exact h
        · simp (decide := true) only [sf_upd_ne, sf_upd_ne2, sf_put_ne, sf_upd_eq, sf_getS_upd, sf_getS_put, sf_rg, sf_sh, sf_rf_inj, sf_rf_ne0, sf_0ne_rf, sf_rf_neY, sf_Yne_rf, sf_rf_self, sf_self_rf, sf_rf_self2, sf_self2_rf, not_false_eq_true, and_false, false_and, and_true, true_and, reduceCtorEq]
          rw [sf_getS_ur hq, sf_upd_ru, sf_upd_ne (by simp [sf_rf_inj, sf_self_rf, sf_Yne_rf])]
          exact sf_GB.mk (sf_req_k hb.q hn5) (sf_rok_k hb.x hn5 h) (sf_rok_k hb.y hn5 h) (by rw [sf_ru_ne (by omega)]; exact hb.s) (by rw [sf_ru_ne (by omega)]; exact hb.s0)
        · have h := R.c
          simp (decide := true) only [sf_upd_ne, sf_upd_ne2, sf_put_ne, sf_upd_eq, sf_getS_upd, sf_getS_put, sf_rg, sf_sh, sf_rf_inj, sf_rf_ne0, sf_0ne_rf, sf_rf_neY, sf_Yne_rf, sf_rf_self, sf_self_rf, sf_rf_self2, sf_self2_rf, not_false_eq_true, and_false, false_and, and_true, true_and, reduceCtorEq] at h ⊢
          exact h
        · have h := R.d
          simp (decide := true) only [sf_upd_ne, sf_upd_ne2, sf_put_ne, sf_upd_eq, sf_getS_upd, sf_getS_put, sf_rg, sf_sh, sf_rf_inj, sf_rf_ne0, sf_0ne_rf, sf_rf_neY, sf_Yne_rf, sf_rf_self, sf_self_rf, sf_rf_self2, sf_self2_rf, not_false_eq_true, and_false, false_and, and_true, true_and, reduceCtorEq] at h ⊢
          exact h
        · have h := R.e
          simp (decide := true) only [sf_upd_ne, sf_upd_ne2, sf_put_ne, sf_upd_eq, sf_getS_upd, sf_getS_put, sf_rg, sf_sh, sf_rf_inj, sf_rf_ne0, sf_0ne_rf, sf_rf_neY, sf_Yne_rf, sf_rf_self, sf_self_rf, sf_rf_self2, sf_self2_rf, not_false_eq_true, and_false, false_and, and_true, true_and, reduceCtorEq] at h ⊢
          exact h
        · have h := R.f
          simp (decide := true) only [sf_upd_ne, sf_upd_ne2, sf_put_ne, sf_upd_eq, sf_getS_upd, sf_getS_put, sf_rg, sf_sh, sf_rf_inj, sf_rf_ne0, sf_0ne_rf, sf_rf_neY, sf_Yne_rf, sf_rf_self, sf_self_rf, sf_rf_self2, sf_self2_rf, not_false_eq_true, and_false, false_and, and_true, true_and, reduceCtorEq] at h ⊢
          exact h
        · have h := R.g
          simp (decide := true) only [sf_upd_ne, sf_upd_ne2, sf_put_ne, sf_upd_eq, sf_getS_upd, sf_getS_put, sf_rg, sf_sh, sf_rf_inj, sf_rf_ne0, sf_0ne_rf, sf_rf_neY, sf_Yne_rf, sf_rf_self, sf_self_rf, sf_rf_self2, sf_self2_rf, not_false_eq_true, and_false, false_and, and_true, true_and, reduceCtorEq] at h ⊢
          exact h
    · refine ⟨-1000000001, V, V, n, nx, c, ce, cf, cg, ?_, ?_, R⟩
      · intro K
        simp only [q70_0, q70_1, s92, q70_4, Option.toList_some, Option.toList_none, List.cons_append, List.nil_append]
        rw [if_pos hp, if_neg (by decide)]
        simp only [q70_7, q70_8, q70_9, q70_11, s90, q70_14, Option.toList_some, Option.toList_none, List.cons_append, List.nil_append]
        rw [if_neg h, if_pos rfl]
        simp only [q70_17, q70_19]
      · intro K
        simp only [q133_0, q133_1, s118, q133_4, Option.toList_some, Option.toList_none, List.cons_append, List.nil_append]
        rw [sf_inB_y (by omega), if_neg (by decide)]
        simp only [q133_7, q133_8, q133_9, q133_10, q133_13, q133_16, Option.toList_some, Option.toList_none, List.cons_append, List.nil_append]
        rw [sf_inB_n h, if_pos rfl]
        simp only [q133_19, q133_21]
  · refine ⟨-1000000001, V, V, n, nx, c, ce, cf, cg, ?_, ?_, R⟩
    · intro K
      simp only [q70_0, q70_1, s92, q70_4, Option.toList_some, Option.toList_none, List.cons_append, List.nil_append]
      rw [if_neg hp, if_pos rfl]
      simp only [q70_17, q70_19]
    · intro K
      simp only [q133_0, q133_1, s118, q133_4, Option.toList_some, Option.toList_none, List.cons_append, List.nil_append]
      rw [sf_inB_n (by omega), if_pos rfl]
      simp only [q133_19, q133_21]
end SFP4

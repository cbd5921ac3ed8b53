/-! goBack -/
section SFP15
variable {V X Y : sf_MV} {n nx c ce cf cg a k m : Nat} {v : Int} {f : Nat → Int} {K : Option sf_V → sf_M → Prop}
theorem p_goBack (R : sf_RR V n nx c ce cf cg) {x : Int} : sf_P2 89 163 [some (.inl x)] [some (.inl x), none] V := by
  have x2 := sf_c11_2 sf_x
  have x4 := sf_c11_4 sf_x
  have x5 := sf_c11_5 sf_x
  have x6 := sf_c11_6 sf_x
  have x7 := sf_c11_7 sf_x
  have y8 := sf_c12_8 sf_y
  have hb := R.b
  have hd := R.d
  have hn5 := R.a.n5
  obtain ⟨z1, z2, z3⟩ := sf_shLen
  by_cases h1 : 0 ≤ x ∧ x ≤ 1
  · obtain ⟨q, rfl⟩ : ∃ m : Nat, x = (m : Int) := ⟨x.toNat, by omega⟩
    have hq : q < 2 := by omega
    have ht := hd.t q hq
    have r7 : sf_rd V (sf_rf (sf_rf 0 7) 0) (q : Int) = V (sf_rf 409 8) q := by
      rw [sf_rd_nat (by omega)]
      exact ht.1
    by_cases h2 : V (sf_rf 409 8) q = 1
    · have cq := sf_shCls hq
      have hne : ¬ sf_rf 0 2 = sf_sh q := by unfold sf_sh; simp [sf_rf_inj, sf_0ne_rf]
      have w0 := hd.q q hq h2
      have w1 := hd.x q hq h2
      have w2 := hd.y q hq h2
      have w3 := hd.s q hq h2
      generalize hW0 : sf_upd (sf_upd (sf_setS V (sf_rf 0 2) (sf_getS V (sf_sh q))) 0 13 (V (sf_rf (sf_rf 0 6) 0) q)) (sf_rf 0 4) 2 0 = W0
      generalize hW1 : sf_upd (sf_put W0 (sf_rf 409 4) 0 20 (fun j => V (sf_rf 409 7) (20 * q + j))) 409 6 0 = W1
      have n0 : ∀ a, ¬ a = sf_rf 0 2 → ¬ a = sf_rf (sf_rf (sf_rf 0 2) 0) 0 → ¬ a = sf_rf (sf_rf (sf_rf 0 2) 1) 0 → ¬ a = sf_rf (sf_rf (sf_rf 0 2) 2) 0 → ¬ a = sf_rf 0 4 → ¬ a = 0 → W0 a = V a := fun a a1 a2 a3 a4 a5 a6 => by
        rw [← hW0, sf_upd_ne a5, sf_upd_ne a6, sf_setS_ne3 a1 a2 a3 a4]
      have n1 : ∀ a, ¬ a = 409 → ¬ a = sf_rf 409 4 → W1 a = W0 a := fun a a1 a2 => by
        rw [← hW1, sf_upd_ne a1, sf_put_ne a2]
      have w07 : W0 409 = V 409 := by simp (decide := true) only [n0, sf_upd_ne, sf_upd_ne2, sf_put_ne, sf_upd_eq, sf_getS_upd, sf_getS_put, sf_rg, sf_sh, sf_rf_inj, sf_rf_ne0, sf_0ne_rf, sf_rf_neY, sf_Yne_rf, sf_rf_self, sf_self_rf, sf_rf_self2, sf_self2_rf, not_false_eq_true, and_false, false_and, and_true, true_and, reduceCtorEq]
      have e7 : ∀ k, ¬ k = 6 → W1 409 k = V 409 k := fun k hk => by
        rw [← hW1, sf_upd_ne2 hk, sf_put_ne (by simp [sf_Yne_rf]), w07]
      have w08 : W0 (sf_rf 409 8) = V (sf_rf 409 8) := by simp (decide := true) only [n0, sf_upd_ne, sf_upd_ne2, sf_put_ne, sf_upd_eq, sf_getS_upd, sf_getS_put, sf_rg, sf_sh, sf_rf_inj, sf_rf_ne0, sf_0ne_rf, sf_rf_neY, sf_Yne_rf, sf_rf_self, sf_self_rf, sf_rf_self2, sf_self2_rf, not_false_eq_true, and_false, false_and, and_true, true_and, reduceCtorEq]
      have w07' : W0 (sf_rf 409 7) = V (sf_rf 409 7) := by simp (decide := true) only [n0, sf_upd_ne, sf_upd_ne2, sf_put_ne, sf_upd_eq, sf_getS_upd, sf_getS_put, sf_rg, sf_sh, sf_rf_inj, sf_rf_ne0, sf_0ne_rf, sf_rf_neY, sf_Yne_rf, sf_rf_self, sf_self_rf, sf_rf_self2, sf_self2_rf, not_false_eq_true, and_false, false_and, and_true, true_and, reduceCtorEq]
      have e14 : W1 (sf_rf 0 4) = W0 (sf_rf 0 4) := n1 _ (by simp [sf_rf_neY]) (by simp [sf_rf_inj])
      have RW : sf_RR W1 n nx 0 ce cf cg := by
        refine sf_RR_back R (S := sf_getS V (sf_sh q)) (T := fun j => V (sf_rf 409 7) (20 * q + j)) (fun a a1 a2 a3 a4 a5 a6 a7 a8 => by rw [n1 a a7 a8, n0 a a1 a2 a3 a4 a5 a6]) e7 ?_ ?_ ?_ w3.2 w0 w1 w2 ?_ ?_ ?_ R.c.nx (by omega) (fun j hj => absurd hj (by omega))
        · intro k hk hk3
          have g : sf_getS W1 (sf_rf 0 2) = sf_getS W0 (sf_rf 0 2) := by
            refine sf_getS_congr ?_ ?_ ?_ ?_ <;> simp (decide := true) only [n1, sf_upd_ne, sf_upd_ne2, sf_put_ne, sf_upd_eq, sf_getS_upd, sf_getS_put, sf_rg, sf_sh, sf_rf_inj, sf_rf_ne0, sf_0ne_rf, sf_rf_neY, sf_Yne_rf, sf_rf_self, sf_self_rf, sf_rf_self2, sf_self2_rf, not_false_eq_true, and_false, false_and, and_true, true_and, reduceCtorEq]
          have g2 : sf_getS W0 (sf_rf 0 2) = sf_getS (sf_setS V (sf_rf 0 2) (sf_getS V (sf_sh q))) (sf_rf 0 2) := by
            rw [← hW0]
            simp (decide := true) only [sf_upd_ne, sf_upd_ne2, sf_put_ne, sf_upd_eq, sf_getS_upd, sf_getS_put, sf_rg, sf_sh, sf_rf_inj, sf_rf_ne0, sf_0ne_rf, sf_rf_neY, sf_Yne_rf, sf_rf_self, sf_self_rf, sf_rf_self2, sf_self2_rf, not_false_eq_true, and_false, false_and, and_true, true_and, reduceCtorEq]
          rw [g, g2]
          exact sf_getS_set hk hk3
        · intro k hk
          rw [← hW1, sf_upd_ne (by simp [sf_rf_neY])]
          exact sf_put_at hk
        · rw [n1 0 (by decide) (by simp [sf_0ne_rf]), ← hW0, sf_upd_ne (by simp [sf_0ne_rf]), sf_upd_eq]
          exact w3.1
        · rw [e14, ← hW0, sf_upd_ne2 (by decide), sf_upd_ne (by simp [sf_rf_ne0]), sf_setS_ne3 (by simp [sf_rf_inj]) (by simp [sf_rf_inj, sf_0ne_rf]) (by simp [sf_rf_inj, sf_0ne_rf]) (by simp [sf_rf_inj, sf_0ne_rf])]
          exact R.c.x
        · rw [e14, ← hW0, sf_upd_eq]
          rfl
        · rw [← hW1, sf_upd_eq]
          rfl
      refine ⟨1, W0, W1, n, nx, 0, ce, cf, cg, ?_, ?_, RW⟩
      · intro K
        have r6 : sf_rd (sf_setS V (sf_rf 0 2) (sf_getS V (sf_sh q))) (sf_rf (sf_rf 0 6) 0) (q : Int) = V (sf_rf (sf_rf 0 6) 0) q := by
          rw [sf_rd_nat (by omega), sf_setS_ne3 (by simp [sf_rf_inj, sf_rf_ne0]) (by simp [sf_rf_inj]) (by simp [sf_rf_inj]) (by simp [sf_rf_inj])]
        simp only [q89_0, q89_1, q89_2, q89_3, s90, q89_6, Option.toList_some, Option.toList_none, List.cons_append, List.nil_append]
        rw [if_pos h1, if_neg (by decide)]
        simp only [q89_12, q89_13, q89_16, q89_17, sf_x, x7, s31, r7, h2, Option.toList_some, Option.toList_none, List.cons_append, List.nil_append]
        rw [q89_20, if_neg (by decide)]
        simp only [q89_26, q89_27, q89_30, q89_31, q89_34, q89_35, sf_x, x2, x5]
        rw [s36 x5 (by omega)]
        have esh : sf_rf (sf_rf (sf_rf 0 5) 0) q = sf_sh q := rfl
        rw [esh]
        simp only [q89_38, x2, cq, Option.toList_some, Option.toList_none, List.cons_append, List.nil_append]
        rw [s39 x2 cq hne]
        simp only [q89_41, q89_42, q89_43, q89_46, q89_47, sf_x, x6, s31, r6, Option.toList_some, Option.toList_none, List.cons_append, List.nil_append]
        simp only [q89_50, q89_53, q89_54, q89_57, q89_58, q89_61, q89_62, sf_x, x4, hW0, Option.toList_some, Option.toList_none, List.cons_append, List.nil_append]
      · intro K
        simp only [q163_0, q163_1, q163_2, q163_3, q163_4, q163_7, Option.toList_some, Option.toList_none, List.cons_append, List.nil_append]
        rw [sf_inB_y h1, if_neg (by decide)]
        simp only [q163_13, q163_14, q163_17, q163_18, sf_y, y8, sf_y8, sf_bd, hq, true_and, Int.toNat_natCast, w08, h2]
        rw [q163_19, if_neg (by decide)]
        simp only [q163_25, q163_26]
        refine Eq.trans (s163_loop (K := K) hq 20 0 _ rfl (by omega)) ?_
        rw [w07']
        simp (decide := true) only [q163_56, q163_57, q163_58, q163_61, q163_62, sf_y, hW1]
    · have h3 : V (sf_rf 409 8) q = 0 := by
        rcases ht.2 with z | z
        · exact z
        · exact absurd z h2
      refine ⟨-1000000003, V, V, n, nx, c, ce, cf, cg, ?_, ?_, R⟩
      · intro K
        simp only [q89_0, q89_1, q89_2, q89_3, s90, q89_6, Option.toList_some, Option.toList_none, List.cons_append, List.nil_append]
        rw [if_pos h1, if_neg (by decide)]
        simp only [q89_12, q89_13, q89_16, q89_17, sf_x, x7, s31, r7, h3, Option.toList_some, Option.toList_none, List.cons_append, List.nil_append]
        rw [q89_20, if_pos rfl]
        simp only [q89_23, q89_25]
      · intro K
        simp only [q163_0, q163_1, q163_2, q163_3, q163_4, q163_7, Option.toList_some, Option.toList_none, List.cons_append, List.nil_append]
        rw [sf_inB_y h1, if_neg (by decide)]
        simp only [q163_13, q163_14, q163_17, q163_18, sf_y, y8, sf_y8, sf_bd, hq, true_and, Int.toNat_natCast, h3]
        rw [q163_19, if_pos rfl]
        simp only [q163_22, q163_24]
  · refine ⟨-1000000001, V, V, n, nx, c, ce, cf, cg, ?_, ?_, R⟩
    · intro K
      simp only [q89_0, q89_1, q89_2, q89_3, s90, q89_6, Option.toList_some, Option.toList_none, List.cons_append, List.nil_append]
      rw [if_neg h1, if_pos rfl]
      simp only [q89_9, q89_11]
    · intro K
      simp only [q163_0, q163_1, q163_2, q163_3, q163_4, q163_7, Option.toList_some, Option.toList_none, List.cons_append, List.nil_append]
      rw [sf_inB_n h1, if_pos rfl]
      simp only [q163_10, q163_12]
end SFP15

/-! told, feed -/
theorem sf_txLen : sf_len (sf_rf (sf_rf (sf_rf 0 0) 0) 0) = 200 := by decide +kernel
section SFP16
variable {V X Y : sf_MV} {n nx c ce cf cg a k m : Nat} {v : Int} {f : Nat → Int} {K : Option sf_V → sf_M → Prop}
theorem s48 {d : Nat} {b : Int} (h : V (sf_rf 0 0) 2 = (cg : Int)) (hc : cg < 200) : sf_wp (d + 1) none 48 0 [some (.inr (.inl (some (sf_rf 0 0)))), some (.inl b)] [] (sf_E V) K = K (some (.inl ((cg + 1 : Nat) : Int))) (sf_E (sf_upd (sf_upd V (sf_rf (sf_rf (sf_rf 0 0) 0) 0) cg b) (sf_rf 0 0) 2 ((cg + 1 : Nat) : Int))) := by
  have c9 := sf_c11_0 sf_x
  have d0 := sf_c10_0 c9
  have l1 := sf_txLen
  have w1 : sf_wr V (sf_rf (sf_rf (sf_rf 0 0) 0) 0) (cg : Int) b = sf_upd V (sf_rf (sf_rf (sf_rf 0 0) 0) 0) cg b := sf_wr_nat (by omega)
  have e1 : ∀ (W : sf_MV) v k, sf_upd W (sf_rf (sf_rf (sf_rf 0 0) 0) 0) k v (sf_rf 0 0) = W (sf_rf 0 0) := fun W v k => sf_upd_ne (by simp [sf_self2_rf])
  simp only [q48_0, q48_1, q48_4, q48_5, q48_8, q48_9, q48_12, q48_13, q48_14, q48_17, q48_18, q48_19, q48_22, q48_23, q48_26, c9, d0, s32, w1, e1, h, sf_upd_eq, Option.toList_some, Option.toList_none, List.cons_append, List.nil_append]
  rw [sf_wS (by omega)]
theorem p_feed (R : sf_RR V n nx c ce cf cg) {b : Int} : sf_P2 60 104 [some (.inl b)] [some (.inl b)] V := by
  have c9 := sf_c11_0 sf_x
  have y13 := sf_c12_13 sf_y
  have hg := R.g
  by_cases hp : 0 ≤ b ∧ b ≤ 255
  · by_cases hc : cg < 200
    · have u1 : ∀ (X : sf_MV) k v, sf_upd X (sf_rf 409 13) k v 409 = X 409 := fun X k v => sf_upd_ne (by simp [sf_Yne_rf])
      generalize hW : sf_upd (sf_upd V (sf_rf (sf_rf (sf_rf 0 0) 0) 0) cg b) (sf_rf 0 0) 2 ((cg + 1 : Nat) : Int) = W
      have w7 : W 409 = V 409 := by
        rw [← hW]
        simp (decide := true) only [sf_upd_ne, sf_upd_ne2, sf_put_ne, sf_upd_eq, sf_getS_upd, sf_getS_put, sf_rg, sf_sh, sf_rf_inj, sf_rf_ne0, sf_0ne_rf, sf_rf_neY, sf_Yne_rf, sf_rf_self, sf_self_rf, sf_rf_self2, sf_self2_rf, not_false_eq_true, and_false, false_and, and_true, true_and, reduceCtorEq]
      have w0 : W (sf_rf 0 0) 2 = ((cg + 1 : Nat) : Int) := by rw [← hW, sf_upd_eq]
      refine ⟨((cg + 1 : Nat) : Int), W, sf_upd (sf_upd W (sf_rf 409 13) cg b) 409 14 ((cg + 1 : Nat) : Int), n, nx, c, ce, cf, cg + 1, ?_, ?_, ?_⟩
      · intro K
        simp only [q60_0, q60_1, q60_2, q60_5, s90, q60_8, Option.toList_some, Option.toList_none, List.cons_append, List.nil_append]
        rw [if_pos hp, if_neg (by decide)]
        simp only [q60_14, q60_15, q60_18, q60_21, q60_24, sf_x, c9, hg.x]
        rw [if_pos (by omega)]
        simp only [q60_30, q60_31, q60_34, q60_35, sf_x, c9]
        rw [s48 hg.x hc, hW]
        simp only [q60_38, Option.toList_some, Option.toList_none, List.cons_append, List.nil_append]
      · intro K
        simp only [q104_0, q104_1, q104_2, q104_3, q104_6, q104_9, Option.toList_some, Option.toList_none, List.cons_append, List.nil_append]
        rw [sf_inB_y hp, if_neg (by decide)]
        simp only [q104_15, q104_16, q104_19, q104_22, sf_y, w7, hg.y]
        rw [if_neg (by omega)]
        simp only [q104_28, q104_29, q104_32, q104_33, q104_36, q104_37, q104_38, q104_39, q104_40, q104_43, q104_44, q104_45, q104_48, q104_49, q104_52, sf_y, y13, sf_y13, u1, w7, hg.y, sf_bd, hc, true_and, Int.toNat_natCast, sf_upd_eq]
        rw [sf_wS (by omega)]
      · rw [← hW]
        refine sf_RR.mk ?_ ?_ ?_ ?_ ?_ ?_ ?_
        · (have h := R.a; simp (decide := true) only [sf_upd_ne, sf_upd_ne2, sf_put_ne, sf_upd_eq, sf_getS_upd, sf_getS_put, sf_rg, sf_sh, sf_rf_inj, sf_rf_ne0, sf_0ne_rf, sf_rf_neY, sf_Yne_rf, sf_rf_self, sf_self_rf, sf_rf_self2, sf_self2_rf, not_false_eq_true, and_false, false_and, and_true, true_and, reduceCtorEq] at h ⊢; exact h)
        · (have h := R.b; simp (decide := true) only [sf_upd_ne, sf_upd_ne2, sf_put_ne, sf_upd_eq, sf_getS_upd, sf_getS_put, sf_rg, sf_sh, sf_rf_inj, sf_rf_ne0, sf_0ne_rf, sf_rf_neY, sf_Yne_rf, sf_rf_self, sf_self_rf, sf_rf_self2, sf_self2_rf, not_false_eq_true, and_false, false_and, and_true, true_and, reduceCtorEq] at h ⊢; exact h)
        · (have h := R.c; simp (decide := true) only [sf_upd_ne, sf_upd_ne2, sf_put_ne, sf_upd_eq, sf_getS_upd, sf_getS_put, sf_rg, sf_sh, sf_rf_inj, sf_rf_ne0, sf_0ne_rf, sf_rf_neY, sf_Yne_rf, sf_rf_self, sf_self_rf, sf_rf_self2, sf_self2_rf, not_false_eq_true, and_false, false_and, and_true, true_and, reduceCtorEq] at h ⊢; exact h)
        · (have h := R.d; simp (decide := true) only [sf_upd_ne, sf_upd_ne2, sf_put_ne, sf_upd_eq, sf_getS_upd, sf_getS_put, sf_rg, sf_sh, sf_rf_inj, sf_rf_ne0, sf_0ne_rf, sf_rf_neY, sf_Yne_rf, sf_rf_self, sf_self_rf, sf_rf_self2, sf_self2_rf, not_false_eq_true, and_false, false_and, and_true, true_and, reduceCtorEq] at h ⊢; exact h)
        · (have h := R.e; simp (decide := true) only [sf_upd_ne, sf_upd_ne2, sf_put_ne, sf_upd_eq, sf_getS_upd, sf_getS_put, sf_rg, sf_sh, sf_rf_inj, sf_rf_ne0, sf_0ne_rf, sf_rf_neY, sf_Yne_rf, sf_rf_self, sf_self_rf, sf_rf_self2, sf_self2_rf, not_false_eq_true, and_false, false_and, and_true, true_and, reduceCtorEq] at h ⊢; exact h)
        · (have h := R.f; simp (decide := true) only [sf_upd_ne, sf_upd_ne2, sf_put_ne, sf_upd_eq, sf_getS_upd, sf_getS_put, sf_rg, sf_sh, sf_rf_inj, sf_rf_ne0, sf_0ne_rf, sf_rf_neY, sf_Yne_rf, sf_rf_self, sf_self_rf, sf_rf_self2, sf_self2_rf, not_false_eq_true, and_false, false_and, and_true, true_and, reduceCtorEq] at h ⊢; exact h)
        · have h := hg
          simp (decide := true) only [sf_upd_ru, sf_upd_ne, sf_upd_ne2, sf_put_ne, sf_upd_eq, sf_getS_upd, sf_getS_put, sf_rg, sf_sh, sf_rf_inj, sf_rf_ne0, sf_0ne_rf, sf_rf_neY, sf_Yne_rf, sf_rf_self, sf_self_rf, sf_rf_self2, sf_self2_rf, not_false_eq_true, and_false, false_and, and_true, true_and, reduceCtorEq] at h ⊢
          refine sf_GG.mk (by omega) rfl rfl h.f ?_ h.w h.o
          · intro j hj
            by_cases q : j = cg
            · subst q
              rw [sf_ru_eq, sf_ru_eq]
              exact ⟨rfl, hp⟩
            · rw [sf_ru_ne q, sf_ru_ne q]
              exact h.e j (by omega)
    · refine ⟨-1000000004, V, V, n, nx, c, ce, cf, cg, ?_, ?_, R⟩
      · intro K
        simp only [q60_0, q60_1, q60_2, q60_5, s90, q60_8, Option.toList_some, Option.toList_none, List.cons_append, List.nil_append]
        rw [if_pos hp, if_neg (by decide)]
        simp only [q60_14, q60_15, q60_18, q60_21, q60_24, sf_x, c9, hg.x]
        rw [if_neg (by omega)]
        simp only [q60_27, q60_29]
      · intro K
        have := hg.c200
        simp only [q104_0, q104_1, q104_2, q104_3, q104_6, q104_9, Option.toList_some, Option.toList_none, List.cons_append, List.nil_append]
        rw [sf_inB_y hp, if_neg (by decide)]
        simp only [q104_15, q104_16, q104_19, q104_22, sf_y, hg.y]
        rw [if_pos (by omega)]
        simp only [q104_25, q104_27]
  · refine ⟨-1000000002, V, V, n, nx, c, ce, cf, cg, ?_, ?_, R⟩
    · intro K
      simp only [q60_0, q60_1, q60_2, q60_5, s90, q60_8, Option.toList_some, Option.toList_none, List.cons_append, List.nil_append]
      rw [if_neg hp, if_pos rfl]
      simp only [q60_11, q60_13]
    · intro K
      simp only [q104_0, q104_1, q104_2, q104_3, q104_6, q104_9, Option.toList_some, Option.toList_none, List.cons_append, List.nil_append]
      rw [sf_inB_n hp, if_pos rfl]
      simp only [q104_12, q104_14]
theorem s119_loop {d : Nat} {x : Int} (hn : V 409 0 = (n : Int)) (hn5 : n ≤ 5) : ∀ (m p : Nat), n - p = m → p ≤ n →
    sf_wp d none 119 19 [some (.inr (.inl (some 409))), some (.inl x), some (.inl (sf_frz (V (sf_rf 409 4)) p).toInt), some (.inl (p : Int)), none] [] (sf_E V) K = sf_wp d none 119 54 [some (.inr (.inl (some 409))), some (.inl x), some (.inl (sf_frz (V (sf_rf 409 4)) n).toInt), some (.inl (n : Int)), none] [] (sf_E V) K := by
  have y4 := sf_c12_4 sf_y
  intro m
  induction m with
  | zero =>
    intro p hm hp
    simp only [q119_19, q119_20, q119_21, q119_24, sf_y, hn]
    rw [if_pos (by omega), show p = n by omega]
  | succ m ih =>
    intro p hm hp
    have i1 := ih (p + 1) (by omega) (by omega)
    have k4 : p + 4 < 20 := by omega
    rw [sf_frz_s] at i1
    simp only [q119_19, q119_20, q119_21, q119_24, sf_y, hn]
    rw [if_neg (by omega)]
    by_cases hz : V (sf_rf 409 4) (p + 4) = 0
    · rw [if_pos hz] at i1
      simp only [q119_27, q119_28, q119_29, q119_32, q119_33, q119_34, q119_35, sf_y, y4, sf_y4, sf_n4 (show p < 1000 by omega), sf_bd, k4, true_and, Int.toNat_natCast, hz]
      rw [q119_36, if_pos rfl]
      simp only [q119_39, q119_40, q119_41, q119_42, q119_45, q119_46, q119_47, q119_48]
      rw [q119_51, sf_wS (by omega), sf_i32]
      rw [sf_i32]
      exact i1
    · rw [if_neg hz] at i1
      simp only [q119_27, q119_28, q119_29, q119_32, q119_33, q119_34, q119_35, sf_y, y4, sf_y4, sf_n4 (show p < 1000 by omega), sf_bd, k4, true_and, Int.toNat_natCast]
      rw [q119_36, if_neg hz]
      simp only [q119_45, q119_46, q119_47, q119_48]
      rw [q119_51, sf_wS (by omega), sf_i32]
      rw [show (sf_frz (V (sf_rf 409 4)) p ||| Int32.ofInt 0) = sf_frz (V (sf_rf 409 4)) p by simp]
      exact i1
theorem p_told (R : sf_RR V n nx c ce cf cg) {x : Int} : sf_P2 63 119 [some (.inl x)] [some (.inl x), none, none, none] V := by
  have x0 := sf_c11_0 sf_x
  have x1 := sf_c11_1 sf_x
  have x2 := sf_c11_2 sf_x
  have x4 := sf_c11_4 sf_x
  have x8 := sf_c11_8 sf_x
  have x9 := sf_c11_9 sf_x
  have y4 := sf_c12_4 sf_y
  have ha := R.a
  have hb := R.b
  have hn5 := ha.n5
  have hd : V (sf_rf 0 2) 3 = V (sf_rf 409 4) 0 := hb.q.d
  have hl : V (sf_rf 0 2) 4 = V (sf_rf 409 4) 1 := hb.q.l
  have hh : V (sf_rf 0 2) 5 = V (sf_rf 409 4) 2 := hb.q.h
  have hf : sf_frz (sf_getS V (sf_rf 0 2)) n = sf_frz (V (sf_rf 409 4)) n := sf_frz_congr n hb.q.w
  have lp : ∀ K : Option sf_V → sf_M → Prop, sf_wp 19 none 119 19 [some (.inr (.inl (some 409))), some (.inl x), some (.inl 0), some (.inl 0), none] [] (sf_E V) K = sf_wp 19 none 119 54 [some (.inr (.inl (some 409))), some (.inl x), some (.inl (sf_frz (V (sf_rf 409 4)) n).toInt), some (.inl (n : Int)), none] [] (sf_E V) K := fun K => s119_loop (K := K) (x := x) (d := 19) ha.yn hn5 n 0 (by omega) (by omega)
  by_cases hp : 0 ≤ x ∧ x ≤ 9
  · refine ⟨if x = 0 then n else if x = 1 then cg else if x = 2 then V (sf_rf 409 4) 2 else if x = 3 then V (sf_rf 409 4) 0 else if x = 4 then V (sf_rf 409 4) 1 else if x = 5 then V 409 1 else if x = 6 then (sf_frz (V (sf_rf 409 4)) n).toInt else if x = 7 then ce else if x = 8 then cf else c, V, V, n, nx, c, ce, cf, cg, ?_, ?_, R⟩
    · intro K
      have : x = 0 ∨ x = 1 ∨ x = 2 ∨ x = 3 ∨ x = 4 ∨ x = 5 ∨ x = 6 ∨ x = 7 ∨ x = 8 ∨ x = 9 := by omega
      rcases this with h | h | h | h | h | h | h | h | h | h <;> subst h <;>
        simp (decide := true) only [q63_0, q63_1, q63_56, q63_57, q63_60, q63_63, q63_64, q63_65, q63_68, q63_71, q63_72, q63_73, q63_76, q63_79, q63_80, q63_81, q63_84, q63_87, q63_88, q63_89, q63_92, q63_95, q63_96, q63_97, q63_100, q63_103, q63_104, q63_105, q63_108, q63_109, q63_112, q63_115, q63_118, q63_119, q63_120, q63_123, q63_126, q63_127, q63_128, q63_131, q63_134, q63_135, q63_136, q63_139, q63_142, q63_143, q63_145, sf_x, x0, x1, x2, x4, x8, x9, ha.xn, ha.g, hd, hl, hh, hf, R.g.x, R.e.x, R.f.x, R.c.c, s46 x2 hn5, if_true, if_false, ↓reduceIte, Int.reduceEq, Option.toList_some, Option.toList_none, List.cons_append, List.nil_append]
    · intro K
      simp only [q119_0, q119_1, q119_2, q119_3, q119_6, q119_9, Option.toList_some, Option.toList_none, List.cons_append, List.nil_append]
      rw [sf_inB_y hp, if_neg (by decide)]
      simp only [q119_15, q119_16, q119_17, q119_18]
      rw [lp]
      have : x = 0 ∨ x = 1 ∨ x = 2 ∨ x = 3 ∨ x = 4 ∨ x = 5 ∨ x = 6 ∨ x = 7 ∨ x = 8 ∨ x = 9 := by omega
      rcases this with h | h | h | h | h | h | h | h | h | h <;> subst h <;>
        simp (decide := true) only [q119_54, q119_55, q119_58, q119_59, q119_62, q119_65, q119_66, q119_67, q119_70, q119_71, q119_74, q119_77, q119_78, q119_79, q119_82, q119_83, q119_86, q119_87, q119_88, q119_91, q119_92, q119_93, q119_96, q119_97, q119_100, q119_101, q119_102, q119_105, q119_106, q119_109, q119_110, q119_111, q119_112, q119_113, q119_115, q119_118, q119_119, q119_122, q119_125, q119_126, q119_128, q119_131, q119_132, q119_135, q119_138, q119_139, q119_142, q119_144, q119_145, q119_146, q119_149, q119_150, q119_153, q119_154, q119_155, q119_158, q119_159, q119_162, q119_165, q119_166, q119_168, q119_171, q119_172, q119_175, q119_177, sf_y, y4, sf_y4, ha.yn, R.g.y, R.e.y, R.f.y, R.c.u, true_and, Int.reduceToNat, if_true, if_false, ↓reduceIte, Int.reduceEq, Int.reduceLE, Int.reduceLT]
  · refine ⟨-1000000002, V, V, n, nx, c, ce, cf, cg, ?_, ?_, R⟩
    · intro K
      simp only [q63_0, q63_1]
      rw [if_neg (by omega), if_neg (by omega), if_neg (by omega), if_neg (by omega), if_neg (by omega), if_neg (by omega), if_neg (by omega), if_neg (by omega), if_neg (by omega), if_neg (by omega)]
      simp only [q63_143, q63_145]
    · intro K
      simp only [q119_0, q119_1, q119_2, q119_3, q119_6, q119_9, Option.toList_some, Option.toList_none, List.cons_append, List.nil_append]
      rw [sf_inB_n hp, if_pos rfl]
      simp only [q119_12, q119_14]
end SFP16

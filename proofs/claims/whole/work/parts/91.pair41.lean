/-! house: the reference's end -/
section SFP41
variable {V X U : sf_MV} {n nx c ce cf cg : Nat} {t : Nat → Int} {L : Nat}
theorem s115a {l1 : Option sf_V} : ∀ (m p : Nat) (U : sf_MV), 5 - p = m → p ≤ 5 →
    ∃ U', (∀ a, ¬ a = sf_rf 409 2 → ¬ a = sf_rf 409 4 → U' a = U a) ∧ (∀ q, U' (sf_rf 409 2) q = if p ≤ q ∧ q < 5 then U (sf_rf 409 20) q else U (sf_rf 409 2) q) ∧ (∀ k, U' (sf_rf 409 4) k = if p + 4 ≤ k ∧ k < 9 then U (sf_rf 409 19) (k - 4) else if p + 9 ≤ k ∧ k < 14 then -1 else U (sf_rf 409 4) k) ∧
      ∀ Y K, sf_wp 19 none 115 134 [some (.inr (.inl (some 409))), l1, some (.inl (p : Int))] [] (sf_E (sf_mix Y U)) K = sf_wp 19 none 115 181 [some (.inr (.inl (some 409))), l1, some (.inl 5)] [] (sf_E (sf_mix Y U')) K := by
  have y2 := sf_c12_2 sf_y
  have y4 := sf_c12_4 sf_y
  have y19 := sf_c12_19 sf_y
  have y20 := sf_c12_20 sf_y
  intro m
  induction m with
  | zero =>
    intro p U hm hp
    refine ⟨U, fun _ _ _ => rfl, fun q => by rw [if_neg (by omega)], fun k => by rw [if_neg (by omega), if_neg (by omega)], fun Y K => ?_⟩
    simp only [q115_134, q115_135, q115_136]
    rw [if_pos (by omega), show (p : Int) = 5 by omega]
  | succ m ih =>
    intro p U hm hp
    have b : p < 5 := by omega
    have b4 : p + 4 < 20 := by omega
    have b9 : p + 9 < 20 := by omega
    obtain ⟨U', h1, h2, h3, h4⟩ := ih (p + 1) (sf_upd (sf_upd (sf_upd U (sf_rf 409 2) p (U (sf_rf 409 20) p)) (sf_rf 409 4) (p + 4) (U (sf_rf 409 19) p)) (sf_rf 409 4) (p + 9) (-1)) (by omega) (by omega)
    have e : ∀ r, ¬ r = 2 → ¬ r = 4 → sf_upd (sf_upd (sf_upd U (sf_rf 409 2) p (U (sf_rf 409 20) p)) (sf_rf 409 4) (p + 4) (U (sf_rf 409 19) p)) (sf_rf 409 4) (p + 9) (-1) (sf_rf 409 r) = U (sf_rf 409 r) := fun r r2 r4 => by
      rw [sf_upd_ne (by simp [sf_rf_inj, r4]), sf_upd_ne (by simp [sf_rf_inj, r4]), sf_upd_ne (by simp [sf_rf_inj, r2])]
    refine ⟨U', fun a a1 a2 => by rw [h1 a a1 a2, sf_upd_ne a2, sf_upd_ne a2, sf_upd_ne a1], fun q => ?_, fun k => ?_, fun Y K => ?_⟩
    · rw [h2, e 20 (by decide) (by decide), sf_upd_ne (by simp [sf_rf_inj]), sf_upd_ne (by simp [sf_rf_inj]), sf_upd_ru]
      by_cases q1 : q = p
      · rw [if_neg (by omega), if_pos (by omega), q1, sf_ru_eq]
      · rw [sf_ru_ne q1]
        by_cases q2 : p + 1 ≤ q ∧ q < 5
        · rw [if_pos q2, if_pos (by omega)]
        · rw [if_neg q2, if_neg (by omega)]
    · rw [h3, e 19 (by decide) (by decide), sf_upd_ru, sf_upd_ru, sf_upd_ne (by simp [sf_rf_inj])]
      by_cases k9 : k = p + 9
      · rw [if_neg (by omega), if_neg (by omega), if_neg (by omega), if_pos (by omega), k9, sf_ru_eq]
      · rw [sf_ru_ne k9]
        by_cases k4 : k = p + 4
        · rw [if_neg (by omega), if_neg (by omega), if_pos (by omega), k4, sf_ru_eq, Nat.add_sub_cancel]
        · rw [sf_ru_ne k4]
          (repeat' split) <;> first | rfl | omega
    · simp only [q115_134, q115_135, q115_136]
      rw [if_neg (by omega)]
      have n20 : sf_upd U (sf_rf 409 2) p (U (sf_rf 409 20) p) (sf_rf 409 19) = U (sf_rf 409 19) := sf_upd_ne (by simp [sf_rf_inj])
      simp only [q115_139, q115_140, q115_143, q115_144, q115_145, q115_148, q115_149, q115_150, q115_151, q115_152, q115_155, q115_156, q115_157, q115_158, q115_159, q115_162, q115_163, q115_164, q115_165, q115_166, q115_169, q115_171, q115_172, q115_173, q115_174, q115_175, sf_y, y2, y4, y19, y20, sf_y2, sf_y4, sf_y19, sf_y20, sf_mxr, sf_mxv, n20, sf_n4 (show p < 1000 by omega), sf_n9 (show p < 1000 by omega), sf_bd, b, b4, b9, true_and, Int.toNat_natCast]
      rw [q115_178, sf_wS (by omega)]
      exact h4 Y K
theorem s115b {l1 : Option sf_V} : ∀ (m p : Nat) (U : sf_MV), 6 - p = m → p ≤ 6 →
    ∃ U', (∀ a, ¬ a = sf_rf 409 3 → ¬ a = sf_rf 409 4 → U' a = U a) ∧ (∀ q, U' (sf_rf 409 3) q = if p ≤ q ∧ q < 6 then U (sf_rf 409 21) q else U (sf_rf 409 3) q) ∧ (∀ k, U' (sf_rf 409 4) k = if p + 14 ≤ k ∧ k < 20 then U (sf_rf 409 22) (k - 14) else U (sf_rf 409 4) k) ∧
      ∀ Y K, sf_wp 19 none 115 183 [some (.inr (.inl (some 409))), l1, some (.inl (p : Int))] [] (sf_E (sf_mix Y U)) K = sf_wp 19 none 115 222 [some (.inr (.inl (some 409))), l1, some (.inl 6)] [] (sf_E (sf_mix Y U')) K := by
  have y3 := sf_c12_3 sf_y
  have y4 := sf_c12_4 sf_y
  have y21 := sf_c12_21 sf_y
  have y22 := sf_c12_22 sf_y
  intro m
  induction m with
  | zero =>
    intro p U hm hp
    refine ⟨U, fun _ _ _ => rfl, fun q => by rw [if_neg (by omega)], fun k => by rw [if_neg (by omega)], fun Y K => ?_⟩
    simp only [q115_183, q115_184, q115_186]
    rw [if_pos (by omega), show (p : Int) = 6 by omega]
  | succ m ih =>
    intro p U hm hp
    have b : p < 6 := by omega
    have b4 : p + 14 < 20 := by omega
    obtain ⟨U', h1, h2, h3, h4⟩ := ih (p + 1) (sf_upd (sf_upd U (sf_rf 409 3) p (U (sf_rf 409 21) p)) (sf_rf 409 4) (p + 14) (U (sf_rf 409 22) p)) (by omega) (by omega)
    have e : ∀ r, ¬ r = 3 → ¬ r = 4 → sf_upd (sf_upd U (sf_rf 409 3) p (U (sf_rf 409 21) p)) (sf_rf 409 4) (p + 14) (U (sf_rf 409 22) p) (sf_rf 409 r) = U (sf_rf 409 r) := fun r r2 r4 => by
      rw [sf_upd_ne (by simp [sf_rf_inj, r4]), sf_upd_ne (by simp [sf_rf_inj, r2])]
    refine ⟨U', fun a a1 a2 => by rw [h1 a a1 a2, sf_upd_ne a2, sf_upd_ne a1], fun q => ?_, fun k => ?_, fun Y K => ?_⟩
    · rw [h2, e 21 (by decide) (by decide), sf_upd_ne (by simp [sf_rf_inj]), sf_upd_ru]
      by_cases q1 : q = p
      · rw [if_neg (by omega), if_pos (by omega), q1, sf_ru_eq]
      · rw [sf_ru_ne q1]
        by_cases q2 : p + 1 ≤ q ∧ q < 6
        · rw [if_pos q2, if_pos (by omega)]
        · rw [if_neg q2, if_neg (by omega)]
    · rw [h3, e 22 (by decide) (by decide), sf_upd_ru, sf_upd_ne (by simp [sf_rf_inj])]
      by_cases k9 : k = p + 14
      · rw [if_neg (by omega), if_pos (by omega), k9, sf_ru_eq, Nat.add_sub_cancel]
      · rw [sf_ru_ne k9]
        (repeat' split) <;> first | rfl | omega
    · simp only [q115_183, q115_184, q115_186]
      rw [if_neg (by omega)]
      have n20 : sf_upd U (sf_rf 409 3) p (U (sf_rf 409 21) p) (sf_rf 409 22) = U (sf_rf 409 22) := sf_upd_ne (by simp [sf_rf_inj])
      simp only [q115_189, q115_190, q115_193, q115_194, q115_195, q115_198, q115_199, q115_200, q115_201, q115_202, q115_205, q115_207, q115_208, q115_209, q115_210, q115_213, q115_214, q115_215, q115_216, sf_y, y3, y4, y21, y22, sf_y3, sf_y4, sf_y21, sf_y22, sf_mxr, sf_mxv, n20, sf_n14 (show p < 1000 by omega), sf_bd, b, b4, true_and, Int.toNat_natCast]
      rw [q115_219, sf_wS (by omega)]
      exact h4 Y K
/-- the reference's end of a house well told -/
theorem s115w {V' : sf_MV} {i : Nat} {told st : Int} (J : sf_J V' U t L i n told st) {l2 : Option sf_V} :
    ∃ G : sf_MV, (G 409 0 = n ∧ G 409 1 = V' (sf_rf (sf_rf 0 0) 1) 6 ∧ G 409 6 = 0 ∧ G 409 10 = 0 ∧ G 409 12 = 0 ∧ G 409 14 = 0 ∧ G 409 15 = -1) ∧
      (∀ p, p < 5 → G (sf_rf 409 2) p = U (sf_rf 409 20) p) ∧ (∀ e, e < 6 → G (sf_rf 409 3) e = U (sf_rf 409 21) e) ∧
      (G (sf_rf 409 4) 0 = (if n = 0 then -1 else V' (sf_rf (sf_rf 0 0) 1) 5) ∧ G (sf_rf 409 4) 1 = V' (sf_rf (sf_rf 0 0) 1) 7 ∧ G (sf_rf 409 4) 2 = 0 ∧ G (sf_rf 409 4) 3 = U (sf_rf 409 4) 3 ∧ (∀ p, p < 5 → G (sf_rf 409 4) (p + 4) = U (sf_rf 409 19) p) ∧ (∀ p, p < 5 → G (sf_rf 409 4) (p + 9) = -1) ∧ (∀ e, e < 6 → G (sf_rf 409 4) (e + 14) = U (sf_rf 409 22) e)) ∧
      (∀ i, i < 2 → G (sf_rf 409 8) i = 0) ∧ G (sf_rf 409 19) = U (sf_rf 409 19) ∧ G (sf_rf 409 20) = U (sf_rf 409 20) ∧
      ∀ Y K, sf_wp 19 none 115 4 [some (.inr (.inl (some 409))), none, l2] [.inl 1] (sf_E (sf_mix Y U)) K = K (some (.inl (n : Int))) (sf_E (sf_mix Y G)) := by
  have y4 := sf_c12_4 sf_y
  have y8 := sf_c12_8 sf_y
  have y23 := sf_c12_23 sf_y
  have hs := J.s
  have y16 := J.y16
  have y18 := J.y18
  generalize hU7 : sf_upd (sf_upd (sf_upd (sf_upd (sf_upd (sf_upd (sf_upd U 409 14 0) 409 15 (-1)) 409 0 n) 409 1 (V' (sf_rf (sf_rf 0 0) 1) 6)) (sf_rf 409 4) 0 (if n = 0 then -1 else V' (sf_rf (sf_rf 0 0) 1) 5)) (sf_rf 409 4) 1 (V' (sf_rf (sf_rf 0 0) 1) 7)) (sf_rf 409 4) 2 0 = U7
  have head : ∀ Y K, sf_wp 19 none 115 4 [some (.inr (.inl (some 409))), none, l2] [.inl 1] (sf_E (sf_mix Y U)) K = sf_wp 19 none 115 134 [some (.inr (.inl (some 409))), some (.inl 1), some (.inl 0)] [] (sf_E (sf_mix Y U7)) K := fun Y K => by
    have p1 : ∀ K' : Prop, (sf_wp 19 none 115 38 [some (.inr (.inl (some 409))), some (.inl 1), l2] [] (sf_E (sf_mix Y (sf_upd (sf_upd U 409 14 0) 409 15 (-1)))) K = K') → sf_wp 19 none 115 4 [some (.inr (.inl (some 409))), none, l2] [.inl 1] (sf_E (sf_mix Y U)) K = K' := fun K' h => by
      rw [← h]
      simp only [q115_4, q115_5, q115_6, q115_7, q115_10, q115_11, sf_y, sf_mxu]
      rw [q115_12, if_neg (by decide)]
      simp only [q115_15, q115_16, q115_23, q115_26, sf_y, sf_mxu]
      rw [q115_27, if_neg (by decide)]
    refine p1 _ ?_
    rcases hs with ⟨s0, s5, s6, s7⟩ | ⟨s0, s5, s6, s7⟩
    · have e18 : U 409 18 = 0 := by rw [y18, s0]
      rw [s5, s6, s7] at hU7
      by_cases hn : n = 0
      · rw [if_pos hn] at hU7
        subst hn
        simp (decide := true) only [q115_38, q115_39, q115_40, q115_43, q115_46, q115_47, q115_48, q115_51, q115_54, q115_55, q115_58, q115_59, q115_60, q115_63, q115_64, q115_67, q115_68, q115_71, q115_72, q115_73, q115_76, q115_79, q115_80, q115_83, q115_84, q115_87, q115_90, q115_91, q115_94, q115_95, q115_96, q115_99, q115_100, q115_101, q115_102, q115_105, q115_106, q115_107, q115_110, q115_113, q115_114, q115_117, q115_118, q115_119, q115_122, q115_124, q115_125, q115_126, q115_129, q115_130, q115_131, q115_132, q115_133, sf_y, y4, sf_y4, sf_mxy, sf_mxu, sf_mxv, y16, e18, if_true, if_false, ↓reduceIte, Int.reduceToNat, true_and, Int.natCast_zero, sf_upd_ne, sf_upd_ne2, sf_put_ne, sf_upd_eq, sf_getS_upd, sf_getS_put, sf_rg, sf_sh, sf_rf_inj, sf_rf_ne0, sf_0ne_rf, sf_rf_neY, sf_Yne_rf, sf_rf_self, sf_self_rf, sf_rf_self2, sf_self2_rf, not_false_eq_true, and_false, false_and, and_true, true_and, reduceCtorEq]
        rw [← hU7]
        rfl
      · rw [if_neg hn] at hU7
        have hn' : ¬ (n : Int) = 0 := by omega
        simp (decide := true) only [q115_38, q115_39, q115_40, q115_43, q115_46, q115_47, q115_48, q115_51, q115_54, q115_55, q115_58, q115_59, q115_60, q115_63, q115_64, q115_67, q115_68, q115_71, q115_72, q115_73, q115_76, q115_79, q115_80, q115_83, q115_84, q115_87, q115_90, q115_91, q115_94, q115_95, q115_96, q115_99, q115_100, q115_101, q115_102, q115_105, q115_106, q115_107, q115_110, q115_113, q115_114, q115_117, q115_118, q115_119, q115_122, q115_124, q115_125, q115_126, q115_129, q115_130, q115_131, q115_132, q115_133, sf_y, y4, sf_y4, sf_mxy, sf_mxu, sf_mxv, y16, e18, hn', if_true, if_false, ↓reduceIte, Int.reduceToNat, true_and, sf_upd_ne, sf_upd_ne2, sf_put_ne, sf_upd_eq, sf_getS_upd, sf_getS_put, sf_rg, sf_sh, sf_rf_inj, sf_rf_ne0, sf_0ne_rf, sf_rf_neY, sf_Yne_rf, sf_rf_self, sf_self_rf, sf_rf_self2, sf_self2_rf, not_false_eq_true, and_false, false_and, and_true, true_and, reduceCtorEq]
        rw [← hU7]
    · have e18 : U 409 18 = 1 := by rw [y18, s0]
      have hn : ¬ n = 0 := by omega
      have hn' : ¬ (n : Int) = 0 := by omega
      rw [if_neg hn, s5.2.2, s6.2.2, s7.2.2] at hU7
      simp (decide := true) only [q115_38, q115_39, q115_40, q115_43, q115_46, q115_47, q115_48, q115_51, q115_54, q115_55, q115_58, q115_59, q115_60, q115_63, q115_64, q115_67, q115_68, q115_71, q115_72, q115_73, q115_76, q115_79, q115_80, q115_83, q115_84, q115_87, q115_90, q115_91, q115_94, q115_95, q115_96, q115_99, q115_100, q115_101, q115_102, q115_105, q115_106, q115_107, q115_110, q115_113, q115_114, q115_117, q115_118, q115_119, q115_122, q115_124, q115_125, q115_126, q115_129, q115_130, q115_131, q115_132, q115_133, sf_y, y4, sf_y4, y23, sf_y23, sf_mxy, sf_mxr, sf_mxu, sf_mxv, y16, e18, hn', if_true, if_false, ↓reduceIte, Int.reduceToNat, true_and, sf_upd_ne, sf_upd_ne2, sf_put_ne, sf_upd_eq, sf_getS_upd, sf_getS_put, sf_rg, sf_sh, sf_rf_inj, sf_rf_ne0, sf_0ne_rf, sf_rf_neY, sf_Yne_rf, sf_rf_self, sf_self_rf, sf_rf_self2, sf_self2_rf, not_false_eq_true, and_false, false_and, and_true, true_and, reduceCtorEq]
      rw [← hU7]
  have U7r : ∀ r, ¬ r = 4 → U7 (sf_rf 409 r) = U (sf_rf 409 r) := fun r hr => by
    rw [← hU7, sf_upd_ne (by simp [sf_rf_inj, hr]), sf_upd_ne (by simp [sf_rf_inj, hr]), sf_upd_ne (by simp [sf_rf_inj, hr]), sf_upd_ne (by simp [sf_rf_neY]), sf_upd_ne (by simp [sf_rf_neY]), sf_upd_ne (by simp [sf_rf_neY]), sf_upd_ne (by simp [sf_rf_neY])]
  obtain ⟨U8, a1, a2, a3, a4⟩ := s115a (l1 := some (.inl 1)) 5 0 U7 rfl (by omega)
  obtain ⟨U9, b1, b2, b3, b4⟩ := s115b (l1 := some (.inl 1)) 6 0 U8 rfl (by omega)
  generalize hG : sf_upd (sf_upd (sf_upd (sf_upd (sf_upd U9 409 10 0) 409 12 0) 409 6 0) (sf_rf 409 8) 0 0) (sf_rf 409 8) 1 0 = G
  have Gr : ∀ r, ¬ r = 8 → G (sf_rf 409 r) = U9 (sf_rf 409 r) := fun r hr => by
    rw [← hG, sf_upd_ne (by simp [sf_rf_inj, hr]), sf_upd_ne (by simp [sf_rf_inj, hr]), sf_upd_ne (by simp [sf_rf_neY]), sf_upd_ne (by simp [sf_rf_neY]), sf_upd_ne (by simp [sf_rf_neY])]
  have G7 : ∀ k, ¬ k = 6 → ¬ k = 12 → ¬ k = 10 → G 409 k = U7 409 k := fun k h6 h12 h10 => by
    rw [← hG, sf_upd_ne (by simp [sf_Yne_rf]), sf_upd_ne (by simp [sf_Yne_rf]), sf_upd_ne2 h6, sf_upd_ne2 h12, sf_upd_ne2 h10, b1 _ (by simp [sf_Yne_rf]) (by simp [sf_Yne_rf]), a1 _ (by simp [sf_Yne_rf]) (by simp [sf_Yne_rf])]
  have U77 : ∀ k, U7 409 k = sf_upd (sf_upd (sf_upd (sf_upd U 409 14 0) 409 15 (-1)) 409 0 n) 409 1 (V' (sf_rf (sf_rf 0 0) 1) 6) 409 k := fun k => by
    rw [← hU7, sf_upd_ne (by simp [sf_Yne_rf]), sf_upd_ne (by simp [sf_Yne_rf]), sf_upd_ne (by simp [sf_Yne_rf])]
  have N8 : ∀ k, ¬ (4 ≤ k ∧ k < 20) → G (sf_rf 409 4) k = U7 (sf_rf 409 4) k := fun k hk => by
    rw [Gr 4 (by decide), b3, if_neg (by omega), a3, if_neg (by omega), if_neg (by omega)]
  refine ⟨G, ⟨?_, ?_, ?_, ?_, ?_, ?_, ?_⟩, fun p hp => ?_, fun e he => ?_, ⟨?_, ?_, ?_, ?_, fun p hp => ?_, fun p hp => ?_, fun e he => ?_⟩, fun i hi => ?_, ?_, ?_, fun Y K => ?_⟩
  · rw [G7 0 (by decide) (by decide) (by decide), U77, sf_upd_ne2 (by decide), sf_upd_eq]
  · rw [G7 1 (by decide) (by decide) (by decide), U77, sf_upd_eq]
  · rw [← hG, sf_upd_ne (by simp [sf_Yne_rf]), sf_upd_ne (by simp [sf_Yne_rf]), sf_upd_eq]
  · rw [← hG, sf_upd_ne (by simp [sf_Yne_rf]), sf_upd_ne (by simp [sf_Yne_rf]), sf_upd_ne2 (by decide), sf_upd_ne2 (by decide), sf_upd_eq]
  · rw [← hG, sf_upd_ne (by simp [sf_Yne_rf]), sf_upd_ne (by simp [sf_Yne_rf]), sf_upd_ne2 (by decide), sf_upd_eq]
  · rw [G7 14 (by decide) (by decide) (by decide), U77, sf_upd_ne2 (by decide), sf_upd_ne2 (by decide), sf_upd_ne2 (by decide), sf_upd_eq]
  · rw [G7 15 (by decide) (by decide) (by decide), U77, sf_upd_ne2 (by decide), sf_upd_ne2 (by decide), sf_upd_eq]
  · rw [Gr 2 (by decide), b1 _ (by simp [sf_rf_inj]) (by simp [sf_rf_inj]), a2, if_pos (by omega), U7r 20 (by decide)]
  · rw [Gr 3 (by decide), b2, if_pos (by omega), a1 _ (by simp [sf_rf_inj]) (by simp [sf_rf_inj]), U7r 21 (by decide)]
  · rw [N8 0 (by omega), ← hU7, sf_upd_ne2 (by decide), sf_upd_ne2 (by decide), sf_upd_eq]
  · rw [N8 1 (by omega), ← hU7, sf_upd_ne2 (by decide), sf_upd_eq]
  · rw [N8 2 (by omega), ← hU7, sf_upd_eq]
  · rw [N8 3 (by omega), ← hU7, sf_upd_ne2 (by decide), sf_upd_ne2 (by decide), sf_upd_ne2 (by decide), sf_upd_ne (by simp [sf_rf_neY]), sf_upd_ne (by simp [sf_rf_neY]), sf_upd_ne (by simp [sf_rf_neY]), sf_upd_ne (by simp [sf_rf_neY])]
  · rw [Gr 4 (by decide), b3, if_neg (by omega), a3, if_pos (by omega), U7r 19 (by decide), Nat.add_sub_cancel]
  · rw [Gr 4 (by decide), b3, if_neg (by omega), a3, if_neg (by omega), if_pos (by omega)]
  · rw [Gr 4 (by decide), b3, if_pos (by omega), a1 _ (by simp [sf_rf_inj]) (by simp [sf_rf_inj]), U7r 22 (by decide), Nat.add_sub_cancel]
  · have : i = 0 ∨ i = 1 := by omega
    rcases this with h | h <;> subst h
    · rw [← hG, sf_upd_ne2 (by decide), sf_upd_eq]
    · rw [← hG, sf_upd_eq]
  · rw [Gr 19 (by decide), b1 _ (by simp [sf_rf_inj]) (by simp [sf_rf_inj]), a1 _ (by simp [sf_rf_inj]) (by simp [sf_rf_inj]), U7r 19 (by decide)]
  · rw [Gr 20 (by decide), b1 _ (by simp [sf_rf_inj]) (by simp [sf_rf_inj]), a1 _ (by simp [sf_rf_inj]) (by simp [sf_rf_inj]), U7r 20 (by decide)]
  · rw [head]
    refine Eq.trans (a4 Y K) ?_
    simp only [q115_181, q115_182]
    refine Eq.trans (b4 Y K) ?_
    have g0 : G 409 0 = (n : Int) := by
      rw [G7 0 (by decide) (by decide) (by decide), U77, sf_upd_ne2 (by decide), sf_upd_eq]
    simp (decide := true) only [q115_222, q115_223, q115_224, q115_227, q115_228, q115_229, q115_232, q115_233, q115_234, q115_237, q115_238, q115_241, q115_242, q115_243, q115_244, q115_245, q115_248, q115_249, q115_250, q115_251, q115_252, q115_255, sf_y, y8, sf_y8, sf_mxy, sf_mxu, sf_mxv, Int.reduceToNat, true_and, true_or, hG, g0]
end SFP41

/-! a clause: a person -/
section SFP31
variable {V X U : sf_MV} {n : Nat} {t : Nat → Int} {L : Nat}
theorem sf_wr_out {a : Nat} {p v : Int} (h : ¬ (0 ≤ p ∧ p < sf_len a)) : sf_wr V a p v = V := if_neg h
theorem sf_wr_ne {a b : Nat} {p v : Int} (h : ¬ b = a) : sf_wr V a p v b = V b := by
  unfold sf_wr
  split
  · exact sf_upd_ne h
  · rfl
theorem sf_ek_in {j : Nat} (h : j ≤ L) : j ≤ sf_ek t L j ∧ sf_ek t L j ≤ L := by
  unfold sf_ek
  split <;> omega
theorem sf_nb_12 {lo hi v : Int} {j k : Nat} : sf_nb lo hi j k v = 0 ∨ sf_nb lo hi j k v = 1 ∨ sf_nb lo hi j k v = 2 := by
  unfold sf_nb
  split
  · exact Or.inr (Or.inl rfl)
  · split
    · exact Or.inr (Or.inr rfl)
    · exact Or.inl rfl
theorem sf_nb_v {lo hi v : Int} {j k : Nat} (h : sf_nb lo hi j k v = 0) : lo ≤ v ∧ v ≤ hi := by
  unfold sf_nb at h
  split at h
  · omega
  · split at h
    · omega
    · omega
theorem sf_clp {i : Nat} {told st : Int} (J : sf_J V U t L i n told st) (hi : i < L) (h27 : U 409 27 = 0) :
    ∃ V' U' good, sf_CL V U V' U' t L i good ∧ (∃ k : Nat, k ≤ L ∧ V' (sf_rf 0 0) 5 = (k : Int)) ∧
      (∀ d K, sf_wp (d + 3) none 51 0 [some (.inr (.inl (some (sf_rf 0 0)))), none, none] [] (sf_E V) K = K none (sf_E V')) ∧
      (∀ d Y K, sf_wp (d + 4) none 111 0 [some (.inr (.inl (some 409))), none] [] (sf_E (sf_mix Y U)) K = K (some (.inl good)) (sf_E (sf_mix Y U'))) := by
  obtain ⟨c0, c1, c2⟩ := sf_txt
  have r0 := sf_c2_0 c2
  have r1 := sf_c2_1 c2
  obtain ⟨l0, l1, l2, l3⟩ := sf_drLen
  have y19 := sf_c12_19 sf_y
  have y20 := sf_c12_20 sf_y
  have hL2 := J.x.2.1
  have x5 := J.x5
  have xn : V (sf_rf (sf_rf 0 0) 1) 4 = (n : Int) := J.xn
  have y24 := J.y24
  have y16 := J.y16
  have n5 := J.n5
  by_cases hn : n = 5
  · refine ⟨sf_bl V 3 i, sf_upd U 409 25 3, 0, ⟨sf_FC_FT sf_FT_bl, sf_FU_FR (sf_FRr_u (by decide)), fun p hp => ?_, Or.inr ⟨rfl, ?_, ?_, ?_⟩⟩, ⟨i, J.iL, by rw [sf_bl_ne2 (by decide) (by decide)]; exact x5⟩, fun d K => ?_, fun d Y K => ?_⟩
    · rw [sf_upd_ne (by simp [sf_rf_neY]), sf_upd_ne (by simp [sf_rf_neY])]
      exact J.wy p hp
    · rw [sf_bl_4, if_pos J.x4]; decide
    · rw [sf_bl_4, if_pos J.x4, sf_upd_eq]
    · rw [sf_bl_3, if_pos ⟨J.x4, by decide⟩, sf_upd_ne2 (by decide)]
      exact y24.symm
    · simp only [q51_0, q51_1, q51_4, q51_7, q51_8, c0, c2, xn]
      rw [if_neg (by omega)]
      simp only [q51_11, q51_12, q51_13, q51_14, q51_17, c0, x5]
      rw [s58 (by decide)]
      simp only [q51_20, Option.toList_some, Option.toList_none, List.cons_append, List.nil_append]
    · simp only [q111_0, q111_1, q111_4, q111_5, sf_y, sf_mxy, y16]
      rw [if_pos (by omega)]
      simp only [q111_8, q111_9, q111_10, sf_y]
      rw [s107]
      simp (decide := true) only [q111_13, true_or, true_and, Option.toList_some, Option.toList_none, List.cons_append, List.nil_append]
  · -- the class
    have f0 : sf_FT V (sf_upd V (sf_rf 0 0) 5 ((i + 1 : Nat) : Int)) := sf_FT_5
    have T0 := sf_TX_FT J.x f0
    have js1 := sf_sk_in (t := t) (L - (i + 1)) (i + 1)
    generalize hj1 : sf_sk t (L - (i + 1)) (i + 1) = j1 at js1
    have ks1 := sf_de_in (t := t) (L - j1) j1
    generalize hk1 : sf_de t (L - j1) j1 = k1 at ks1
    generalize hv1 : sf_vc t j1 (L - j1) j1 0 = v1
    obtain ⟨V1, g1, p1, q1, w1, e1⟩ := sf_CN (lo := 0) (hi := 99) T0 sf_upd_eq (by omega) hj1 hk1 hv1
    have T1 := sf_TX_FT T0 g1
    have js2 := sf_sk_in (t := t) (L - k1) k1
    generalize hj2 : sf_sk t (L - k1) k1 = j2 at js2
    have ks2 := sf_de_in (t := t) (L - j2) j2
    generalize hk2 : sf_de t (L - j2) j2 = k2 at ks2
    generalize hv2 : sf_vc t j2 (L - j2) j2 0 = v2
    obtain ⟨V2, g2, p2, q2, w2, e2⟩ := sf_CN (lo := 0) (hi := 9) T1 p1 (by omega) hj2 hk2 hv2
    have T2 := sf_TX_FT T1 g2
    have js3 := sf_sk_in (t := t) (L - k2) k2
    generalize hj3 : sf_sk t (L - k2) k2 = j3 at js3
    have ek3 := sf_ek_in (t := t) (show j3 ≤ L by omega)
    obtain ⟨V3, g3, p3, q3, w3, e3⟩ := sf_CE T2 p2 (by omega) hj3
    have G3 := sf_FT_trans (sf_FT_trans (sf_FT_trans f0 g1) g2) g3
    have T3 := sf_TX_FT T2 g3
    have xn3 : V3 (sf_rf (sf_rf 0 0) 1) 4 = (n : Int) := by
      rw [G3.1 _ (by simp [sf_rf_self])]
      exact xn
    -- the class's end
    generalize hW : sf_upd (sf_upd (sf_upd V3 (sf_rf (sf_rf (sf_rf (sf_rf 0 0) 1) 0) 0) n v1) (sf_rf (sf_rf (sf_rf (sf_rf 0 0) 1) 1) 0) n v2) (sf_rf (sf_rf 0 0) 1) 4 ((n + 1 : Nat) : Int) = W
    have FCW : sf_FC V W := by
      refine ⟨fun a h1 h2 h3 h4 h5 h6 => ?_, ?_⟩
      · rw [← hW, sf_upd_ne h2, sf_upd_ne h4, sf_upd_ne h3, G3.1 a h1]
      · rw [← hW, sf_upd_ne (by simp [sf_self_rf]), sf_upd_ne (by simp [sf_rf_inj, sf_0ne_rf]), sf_upd_ne (by simp [sf_rf_inj, sf_0ne_rf]), G3.2 2 (by decide) (by decide) (by decide)]
    have WT : W (sf_rf 0 0) = V3 (sf_rf 0 0) := by
      rw [← hW, sf_upd_ne (by simp [sf_self_rf]), sf_upd_ne (by simp [sf_rf_inj, sf_0ne_rf]), sf_upd_ne (by simp [sf_rf_inj, sf_0ne_rf])]
    have plW : ∃ k : Nat, k ≤ L ∧ W (sf_rf 0 0) 5 = (k : Int) := ⟨sf_ek t L j3, ek3.2, by rw [WT]; exact p3⟩
    have clsW : ∀ d K, sf_wp (d + 3) none 51 0 [some (.inr (.inl (some (sf_rf 0 0)))), none, none] [] (sf_E V) K = K none (sf_E W) := fun d K => by
      have wr1 : sf_wr V3 (sf_rf (sf_rf (sf_rf (sf_rf 0 0) 1) 0) 0) (n : Int) v1 = sf_upd V3 (sf_rf (sf_rf (sf_rf (sf_rf 0 0) 1) 0) 0) n v1 := sf_wr_nat (by omega)
      have wr2 : ∀ Z, sf_wr Z (sf_rf (sf_rf (sf_rf (sf_rf 0 0) 1) 1) 0) (n : Int) v2 = sf_upd Z (sf_rf (sf_rf (sf_rf (sf_rf 0 0) 1) 1) 0) n v2 := fun Z => sf_wr_nat (by omega)
      have u1 : ∀ Z, sf_upd Z (sf_rf (sf_rf (sf_rf (sf_rf 0 0) 1) 0) 0) n v1 (sf_rf (sf_rf 0 0) 1) = Z (sf_rf (sf_rf 0 0) 1) := fun Z => sf_upd_ne (by simp [sf_self2_rf])
      have u2 : ∀ Z, sf_upd Z (sf_rf (sf_rf (sf_rf (sf_rf 0 0) 1) 1) 0) n v2 (sf_rf (sf_rf 0 0) 1) = Z (sf_rf (sf_rf 0 0) 1) := fun Z => sf_upd_ne (by simp [sf_self2_rf])
      simp only [q51_0, q51_1, q51_4, q51_7, q51_8, c0, c2, xn]
      rw [if_pos (by omega)]
      simp only [q51_21, q51_22, q51_23, q51_26, q51_27, q51_28, q51_31, q51_32, q51_33, q51_35, c0, x5]
      rw [sf_wS (by omega), e1]
      simp only [q51_38, q51_39, q51_40, q51_41, q51_43, c0, Option.toList_some, Option.toList_none, List.cons_append, List.nil_append]
      rw [e2]
      simp only [q51_46, q51_47, q51_48, c0, Option.toList_some, Option.toList_none, List.cons_append, List.nil_append]
      rw [e3]
      simp only [q51_51, q51_52, q51_55, q51_58, q51_59, q51_62, q51_65, q51_66, q51_69, q51_70, q51_73, q51_76, q51_77, q51_80, q51_83, q51_84, q51_87, q51_88, q51_91, q51_92, q51_95, q51_96, q51_97, q51_100, c0, c2, r0, r1, xn3, s32, wr1, wr2, u1, u2, Option.toList_some, Option.toList_none, List.cons_append, List.nil_append]
      rw [sf_wS (by omega), hW]
    have x40 : sf_upd V (sf_rf 0 0) 5 ((i + 1 : Nat) : Int) (sf_rf 0 0) 4 = 0 := by rw [sf_upd_ne2 (by decide)]; exact J.x4
    have x30 : sf_upd V (sf_rf 0 0) 5 ((i + 1 : Nat) : Int) (sf_rf 0 0) 3 = -1 := by rw [sf_upd_ne2 (by decide)]; exact J.x3
    rw [x40] at q1 w1
    rw [x30] at w1
    rw [if_pos rfl] at q1
    -- the reference's first row
    have U0T : sf_TY (sf_upd U 409 24 ((i + 1 : Nat) : Int)) t L := sf_TY_FR J.y (sf_FRr_u (by decide))
    have e016 : ∀ (Z : sf_MV), (∀ k, k < 24 → Z 409 k = sf_upd U 409 24 ((i + 1 : Nat) : Int) 409 k) → Z 409 16 = (n : Int) := fun Z hZ => by
      rw [hZ 16 (by decide), sf_upd_ne2 (by decide)]
      exact y16
    obtain ⟨U1, f1, f1', o1, z1⟩ := s109 (r := 19) (x := n) (lo := 0) (hi := 99) U0T y19 (by rw [sf_y19]; omega) sf_upd_eq (by omega) (Or.inl (by rw [sf_upd_ne2 (by decide)]; exact h27)) hj1 hk1 hv1 (by decide) (by decide)
    have n1 : U1 409 16 = (n : Int) := e016 U1 f1'
    have FU1 : sf_FU U U1 := ⟨fun a h1 h2 h3 h4 h5 h6 => by rw [f1 a h1 h2, sf_upd_ne h1], fun k hk => by rw [f1' k (by omega), sf_upd_ne2 (by omega)]⟩
    have W20 : U1 (sf_rf 409 20) = U (sf_rf 409 20) := by rw [f1 _ (by simp [sf_rf_neY]) (by simp [sf_rf_inj]), sf_upd_ne (by simp [sf_rf_neY])]
    have ru0 : ∀ (S : Nat → Int) (v hi : Int), (∀ p, p < 5 → 0 ≤ S p ∧ S p ≤ hi) → (0 ≤ v ∧ v ≤ hi) → ∀ p, p < 5 → 0 ≤ sf_ru S n v p ∧ sf_ru S n v p ≤ hi := fun S v hi h1 h2 p hp => by
      by_cases q : p = n
      · rw [q, sf_ru_eq]; exact h2
      · rw [sf_ru_ne q]; exact h1 p hp
    have head : ∀ d Y K, sf_wp (d + 4) none 111 0 [some (.inr (.inl (some 409))), none] [] (sf_E (sf_mix Y U)) K = sf_wp (d + 3) none 109 0 [some (.inr (.inl (some 409))), some (.inr (.inl (some (sf_rf 409 19)))), some (.inl (n : Int)), some (.inl 0), some (.inl 99), none] [] (sf_E (sf_mix Y (sf_upd U 409 24 ((i + 1 : Nat) : Int)))) (fun r M1 => sf_wp (d + 3 + 1) none 111 39 [some (.inr (.inl (some 409))), none] (r.toList ++ []) M1 K) := fun d Y K => by
      simp only [q111_0, q111_1, q111_4, q111_5, sf_y, sf_mxy, y16]
      rw [if_neg (by omega)]
      have e16 : sf_upd U 409 24 ((i + 1 : Nat) : Int) 409 16 = (n : Int) := e016 _ (fun _ _ => rfl)
      simp only [q111_14, q111_15, q111_16, q111_19, q111_20, q111_21, q111_24, sf_y, sf_mxy, sf_mxu, y24]
      rw [sf_wS (by omega)]
      simp only [q111_25, q111_26, q111_29, q111_30, q111_33, q111_34, q111_36, sf_y, sf_mxy, e16]
    have tail0 : ∀ (Z : sf_MV), Z 409 16 = (n : Int) → ∀ d Y K, sf_wp (d + 3 + 1) none 111 71 [some (.inr (.inl (some 409))), none] [] (sf_E (sf_mix Y Z)) K = K (some (.inl 0)) (sf_E (sf_mix Y Z)) := fun Z hZ d Y K => by
      simp only [q111_71, q111_72, q111_73, q111_74, q111_75, q111_78, sf_y, sf_mxy, hZ]
      rw [q111_79, if_pos rfl]
      simp (decide := true) only [q111_86, q111_87, q111_88, q111_91, q111_92, sf_y, sf_mxu, true_or, true_and]
      rw [sf_w_small (by omega), Int.add_zero, sf_upd_self hZ]
    have tail1 : ∀ (Z : sf_MV), Z 409 16 = (n : Int) → ∀ d Y K, sf_wp (d + 3 + 1) none 111 67 [some (.inr (.inl (some 409))), none] [] (sf_E (sf_mix Y Z)) K = K (some (.inl 1)) (sf_E (sf_mix Y (sf_upd Z 409 16 ((n + 1 : Nat) : Int)))) := fun Z hZ d Y K => by
      simp only [q111_67, q111_68, q111_72, q111_73, q111_74, q111_75, q111_78, sf_y, sf_mxy, hZ]
      rw [q111_79, if_neg (by decide)]
      simp (decide := true) only [q111_82, q111_83, q111_87, q111_88, q111_91, q111_92, sf_y, sf_mxu, or_true, true_and]
      rw [sf_wS (by omega)]
    rcases o1 with ⟨b1, o24, o27, oA⟩ | ⟨b1, o24, o25, oA⟩
    case inr =>
      -- the first number is a fault
      rw [if_neg b1] at z1
      rw [if_pos ⟨rfl, b1⟩] at w1
      rw [if_neg (by rw [q1]; exact b1), q1] at q2
      rw [if_neg (fun z => b1 (by rw [← q1]; exact z.1)), w1] at w2
      rw [if_neg (by rw [q2]; exact b1), q2] at q3
      rw [if_neg (fun z => b1 (by rw [← q2]; exact z.1)), w2] at w3
      refine ⟨W, U1, 0, ⟨FCW, FU1, fun p hp => ?_, Or.inr ⟨rfl, ?_, ?_, ?_⟩⟩, plW, clsW, fun d Y K => ?_⟩
      · rw [oA, W20, sf_upd_ne (by simp [sf_rf_neY])]
        exact J.wy p hp
      · rw [WT, q3]; exact b1
      · rw [WT, q3, o25]
      · rw [WT, w3, o24]
      · rw [head, z1]
        simp only [q111_39, Option.toList_some, Option.toList_none, List.cons_append, List.nil_append]
        rw [if_pos trivial, tail0 U1 n1]
    rw [if_pos b1] at z1
    rw [if_neg (fun z => z.2 b1)] at w1
    rw [b1] at q1
    rw [if_pos q1] at q2
    rw [q1, w1] at w2
    have hv1r := sf_nb_v b1
    have U1T : sf_TY U1 t L := by
      obtain ⟨h1, h2, h3⟩ := J.y
      exact ⟨by rw [FU1.2 14 (by decide)]; exact h1, h2, fun j hj => by rw [FU1.1 _ (by simp [sf_rf_neY]) (by simp [sf_rf_inj]) (by simp [sf_rf_inj]) (by simp [sf_rf_inj]) (by simp [sf_rf_inj]) (by simp [sf_rf_inj])]; exact h3 j hj⟩
    obtain ⟨U2, f2, f2', o2, z2⟩ := s109 (r := 20) (x := n) (lo := 0) (hi := 9) U1T y20 (by rw [sf_y20]; omega) o24 (by omega) (Or.inr (fun hk => sf_de_end (L - j1) j1 k1 hk1 (by omega))) hj2 hk2 hv2 (by decide) (by decide)
    have n2 : U2 409 16 = (n : Int) := by rw [f2' 16 (by decide)]; exact n1
    have FU2 : sf_FU U U2 := sf_FU_trans FU1 ⟨fun a h1 h2 h3 h4 h5 h6 => f2 a h1 h3, fun k hk => f2' k (by omega)⟩
    have A19 : U2 (sf_rf 409 19) = sf_ru (U (sf_rf 409 19)) n v1 := by
      rw [f2 _ (by simp [sf_rf_neY]) (by simp [sf_rf_inj]), oA, sf_upd_ne (by simp [sf_rf_neY])]
    have head2 : ∀ d Y K, sf_wp (d + 4) none 111 0 [some (.inr (.inl (some 409))), none] [] (sf_E (sf_mix Y U)) K = sf_wp (d + 3 + 1) none 111 57 [some (.inr (.inl (some 409))), none] [.inl (if sf_nb 0 9 j2 k2 v2 = 0 then 1 else 0)] (sf_E (sf_mix Y U2)) K := fun d Y K => by
      rw [head, z1]
      simp only [q111_39, Option.toList_some, Option.toList_none, List.cons_append, List.nil_append]
      rw [if_neg (by decide)]
      simp only [q111_42, q111_43, q111_44, q111_47, q111_48, q111_51, q111_52, q111_54, sf_y, sf_mxy, n1]
      rw [z2]
      simp only [Option.toList_some, Option.toList_none, List.cons_append, List.nil_append]
    rcases o2 with ⟨b2, o24', o27', oA'⟩ | ⟨b2, o24', o25', oA'⟩
    case inr =>
      rw [if_neg b2] at head2
      rw [if_pos ⟨rfl, b2⟩] at w2
      rw [if_neg (by rw [q2]; exact b2), q2] at q3
      rw [if_neg (fun z => b2 (by rw [← q2]; exact z.1)), w2] at w3
      refine ⟨W, U2, 0, ⟨FCW, FU2, fun p hp => ?_, Or.inr ⟨rfl, ?_, ?_, ?_⟩⟩, plW, clsW, fun d Y K => ?_⟩
      · rw [oA', W20, A19]
        exact ⟨ru0 _ _ 99 (fun p hp => (J.wy p hp).1) hv1r p hp, (J.wy p hp).2⟩
      · rw [WT, q3]; exact b2
      · rw [WT, q3, o25']
      · rw [WT, w3, o24']
      · rw [head2]
        rw [q111_57, if_pos rfl, tail0 U2 n2]
    rw [if_pos b2] at head2
    rw [if_neg (fun z => z.2 b2)] at w2
    rw [b2] at q2
    rw [if_pos q2] at q3
    rw [q2, w2] at w3
    have hv2r := sf_nb_v b2
    have U2T : sf_TY U2 t L := by
      obtain ⟨h1, h2, h3⟩ := J.y
      exact ⟨by rw [FU2.2 14 (by decide)]; exact h1, h2, fun j hj => by rw [FU2.1 _ (by simp [sf_rf_neY]) (by simp [sf_rf_inj]) (by simp [sf_rf_inj]) (by simp [sf_rf_inj]) (by simp [sf_rf_inj]) (by simp [sf_rf_inj])]; exact h3 j hj⟩
    obtain ⟨U3, f3, o3, o3', z3⟩ := s110 U2T o24' (by omega) hj3
    have n3 : U3 409 16 = (n : Int) := by rw [f3.2 16 (by decide)]; exact n2
    have FU3 : sf_FU U U3 := sf_FU_trans FU2 (sf_FU_FR f3)
    have B19 : U3 (sf_rf 409 19) = sf_ru (U (sf_rf 409 19)) n v1 := by
      rw [f3.1 _ (by simp [sf_rf_neY]), A19]
    have B20 : U3 (sf_rf 409 20) = sf_ru (U (sf_rf 409 20)) n v2 := by
      rw [f3.1 _ (by simp [sf_rf_neY]), oA', W20]
    have WR3 : ∀ p, p < 5 → (0 ≤ U3 (sf_rf 409 19) p ∧ U3 (sf_rf 409 19) p ≤ 99) ∧ (0 ≤ U3 (sf_rf 409 20) p ∧ U3 (sf_rf 409 20) p ≤ 9) := fun p hp => by
      rw [B19, B20]
      exact ⟨ru0 _ _ 99 (fun p hp => (J.wy p hp).1) hv1r p hp, ru0 _ _ 9 (fun p hp => (J.wy p hp).2) hv2r p hp⟩
    by_cases b3 : sf_eb t L j3 = 0
    case neg =>
      rw [if_neg b3] at z3
      rw [if_pos ⟨rfl, b3⟩] at w3
      have ek : sf_ek t L j3 = j3 := by
        unfold sf_ek
        unfold sf_eb at b3
        by_cases z : j3 < L ∧ t j3 = 59
        · rw [if_pos z] at b3
          exact absurd rfl b3
        · rw [if_neg z]
      refine ⟨W, U3, 0, ⟨FCW, FU3, WR3, Or.inr ⟨rfl, ?_, ?_, ?_⟩⟩, plW, clsW, fun d Y K => ?_⟩
      · rw [WT, q3]; exact b3
      · rw [WT, q3]
        rcases o3' with o3' | o3'
        · exact absurd o3' b3
        · exact o3'.symm
      · rw [WT, w3, o3, ek]
      · rw [head2, q111_57, if_neg (by decide)]
        simp only [q111_60, q111_61, sf_y]
        rw [z3 (d + 1)]
        simp only [q111_64, Option.toList_some, Option.toList_none, List.cons_append, List.nil_append]
        rw [if_pos trivial, tail0 U3 n3]
    rw [if_pos b3] at z3
    rw [if_neg (fun z => z.2 b3)] at w3
    rw [b3] at q3
    have j3L : j3 < L := by
      unfold sf_eb at b3
      by_cases z : j3 < L ∧ t j3 = 59
      · exact z.1
      · rw [if_neg z] at b3
        exact absurd b3 (by decide)
    refine ⟨W, sf_upd U3 409 16 ((n + 1 : Nat) : Int), 1, ⟨FCW, ⟨fun a h1 h2 h3 h4 h5 h6 => by rw [sf_upd_ne h1]; exact FU3.1 a h1 h2 h3 h4 h5 h6, fun k hk => by rw [sf_upd_ne2 (by omega)]; exact FU3.2 k hk⟩, fun p hp => ?_, Or.inl ⟨rfl, sf_ek t L j3, n + 1, told, st, by omega, ?_⟩⟩, plW, clsW, fun d Y K => ?_⟩
    · rw [sf_upd_ne (by simp [sf_rf_neY]), sf_upd_ne (by simp [sf_rf_neY])]
      exact WR3 p hp
    · have Wd0 : W (sf_rf (sf_rf (sf_rf (sf_rf 0 0) 1) 0) 0) = sf_ru (V (sf_rf (sf_rf (sf_rf (sf_rf 0 0) 1) 0) 0)) n v1 := by
        rw [← hW, sf_upd_ne (by simp [sf_rf_self2]), sf_upd_ne (by simp [sf_rf_inj]), sf_upd_ru, G3.1 _ (by simp [sf_rf_inj, sf_rf_ne0])]
      have Wd1 : W (sf_rf (sf_rf (sf_rf (sf_rf 0 0) 1) 1) 0) = sf_ru (V (sf_rf (sf_rf (sf_rf (sf_rf 0 0) 1) 1) 0)) n v2 := by
        rw [← hW, sf_upd_ne (by simp [sf_rf_self2]), sf_upd_ru, sf_upd_ne (by simp [sf_rf_inj]), G3.1 _ (by simp [sf_rf_inj, sf_rf_ne0])]
      have Wd2 : ∀ k, 2 ≤ k → W (sf_rf (sf_rf (sf_rf (sf_rf 0 0) 1) k) 0) = V (sf_rf (sf_rf (sf_rf (sf_rf 0 0) 1) k) 0) := fun k hk => by
        rw [← hW, sf_upd_ne (by simp [sf_rf_self2]), sf_upd_ne (by simp [sf_rf_inj]; omega), sf_upd_ne (by simp [sf_rf_inj]; omega), G3.1 _ (by simp [sf_rf_inj, sf_rf_ne0])]
      have WD : ∀ k, ¬ k = 4 → W (sf_rf (sf_rf 0 0) 1) k = V (sf_rf (sf_rf 0 0) 1) k := fun k hk => by
        rw [← hW, sf_upd_ne2 hk, sf_upd_ne (by simp [sf_self2_rf]), sf_upd_ne (by simp [sf_self2_rf]), G3.1 _ (by simp [sf_rf_self])]
      have Z : ∀ r, 21 ≤ r → r ≤ 23 → sf_upd U3 409 16 ((n + 1 : Nat) : Int) (sf_rf 409 r) = U (sf_rf 409 r) := fun r hr hr2 => by
        rw [sf_upd_ne (by simp [sf_rf_neY]), f3.1 _ (by simp [sf_rf_neY]), f2 _ (by simp [sf_rf_neY]) (by simp [sf_rf_inj]; omega), f1 _ (by simp [sf_rf_neY]) (by simp [sf_rf_inj]; omega), sf_upd_ne (by simp [sf_rf_neY])]
      have Z7 : ∀ k, 17 ≤ k → k < 24 → sf_upd U3 409 16 ((n + 1 : Nat) : Int) 409 k = U 409 k := fun k hk hk2 => by
        rw [sf_upd_ne2 (by omega), f3.2 k hk2, f2' k hk2, f1' k hk2, sf_upd_ne2 (by omega)]
      have Z19 : sf_upd U3 409 16 ((n + 1 : Nat) : Int) (sf_rf 409 19) = sf_ru (U (sf_rf 409 19)) n v1 := by rw [sf_upd_ne (by simp [sf_rf_neY]), B19]
      have Z20 : sf_upd U3 409 16 ((n + 1 : Nat) : Int) (sf_rf 409 20) = sf_ru (U (sf_rf 409 20)) n v2 := by rw [sf_upd_ne (by simp [sf_rf_neY]), B20]
      refine sf_J.mk ?_ ?_ ?_ ?_ ?_ ?_ ?_ ?_ ?_ ?_ ?_ ?_ (by omega) (by omega) ?_ ?_ ?_ ?_ ?_
      · obtain ⟨h1, h2, h3⟩ := T3
        refine ⟨by rw [WT]; exact h1, h2, fun j hj => ?_⟩
        rw [← hW, sf_upd_ne (by simp [sf_rf_inj, sf_rf_ne0]), sf_upd_ne (by simp [sf_rf_inj, sf_self_rf, sf_rf_self]), sf_upd_ne (by simp [sf_rf_inj, sf_self_rf, sf_rf_self])]
        exact h3 j hj
      · rw [WT]; exact q3
      · rw [WT]; exact w3
      · rw [WT]; exact p3
      · rw [WT, G3.2 6 (by decide) (by decide) (by decide)]; exact J.x6
      · rw [WT, G3.2 7 (by decide) (by decide) (by decide)]; exact J.x7
      · rw [← hW, sf_upd_eq]
      · exact sf_TY_u (sf_TY_FR U2T f3) (by decide)
      · rw [sf_upd_ne2 (by decide)]; exact o3
      · rw [Z7 17 (by decide) (by decide)]; exact J.y17
      · rw [Z7 18 (by decide) (by decide)]; exact J.y18
      · exact sf_upd_eq
      · intro p hp
        rw [Wd0, Wd1, Z19, Z20]
        by_cases q : p = n
        · rw [q, sf_ru_eq, sf_ru_eq, sf_ru_eq, sf_ru_eq]
          exact ⟨rfl, rfl⟩
        · rw [sf_ru_ne q, sf_ru_ne q, sf_ru_ne q, sf_ru_ne q]
          exact J.w p (by omega)
      · intro p hp
        rw [Wd0, Wd1]
        exact ⟨ru0 _ _ 99 (fun p hp => (J.wx p hp).1) hv1r p hp, ru0 _ _ 9 (fun p hp => (J.wx p hp).2) hv2r p hp⟩
      · intro p hp
        rw [Z19, Z20]
        exact ⟨ru0 _ _ 99 (fun p hp => (J.wy p hp).1) hv1r p hp, ru0 _ _ 9 (fun p hp => (J.wy p hp).2) hv2r p hp⟩
      · intro e he
        rw [Wd2 2 (by decide), Wd2 3 (by decide), Z 21 (by decide) (by decide), Z 22 (by decide) (by decide)]
        exact J.cc e he
      · rw [WD 5 (by decide), WD 6 (by decide), WD 7 (by decide), Z 23 (by decide) (by decide)]
        have hs := J.s
        rcases hs with hs | ⟨s0, s1, s2, s3⟩
        · exact Or.inl hs
        · exact Or.inr ⟨s0, ⟨s1.1, by have := s1.2.1; omega, s1.2.2⟩, s2, s3⟩
    · rw [head2, q111_57, if_neg (by decide)]
      simp only [q111_60, q111_61, sf_y]
      rw [z3 (d + 1)]
      simp only [q111_64, Option.toList_some, Option.toList_none, List.cons_append, List.nil_append]
      rw [if_neg (by decide), tail1 U3 n3]
end SFP31

/-! a clause: the stove -/
section SFP34
variable {V X U : sf_MV} {n : Nat} {t : Nat → Int} {L : Nat}
theorem sf_TX_a {a k : Nat} {v : Int} (h : sf_TX V t L) (h0 : a = sf_rf (sf_rf 0 0) 1 ∨ (a = sf_rf 0 0 ∧ ¬ k = 2)) : sf_TX (sf_upd V a k v) t L := by
  obtain ⟨h1, h2, h3⟩ := h
  rcases h0 with h0 | ⟨h0, hk⟩ <;> subst h0
  · exact ⟨by rw [sf_upd_ne (by simp [sf_self_rf])]; exact h1, h2, fun j hj => by rw [sf_upd_ne (by simp [sf_rf_inj, sf_rf_self])]; exact h3 j hj⟩
  · exact ⟨by rw [sf_upd_ne2 (fun z => hk z.symm)]; exact h1, h2, fun j hj => by rw [sf_upd_ne (by simp [sf_rf_inj, sf_rf_ne0])]; exact h3 j hj⟩
theorem sf_cls2 {i : Nat} {told st : Int} (J : sf_J V U t L i n told st) (hi : i < L) (h27 : U 409 27 = 0) :
    ∃ V' U' good, sf_CL V U V' U' t L i good ∧ (∃ k : Nat, k ≤ L ∧ V' (sf_rf 0 0) 5 = (k : Int)) ∧
      (∀ d K, sf_wp (d + 3) none 53 0 [some (.inr (.inl (some (sf_rf 0 0))))] [] (sf_E V) K = K none (sf_E V')) ∧
      (∀ d Y K, sf_wp (d + 4) none 113 0 [some (.inr (.inl (some 409)))] [] (sf_E (sf_mix Y U)) K = K (some (.inl good)) (sf_E (sf_mix Y U'))) := by
  obtain ⟨c0, c1, c2⟩ := sf_txt
  have y23 := sf_c12_23 sf_y
  have hL2 := J.x.2.1
  have x5 := J.x5
  have x7 := J.x7
  have y24 := J.y24
  have y18 := J.y18
  have y16 := J.y16
  have n5 := J.n5
  have xn : V (sf_rf (sf_rf 0 0) 1) 4 = (n : Int) := J.xn
  by_cases hst : st = 0
  case neg =>
    refine ⟨sf_bl V 3 i, sf_upd U 409 25 3, 0, ⟨sf_FC_FT sf_FT_bl, sf_FU_FR (sf_FRr_u (by decide)), fun p hp => ?_, Or.inr ⟨rfl, ?_, ?_, ?_⟩⟩, ⟨i, J.iL, by rw [sf_bl_ne2 (by decide) (by decide)]; exact x5⟩, fun d K => ?_, fun d Y K => ?_⟩
    · rw [sf_upd_ne (by simp [sf_rf_neY]), sf_upd_ne (by simp [sf_rf_neY])]
      exact J.wy p hp
    · rw [sf_bl_4, if_pos J.x4]; decide
    · rw [sf_bl_4, if_pos J.x4, sf_upd_eq]
    · rw [sf_bl_3, if_pos ⟨J.x4, by decide⟩, sf_upd_ne2 (by decide)]
      exact y24.symm
    · simp only [q53_0, q53_1, c0, x7]
      rw [q53_4, if_neg hst]
      simp only [q53_7, q53_8, q53_9, q53_10, q53_13, c0, x5]
      rw [s58 (by decide)]
      simp only [q53_16, Option.toList_some, Option.toList_none, List.cons_append, List.nil_append]
    · simp only [q113_0, q113_1, sf_y, sf_mxy, y18]
      rw [q113_4, if_neg hst]
      simp only [q113_7, q113_8, q113_9, sf_y]
      rw [s107]
      simp (decide := true) only [q113_12, true_or, true_and, Option.toList_some, Option.toList_none, List.cons_append, List.nil_append]
  -- the class
  have T0 : sf_TX (sf_upd (sf_upd V (sf_rf 0 0) 5 ((i + 1 : Nat) : Int)) (sf_rf 0 0) 7 1) t L := sf_TX_a (sf_TX_5 J.x) (Or.inr ⟨rfl, by decide⟩)
  have p0 : sf_upd (sf_upd V (sf_rf 0 0) 5 ((i + 1 : Nat) : Int)) (sf_rf 0 0) 7 1 (sf_rf 0 0) 5 = ((i + 1 : Nat) : Int) := by rw [sf_upd_ne2 (by decide), sf_upd_eq]
  have js1 := sf_sk_in (t := t) (L - (i + 1)) (i + 1)
  generalize hj1 : sf_sk t (L - (i + 1)) (i + 1) = j1 at js1
  have ks1 := sf_de_in (t := t) (L - j1) j1
  generalize hk1 : sf_de t (L - j1) j1 = k1 at ks1
  generalize hv1 : sf_vc t j1 (L - j1) j1 0 = v1
  obtain ⟨V1, g1, p1, q1, w1, e1⟩ := sf_CN (lo := 0) (hi := (n : Int) - 1) T0 p0 (by omega) hj1 hk1 hv1
  have T1 : sf_TX (sf_upd V1 (sf_rf (sf_rf 0 0) 1) 5 v1) t L := sf_TX_a (sf_TX_FT T0 g1) (Or.inl rfl)
  have dT : ∀ (Z : sf_MV) k v, sf_upd Z (sf_rf (sf_rf 0 0) 1) k v (sf_rf 0 0) = Z (sf_rf 0 0) := fun Z k v => sf_upd_ne (by simp [sf_self_rf])
  have js2 := sf_sk_in (t := t) (L - k1) k1
  generalize hj2 : sf_sk t (L - k1) k1 = j2 at js2
  have ks2 := sf_de_in (t := t) (L - j2) j2
  generalize hk2 : sf_de t (L - j2) j2 = k2 at ks2
  generalize hv2 : sf_vc t j2 (L - j2) j2 0 = v2
  obtain ⟨V2, g2, p2, q2, w2, e2⟩ := sf_CN (lo := 1) (hi := 20) T1 (by rw [dT]; exact p1) (by omega) hj2 hk2 hv2
  rw [dT] at q2 w2
  have T2 : sf_TX (sf_upd V2 (sf_rf (sf_rf 0 0) 1) 6 v2) t L := sf_TX_a (sf_TX_FT T1 g2) (Or.inl rfl)
  have js3 := sf_sk_in (t := t) (L - k2) k2
  generalize hj3 : sf_sk t (L - k2) k2 = j3 at js3
  have ks3 := sf_de_in (t := t) (L - j3) j3
  generalize hk3 : sf_de t (L - j3) j3 = k3 at ks3
  generalize hv3 : sf_vc t j3 (L - j3) j3 0 = v3
  obtain ⟨V3, g3, p3, q3, w3, e3⟩ := sf_CN (lo := 0) (hi := 999) T2 (by rw [dT]; exact p2) (by omega) hj3 hk3 hv3
  rw [dT] at q3 w3
  have T3 : sf_TX (sf_upd V3 (sf_rf (sf_rf 0 0) 1) 7 v3) t L := sf_TX_a (sf_TX_FT T2 g3) (Or.inl rfl)
  have js4 := sf_sk_in (t := t) (L - k3) k3
  generalize hj4 : sf_sk t (L - k3) k3 = j4 at js4
  have ek4 := sf_ek_in (t := t) (show j4 ≤ L by omega)
  obtain ⟨W, g4, p4, q4, w4, e4⟩ := sf_CE T3 (by rw [dT]; exact p3) (by omega) hj4
  rw [dT] at q4 w4
  have T4 := sf_TX_FT T3 g4
  have FCW : sf_FC V W := by
    refine ⟨fun a h1 h2 h3 h4 h5 h6 => ?_, ?_⟩
    · rw [g4.1 a h1, sf_upd_ne h2, g3.1 a h1, sf_upd_ne h2, g2.1 a h1, sf_upd_ne h2, g1.1 a h1, sf_upd_ne h1, sf_upd_ne h1]
    · rw [g4.2 2 (by decide) (by decide) (by decide), dT, g3.2 2 (by decide) (by decide) (by decide), dT, g2.2 2 (by decide) (by decide) (by decide), dT, g1.2 2 (by decide) (by decide) (by decide), sf_upd_ne2 (by decide), sf_upd_ne2 (by decide)]
  have plW : ∃ k : Nat, k ≤ L ∧ W (sf_rf 0 0) 5 = (k : Int) := ⟨sf_ek t L j4, ek4.2, p4⟩
  have clsW : ∀ d K, sf_wp (d + 3) none 53 0 [some (.inr (.inl (some (sf_rf 0 0))))] [] (sf_E V) K = K none (sf_E W) := fun d K => by
    have dn : sf_upd (sf_upd V (sf_rf 0 0) 5 ((i + 1 : Nat) : Int)) (sf_rf 0 0) 7 1 (sf_rf (sf_rf 0 0) 1) 4 = (n : Int) := by
      rw [sf_upd_ne (by simp [sf_rf_self]), sf_upd_ne (by simp [sf_rf_self])]
      exact xn
    simp only [q53_0, q53_1, c0, x7]
    rw [q53_4, if_pos hst]
    simp (decide := true) only [q53_17, q53_18, q53_19, q53_22, q53_23, q53_24, q53_27, q53_28, q53_29, c0, x5, or_true, true_and]
    rw [sf_wS (by omega)]
    simp only [q53_32, q53_33, q53_36, q53_37, q53_38, q53_39, q53_42, q53_45, q53_46, q53_47, c0, c2, dn]
    rw [sf_w_small (by omega), e1]
    simp only [q53_50, q53_53, q53_54, q53_57, q53_58, q53_59, q53_61, c0, c2, Option.toList_some, Option.toList_none, List.cons_append, List.nil_append]
    rw [e2]
    simp only [q53_64, q53_67, q53_68, q53_71, q53_72, q53_73, q53_76, c0, c2, Option.toList_some, Option.toList_none, List.cons_append, List.nil_append]
    rw [e3]
    simp only [q53_79, q53_82, q53_83, c0, c2, Option.toList_some, Option.toList_none, List.cons_append, List.nil_append]
    rw [e4]
    simp only [q53_86, Option.toList_some, Option.toList_none, List.cons_append, List.nil_append]
  have x40 : sf_upd (sf_upd V (sf_rf 0 0) 5 ((i + 1 : Nat) : Int)) (sf_rf 0 0) 7 1 (sf_rf 0 0) 4 = 0 := by rw [sf_upd_ne2 (by decide), sf_upd_ne2 (by decide)]; exact J.x4
  have x30 : sf_upd (sf_upd V (sf_rf 0 0) 5 ((i + 1 : Nat) : Int)) (sf_rf 0 0) 7 1 (sf_rf 0 0) 3 = -1 := by rw [sf_upd_ne2 (by decide), sf_upd_ne2 (by decide)]; exact J.x3
  rw [x40] at q1 w1
  rw [x30] at w1
  rw [if_pos rfl] at q1
  -- the reference
  have F0 : sf_FU U (sf_upd (sf_upd U 409 24 ((i + 1 : Nat) : Int)) 409 18 1) := ⟨fun a h _ _ _ _ _ => by rw [sf_upd_ne h, sf_upd_ne h], fun k hk => by rw [sf_upd_ne2 (by omega), sf_upd_ne2 (by omega)]⟩
  have Z0 : ∀ k, ¬ k = 18 → k < 24 → sf_upd (sf_upd U 409 24 ((i + 1 : Nat) : Int)) 409 18 1 409 k = U 409 k := fun k h1 h2 => by rw [sf_upd_ne2 h1, sf_upd_ne2 (by omega)]
  have Y0 : ∀ r, sf_upd (sf_upd U 409 24 ((i + 1 : Nat) : Int)) 409 18 1 (sf_rf 409 r) = U (sf_rf 409 r) := fun r => by rw [sf_upd_ne (by simp [sf_rf_neY]), sf_upd_ne (by simp [sf_rf_neY])]
  obtain ⟨U1, f1, f1', o1, z1⟩ := s109 (U := sf_upd (sf_upd U 409 24 ((i + 1 : Nat) : Int)) 409 18 1) (r := 23) (x := 0) (lo := 0) (hi := (n : Int) - 1) (sf_TY_FU J.y F0) y23 (by rw [sf_y23]; omega) (by rw [sf_upd_ne2 (by decide), sf_upd_eq]) (by omega) (Or.inl (by rw [sf_upd_ne2 (by decide), sf_upd_ne2 (by decide)]; exact h27)) hj1 hk1 hv1 (by decide) (by omega)
  have FU1 : sf_FU U U1 := sf_FU_trans F0 ⟨fun a h1 h2 h3 h4 h5 h6 => f1 a h1 h6, fun k hk => f1' k (by omega)⟩
  have A1 : ∀ r, ¬ r = 23 → U1 (sf_rf 409 r) = U (sf_rf 409 r) := fun r hr => by rw [f1 _ (by simp [sf_rf_neY]) (by simp [sf_rf_inj, hr]), Y0]
  rw [Y0] at o1
  have head1 : ∀ d Y K, sf_wp (d + 4) none 113 0 [some (.inr (.inl (some 409)))] [] (sf_E (sf_mix Y U)) K = sf_wp (d + 3 + 1) none 113 44 [some (.inr (.inl (some 409)))] [.inl (if sf_nb 0 ((n : Int) - 1) j1 k1 v1 = 0 then 1 else 0)] (sf_E (sf_mix Y U1)) K := fun d Y K => by
    have e16 : sf_upd (sf_upd U 409 24 ((i + 1 : Nat) : Int)) 409 18 1 409 16 = (n : Int) := by rw [Z0 16 (by decide) (by decide)]; exact y16
    simp only [q113_0, q113_1, sf_y, sf_mxy, y18]
    rw [q113_4, if_pos hst]
    simp (decide := true) only [q113_13, q113_14, q113_15, q113_18, q113_19, q113_20, q113_23, q113_24, q113_25, sf_y, sf_mxy, sf_mxu, y24, or_true, true_and]
    rw [sf_wS (by omega)]
    simp only [q113_28, q113_29, q113_30, q113_33, q113_34, q113_35, q113_36, q113_39, q113_40, q113_41, sf_y, sf_mxy, e16]
    rw [sf_w_small (by omega)]
    have := z1 d Y (fun r M1 => sf_wp (d + 3 + 1) none 113 44 [some (.inr (.inl (some 409)))] (r.toList ++ []) M1 K)
    refine Eq.trans this ?_
    simp only [Option.toList_some, Option.toList_none, List.cons_append, List.nil_append]
  have bad : ∀ d Y (Z : sf_MV) K, sf_wp (d + 3 + 1) none 113 89 [some (.inr (.inl (some 409)))] [] (sf_E (sf_mix Y Z)) K = K (some (.inl 0)) (sf_E (sf_mix Y Z)) := fun d Y Z K => by
    simp (decide := true) only [q113_89, q113_90, true_or, true_and]
  rcases o1 with ⟨b1, o24, o27, oA⟩ | ⟨b1, o24, o25, oA⟩
  case inr =>
    rw [if_neg b1] at head1
    rw [if_pos ⟨rfl, b1⟩] at w1
    rw [if_neg (by rw [q1]; exact b1), q1] at q2
    rw [if_neg (fun z => b1 (by rw [← q1]; exact z.1)), w1] at w2
    rw [if_neg (by rw [q2]; exact b1), q2] at q3
    rw [if_neg (fun z => b1 (by rw [← q2]; exact z.1)), w2] at w3
    rw [if_neg (by rw [q3]; exact b1), q3] at q4
    rw [if_neg (fun z => b1 (by rw [← q3]; exact z.1)), w3] at w4
    refine ⟨W, U1, 0, ⟨FCW, FU1, fun p hp => ?_, Or.inr ⟨rfl, ?_, ?_, ?_⟩⟩, plW, clsW, fun d Y K => ?_⟩
    · rw [A1 19 (by decide), A1 20 (by decide)]
      exact J.wy p hp
    · rw [q4]; exact b1
    · rw [q4, o25]
    · rw [w4, o24]
    · rw [head1, q113_44, if_pos rfl, bad]
  rw [if_pos b1] at head1
  rw [if_neg (fun z => z.2 b1)] at w1
  rw [b1] at q1
  rw [if_pos q1] at q2
  rw [q1, w1] at w2
  have hv1r := sf_nb_v b1
  obtain ⟨U2, f2, f2', o2, z2⟩ := s109 (U := U1) (r := 23) (x := 1) (lo := 1) (hi := 20) (sf_TY_FU J.y FU1) y23 (by rw [sf_y23]; omega) o24 (by omega) (Or.inr (fun hk => sf_de_end (L - j1) j1 k1 hk1 (by omega))) hj2 hk2 hv2 (by decide) (by decide)
  have FU2 : sf_FU U U2 := sf_FU_trans FU1 ⟨fun a h1 h2 h3 h4 h5 h6 => f2 a h1 h6, fun k hk => f2' k (by omega)⟩
  have A2 : ∀ r, ¬ r = 23 → U2 (sf_rf 409 r) = U (sf_rf 409 r) := fun r hr => by rw [f2 _ (by simp [sf_rf_neY]) (by simp [sf_rf_inj, hr]), A1 r hr]
  have head2 : ∀ d Y K, sf_wp (d + 4) none 113 0 [some (.inr (.inl (some 409)))] [] (sf_E (sf_mix Y U)) K = sf_wp (d + 3 + 1) none 113 59 [some (.inr (.inl (some 409)))] [.inl (if sf_nb 1 20 j2 k2 v2 = 0 then 1 else 0)] (sf_E (sf_mix Y U2)) K := fun d Y K => by
    rw [head1, q113_44, if_neg (by decide)]
    simp only [q113_47, q113_48, q113_49, q113_52, q113_53, q113_54, q113_56, sf_y]
    have := z2 d Y (fun r M1 => sf_wp (d + 3 + 1) none 113 59 [some (.inr (.inl (some 409)))] (r.toList ++ []) M1 K)
    refine Eq.trans this ?_
    simp only [Option.toList_some, Option.toList_none, List.cons_append, List.nil_append]
  rcases o2 with ⟨b2, o24', o27', oA'⟩ | ⟨b2, o24', o25', oA'⟩
  case inr =>
    rw [if_neg b2] at head2
    rw [if_pos ⟨rfl, b2⟩] at w2
    rw [if_neg (by rw [q2]; exact b2), q2] at q3
    rw [if_neg (fun z => b2 (by rw [← q2]; exact z.1)), w2] at w3
    rw [if_neg (by rw [q3]; exact b2), q3] at q4
    rw [if_neg (fun z => b2 (by rw [← q3]; exact z.1)), w3] at w4
    refine ⟨W, U2, 0, ⟨FCW, FU2, fun p hp => ?_, Or.inr ⟨rfl, ?_, ?_, ?_⟩⟩, plW, clsW, fun d Y K => ?_⟩
    · rw [A2 19 (by decide), A2 20 (by decide)]
      exact J.wy p hp
    · rw [q4]; exact b2
    · rw [q4, o25']
    · rw [w4, o24']
    · rw [head2, q113_59, if_pos rfl, bad]
  rw [if_pos b2] at head2
  rw [if_neg (fun z => z.2 b2)] at w2
  rw [b2] at q2
  rw [if_pos q2] at q3
  rw [q2, w2] at w3
  have hv2r := sf_nb_v b2
  obtain ⟨U3, f3, f3', o3, z3⟩ := s109 (U := U2) (r := 23) (x := 2) (lo := 0) (hi := 999) (sf_TY_FU J.y FU2) y23 (by rw [sf_y23]; omega) o24' (by omega) (Or.inr (fun hk => sf_de_end (L - j2) j2 k2 hk2 (by omega))) hj3 hk3 hv3 (by decide) (by decide)
  have FU3 : sf_FU U U3 := sf_FU_trans FU2 ⟨fun a h1 h2 h3 h4 h5 h6 => f3 a h1 h6, fun k hk => f3' k (by omega)⟩
  have A3 : ∀ r, ¬ r = 23 → U3 (sf_rf 409 r) = U (sf_rf 409 r) := fun r hr => by rw [f3 _ (by simp [sf_rf_neY]) (by simp [sf_rf_inj, hr]), A2 r hr]
  have head3 : ∀ d Y K, sf_wp (d + 4) none 113 0 [some (.inr (.inl (some 409)))] [] (sf_E (sf_mix Y U)) K = sf_wp (d + 3 + 1) none 113 75 [some (.inr (.inl (some 409)))] [.inl (if sf_nb 0 999 j3 k3 v3 = 0 then 1 else 0)] (sf_E (sf_mix Y U3)) K := fun d Y K => by
    rw [head2, q113_59, if_neg (by decide)]
    simp only [q113_62, q113_63, q113_64, q113_67, q113_68, q113_69, q113_72, sf_y]
    have := z3 d Y (fun r M1 => sf_wp (d + 3 + 1) none 113 75 [some (.inr (.inl (some 409)))] (r.toList ++ []) M1 K)
    refine Eq.trans this ?_
    simp only [Option.toList_some, Option.toList_none, List.cons_append, List.nil_append]
  rcases o3 with ⟨b3, p24, p27, pA⟩ | ⟨b3, p24, p25, pA⟩
  case inr =>
    rw [if_neg b3] at head3
    rw [if_pos ⟨rfl, b3⟩] at w3
    rw [if_neg (by rw [q3]; exact b3), q3] at q4
    rw [if_neg (fun z => b3 (by rw [← q3]; exact z.1)), w3] at w4
    refine ⟨W, U3, 0, ⟨FCW, FU3, fun p hp => ?_, Or.inr ⟨rfl, ?_, ?_, ?_⟩⟩, plW, clsW, fun d Y K => ?_⟩
    · rw [A3 19 (by decide), A3 20 (by decide)]
      exact J.wy p hp
    · rw [q4]; exact b3
    · rw [q4, p25]
    · rw [w4, p24]
    · rw [head3, q113_75, if_pos rfl, bad]
  rw [if_pos b3] at head3
  rw [if_neg (fun z => z.2 b3)] at w3
  rw [b3] at q3
  rw [if_pos q3] at q4
  rw [q3, w3] at w4
  have hv3r := sf_nb_v b3
  obtain ⟨U4, f4, p4r, o4, z4⟩ := s110 (sf_TY_FU J.y FU3) p24 (by omega) hj4
  have FU4 : sf_FU U U4 := sf_FU_trans FU3 (sf_FU_FR f4)
  have A4 : ∀ r, U4 (sf_rf 409 r) = U3 (sf_rf 409 r) := fun r => f4.1 _ (by simp [sf_rf_neY])
  have WR4 : sf_WR U4 := fun p hp => by
    rw [A4, A4, A3 19 (by decide), A3 20 (by decide)]
    exact J.wy p hp
  have head4 : ∀ d Y K, sf_wp (d + 4) none 113 0 [some (.inr (.inl (some 409)))] [] (sf_E (sf_mix Y U)) K = sf_wp (d + 3 + 1) none 113 82 [some (.inr (.inl (some 409)))] [.inl (if sf_eb t L j4 = 0 then 1 else 0)] (sf_E (sf_mix Y U4)) K := fun d Y K => by
    rw [head3, q113_75, if_neg (by decide)]
    simp only [q113_78, q113_79, sf_y]
    rw [z4 (d + 1)]
    simp only [Option.toList_some, Option.toList_none, List.cons_append, List.nil_append]
  by_cases b5 : sf_eb t L j4 = 0
  case neg =>
    rw [if_neg b5] at head4
    rw [if_pos ⟨rfl, b5⟩] at w4
    have ek := sf_ek_bad (t := t) (L := L) b5
    refine ⟨W, U4, 0, ⟨FCW, FU4, WR4, Or.inr ⟨rfl, ?_, ?_, ?_⟩⟩, plW, clsW, fun d Y K => ?_⟩
    · rw [q4]; exact b5
    · rw [q4]
      rcases o4 with o4 | o4
      · exact absurd o4 b5
      · exact o4.symm
    · rw [w4, p4r, ek]
    · rw [head4, q113_82, if_pos rfl, bad]
  rw [if_pos b5] at head4
  rw [if_neg (fun z => z.2 b5)] at w4
  rw [b5] at q4
  have j4L := sf_eb_lt b5
  refine ⟨W, U4, 1, ⟨FCW, FU4, WR4, Or.inl ⟨rfl, sf_ek t L j4, n, told, 1, by omega, ?_⟩⟩, plW, clsW, fun d Y K => ?_⟩
  · have WA : ∀ k, W (sf_rf (sf_rf (sf_rf (sf_rf 0 0) 1) k) 0) = V (sf_rf (sf_rf (sf_rf (sf_rf 0 0) 1) k) 0) := fun k => by
      have n1 : ¬ sf_rf (sf_rf (sf_rf (sf_rf 0 0) 1) k) 0 = sf_rf 0 0 := by simp [sf_rf_inj, sf_rf_ne0]
      have n2 : ¬ sf_rf (sf_rf (sf_rf (sf_rf 0 0) 1) k) 0 = sf_rf (sf_rf 0 0) 1 := by simp [sf_rf_self2]
      rw [g4.1 _ n1, sf_upd_ne n2, g3.1 _ n1, sf_upd_ne n2, g2.1 _ n1, sf_upd_ne n2, g1.1 _ n1, sf_upd_ne n1, sf_upd_ne n1]
    have nD : ¬ sf_rf (sf_rf 0 0) 1 = sf_rf 0 0 := by simp [sf_rf_self]
    have WD : ∀ k, W (sf_rf (sf_rf 0 0) 1) k = if k = 7 then v3 else if k = 6 then v2 else if k = 5 then v1 else V (sf_rf (sf_rf 0 0) 1) k := fun k => by
      rw [g4.1 _ nD]
      by_cases h7 : k = 7
      · rw [if_pos h7, h7, sf_upd_eq]
      rw [if_neg h7, sf_upd_ne2 h7, g3.1 _ nD]
      by_cases h6 : k = 6
      · rw [if_pos h6, h6, sf_upd_eq]
      rw [if_neg h6, sf_upd_ne2 h6, g2.1 _ nD]
      by_cases h5 : k = 5
      · rw [if_pos h5, h5, sf_upd_eq]
      rw [if_neg h5, sf_upd_ne2 h5, g1.1 _ nD, sf_upd_ne nD, sf_upd_ne nD]
    have WT : ∀ k, ¬ k = 3 → ¬ k = 4 → ¬ k = 5 → W (sf_rf 0 0) k = if k = 7 then 1 else V (sf_rf 0 0) k := fun k h3 h4 h5 => by
      rw [g4.2 k h3 h4 h5, dT, g3.2 k h3 h4 h5, dT, g2.2 k h3 h4 h5, dT, g1.2 k h3 h4 h5]
      by_cases h7 : k = 7
      · rw [if_pos h7, h7, sf_upd_eq]
      · rw [if_neg h7, sf_upd_ne2 h7, sf_upd_ne2 h5]
    have Z7 : ∀ k, ¬ k = 18 → k < 24 → U4 409 k = U 409 k := fun k hk hk2 => by
      rw [f4.2 k hk2, f3' k hk2, f2' k hk2, f1' k hk2, Z0 k hk hk2]
    have Z23 : U4 (sf_rf 409 23) = sf_ru (sf_ru (sf_ru (U (sf_rf 409 23)) 0 v1) 1 v2) 2 v3 := by rw [A4, pA, oA', oA]
    refine sf_J.mk T4 q4 w4 p4 ?_ ?_ ?_ (sf_TY_FU J.y FU4) p4r ?_ ?_ ?_ n5 (by omega) ?_ ?_ ?_ ?_ ?_
    · rw [WT 6 (by decide) (by decide) (by decide), if_neg (by decide)]; exact J.x6
    · rw [WT 7 (by decide) (by decide) (by decide), if_pos rfl]
    · rw [WD, if_neg (by decide), if_neg (by decide), if_neg (by decide)]; exact xn
    · rw [Z7 17 (by decide) (by decide)]; exact J.y17
    · rw [f4.2 18 (by decide), f3' 18 (by decide), f2' 18 (by decide), f1' 18 (by decide), sf_upd_eq]
    · rw [Z7 16 (by decide) (by decide)]; exact J.y16
    · intro p hp
      rw [WA, WA, A4, A4, A3 19 (by decide), A3 20 (by decide)]
      exact J.w p hp
    · intro p hp
      rw [WA, WA]
      exact J.wx p hp
    · exact WR4
    · intro e he
      rw [WA, WA, A4, A4, A3 21 (by decide), A3 22 (by decide)]
      exact J.cc e he
    · rw [WD, WD, WD, Z23, if_neg (show ¬ 5 = 7 by decide), if_neg (show ¬ 5 = 6 by decide), if_pos rfl, if_neg (show ¬ 6 = 7 by decide), if_pos rfl, if_pos rfl]
      refine Or.inr ⟨rfl, ⟨hv1r.1, by omega, ?_⟩, ⟨hv2r.1, hv2r.2, ?_⟩, ⟨hv3r.1, hv3r.2, ?_⟩⟩
      · rw [sf_ru_ne (by decide), sf_ru_ne (by decide), sf_ru_eq]
      · rw [sf_ru_ne (by decide), sf_ru_eq]
      · rw [sf_ru_eq]
  · rw [head4, q113_82, if_neg (by decide)]
    simp (decide := true) only [q113_85, q113_86, q113_90, or_true, true_and]
end SFP34

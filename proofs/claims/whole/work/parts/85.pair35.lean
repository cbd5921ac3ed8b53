/-! a clause: a doing, the reference -/
section SFP33b
variable {V X U : sf_MV} {n : Nat} {t : Nat → Int} {L : Nat}
theorem sf_cdR {i : Nat} {told : Int} (hy : sf_TY U t L) (y24 : U 409 24 = (i : Int)) (y17 : U 409 17 = told) (h27 : U 409 27 = 0) (hi : i < L) {j k1 j2 k2 j3 k3 j4 fw : Nat} {v1 v2 v3 fq : Int}
    (hj0 : sf_sk t (L - (i + 1)) (i + 1) = j) (hk1 : sf_de t (L - j) j = k1) (hv1 : sf_vc t j (L - j) j 0 = v1) (hj2 : sf_sk t (L - k1) k1 = j2) (hk2 : sf_de t (L - j2) j2 = k2) (hv2 : sf_vc t j2 (L - j2) j2 0 = v2) (hj3 : sf_sk t (L - k2) k2 = j3) (hk3 : sf_de t (L - j3) j3 = k3) (hv3 : sf_vc t j3 (L - j3) j3 0 = v3) (hj4 : sf_sk t (L - k3) k3 = j4)
    (hfq : sf_f5 (sf_nb 0 5 j k1 v1) (if sf_tbit told v1 = 0 then 0 else 4) (sf_nb 0 9 j2 k2 v2) (sf_nb 0 6 j3 k3 v3) (sf_eb t L j4) = fq) (hfw : sf_wf5 (sf_nb 0 5 j k1 v1) (if sf_tbit told v1 = 0 then 0 else 4) (sf_nb 0 9 j2 k2 v2) (sf_nb 0 6 j3 k3 v3) j j j2 j3 j4 = fw) :
    ∃ U', sf_FU U U' ∧ (∀ r, ¬ r = 21 → ¬ r = 22 → U' (sf_rf 409 r) = U (sf_rf 409 r)) ∧ (∀ k, ¬ k = 17 → k < 24 → U' 409 k = U 409 k) ∧
      (¬ fq = 0 → U' 409 25 = fq ∧ U' 409 24 = (fw : Int)) ∧
      (fq = 0 → ∃ e : Nat, v1 = (e : Int) ∧ e < 6 ∧ (0 ≤ v2 ∧ v2 ≤ 9) ∧ (0 ≤ v3 ∧ v3 ≤ 6) ∧ (i < j4 ∧ j4 < L) ∧ U' 409 24 = (sf_ek t L j4 : Nat) ∧ U' 409 17 = sf_tn2 told e ∧ U' (sf_rf 409 21) = sf_ru (U (sf_rf 409 21)) e v2 ∧ U' (sf_rf 409 22) = sf_ru (U (sf_rf 409 22)) e v3) ∧
      (∀ d Y K, sf_wp (d + 4) none 112 0 [some (.inr (.inl (some 409))), none, none] [] (sf_E (sf_mix Y U)) K = K (some (.inl (if fq = 0 then 1 else 0))) (sf_E (sf_mix Y U'))) := by
  have y21 := sf_c12_21 sf_y
  have y22 := sf_c12_22 sf_y
  have hL2 := hy.2.1
  have js0 := sf_sk_in (t := t) (L - (i + 1)) (i + 1)
  rw [hj0] at js0
  have hj1 := sf_sk_idem (t := t) (L := L) (i := i + 1) (by omega) hj0
  have ks1 := sf_de_in (t := t) (L - j) j
  rw [hk1] at ks1
  have vs1 := sf_vc_in (t := t) (j := j) (L - j) j 0 ⟨Nat.le_refl _, by omega, by omega, fun _ => by omega, fun _ => by omega, fun _ => rfl⟩
  rw [hv1] at vs1
  have js2 := sf_sk_in (t := t) (L - k1) k1
  rw [hj2] at js2
  have ks2 := sf_de_in (t := t) (L - j2) j2
  rw [hk2] at ks2
  have js3 := sf_sk_in (t := t) (L - k2) k2
  rw [hj3] at js3
  have ks3 := sf_de_in (t := t) (L - j3) j3
  rw [hk3] at ks3
  have js4 := sf_sk_in (t := t) (L - k3) k3
  rw [hj4] at js4
  -- the reference
  have F0 : sf_FRr U (sf_kr (sf_upd U 409 24 ((i + 1 : Nat) : Int)) (i + 1) j) := sf_FRr_trans (sf_FRr_u (by decide)) sf_FRr_kr
  have k24 : sf_kr (sf_upd U 409 24 ((i + 1 : Nat) : Int)) (i + 1) j 409 24 = (j : Int) := sf_kr_24 sf_upd_eq
  have k27 : sf_kr (sf_upd U 409 24 ((i + 1 : Nat) : Int)) (i + 1) j 409 27 = 0 := by
    unfold sf_kr
    by_cases z : j = i + 1
    · rw [if_pos z, sf_upd_ne2 (by decide)]; exact h27
    · rw [if_neg z, sf_upd_eq]
  have U0T := sf_TY_FR hy F0
  have head : ∀ d Y K, sf_wp (d + 4) none 112 0 [some (.inr (.inl (some 409))), none, none] [] (sf_E (sf_mix Y U)) K = sf_wp (d + 3) none 108 0 [some (.inr (.inl (some 409))), some (.inl 0), some (.inl 5), none] [] (sf_E (sf_mix Y (sf_kr (sf_upd U 409 24 ((i + 1 : Nat) : Int)) (i + 1) j))) (fun r M1 => sf_wp (d + 3 + 1) none 112 25 [some (.inr (.inl (some 409))), some (.inl (j : Int)), none] (r.toList ++ []) M1 K) := fun d Y K => by
    simp only [q112_0, q112_1, q112_2, q112_5, q112_6, q112_7, q112_10, q112_11, sf_y, sf_mxy, sf_mxu, y24]
    rw [sf_wS (by omega), s106 (L - (i + 1)) (i + 1) _ (sf_TY_u hy (by decide)) sf_upd_eq rfl (by omega), hj0]
    simp only [q112_14, q112_15, q112_18, q112_19, q112_20, q112_21, q112_22, sf_y, sf_mxy, k24, Option.toList_some, Option.toList_none, List.cons_append, List.nil_append]
  generalize sf_kr (sf_upd U 409 24 ((i + 1 : Nat) : Int)) (i + 1) j = U0 at F0 k24 k27 U0T head
  obtain ⟨U1, ⟨f1, o1⟩, z1⟩ := s108 (lo := 0) (hi := 5) U0T k24 (by omega) (Or.inl k27) hj1 hk1 hv1 (by decide) (by decide)
  have FU1 := sf_FU_trans (sf_FU_FR F0) (sf_FU_FR f1)
  have A1 : ∀ r, U1 (sf_rf 409 r) = U (sf_rf 409 r) := fun r => by
    rw [f1.1 _ (by simp [sf_rf_neY]), F0.1 _ (by simp [sf_rf_neY])]
  have B1 : ∀ k, k < 24 → U1 409 k = U 409 k := fun k hk => by
    rw [f1.2 k hk, F0.2 k hk]
  rcases o1 with ⟨b1, o24, o26, o27⟩ | ⟨b1, o24, o25⟩
  case inr =>
    rw [if_neg b1] at z1
    have hq : fq = sf_nb 0 5 j k1 v1 := by rw [← hfq]; exact if_pos b1
    have hw : fw = j := by rw [← hfw]; exact if_pos b1
    have hq0 : ¬ fq = 0 := by rw [hq]; exact b1
    refine ⟨U1, FU1, fun r _ _ => A1 r, fun k _ hk => B1 k hk, fun _ => ⟨by rw [o25, hq], by rw [o24, hw]⟩, fun z => absurd z hq0, fun d Y K => ?_⟩
    rw [if_neg hq0, head, z1 (d + 1)]
    simp only [q112_25, Option.toList_some, Option.toList_none, List.cons_append, List.nil_append]
    rw [if_pos trivial]
    simp (decide := true) only [q112_28, q112_29, true_or, true_and]
  rw [if_pos b1] at z1
  have hv1r := sf_nb_v b1
  obtain ⟨e, rfl⟩ : ∃ e : Nat, v1 = (e : Int) := ⟨v1.toNat, by omega⟩
  have he : e < 6 := by omega
  have B17 : U1 409 17 = told := by rw [B1 17 (by decide)]; exact y17
  have head1 : ∀ d Y K, sf_wp (d + 4) none 112 0 [some (.inr (.inl (some 409))), none, none] [] (sf_E (sf_mix Y U)) K = if sf_tbit told e = 1 then sf_wp (d + 3 + 1) none 112 47 [some (.inr (.inl (some 409))), some (.inl (j : Int)), some (.inl (e : Int))] [] (sf_E (sf_mix Y U1)) K else sf_wp (d + 3 + 1) none 112 58 [some (.inr (.inl (some 409))), some (.inl (j : Int)), some (.inl (e : Int))] [] (sf_E (sf_mix Y U1)) K := fun d Y K => by
    rw [head, z1 (d + 1)]
    simp only [q112_25, Option.toList_some, Option.toList_none, List.cons_append, List.nil_append]
    rw [if_neg (by decide)]
    simp only [q112_30, q112_31, q112_34, q112_35, q112_36, q112_39, q112_40, q112_41, q112_42, q112_43, sf_y, sf_mxy, o26, B17]
    rw [q112_44]
    rfl
  rw [b1] at hfq hfw
  by_cases b4 : sf_tbit told e = 0
  case neg =>
    have b4' : sf_tbit told e = 1 := by
      rcases sf_tbit01 (told := told) (e := (e : Int)) with z | z
      · exact absurd z b4
      · exact z
    rw [if_neg b4] at hfq hfw
    have hq : fq = 4 := by rw [← hfq]; rfl
    have hw : fw = j := by rw [← hfw]; rfl
    have hq0 : ¬ fq = 0 := by rw [hq]; decide
    refine ⟨sf_upd (sf_upd U1 409 24 (j : Int)) 409 25 4, sf_FU_trans FU1 (sf_FU_FR (sf_FRr_trans (sf_FRr_u (by decide)) (sf_FRr_u (by decide)))), fun r _ _ => by rw [sf_upd_ne (by simp [sf_rf_neY]), sf_upd_ne (by simp [sf_rf_neY]), A1], fun k _ hk => by rw [sf_upd_ne2 (by omega), sf_upd_ne2 (by omega), B1 k hk], fun _ => ⟨by rw [sf_upd_eq, hq], by rw [sf_upd_ne2 (by decide), sf_upd_eq, hw]⟩, fun z => absurd z hq0, fun d Y K => ?_⟩
    rw [if_neg hq0, head1, if_pos b4']
    simp only [q112_47, q112_48, q112_49, q112_52, q112_53, q112_54, sf_y, sf_mxu]
    rw [s107]
    simp (decide := true) only [q112_57, true_or, true_and, Option.toList_some, Option.toList_none, List.cons_append, List.nil_append]
  rw [if_pos b4] at hfq hfw
  -- the second number
  have F1c : sf_FU U1 (sf_upd U1 409 17 (sf_tn2 told e)) := ⟨fun a h _ _ _ _ _ => sf_upd_ne h, fun k hk => sf_upd_ne2 (by omega)⟩
  have FU1c := sf_FU_trans FU1 F1c
  obtain ⟨U2, f2, f2', o2, z2⟩ := s109 (U := sf_upd U1 409 17 (sf_tn2 told e)) (r := 21) (x := e) (lo := 0) (hi := 9) (sf_TY_FU hy FU1c) y21 (by rw [sf_y21]; omega) (by rw [sf_upd_ne2 (by decide)]; exact o24) (by omega) (Or.inr (fun hk => sf_de_end (L - j) j k1 hk1 (by omega))) hj2 hk2 hv2 (by decide) (by decide)
  have FU2 : sf_FU U U2 := sf_FU_trans FU1c ⟨fun a h1 h2 h3 h4 h5 h6 => f2 a h1 h4, fun k hk => f2' k (by omega)⟩
  have A2 : ∀ r, ¬ r = 21 → U2 (sf_rf 409 r) = U (sf_rf 409 r) := fun r hr => by
    rw [f2 _ (by simp [sf_rf_neY]) (by simp [sf_rf_inj, hr]), sf_upd_ne (by simp [sf_rf_neY]), A1]
  have C2 : ∀ k, ¬ k = 17 → k < 24 → U2 409 k = U 409 k := fun k h1 h2 => by rw [f2' k h2, sf_upd_ne2 h1, B1 k h2]
  have A2c : sf_upd U1 409 17 (sf_tn2 told e) (sf_rf 409 21) = U (sf_rf 409 21) := by rw [sf_upd_ne (by simp [sf_rf_neY]), A1]
  rw [A2c] at o2
  have head2 : ∀ d Y K, sf_wp (d + 4) none 112 0 [some (.inr (.inl (some 409))), none, none] [] (sf_E (sf_mix Y U)) K = sf_wp (d + 3 + 1) none 112 82 [some (.inr (.inl (some 409))), some (.inl (j : Int)), some (.inl (e : Int))] [.inl (if sf_nb 0 9 j2 k2 v2 = 0 then 1 else 0)] (sf_E (sf_mix Y U2)) K := fun d Y K => by
    rw [head1, if_neg (by rw [b4]; decide)]
    have et : (Int32.ofInt told ||| Int32.ofInt (Int32.ofInt 1 <<< (Int32.ofInt (e : Int) &&& 31)).toInt).toInt = sf_tn2 told e := rfl
    simp only [q112_58, q112_59, q112_60, q112_63, q112_64, q112_65, q112_66, q112_67, q112_70, q112_71, q112_72, q112_75, q112_76, q112_77, q112_79, sf_y, sf_mxy, sf_mxu, B17, et]
    rw [z2]
    simp only [Option.toList_some, Option.toList_none, List.cons_append, List.nil_append]
  rcases o2 with ⟨b2, o24', o27', oA'⟩ | ⟨b2, o24', o25', oA'⟩
  case inr =>
    rw [if_neg b2] at head2
    have hq : fq = sf_nb 0 9 j2 k2 v2 := by rw [← hfq]; exact if_pos b2
    have hw : fw = j2 := by rw [← hfw]; exact if_pos b2
    have hq0 : ¬ fq = 0 := by rw [hq]; exact b2
    refine ⟨U2, FU2, fun r h1 _ => A2 r h1, C2, fun _ => ⟨by rw [o25', hq], by rw [o24', hw]⟩, fun z => absurd z hq0, fun d Y K => ?_⟩
    rw [if_neg hq0, head2, q112_82, if_pos rfl]
    simp (decide := true) only [q112_111, q112_112, true_or, true_and]
  rw [if_pos b2] at head2
  have hv2r := sf_nb_v b2
  rw [b2] at hfq hfw
  obtain ⟨U3, f3, f3', o3, z3⟩ := s109 (U := U2) (r := 22) (x := e) (lo := 0) (hi := 6) (sf_TY_FU hy FU2) y22 (by rw [sf_y22]; omega) o24' (by omega) (Or.inr (fun hk => sf_de_end (L - j2) j2 k2 hk2 (by omega))) hj3 hk3 hv3 (by decide) (by decide)
  have FU3 : sf_FU U U3 := sf_FU_trans FU2 ⟨fun a h1 h2 h3 h4 h5 h6 => f3 a h1 h5, fun k hk => f3' k (by omega)⟩
  have A3 : ∀ r, ¬ r = 22 → U3 (sf_rf 409 r) = U2 (sf_rf 409 r) := fun r hr => f3 _ (by simp [sf_rf_neY]) (by simp [sf_rf_inj, hr])
  have C3 : ∀ k, ¬ k = 17 → k < 24 → U3 409 k = U 409 k := fun k h1 h2 => by rw [f3' k h2, C2 k h1 h2]
  rw [A2 22 (by decide)] at o3
  have head3 : ∀ d Y K, sf_wp (d + 4) none 112 0 [some (.inr (.inl (some 409))), none, none] [] (sf_E (sf_mix Y U)) K = sf_wp (d + 3 + 1) none 112 97 [some (.inr (.inl (some 409))), some (.inl (j : Int)), some (.inl (e : Int))] [.inl (if sf_nb 0 6 j3 k3 v3 = 0 then 1 else 0)] (sf_E (sf_mix Y U3)) K := fun d Y K => by
    rw [head2, q112_82, if_neg (by decide)]
    simp only [q112_85, q112_86, q112_87, q112_90, q112_91, q112_92, q112_94, sf_y]
    rw [z3]
    simp only [Option.toList_some, Option.toList_none, List.cons_append, List.nil_append]
  rcases o3 with ⟨b3, p24, p27, pA⟩ | ⟨b3, p24, p25, pA⟩
  case inr =>
    rw [if_neg b3] at head3
    have hq : fq = sf_nb 0 6 j3 k3 v3 := by rw [← hfq]; exact if_pos b3
    have hw : fw = j3 := by rw [← hfw]; exact if_pos b3
    have hq0 : ¬ fq = 0 := by rw [hq]; exact b3
    refine ⟨U3, FU3, fun r h1 h2 => by rw [A3 r h2, A2 r h1], C3, fun _ => ⟨by rw [p25, hq], by rw [p24, hw]⟩, fun z => absurd z hq0, fun d Y K => ?_⟩
    rw [if_neg hq0, head3, q112_97, if_pos rfl]
    simp (decide := true) only [q112_111, q112_112, true_or, true_and]
  rw [if_pos b3] at head3
  have hv3r := sf_nb_v b3
  rw [b3] at hfq hfw
  obtain ⟨U4, f4, p4r, o4, z4⟩ := s110 (sf_TY_FU hy FU3) p24 (by omega) hj4
  have FU4 : sf_FU U U4 := sf_FU_trans FU3 (sf_FU_FR f4)
  have A4 : ∀ r, U4 (sf_rf 409 r) = U3 (sf_rf 409 r) := fun r => f4.1 _ (by simp [sf_rf_neY])
  have hq : fq = sf_eb t L j4 := by rw [← hfq]; rfl
  have hw : fw = j4 := by rw [← hfw]; rfl
  refine ⟨U4, FU4, fun r h1 h2 => by rw [A4, A3 r h2, A2 r h1], fun k h1 h2 => by rw [f4.2 k h2, C3 k h1 h2], fun z => ?_, fun z => ⟨e, rfl, he, hv2r, hv3r, ⟨by omega, sf_eb_lt (by rw [← hq]; exact z)⟩, p4r, by rw [f4.2 17 (by decide), f3' 17 (by decide), f2' 17 (by decide), sf_upd_eq], by rw [A4, A3 21 (by decide), oA'], by rw [A4, pA]⟩, fun d Y K => ?_⟩
  · rw [hq] at z
    rcases o4 with o4 | o4
    · exact absurd o4 z
    · exact ⟨by rw [o4, hq], by rw [p4r, hw, sf_ek_bad z]⟩
  · rw [head3, q112_97, if_neg (by decide)]
    simp only [q112_100, q112_101, sf_y]
    rw [z4 (d + 1), ← hq]
    simp only [Option.toList_some, Option.toList_none, List.cons_append, List.nil_append]
    by_cases z : fq = 0
    · rw [if_pos z, q112_104, if_neg (by decide)]
      simp (decide := true) only [q112_107, q112_108, q112_112, or_true, true_and]
    · rw [if_neg z, q112_104, if_pos rfl]
      simp (decide := true) only [q112_111, q112_112, true_or, true_and]
end SFP33b

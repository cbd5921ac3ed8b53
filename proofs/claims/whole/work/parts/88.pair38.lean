/-! all clauses -/
section SFP38
variable {V X U : sf_MV} {n : Nat} {t : Nat → Int} {L : Nat}
theorem sf_TX_FC {V' : sf_MV} (h : sf_TX V t L) (g : sf_FC V V') : sf_TX V' t L := by
  obtain ⟨h1, h2, h3⟩ := h
  refine ⟨by rw [g.2]; exact h1, h2, fun j hj => ?_⟩
  rw [g.1 _ (by simp [sf_rf_inj, sf_rf_ne0]) (by simp [sf_rf_inj, sf_rf_self]) (by simp [sf_rf_inj, sf_self_rf, sf_rf_self]) (by simp [sf_rf_inj, sf_self_rf, sf_rf_self]) (by simp [sf_rf_inj, sf_self_rf, sf_rf_self]) (by simp [sf_rf_inj, sf_self_rf, sf_rf_self])]
  exact h3 j hj
theorem sf_J_27 {i : Nat} {told st v : Int} (J : sf_J V U t L i n told st) : sf_J V (sf_upd U 409 27 v) t L i n told st := by
  have e : ∀ r, sf_upd U 409 27 v (sf_rf 409 r) = U (sf_rf 409 r) := fun r => sf_upd_ne (by simp [sf_rf_neY])
  refine sf_J.mk J.x J.x4 J.x3 J.x5 J.x6 J.x7 J.xn (sf_TY_u J.y (by decide)) (by rw [sf_upd_ne2 (by decide)]; exact J.y24) (by rw [sf_upd_ne2 (by decide)]; exact J.y17) (by rw [sf_upd_ne2 (by decide)]; exact J.y18) (by rw [sf_upd_ne2 (by decide)]; exact J.y16) J.n5 J.iL ?_ J.wx ?_ ?_ ?_
  · rw [e, e]; exact J.w
  · rw [e, e]; exact J.wy
  · rw [e, e]; exact J.cc
  · rw [e]; exact J.s
theorem sf_J_sk {i j : Nat} {told st : Int} (J : sf_J V U t L i n told st) (hj : j ≤ L) : sf_J (sf_upd V (sf_rf 0 0) 5 (j : Int)) (sf_kr U i j) t L j n told st := by
  have e : ∀ r, sf_kr U i j (sf_rf 409 r) = U (sf_rf 409 r) := fun r => sf_kr_a (by simp [sf_rf_neY])
  have eD : sf_upd V (sf_rf 0 0) 5 (j : Int) (sf_rf (sf_rf 0 0) 1) = V (sf_rf (sf_rf 0 0) 1) := sf_upd_ne (by simp [sf_rf_self])
  have eA : ∀ k, sf_upd V (sf_rf 0 0) 5 (j : Int) (sf_rf (sf_rf (sf_rf (sf_rf 0 0) 1) k) 0) = V (sf_rf (sf_rf (sf_rf (sf_rf 0 0) 1) k) 0) := fun k => sf_upd_ne (by simp [sf_rf_inj, sf_rf_ne0])
  refine sf_J.mk (sf_TX_5 J.x) (by rw [sf_upd_ne2 (by decide)]; exact J.x4) (by rw [sf_upd_ne2 (by decide)]; exact J.x3) sf_upd_eq (by rw [sf_upd_ne2 (by decide)]; exact J.x6) (by rw [sf_upd_ne2 (by decide)]; exact J.x7) (by rw [eD]; exact J.xn) (sf_TY_kr J.y) (sf_kr_24 J.y24) (by rw [sf_kr_k (by decide) (by decide)]; exact J.y17) (by rw [sf_kr_k (by decide) (by decide)]; exact J.y18) (by rw [sf_kr_k (by decide) (by decide)]; exact J.y16) J.n5 hj ?_ ?_ ?_ ?_ ?_
  · rw [eA, eA, e, e]; exact J.w
  · rw [eA, eA]; exact J.wx
  · rw [e, e]; exact J.wy
  · rw [eA, eA, e, e]; exact J.cc
  · rw [eD, e]; exact J.s
theorem sf_clause {i : Nat} {told st : Int} (J : sf_J V U t L i n told st) (hi : i < L) :
    ∃ V' U' good, sf_CL V U V' U' t L i good ∧ (∃ k : Nat, k ≤ L ∧ V' (sf_rf 0 0) 5 = (k : Int)) ∧
      (∀ K, sf_wp 17 none 50 0 [some (.inr (.inl (some (sf_rf 0 0)))), none] [] (sf_E V) K = K none (sf_E V')) ∧
      (∀ Y K l1 l2, sf_wp 18 none 114 69 [some (.inr (.inl (some 409))), l1, l2] [] (sf_E (sf_mix Y U)) K = sf_wp 18 none 114 128 [some (.inr (.inl (some 409))), l1, some (.inl (t i))] [.inl good] (sf_E (sf_mix Y U')) K) := by
  obtain ⟨c0, c1, c2⟩ := sf_txt
  have ll := sf_txLen
  have y13 := sf_c12_13 sf_y
  have hL2 := J.x.2.1
  have rd : sf_rd V (sf_rf (sf_rf (sf_rf 0 0) 0) 0) (i : Int) = t i := by
    rw [sf_rd_nat (by omega), (J.x.2.2 i hi).1]
  have b : i < 200 := by omega
  have J0 := sf_J_27 (v := 0) J
  have F0 : sf_FU U (sf_upd U 409 27 0) := sf_FU_FR (sf_FRr_u (by decide))
  have e24 := J0.y24
  have e13 := (J0.y.2.2 i hi).1
  have head : ∀ K, sf_wp 17 none 50 0 [some (.inr (.inl (some (sf_rf 0 0)))), none] [] (sf_E V) K = sf_wp (16 + 1) none 50 12 [some (.inr (.inl (some (sf_rf 0 0)))), some (.inl (t i))] [] (sf_E V) K := fun K => by
    simp only [q50_0, q50_1, q50_4, q50_5, q50_8, c0, c1, J.x5, s31, rd, Option.toList_some, Option.toList_none, List.cons_append, List.nil_append]
    simp only [q50_11]
  have rhead : ∀ Y K l1 l2, sf_wp 18 none 114 69 [some (.inr (.inl (some 409))), l1, l2] [] (sf_E (sf_mix Y U)) K = sf_wp 18 none 114 84 [some (.inr (.inl (some 409))), l1, some (.inl (t i))] [] (sf_E (sf_mix Y (sf_upd U 409 27 0))) K := fun Y K l1 l2 => by
    simp (decide := true) only [q114_69, q114_70, q114_71, q114_74, q114_75, q114_78, q114_79, q114_82, q114_83, sf_y, y13, sf_y13, sf_mxy, sf_mxr, sf_mxu, e24, e13, sf_bd, b, Int.toNat_natCast, true_or, true_and]
  have lift : ∀ {V' U' : sf_MV} {good : Int}, sf_CL V (sf_upd U 409 27 0) V' U' t L i good → sf_CL V U V' U' t L i good := fun h => ⟨h.1, sf_FU_trans F0 h.2.1, h.2.2⟩
  by_cases hp : t i = 112
  · obtain ⟨V', U', good, h1, h2, h3, h4⟩ := sf_clp J0 hi sf_upd_eq
    refine ⟨V', U', good, lift h1, h2, fun K => ?_, fun Y K l1 l2 => ?_⟩
    · rw [head]
      simp only [q50_12, q50_13, q50_15]
      rw [if_pos hp]
      simp only [q50_18, q50_19, c0, h3 13, q50_22, q50_60, Option.toList_some, Option.toList_none, List.cons_append, List.nil_append]
    · rw [rhead]
      simp only [q114_84, q114_85, q114_87]
      rw [if_pos hp]
      simp only [q114_90, q114_91, sf_y, h4 13, q114_94, Option.toList_some, Option.toList_none, List.cons_append, List.nil_append]
  by_cases hd : t i = 100
  · obtain ⟨V', U', good, h1, h2, h3, h4⟩ := sf_cld J0 hi sf_upd_eq
    refine ⟨V', U', good, lift h1, h2, fun K => ?_, fun Y K l1 l2 => ?_⟩
    · rw [head]
      simp only [q50_12, q50_13, q50_15]
      rw [if_neg hp]
      simp only [q50_25, q50_26, q50_28]
      rw [if_pos hd]
      simp only [q50_31, q50_32, c0, h3 13, q50_35, q50_60, Option.toList_some, Option.toList_none, List.cons_append, List.nil_append]
    · rw [rhead]
      simp only [q114_84, q114_85, q114_87]
      rw [if_neg hp]
      simp only [q114_97, q114_98, q114_100]
      rw [if_pos hd]
      simp only [q114_103, q114_104, sf_y, h4 13, q114_107, Option.toList_some, Option.toList_none, List.cons_append, List.nil_append]
  by_cases hs : t i = 115
  · obtain ⟨V', U', good, h1, h2, h3, h4⟩ := sf_cls2 J0 hi sf_upd_eq
    refine ⟨V', U', good, lift h1, h2, fun K => ?_, fun Y K l1 l2 => ?_⟩
    · rw [head]
      simp only [q50_12, q50_13, q50_15]
      rw [if_neg hp]
      simp only [q50_25, q50_26, q50_28]
      rw [if_neg hd]
      simp only [q50_38, q50_39, q50_41]
      rw [if_pos hs]
      simp only [q50_44, q50_45, c0, h3 13, q50_48, q50_60, Option.toList_some, Option.toList_none, List.cons_append, List.nil_append]
    · rw [rhead]
      simp only [q114_84, q114_85, q114_87]
      rw [if_neg hp]
      simp only [q114_97, q114_98, q114_100]
      rw [if_neg hd]
      simp only [q114_110, q114_111, q114_113]
      rw [if_pos hs]
      simp only [q114_116, q114_117, sf_y, h4 13, q114_120, Option.toList_some, Option.toList_none, List.cons_append, List.nil_append]
  · refine ⟨sf_bl V 1 i, sf_upd (sf_upd U 409 27 0) 409 25 1, 0, lift ⟨sf_FC_FT sf_FT_bl, sf_FU_FR (sf_FRr_u (by decide)), fun p hp => ?_, Or.inr ⟨rfl, ?_, ?_, ?_⟩⟩, ⟨i, J.iL, by rw [sf_bl_ne2 (by decide) (by decide)]; exact J.x5⟩, fun K => ?_, fun Y K l1 l2 => ?_⟩
    · rw [sf_upd_ne (by simp [sf_rf_neY]), sf_upd_ne (by simp [sf_rf_neY])]
      exact J0.wy p hp
    · rw [sf_bl_4, if_pos J.x4]; decide
    · rw [sf_bl_4, if_pos J.x4, sf_upd_eq]
    · rw [sf_bl_3, if_pos ⟨J.x4, by decide⟩, sf_upd_ne2 (by decide)]
      exact e24.symm
    · rw [head]
      simp only [q50_12, q50_13, q50_15]
      rw [if_neg hp]
      simp only [q50_25, q50_26, q50_28]
      rw [if_neg hd]
      simp only [q50_38, q50_39, q50_41]
      rw [if_neg hs]
      simp only [q50_51, q50_52, q50_53, q50_54, q50_57, c0, J.x5]
      rw [s58 (by decide)]
      simp only [q50_60, Option.toList_some, Option.toList_none, List.cons_append, List.nil_append]
    · rw [rhead]
      simp only [q114_84, q114_85, q114_87]
      rw [if_neg hp]
      simp only [q114_97, q114_98, q114_100]
      rw [if_neg hd]
      simp only [q114_110, q114_111, q114_113]
      rw [if_neg hs]
      simp only [q114_123, q114_124, q114_125, sf_y]
      rw [s107]
      simp only [Option.toList_some, Option.toList_none, List.cons_append, List.nil_append]
def sf_RD (V U V' U' : sf_MV) (t : Nat → Int) (L : Nat) (good : Int) : Prop := sf_FC V V' ∧ sf_FU U U' ∧ sf_WR U' ∧ ((good = 1 ∧ ∃ i' n' told' st', sf_J V' U' t L i' n' told' st') ∨ (good = 0 ∧ sf_BB V' U'))
theorem sf_rdL : ∀ (m : Nat) (V U : sf_MV) (i n : Nat) (told st : Int), L - i ≤ m → sf_J V U t L i n told st →
    ∃ V' U' good, sf_RD V U V' U' t L good ∧
      (∀ K (x : Nat), x + (L - i) ≤ 200 → sf_wp 18 none 49 38 [some (.inr (.inl (some (sf_rf 0 0)))), some (.inl (x : Int))] [] (sf_E V) K = K (some (.inl (V' (sf_rf 0 0) 4))) (sf_E V')) ∧
      (∀ Y K l2, sf_wp 18 none 114 54 [some (.inr (.inl (some 409))), some (.inl 1), l2] [] (sf_E (sf_mix Y U)) K = K (some (.inl good)) (sf_E (sf_mix Y U'))) := by
  obtain ⟨c0, c1, c2⟩ := sf_txt
  have done : ∀ (V U : sf_MV) (i n : Nat) (told st : Int), L ≤ i → sf_J V U t L i n told st → ∃ V' U' good, sf_RD V U V' U' t L good ∧
      (∀ K (x : Nat), x + (L - i) ≤ 200 → sf_wp 18 none 49 38 [some (.inr (.inl (some (sf_rf 0 0)))), some (.inl (x : Int))] [] (sf_E V) K = K (some (.inl (V' (sf_rf 0 0) 4))) (sf_E V')) ∧
      (∀ Y K l2, sf_wp 18 none 114 54 [some (.inr (.inl (some 409))), some (.inl 1), l2] [] (sf_E (sf_mix Y U)) K = K (some (.inl good)) (sf_E (sf_mix Y U'))) := fun V U i n told st hL J => by
    refine ⟨V, U, 1, ⟨⟨fun _ _ _ _ _ _ _ => rfl, rfl⟩, ⟨fun _ _ _ _ _ _ _ => rfl, fun _ _ => rfl⟩, J.wy, Or.inl ⟨rfl, i, n, told, st, J⟩⟩, fun K x hx => ?_, fun Y K l2 => ?_⟩
    · simp only [q49_38, q49_39, q49_42]
      by_cases q : 200 ≤ x
      · rw [if_pos (by omega)]
        simp only [q49_77, q49_78, q49_81, c0]
      · rw [if_neg (by omega)]
        simp only [q49_45, q49_46, q49_49, q49_50, q49_53, c0, J.x5, J.x.1]
        rw [if_pos (by omega)]
        simp only [q49_77, q49_78, q49_81, c0]
    · simp only [q114_54]
      rw [q114_55, if_neg (by decide)]
      simp only [q114_58, q114_59, q114_62, q114_63, q114_66, sf_y, sf_mxy, J.y24, J.y.1]
      rw [if_pos (by omega)]
      simp (decide := true) only [q114_140, q114_141, or_true, true_and]
  intro m
  induction m with
  | zero =>
    intro V U i n told st hm J
    exact done V U i n told st (by omega) J
  | succ m ih =>
    intro V U i n told st hm J
    by_cases hL : L ≤ i
    · exact done V U i n told st hL J
    have hi : i < L := by omega
    have hL2 := J.x.2.1
    obtain ⟨V1, U1, g1, ⟨fc, fu, wr, out⟩, ⟨k, hk, p1⟩, e1, z1⟩ := sf_clause J hi
    have T1 := sf_TX_FC J.x fc
    have ks := sf_sk_in (t := t) (L - k) k
    have cls : ∀ K (x : Nat), x + (L - i) ≤ 200 → sf_wp 18 none 49 38 [some (.inr (.inl (some (sf_rf 0 0)))), some (.inl (x : Int))] [] (sf_E V) K = sf_wp 18 none 49 74 [some (.inr (.inl (some (sf_rf 0 0)))), some (.inl ((x + 1 : Nat) : Int))] [] (sf_E (sf_upd V1 (sf_rf 0 0) 5 (sf_sk t (L - k) k : Nat))) K := fun K x hx => by
      simp only [q49_38, q49_39, q49_42]
      rw [if_neg (by omega)]
      simp only [q49_45, q49_46, q49_49, q49_50, q49_53, c0, J.x5, J.x.1]
      rw [if_neg (by omega)]
      simp only [q49_56, q49_57, c0, J.x4]
      rw [q49_60, if_pos rfl]
      simp only [q49_63, q49_64, c0, e1, Option.toList_some, Option.toList_none, List.cons_append, List.nil_append]
      simp only [q49_67, q49_68, c0]
      rw [s56 (L - k) k V1 T1 p1 rfl hk]
      simp only [q49_71, Option.toList_some, Option.toList_none, List.cons_append, List.nil_append]
      rw [sf_wS (by omega)]
    have ref : ∀ Y K l2, sf_wp 18 none 114 54 [some (.inr (.inl (some 409))), some (.inl 1), l2] [] (sf_E (sf_mix Y U)) K = sf_wp 18 none 114 128 [some (.inr (.inl (some 409))), some (.inl 1), some (.inl (t i))] [.inl g1] (sf_E (sf_mix Y U1)) K := fun Y K l2 => by
      simp only [q114_54]
      rw [q114_55, if_neg (by decide)]
      simp only [q114_58, q114_59, q114_62, q114_63, q114_66, sf_y, sf_mxy, J.y24, J.y.1]
      rw [if_neg (by omega)]
      exact z1 Y K _ _
    rcases out with ⟨hg, i1, n1, told1, st1, hi1, J1⟩ | ⟨hg, hB⟩
    · have hki : (k : Int) = (i1 : Int) := by rw [← p1]; exact J1.x5
      have hki' : k = i1 := by omega
      subst hki'
      have J2 := sf_J_sk (j := sf_sk t (L - k) k) J1 (by omega)
      obtain ⟨V', U', good, ⟨fc2, fu2, wr2, out2⟩, h1, h2⟩ := ih _ _ _ _ _ _ (by omega) J2
      refine ⟨V', U', good, ⟨sf_FC_trans (sf_FC_trans fc (sf_FC_FT sf_FT_5)) fc2, sf_FU_trans (sf_FU_trans fu (sf_FU_FR sf_FRr_kr)) fu2, wr2, out2⟩, fun K x hx => ?_, fun Y K l2 => ?_⟩
      · rw [cls K x hx, q49_74]
        exact h1 K (x + 1) (by omega)
      · rw [ref, hg]
        simp only [q114_128, q114_129]
        rw [q114_130, if_neg (by decide)]
        simp only [q114_133, q114_134, sf_y]
        rw [s106 (L - k) k U1 J1.y J1.y24 rfl hk]
        simp only [Option.toList_some, Option.toList_none, List.cons_append, List.nil_append]
        rw [q114_137]
        exact h2 Y K _
    · obtain ⟨b1, b2, b3⟩ := hB
      have n4 : sf_upd V1 (sf_rf 0 0) 5 (sf_sk t (L - k) k : Nat) (sf_rf 0 0) 4 = V1 (sf_rf 0 0) 4 := sf_upd_ne2 (by decide)
      have n3 : sf_upd V1 (sf_rf 0 0) 5 (sf_sk t (L - k) k : Nat) (sf_rf 0 0) 3 = V1 (sf_rf 0 0) 3 := sf_upd_ne2 (by decide)
      refine ⟨sf_upd V1 (sf_rf 0 0) 5 (sf_sk t (L - k) k : Nat), U1, 0, ⟨sf_FC_trans fc (sf_FC_FT sf_FT_5), fu, wr, Or.inr ⟨rfl, by rw [n4]; exact b1, by rw [n4]; exact b2, by rw [n3]; exact b3⟩⟩, fun K x hx => ?_, fun Y K l2 => ?_⟩
      · rw [cls K x hx, q49_74]
        have T2 : sf_TX (sf_upd V1 (sf_rf 0 0) 5 (sf_sk t (L - k) k : Nat)) t L := sf_TX_5 T1
        have p5 : sf_upd V1 (sf_rf 0 0) 5 (sf_sk t (L - k) k : Nat) (sf_rf 0 0) 5 = (sf_sk t (L - k) k : Nat) := sf_upd_eq
        have ret : sf_wp 18 none 49 77 [some (.inr (.inl (some (sf_rf 0 0)))), some (.inl ((x + 1 : Nat) : Int))] [] (sf_E (sf_upd V1 (sf_rf 0 0) 5 (sf_sk t (L - k) k : Nat))) K = K (some (.inl (sf_upd V1 (sf_rf 0 0) 5 (sf_sk t (L - k) k : Nat) (sf_rf 0 0) 4))) (sf_E (sf_upd V1 (sf_rf 0 0) 5 (sf_sk t (L - k) k : Nat))) := by
          simp only [q49_77, q49_78, q49_81, c0]
        simp only [q49_38, q49_39, q49_42]
        by_cases q : 200 ≤ x + 1
        · rw [if_pos (by omega)]
          exact ret
        · rw [if_neg (by omega)]
          simp only [q49_45, q49_46, q49_49, q49_50, q49_53, c0, p5, T2.1]
          by_cases q2 : L ≤ sf_sk t (L - k) k
          · rw [if_pos (by omega)]
            exact ret
          · rw [if_neg (by omega)]
            simp only [q49_56, q49_57, c0]
            rw [q49_60, if_neg (by rw [n4]; exact b1)]
            exact ret
      · rw [ref, hg]
        simp only [q114_128, q114_129]
        rw [q114_130, if_pos rfl, q114_137]
        simp only [q114_54]
        rw [q114_55, if_pos rfl]
        simp (decide := true) only [q114_140, q114_141, true_or, true_and]
end SFP38

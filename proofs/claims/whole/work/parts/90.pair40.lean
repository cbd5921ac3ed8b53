/-! the whole text read by both -/
section SFP40
variable {V X U : sf_MV} {n nx c ce cf cg : Nat} {t : Nat → Int} {L : Nat}
theorem sf_readAll (R : sf_RR V n nx c ce cf cg) : ∃ V' U' good, sf_RD V V V' U' (V (sf_rf 409 13)) cg good ∧
    (∀ K, sf_wp 18 none 49 0 [some (.inr (.inl (some (sf_rf 0 0)))), none] [] (sf_E V) K = K (some (.inl (V' (sf_rf 0 0) 4))) (sf_E V')) ∧
    (∀ Y K, sf_wp 18 none 114 0 [some (.inr (.inl (some 409))), none, none] [] (sf_E (sf_mix Y V)) K = K (some (.inl good)) (sf_E (sf_mix Y U'))) := by
  obtain ⟨c0, c1, c2⟩ := sf_txt
  have hg := R.g
  have TXV : sf_TX V (V (sf_rf 409 13)) cg := ⟨hg.x, hg.c200, fun j hj => hg.e j hj⟩
  have TYV : sf_TY V (V (sf_rf 409 13)) cg := ⟨hg.y, hg.c200, fun j hj => ⟨rfl, (hg.e j hj).2⟩⟩
  -- the class's beginning
  generalize hVe : sf_un V (sf_rf (sf_rf 0 0) 1) = Ve
  have neT : ∀ a, ¬ a = sf_rf (sf_rf 0 0) 1 → (∀ k, ¬ a = sf_rf (sf_rf (sf_rf (sf_rf 0 0) 1) k) 0) → Ve a = V a := fun a h1 h2 => by
    rw [← hVe]
    unfold sf_un
    rw [sf_put_ne (h2 3), sf_put_ne (h2 2), sf_put_ne (h2 1), sf_put_ne (h2 0), sf_upd_ne h1, sf_upd_ne h1, sf_upd_ne h1, sf_upd_ne h1]
  have VeT : Ve (sf_rf 0 0) = V (sf_rf 0 0) := neT _ (by simp [sf_self_rf]) (fun k => by simp [sf_rf_inj, sf_0ne_rf])
  have VeD : ∀ k, Ve (sf_rf (sf_rf 0 0) 1) k = if k = 7 then 20 else if k = 6 then 5 else if k = 5 then 0 else if k = 4 then 0 else V (sf_rf (sf_rf 0 0) 1) k := fun k => by
    have nD : ∀ j, ¬ sf_rf (sf_rf 0 0) 1 = sf_rf (sf_rf (sf_rf (sf_rf 0 0) 1) j) 0 := fun j => by simp [sf_self2_rf]
    rw [← hVe]
    unfold sf_un
    rw [sf_put_ne (nD 3), sf_put_ne (nD 2), sf_put_ne (nD 1), sf_put_ne (nD 0)]
    by_cases h7 : k = 7
    · rw [if_pos h7, h7, sf_upd_eq]
    rw [if_neg h7, sf_upd_ne2 h7]
    by_cases h6 : k = 6
    · rw [if_pos h6, h6, sf_upd_eq]
    rw [if_neg h6, sf_upd_ne2 h6]
    by_cases h5 : k = 5
    · rw [if_pos h5, h5, sf_upd_eq]
    rw [if_neg h5, sf_upd_ne2 h5]
    by_cases h4 : k = 4
    · rw [if_pos h4, h4, sf_upd_eq]
    rw [if_neg h4, sf_upd_ne2 h4]
  have VeA : (∀ p, p < 5 → Ve (sf_rf (sf_rf (sf_rf (sf_rf 0 0) 1) 0) 0) p = 0 ∧ Ve (sf_rf (sf_rf (sf_rf (sf_rf 0 0) 1) 1) 0) p = 0) ∧ ∀ e, e < 6 → Ve (sf_rf (sf_rf (sf_rf (sf_rf 0 0) 1) 2) 0) e = 1 ∧ Ve (sf_rf (sf_rf (sf_rf (sf_rf 0 0) 1) 3) 0) e = 4 := by
    rw [← hVe]
    unfold sf_un
    refine ⟨fun p hp => ⟨?_, ?_⟩, fun e he => ⟨?_, ?_⟩⟩
    · rw [sf_put_ne (by simp [sf_rf_inj]), sf_put_ne (by simp [sf_rf_inj]), sf_put_ne (by simp [sf_rf_inj]), sf_put_at hp]
    · rw [sf_put_ne (by simp [sf_rf_inj]), sf_put_ne (by simp [sf_rf_inj]), sf_put_at hp]
    · rw [sf_put_ne (by simp [sf_rf_inj]), sf_put_at he]
    · rw [sf_put_at he]
  generalize hVi : sf_upd (sf_upd (sf_upd (sf_upd (sf_upd Ve (sf_rf 0 0) 3 (-1)) (sf_rf 0 0) 4 0) (sf_rf 0 0) 5 0) (sf_rf 0 0) 6 0) (sf_rf 0 0) 7 0 = Vi
  have ViN : ∀ a, ¬ a = sf_rf 0 0 → Vi a = Ve a := fun a h => by
    rw [← hVi, sf_upd_ne h, sf_upd_ne h, sf_upd_ne h, sf_upd_ne h, sf_upd_ne h]
  have ViT : ∀ k, Vi (sf_rf 0 0) k = if k = 7 then 0 else if k = 6 then 0 else if k = 5 then 0 else if k = 4 then 0 else if k = 3 then -1 else V (sf_rf 0 0) k := fun k => by
    rw [← hVi]
    by_cases h7 : k = 7
    · rw [if_pos h7, h7, sf_upd_eq]
    rw [if_neg h7, sf_upd_ne2 h7]
    by_cases h6 : k = 6
    · rw [if_pos h6, h6, sf_upd_eq]
    rw [if_neg h6, sf_upd_ne2 h6]
    by_cases h5 : k = 5
    · rw [if_pos h5, h5, sf_upd_eq]
    rw [if_neg h5, sf_upd_ne2 h5]
    by_cases h4 : k = 4
    · rw [if_pos h4, h4, sf_upd_eq]
    rw [if_neg h4, sf_upd_ne2 h4]
    by_cases h3 : k = 3
    · rw [if_pos h3, h3, sf_upd_eq]
    rw [if_neg h3, sf_upd_ne2 h3, VeT]
  have FCi : sf_FC V Vi := ⟨fun a h1 h2 h3 h4 h5 h6 => by
    rw [ViN a h1, ← hVe]
    unfold sf_un
    rw [sf_put_ne h6, sf_put_ne h5, sf_put_ne h4, sf_put_ne h3, sf_upd_ne h2, sf_upd_ne h2, sf_upd_ne h2, sf_upd_ne h2], by rw [ViT]; rfl⟩
  have ViD : Vi (sf_rf (sf_rf 0 0) 1) = Ve (sf_rf (sf_rf 0 0) 1) := ViN _ (by simp [sf_rf_self])
  have ViA : ∀ k, Vi (sf_rf (sf_rf (sf_rf (sf_rf 0 0) 1) k) 0) = Ve (sf_rf (sf_rf (sf_rf (sf_rf 0 0) 1) k) 0) := fun k => ViN _ (by simp [sf_rf_inj, sf_rf_ne0])
  -- the reference's beginning
  generalize hUi : sf_upd (sf_put (sf_put (sf_upd (sf_upd (sf_upd V 409 16 0) 409 17 0) 409 18 0) (sf_rf 409 21) 0 6 (fun _ => 1)) (sf_rf 409 22) 0 6 (fun _ => 4)) 409 24 0 = Ui
  have UiN : ∀ a, ¬ a = 409 → ¬ a = sf_rf 409 21 → ¬ a = sf_rf 409 22 → Ui a = V a := fun a h1 h2 h3 => by
    rw [← hUi, sf_upd_ne h1, sf_put_ne h3, sf_put_ne h2, sf_upd_ne h1, sf_upd_ne h1, sf_upd_ne h1]
  have Ui7 : ∀ k, Ui 409 k = if k = 24 then 0 else if k = 18 then 0 else if k = 17 then 0 else if k = 16 then 0 else V 409 k := fun k => by
    rw [← hUi]
    by_cases h24 : k = 24
    · rw [if_pos h24, h24, sf_upd_eq]
    rw [if_neg h24, sf_upd_ne2 h24, sf_put_ne (by simp [sf_Yne_rf]), sf_put_ne (by simp [sf_Yne_rf])]
    by_cases h18 : k = 18
    · rw [if_pos h18, h18, sf_upd_eq]
    rw [if_neg h18, sf_upd_ne2 h18]
    by_cases h17 : k = 17
    · rw [if_pos h17, h17, sf_upd_eq]
    rw [if_neg h17, sf_upd_ne2 h17]
    by_cases h16 : k = 16
    · rw [if_pos h16, h16, sf_upd_eq]
    rw [if_neg h16, sf_upd_ne2 h16]
  have UiA : ∀ e, e < 6 → Ui (sf_rf 409 21) e = 1 ∧ Ui (sf_rf 409 22) e = 4 := fun e he => by
    rw [← hUi, sf_upd_ne (by simp [sf_rf_neY]), sf_upd_ne (by simp [sf_rf_neY])]
    exact ⟨by rw [sf_put_ne (by simp [sf_rf_inj]), sf_put_at he], by rw [sf_put_at he]⟩
  have FUi : sf_FU V Ui := ⟨fun a h1 h2 h3 h4 h5 h6 => UiN a h1 h4 h5, fun k hk => by rw [Ui7, if_neg (by omega), if_neg (by omega), if_neg (by omega), if_neg (by omega)]⟩
  have U19 : Ui (sf_rf 409 19) = V (sf_rf 409 19) := UiN _ (by simp [sf_rf_neY]) (by simp [sf_rf_inj]) (by simp [sf_rf_inj])
  have U20 : Ui (sf_rf 409 20) = V (sf_rf 409 20) := UiN _ (by simp [sf_rf_neY]) (by simp [sf_rf_inj]) (by simp [sf_rf_inj])
  have Ji : sf_J Vi Ui (V (sf_rf 409 13)) cg 0 0 0 0 := by
    refine sf_J.mk (sf_TX_FC TXV FCi) (by rw [ViT]; rfl) (by rw [ViT]; rfl) (by rw [ViT]; rfl) (by rw [ViT]; rfl) (by rw [ViT]; rfl) (by rw [ViD, VeD]; rfl) (sf_TY_FU TYV FUi) (by rw [Ui7]; rfl) (by rw [Ui7]; rfl) (by rw [Ui7]; rfl) (by rw [Ui7]; rfl) (by decide) (by omega) (fun p hp => absurd hp (by omega)) ?_ ?_ ?_ (Or.inl ⟨rfl, by rw [ViD, VeD]; rfl, by rw [ViD, VeD]; rfl, by rw [ViD, VeD]; rfl⟩)
    · intro p hp
      obtain ⟨z1, z2⟩ := VeA.1 p hp
      rw [ViA, ViA, z1, z2]
      decide
    · intro p hp
      rw [U19, U20]
      exact ⟨hg.w p hp, hg.o p hp⟩
    · intro e he
      obtain ⟨z1, z2⟩ := VeA.2 e he
      obtain ⟨z3, z4⟩ := UiA e he
      rw [ViA, ViA, z1, z2, z3, z4]
      decide
  have ks := sf_sk_in (t := V (sf_rf 409 13)) (cg - 0) 0
  have J2 := sf_J_sk (j := sf_sk (V (sf_rf 409 13)) (cg - 0) 0) Ji (by omega)
  obtain ⟨V', U', good, ⟨fc, fu, wr, out⟩, h1, h2⟩ := sf_rdL _ _ _ _ _ _ _ (Nat.le_refl _) J2
  have h200 := hg.c200
  refine ⟨V', U', good, ⟨sf_FC_trans (sf_FC_trans FCi (sf_FC_FT sf_FT_5)) fc, sf_FU_trans (sf_FU_trans FUi (sf_FU_FR sf_FRr_kr)) fu, wr, out⟩, fun K => ?_, fun Y K => ?_⟩
  · simp only [q49_0, q49_1, q49_4, c0, c2]
    rw [s7 c2, hVe]
    simp (decide := true) only [q49_7, q49_8, q49_9, q49_12, q49_13, q49_14, q49_17, q49_18, q49_19, q49_22, q49_23, q49_24, q49_27, q49_28, q49_29, q49_32, q49_33, c0, true_or, true_and, hVi, Option.toList_some, Option.toList_none, List.cons_append, List.nil_append]
    rw [s56 (cg - 0) 0 Vi (sf_TX_FC TXV FCi) (by rw [ViT]; rfl) rfl (by omega)]
    simp only [q49_36, q49_37, Option.toList_some, Option.toList_none, List.cons_append, List.nil_append]
    exact h1 K 0 (by omega)
  · simp (decide := true) only [q114_0, q114_1, q114_2, q114_5, q114_6, q114_7, q114_10, q114_11, q114_12, q114_15, q114_16, sf_y, sf_mxu, true_or, true_and]
    refine Eq.trans (s114_fill 6 0 _ rfl (by omega)) ?_
    simp (decide := true) only [q114_43, q114_44, q114_45, q114_48, q114_49, sf_y, sf_mxu, hUi]
    rw [s106 (cg - 0) 0 Ui Ji.y Ji.y24 rfl (by omega)]
    simp only [q114_52, q114_53, Option.toList_some, Option.toList_none, List.cons_append, List.nil_append]
    exact h2 Y K none
end SFP40

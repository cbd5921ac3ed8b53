/-! a clause: a doing, joined -/
section SFP36
variable {V X U : sf_MV} {n : Nat} {t : Nat → Int} {L : Nat}
theorem sf_cld {i : Nat} {told st : Int} (J : sf_J V U t L i n told st) (hi : i < L) (h27 : U 409 27 = 0) :
    ∃ V' U' good, sf_CL V U V' U' t L i good ∧ (∃ k : Nat, k ≤ L ∧ V' (sf_rf 0 0) 5 = (k : Int)) ∧
      (∀ d K, sf_wp (d + 3) none 52 0 [some (.inr (.inl (some (sf_rf 0 0)))), none, none, none, none] [] (sf_E V) K = K none (sf_E V')) ∧
      (∀ d Y K, sf_wp (d + 4) none 112 0 [some (.inr (.inl (some 409))), none, none] [] (sf_E (sf_mix Y U)) K = K (some (.inl good)) (sf_E (sf_mix Y U'))) := by
  obtain ⟨l0, l1, l2, l3⟩ := sf_drLen
  have hL2 := J.x.2.1
  have js0 := sf_sk_in (t := t) (L - (i + 1)) (i + 1)
  generalize hj0 : sf_sk t (L - (i + 1)) (i + 1) = j at js0
  have ks1 := sf_de_in (t := t) (L - j) j
  generalize hk1 : sf_de t (L - j) j = k1 at ks1
  generalize hv1 : sf_vc t j (L - j) j 0 = v1
  have js2 := sf_sk_in (t := t) (L - k1) k1
  generalize hj2 : sf_sk t (L - k1) k1 = j2 at js2
  have ks2 := sf_de_in (t := t) (L - j2) j2
  generalize hk2 : sf_de t (L - j2) j2 = k2 at ks2
  generalize hv2 : sf_vc t j2 (L - j2) j2 0 = v2
  have js3 := sf_sk_in (t := t) (L - k2) k2
  generalize hj3 : sf_sk t (L - k2) k2 = j3 at js3
  have ks3 := sf_de_in (t := t) (L - j3) j3
  generalize hk3 : sf_de t (L - j3) j3 = k3 at ks3
  generalize hv3 : sf_vc t j3 (L - j3) j3 0 = v3
  have js4 := sf_sk_in (t := t) (L - k3) k3
  generalize hj4 : sf_sk t (L - k3) k3 = j4 at js4
  have j4L : j4 ≤ L := by omega
  clear js0 ks1 js2 ks2 js3 ks3 js4
  obtain ⟨V4, W, G4, hW, p4, ch, clsW⟩ := sf_cdC J.x J.x4 J.x3 J.x5 J.x6 hi hj0 hk1 hv1 hj2 hk2 hv2 hj3 hk3 hv3 hj4
  generalize hfq : sf_f5 (sf_nb 0 5 j k1 v1) (if sf_tbit told v1 = 0 then 0 else 4) (sf_nb 0 9 j2 k2 v2) (sf_nb 0 6 j3 k3 v3) (sf_eb t L j4) = fq at ch
  generalize hfw : sf_wf5 (sf_nb 0 5 j k1 v1) (if sf_tbit told v1 = 0 then 0 else 4) (sf_nb 0 9 j2 k2 v2) (sf_nb 0 6 j3 k3 v3) j j j2 j3 j4 = fw at ch
  obtain ⟨U4, FU4, A, Z7, bad, good, refU⟩ := sf_cdR J.y J.y24 J.y17 h27 hi hj0 hk1 hv1 hj2 hk2 hv2 hj3 hk3 hv3 hj4 hfq hfw
  clear hj0 hk1 hv1 hj2 hk2 hv2 hj3 hk3 hv3 hj4 hfq hfw
  obtain ⟨ch4, chb, chg⟩ := ch
  have ek4 := sf_ek_in (t := t) j4L
  have FCW : sf_FC V W := by
    refine ⟨fun a h1 h2 h3 h4 h5 h6 => ?_, ?_⟩
    · rw [← hW, sf_wr_ne h6, sf_wr_ne h5, sf_upd_ne h1, G4.1 a h1]
    · rw [← hW, sf_wr_ne (by simp [sf_rf_inj, sf_0ne_rf]), sf_wr_ne (by simp [sf_rf_inj, sf_0ne_rf]), sf_upd_ne2 (by decide), G4.2 2 (by decide) (by decide) (by decide)]
  have WT : ∀ k, ¬ k = 6 → W (sf_rf 0 0) k = V4 (sf_rf 0 0) k := fun k hk => by
    rw [← hW, sf_wr_ne (by simp [sf_rf_inj, sf_0ne_rf]), sf_wr_ne (by simp [sf_rf_inj, sf_0ne_rf]), sf_upd_ne2 hk]
  have WR4 : sf_WR U4 := fun p hp => by
    rw [A 19 (by decide) (by decide), A 20 (by decide) (by decide)]
    exact J.wy p hp
  refine ⟨W, U4, if fq = 0 then 1 else 0, ⟨FCW, sf_FU_trans FU4 ⟨fun _ _ _ _ _ _ _ => rfl, fun _ _ => rfl⟩, WR4, ?_⟩, ⟨sf_ek t L j4, ek4.2, by rw [WT 5 (by decide)]; exact p4⟩, clsW, refU⟩
  by_cases hq : fq = 0
  case neg =>
    obtain ⟨b1, b2⟩ := bad hq
    refine Or.inr ⟨if_neg hq, ?_, ?_, ?_⟩
    · rw [WT 4 (by decide), ch4]; exact hq
    · rw [WT 4 (by decide), ch4, b1]
    · rw [WT 3 (by decide), chb hq, b2]
  obtain ⟨e, rfl, he, hv2r, hv3r, hj, p4r, Z17, Z21, Z22⟩ := good hq
  refine Or.inl ⟨if_pos hq, sf_ek t L j4, n, sf_tn2 told e, st, by omega, ?_⟩
  have Wd : ∀ k, k < 2 → W (sf_rf (sf_rf (sf_rf (sf_rf 0 0) 1) k) 0) = V (sf_rf (sf_rf (sf_rf (sf_rf 0 0) 1) k) 0) := fun k hk => by
    rw [← hW, sf_wr_ne (by simp [sf_rf_inj]; omega), sf_wr_ne (by simp [sf_rf_inj]; omega), sf_upd_ne (by simp [sf_rf_inj, sf_rf_ne0]), G4.1 _ (by simp [sf_rf_inj, sf_rf_ne0])]
  have wn2 : ∀ Z, sf_wr Z (sf_rf (sf_rf (sf_rf (sf_rf 0 0) 1) 2) 0) (e : Int) v2 = sf_upd Z (sf_rf (sf_rf (sf_rf (sf_rf 0 0) 1) 2) 0) e v2 := fun Z => sf_wr_nat (by omega)
  have wn3 : ∀ Z, sf_wr Z (sf_rf (sf_rf (sf_rf (sf_rf 0 0) 1) 3) 0) (e : Int) v3 = sf_upd Z (sf_rf (sf_rf (sf_rf (sf_rf 0 0) 1) 3) 0) e v3 := fun Z => sf_wr_nat (by omega)
  have Wd2 : W (sf_rf (sf_rf (sf_rf (sf_rf 0 0) 1) 2) 0) = sf_ru (V (sf_rf (sf_rf (sf_rf (sf_rf 0 0) 1) 2) 0)) e v2 := by
    rw [← hW, sf_wr_ne (by simp [sf_rf_inj]), wn2, sf_upd_ru, sf_upd_ne (by simp [sf_rf_inj, sf_rf_ne0]), G4.1 _ (by simp [sf_rf_inj, sf_rf_ne0])]
  have Wd3 : W (sf_rf (sf_rf (sf_rf (sf_rf 0 0) 1) 3) 0) = sf_ru (V (sf_rf (sf_rf (sf_rf (sf_rf 0 0) 1) 3) 0)) e v3 := by
    rw [← hW, wn3, sf_upd_ru, sf_wr_ne (by simp [sf_rf_inj]), sf_upd_ne (by simp [sf_rf_inj, sf_rf_ne0]), G4.1 _ (by simp [sf_rf_inj, sf_rf_ne0])]
  have WD : W (sf_rf (sf_rf 0 0) 1) = V (sf_rf (sf_rf 0 0) 1) := by
    rw [← hW, sf_wr_ne (by simp [sf_self2_rf]), sf_wr_ne (by simp [sf_self2_rf]), sf_upd_ne (by simp [sf_rf_self]), G4.1 _ (by simp [sf_rf_self])]
  have T4 := sf_TX_FT J.x G4
  refine sf_J.mk ?_ ?_ ?_ ?_ ?_ ?_ ?_ (sf_TY_FU J.y FU4) p4r Z17 ?_ ?_ J.n5 ek4.2 ?_ ?_ ?_ ?_ ?_
  · obtain ⟨h1, h2, h3⟩ := T4
    refine ⟨by rw [WT 2 (by decide)]; exact h1, h2, fun j hj => ?_⟩
    rw [← hW, sf_wr_ne (by simp [sf_rf_inj, sf_self_rf, sf_rf_self]), sf_wr_ne (by simp [sf_rf_inj, sf_self_rf, sf_rf_self]), sf_upd_ne (by simp [sf_rf_inj, sf_rf_ne0])]
    exact h3 j hj
  · rw [WT 4 (by decide), ch4]; exact hq
  · rw [WT 3 (by decide)]; exact chg hq
  · rw [WT 5 (by decide)]; exact p4
  · rw [← hW, sf_wr_ne (by simp [sf_rf_inj, sf_0ne_rf]), sf_wr_ne (by simp [sf_rf_inj, sf_0ne_rf]), sf_upd_eq]
  · rw [WT 7 (by decide), G4.2 7 (by decide) (by decide) (by decide)]; exact J.x7
  · rw [WD]; exact J.xn
  · rw [Z7 18 (by decide) (by decide)]; exact J.y18
  · rw [Z7 16 (by decide) (by decide)]; exact J.y16
  · intro p hp
    rw [Wd 0 (by decide), Wd 1 (by decide), A 19 (by decide) (by decide), A 20 (by decide) (by decide)]
    exact J.w p hp
  · intro p hp
    rw [Wd 0 (by decide), Wd 1 (by decide)]
    exact J.wx p hp
  · exact WR4
  · intro e' he'
    rw [Wd2, Wd3, Z21, Z22]
    by_cases q : e' = e
    · rw [q, sf_ru_eq, sf_ru_eq, sf_ru_eq, sf_ru_eq]
      exact ⟨⟨rfl, hv2r⟩, ⟨rfl, hv3r⟩⟩
    · rw [sf_ru_ne q, sf_ru_ne q, sf_ru_ne q, sf_ru_ne q]
      exact J.cc e' he'
  · rw [WD, A 23 (by decide) (by decide)]
    exact J.s
end SFP36

/-! house: the pair -/
theorem sf_lo_dr : sf_rf (sf_rf 0 0) 1 < 409 ∧ sf_rf (sf_rf (sf_rf (sf_rf 0 0) 1) 0) 0 < 409 ∧ sf_rf (sf_rf (sf_rf (sf_rf 0 0) 1) 1) 0 < 409 ∧ sf_rf (sf_rf (sf_rf (sf_rf 0 0) 1) 2) 0 < 409 ∧ sf_rf (sf_rf (sf_rf (sf_rf 0 0) 1) 3) 0 < 409 ∧ sf_rf (sf_rf (sf_rf 0 1) 3) 0 < 409 := by decide +kernel
section SFP43
variable {V X U : sf_MV} {n nx c ce cf cg : Nat} {t : Nat → Int} {L : Nat}
theorem sf_nlt {a b : Nat} (h : ¬ a < 409) (hb : b < 409) : ¬ a = b := fun z => h (z ▸ hb)
/-- the class's end leaves the reference alone -/
theorem s61hi {A : sf_MV} {a : Nat} (h : ¬ a < 409) : sf_upd (sf_upd (sf_put (sf_upd (sf_mvi (sf_cpy A (sf_rf 0 1) (sf_rf (sf_rf 0 0) 1)) (sf_rf 0 2) (sf_rf 0 1)) (sf_rf 0 4) 2 0) (sf_rf (sf_rf 0 7) 0) 0 2 (fun _ => 0)) (sf_rf 0 8) 4 0) (sf_rf 0 9) 2 0 a = A a := by
  obtain ⟨l0, l1, l5, l6, l4, l7, l8, l9, _⟩ := sf_lo_hs
  obtain ⟨_, _, l2, _, _, _, lw⟩ := sf_lo_all
  obtain ⟨_, n1, n2, n3⟩ := sf_lo_now
  obtain ⟨_, _, _, _, _, l10⟩ := sf_lo_dr
  unfold sf_mvi sf_cpy
  rw [sf_upd_ne (sf_nlt h l9), sf_upd_ne (sf_nlt h l8), sf_put_ne (sf_nlt h l7), sf_upd_ne (sf_nlt h l4), sf_upd_ne (sf_nlt h l2), sf_upd_ne (sf_nlt h l2), sf_upd_ne (sf_nlt h l2), sf_put_ne (sf_nlt h n3), sf_put_ne (sf_nlt h n2), sf_put_ne (sf_nlt h n1), sf_put_ne (sf_nlt h l10), sf_put_ne (sf_nlt h l6), sf_put_ne (sf_nlt h l5), sf_put_ne (sf_nlt h lw), sf_upd_ne (sf_nlt h l1), sf_upd_ne (sf_nlt h l1), sf_upd_ne (sf_nlt h l1), sf_upd_ne (sf_nlt h l1)]
theorem p_house (R : sf_RR V n nx c ce cf cg) : sf_P2 61 115 [none] [none, none] V := by
  obtain ⟨c0, c1, c2⟩ := sf_txt
  have x0 := sf_c11_0 sf_x
  obtain ⟨l0, l1, l5, l6, l4, l7, l8, l9, ll⟩ := sf_lo_hs
  obtain ⟨d1, d2, d3, d4, d5, _⟩ := sf_lo_dr
  obtain ⟨V', U', good, ⟨fc, fu, wr, out⟩, h1, h2⟩ := sf_readAll R
  have AN : ∀ a, ¬ a = sf_rf 0 0 → sf_upd V' (sf_rf 0 0) 2 0 a = V' a := fun a h => sf_upd_ne h
  have Ahi : ∀ a, ¬ a < 409 → sf_upd V' (sf_rf 0 0) 2 0 a = V a := fun a h => by
    rw [AN a (sf_nlt h l0)]
    exact fc.1 a (sf_nlt h l0) (sf_nlt h d1) (sf_nlt h d2) (sf_nlt h d3) (sf_nlt h d4) (sf_nlt h d5)
  have cls : ∀ K, sf_wp 19 none 61 0 [some (.inr (.inl (some 0))), none] [] (sf_E V) K = if V' (sf_rf 0 0) 4 = 0 then sf_wp 19 none 61 25 [some (.inr (.inl (some 0))), some (.inl (V' (sf_rf 0 0) 4))] [] (sf_E (sf_upd V' (sf_rf 0 0) 2 0)) K else sf_wp 19 none 61 20 [some (.inr (.inl (some 0))), some (.inl (V' (sf_rf 0 0) 4))] [] (sf_E (sf_upd V' (sf_rf 0 0) 2 0)) K := fun K => by
    simp only [q61_0, q61_1, q61_4, sf_x, x0, h1, Option.toList_some, Option.toList_none, List.cons_append, List.nil_append]
    simp only [q61_7, q61_8, q61_9, q61_12, q61_13, q61_16, sf_x, x0]
    rw [q61_17]
  rcases out with ⟨hg, i', n', told', st', J⟩ | ⟨hg, b1, b2, b3⟩
  · -- well told
    have hx : sf_upd V' (sf_rf 0 0) 2 0 (sf_rf 0 4) 1 = (nx : Int) := by
      rw [AN _ (by simp [sf_rf_inj]), fc.1 _ (by simp [sf_rf_inj]) (by simp [sf_rf_inj, sf_0ne_rf]) (by simp [sf_rf_inj, sf_0ne_rf]) (by simp [sf_rf_inj, sf_0ne_rf]) (by simp [sf_rf_inj, sf_0ne_rf]) (by simp [sf_rf_inj, sf_0ne_rf])]
      exact R.c.x
    have AD : sf_upd V' (sf_rf 0 0) 2 0 (sf_rf (sf_rf 0 0) 1) = V' (sf_rf (sf_rf 0 0) 1) := AN _ (by simp [sf_rf_self])
    have AA : ∀ k, sf_upd V' (sf_rf 0 0) 2 0 (sf_rf (sf_rf (sf_rf (sf_rf 0 0) 1) k) 0) = V' (sf_rf (sf_rf (sf_rf (sf_rf 0 0) 1) k) 0) := fun k => AN _ (by simp [sf_rf_inj, sf_rf_ne0])
    obtain ⟨F, ⟨f4, f6⟩, fr1, fr2, ⟨g0, g1, g2, gw, gi, gr⟩, ⟨p1, p2⟩, pr7, p8, p9, pT, p0, hFd, fe⟩ := s61w (A := sf_upd V' (sf_rf 0 0) 2 0) (m := n') (nx0 := nx) J.n5 (by rw [AD]; exact J.xn) hx
    rw [AD] at f6 g0 g1
    obtain ⟨G, ⟨y0, y1, y6, y10, y12, y14, y15⟩, yr2, yr3, ⟨z0, z1, z2, z3, zw, zi, zr⟩, y8, y19, y20, ge⟩ := s115w (l2 := none) J
    have Fhi : sf_mix F V = F := by
      funext a
      unfold sf_mix
      by_cases h : a < 409
      · rw [if_pos h]
      · rw [if_neg h, hFd, s61hi h, Ahi a h]
    have hs0 := R.b.s
    have hs1 := R.b.s0
    have u4 : U' (sf_rf 409 4) = V (sf_rf 409 4) := fu.1 _ (by simp [sf_rf_neY]) (by simp [sf_rf_inj]) (by simp [sf_rf_inj]) (by simp [sf_rf_inj]) (by simp [sf_rf_inj]) (by simp [sf_rf_inj])
    rw [u4] at z3
    refine ⟨n', F, sf_mix F G, n', nx, 0, 0, 0, 0, fun K => ?_, fun K => ?_, ?_⟩
    · rw [cls, if_pos J.x4]
      exact fe K _
    · rw [← Fhi]
      simp only [q115_0, q115_1, sf_y]
      rw [h2]
      simp only [Option.toList_some, Option.toList_none, List.cons_append, List.nil_append]
      rw [hg, ge, Fhi]
    · have Z7 : sf_mix F G 409 = G 409 := sf_mix_hi (by decide)
      have Zr : ∀ k, sf_mix F G (sf_rf 409 k) = G (sf_rf 409 k) := fun k => sf_mix_hi (sf_hi_all k)
      have hs := J.s
      have hn5 := J.n5
      have d0 : (n' = 0 ∧ (if n' = 0 then -1 else V' (sf_rf (sf_rf 0 0) 1) 5) = -1) ∨ (0 ≤ (if n' = 0 then -1 else V' (sf_rf (sf_rf 0 0) 1) 5) ∧ (if n' = 0 then -1 else V' (sf_rf (sf_rf 0 0) 1) 5) < n') := by
        by_cases q : n' = 0
        · exact Or.inl ⟨q, if_pos q⟩
        · rw [if_neg q]
          rcases hs with hs | hs <;> omega
      have d7 : 0 ≤ V' (sf_rf (sf_rf 0 0) 1) 7 ∧ V' (sf_rf (sf_rf 0 0) 1) 7 ≤ 9999 := by
        rcases hs with hs | hs <;> omega
      refine sf_RR.mk ?_ ?_ ?_ ?_ ?_ ?_ ?_
      · rw [Z7, Zr, Zr, sf_mix_lo l1, sf_mix_lo l5, sf_mix_lo l6]
        refine sf_GA.mk hn5 f4 y0 (by rw [f6, y1]) ?_ (fun p hp => ?_) (fun p hp => ?_) (fun p hp => ?_) (fun e he => ?_) (fun e he => ?_)
        · rw [y1]
          rcases hs with hs | hs <;> omega
        · rw [fr1 p (by omega), yr2 p (by omega), AA]; exact (J.w p hp).2
        · rw [fr1 p hp, AA]; exact (J.wx p hp).2
        · rw [yr2 p hp]; exact (J.wy p hp).2
        · rw [fr2 e he, yr3 e he, AA]; exact (J.cc e he).1.1
        · rw [yr3 e he]; exact (J.cc e he).1.2
      · rw [sf_mix_gl sf_lo_now, Zr, sf_mix_lo (by decide), p0, AN 0 (by simp [sf_0ne_rf]), fc.1 0 (by simp [sf_0ne_rf]) (by simp [sf_0ne_rf]) (by simp [sf_0ne_rf]) (by simp [sf_0ne_rf]) (by simp [sf_0ne_rf]) (by simp [sf_0ne_rf])]
        refine sf_GB.mk (sf_req.mk (by rw [g0, z0]) (by rw [g1, z1]) (by rw [g2, z2]) (fun p hp => ?_) (fun p hp => ?_) (fun e he => ?_)) (sf_rok.mk ?_ ?_ ?_ (fun p hp => ?_) (fun p hp => ?_) (fun p hp q hq _ => ?_) (Or.inl (fun p hp => gi p (by omega))) (fun e he => ?_)) (sf_rok.mk ?_ ?_ ?_ (fun p hp => ?_) (fun p hp => ?_) (fun p hp q hq _ => ?_) (Or.inl (fun p hp => zi p (by omega))) (fun e he => ?_)) (by rw [z3]; exact hs0) (by rw [z3]; exact hs1)
        · rw [gw p (by omega), zw p (by omega), AA]; exact (J.w p hp).1
        · rw [gi p (by omega), zi p (by omega)]
        · rw [gr e he, zr e he, AA]; exact (J.cc e he).2.1
        · rw [g0]; exact d0
        · rw [g1]; exact d7
        · rw [g2]; decide
        · rw [gw p hp, AA]; exact (J.wx p hp).1
        · rw [gi p (by omega), g2]; decide
        · exact Or.inr (gi p (by omega))
        · rw [gr e he, AA, (J.cc e he).2.1]; exact (J.cc e he).2.2
        · rw [z0]; exact d0
        · rw [z1]; exact d7
        · rw [z2]; decide
        · rw [zw p hp]; exact (J.wy p hp).1
        · rw [zi p (by omega), z2]; decide
        · exact Or.inr (zi p (by omega))
        · rw [zr e he]; exact (J.cc e he).2.2
      · rw [Z7, Zr, sf_mix_lo l4]
        exact sf_GC.mk p1 R.c.nx p2 (by decide) y6 (fun j hj => absurd hj (by omega)) (fun j hj => absurd hj (by omega)) (fun j hj => absurd hj (by omega))
      · rw [Zr, Zr, sf_mix_lo l7]
        refine sf_GD.mk (fun i hi => ?_) (fun i hi h => ?_) (fun i hi h => ?_) (fun i hi h => ?_) (fun i hi h => ?_)
        · rw [pr7 i hi, y8 i hi]
          exact ⟨rfl, Or.inl rfl⟩
        all_goals
          rw [y8 i hi] at h
          exact absurd h (by decide)
      · rw [Z7, Zr, sf_mix_lo l8]
        exact sf_GE.mk (by decide) p8 y10 (fun j hj => absurd hj (by omega)) (fun j hj => absurd hj (by omega))
      · rw [Z7, Zr, sf_mix_lo l9]
        exact sf_GF.mk (by decide) p9 y12 (fun j hj => absurd hj (by omega)) (fun j hj => absurd hj (by omega))
      · rw [Z7, Zr, Zr, Zr, sf_mix_lo l0, pT]
        refine sf_GG.mk (by decide) sf_upd_eq y14 ?_ (fun j hj => absurd hj (by omega)) ?_ ?_
        · rw [sf_upd_ne2 (by decide), y15]; exact J.x3
        · rw [y19]; exact fun p hp => (J.wy p hp).1
        · rw [y20]; exact fun p hp => (J.wy p hp).2
  · -- a fault
    have Amix : sf_mix (sf_upd V' (sf_rf 0 0) 2 0) V = sf_upd V' (sf_rf 0 0) 2 0 := by
      funext a
      unfold sf_mix
      by_cases h : a < 409
      · rw [if_pos h]
      · rw [if_neg h, Ahi a h]
    generalize hW : sf_mix (sf_upd V' (sf_rf 0 0) 2 0) (sf_upd (sf_upd U' 409 14 0) 409 15 (U' 409 24)) = W
    have hfr : ∀ a, ¬ a = sf_rf 0 0 → ¬ a = sf_rf (sf_rf 0 0) 1 → ¬ a = sf_rf (sf_rf (sf_rf (sf_rf 0 0) 1) 0) 0 → ¬ a = sf_rf (sf_rf (sf_rf (sf_rf 0 0) 1) 1) 0 → ¬ a = sf_rf (sf_rf (sf_rf (sf_rf 0 0) 1) 2) 0 → ¬ a = sf_rf (sf_rf (sf_rf (sf_rf 0 0) 1) 3) 0 → ¬ a = 409 → ¬ a = sf_rf 409 19 → ¬ a = sf_rf 409 20 → ¬ a = sf_rf 409 21 → ¬ a = sf_rf 409 22 → ¬ a = sf_rf 409 23 → W a = V a := fun a a1 a2 a3 a4 a5 a6 a7 a8 a9 a10 a11 a12 => by
      rw [← hW]
      by_cases h : a < 409
      · rw [sf_mix_lo h, AN a a1, fc.1 a a1 a2 a3 a4 a5 a6]
      · rw [sf_mix_hi h, sf_upd_ne a7, sf_upd_ne a7, fu.1 a a7 a8 a9 a10 a11 a12]
    have e7 : ∀ k, k < 14 → W 409 k = V 409 k := fun k hk => by
      rw [← hW, sf_mix_hi (by decide), sf_upd_ne2 (by omega), sf_upd_ne2 (by omega), fu.2 k (by omega)]
    have e70 := e7 0 (by decide)
    have e71 := e7 1 (by decide)
    have e76 := e7 6 (by decide)
    have e710 := e7 10 (by decide)
    have e712 := e7 12 (by decide)
    refine ⟨sf_w (-10 - V' (sf_rf 0 0) 4), sf_upd V' (sf_rf 0 0) 2 0, W, n, nx, c, ce, cf, 0, fun K => ?_, fun K => ?_, ?_⟩
    · rw [cls, if_neg b1]
      simp only [q61_20, q61_22, q61_23, q61_24]
    · have q25 : sf_upd (sf_upd U' 409 14 0) 409 15 (U' 409 24) 409 25 = U' 409 25 := by rw [sf_upd_ne2 (by decide), sf_upd_ne2 (by decide)]
      have q24 : sf_upd U' 409 14 0 409 24 = U' 409 24 := sf_upd_ne2 (by decide)
      rw [← Amix]
      simp only [q115_0, q115_1, sf_y]
      rw [h2]
      simp only [Option.toList_some, Option.toList_none, List.cons_append, List.nil_append]
      rw [hg]
      simp only [q115_4, q115_5, q115_6, q115_7, q115_10, q115_11, sf_y, sf_mxu]
      rw [q115_12, if_pos rfl]
      simp only [q115_19, q115_20, q115_23, q115_26, sf_y, sf_mxy, sf_mxu, q24]
      rw [q115_27, if_pos rfl]
      simp only [q115_30, q115_32, q115_33, q115_36, q115_37, sf_y, sf_mxy, q25]
      rw [b2, hW]
    · refine sf_RR.mk ?_ ?_ ?_ ?_ ?_ ?_ ?_
      · (have h := R.a; simp (decide := true) only [hfr, e70, e71, sf_upd_ne, sf_upd_ne2, sf_put_ne, sf_upd_eq, sf_getS_upd, sf_getS_put, sf_rg, sf_sh, sf_rf_inj, sf_rf_ne0, sf_0ne_rf, sf_rf_neY, sf_Yne_rf, sf_rf_self, sf_self_rf, sf_rf_self2, sf_self2_rf, not_false_eq_true, and_false, false_and, and_true, true_and, reduceCtorEq] at h ⊢; exact h)
      · have h := R.b
        have g : sf_getS W (sf_rf 0 2) = sf_getS V (sf_rf 0 2) := by
          refine sf_getS_congr ?_ ?_ ?_ ?_ <;> simp (decide := true) only [hfr, sf_upd_ne, sf_upd_ne2, sf_put_ne, sf_upd_eq, sf_getS_upd, sf_getS_put, sf_rg, sf_sh, sf_rf_inj, sf_rf_ne0, sf_0ne_rf, sf_rf_neY, sf_Yne_rf, sf_rf_self, sf_self_rf, sf_rf_self2, sf_self2_rf, not_false_eq_true, and_false, false_and, and_true, true_and, reduceCtorEq]
        rw [g]
        simp (decide := true) only [hfr, sf_upd_ne, sf_upd_ne2, sf_put_ne, sf_upd_eq, sf_getS_upd, sf_getS_put, sf_rg, sf_sh, sf_rf_inj, sf_rf_ne0, sf_0ne_rf, sf_rf_neY, sf_Yne_rf, sf_rf_self, sf_self_rf, sf_rf_self2, sf_self2_rf, not_false_eq_true, and_false, false_and, and_true, true_and, reduceCtorEq] at h ⊢
        exact h
      · have h := R.c
        have g : (fun i => sf_getS W (sf_rg i)) = fun i => sf_getS V (sf_rg i) := by
          funext i
          refine sf_getS_congr ?_ ?_ ?_ ?_ <;> simp (decide := true) only [hfr, sf_upd_ne, sf_upd_ne2, sf_put_ne, sf_upd_eq, sf_getS_upd, sf_getS_put, sf_rg, sf_sh, sf_rf_inj, sf_rf_ne0, sf_0ne_rf, sf_rf_neY, sf_Yne_rf, sf_rf_self, sf_self_rf, sf_rf_self2, sf_self2_rf, not_false_eq_true, and_false, false_and, and_true, true_and, reduceCtorEq]
        rw [g, e76]
        simp (decide := true) only [hfr, sf_upd_ne, sf_upd_ne2, sf_put_ne, sf_upd_eq, sf_getS_upd, sf_getS_put, sf_rg, sf_sh, sf_rf_inj, sf_rf_ne0, sf_0ne_rf, sf_rf_neY, sf_Yne_rf, sf_rf_self, sf_self_rf, sf_rf_self2, sf_self2_rf, not_false_eq_true, and_false, false_and, and_true, true_and, reduceCtorEq] at h ⊢
        exact h
      · have h := R.d
        have g : (fun i => sf_getS W (sf_sh i)) = fun i => sf_getS V (sf_sh i) := by
          funext i
          refine sf_getS_congr ?_ ?_ ?_ ?_ <;> simp (decide := true) only [hfr, sf_upd_ne, sf_upd_ne2, sf_put_ne, sf_upd_eq, sf_getS_upd, sf_getS_put, sf_rg, sf_sh, sf_rf_inj, sf_rf_ne0, sf_0ne_rf, sf_rf_neY, sf_Yne_rf, sf_rf_self, sf_self_rf, sf_rf_self2, sf_self2_rf, not_false_eq_true, and_false, false_and, and_true, true_and, reduceCtorEq]
        rw [g]
        simp (decide := true) only [hfr, sf_upd_ne, sf_upd_ne2, sf_put_ne, sf_upd_eq, sf_getS_upd, sf_getS_put, sf_rg, sf_sh, sf_rf_inj, sf_rf_ne0, sf_0ne_rf, sf_rf_neY, sf_Yne_rf, sf_rf_self, sf_self_rf, sf_rf_self2, sf_self2_rf, not_false_eq_true, and_false, false_and, and_true, true_and, reduceCtorEq] at h ⊢
        exact h
      · (have h := R.e; simp (decide := true) only [hfr, e710, sf_upd_ne, sf_upd_ne2, sf_put_ne, sf_upd_eq, sf_getS_upd, sf_getS_put, sf_rg, sf_sh, sf_rf_inj, sf_rf_ne0, sf_0ne_rf, sf_rf_neY, sf_Yne_rf, sf_rf_self, sf_self_rf, sf_rf_self2, sf_self2_rf, not_false_eq_true, and_false, false_and, and_true, true_and, reduceCtorEq] at h ⊢; exact h)
      · (have h := R.f; simp (decide := true) only [hfr, e712, sf_upd_ne, sf_upd_ne2, sf_put_ne, sf_upd_eq, sf_getS_upd, sf_getS_put, sf_rg, sf_sh, sf_rf_inj, sf_rf_ne0, sf_0ne_rf, sf_rf_neY, sf_Yne_rf, sf_rf_self, sf_self_rf, sf_rf_self2, sf_self2_rf, not_false_eq_true, and_false, false_and, and_true, true_and, reduceCtorEq] at h ⊢; exact h)
      · have w7 : ∀ k, 14 ≤ k → W 409 k = sf_upd (sf_upd U' 409 14 0) 409 15 (U' 409 24) 409 k := fun k _ => by rw [← hW, sf_mix_hi (by decide)]
        have wT : W (sf_rf 0 0) = sf_upd V' (sf_rf 0 0) 2 0 (sf_rf 0 0) := by rw [← hW, sf_mix_lo l0]
        have wr' : ∀ r, W (sf_rf 409 r) = U' (sf_rf 409 r) := fun r => by rw [← hW, sf_mix_hi (sf_hi_all r), sf_upd_ne (by simp [sf_rf_neY]), sf_upd_ne (by simp [sf_rf_neY])]
        refine sf_GG.mk (by decide) ?_ ?_ ?_ (fun j hj => absurd hj (by omega)) ?_ ?_
        · rw [wT, sf_upd_eq]; rfl
        · rw [w7 14 (by decide), sf_upd_ne2 (by decide), sf_upd_eq]; rfl
        · rw [wT, w7 15 (by decide), sf_upd_ne2 (by decide), sf_upd_eq]; exact b3
        · rw [wr']; exact fun p hp => (wr p hp).1
        · rw [wr']; exact fun p hp => (wr p hp).2
end SFP43

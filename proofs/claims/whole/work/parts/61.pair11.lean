/-! drift -/
section SFP11
variable {V X Y : sf_MV} {n nx c ce cf cg a k m : Nat} {v : Int} {f : Nat → Int}
theorem sf_tm_in {x N : Int} (hx : 0 ≤ x) (hN : 0 < N) : 0 ≤ (x.tdiv 65536).tmod N ∧ (x.tdiv 65536).tmod N < N := by
  have : 0 ≤ x.tdiv 65536 := Int.tdiv_nonneg hx (by decide)
  exact ⟨Int.tmod_nonneg _ this, Int.tmod_lt_of_pos _ hN⟩
theorem sf_drawS (R : sf_RR V n nx c ce cf cg) {N : Int} (hN : 0 < N) : ∃ (W : sf_MV) (v : Int), sf_RR W n nx c ce cf cg ∧ W (sf_rf 409 4) 2 = V (sf_rf 409 4) 2 ∧ (0 ≤ v ∧ v < N) ∧
    (∀ d Y K, sf_wp d none 96 0 [some (.inr (.inl (some 0))), some (.inl N)] [] (sf_E (sf_mix V Y)) K = K (some (.inl v)) (sf_E (sf_mix W Y))) ∧
    (∀ d Y K, sf_wp d none 130 0 [some (.inr (.inl (some 409))), some (.inl N)] [] (sf_E (sf_mix Y V)) K = K (some (.inl v)) (sf_E (sf_mix Y W))) := by
  have hb := R.b
  have hs := hb.s
  have hs0 := hb.s0
  have hsd := sf_seed_in hs0
  refine ⟨sf_upd (sf_upd V 0 13 (sf_seed (V 0 13))) (sf_rf 409 4) 3 (sf_seed (V 0 13)), ((sf_seed (V 0 13)).tdiv 65536).tmod N, ?_, ?_, ?_, ?_, ?_⟩
  · refine sf_RR.mk ?_ ?_ ?_ ?_ ?_ ?_ ?_
    · (have h := R.a; simp (decide := true) only [sf_upd_ne, sf_upd_ne2, sf_put_ne, sf_upd_eq, sf_getS_upd, sf_getS_put, sf_rg, sf_sh, sf_rf_inj, sf_rf_ne0, sf_0ne_rf, sf_rf_neY, sf_Yne_rf, sf_rf_self, sf_self_rf, sf_rf_self2, sf_self2_rf, not_false_eq_true, and_false, false_and, and_true, true_and, reduceCtorEq] at h ⊢; exact h)
    · have e2 : ∀ k, k ≠ 3 → sf_upd (sf_upd V 0 13 (sf_seed (V 0 13))) (sf_rf 409 4) 3 (sf_seed (V 0 13)) (sf_rf 409 4) k = V (sf_rf 409 4) k := fun k hk => by
        rw [sf_upd_ne2 hk, sf_upd_ne (by simp [sf_rf_ne0])]
      simp (decide := true) only [sf_upd_ne, sf_upd_ne2, sf_put_ne, sf_upd_eq, sf_getS_upd, sf_getS_put, sf_rg, sf_sh, sf_rf_inj, sf_rf_ne0, sf_0ne_rf, sf_rf_neY, sf_Yne_rf, sf_rf_self, sf_self_rf, sf_rf_self2, sf_self2_rf, not_false_eq_true, and_false, false_and, and_true, true_and, reduceCtorEq]
      exact sf_GB_seed hb (by rw [hs]; exact hsd) e2 sf_upd_eq
    · (have h := R.c; simp (decide := true) only [sf_upd_ne, sf_upd_ne2, sf_put_ne, sf_upd_eq, sf_getS_upd, sf_getS_put, sf_rg, sf_sh, sf_rf_inj, sf_rf_ne0, sf_0ne_rf, sf_rf_neY, sf_Yne_rf, sf_rf_self, sf_self_rf, sf_rf_self2, sf_self2_rf, not_false_eq_true, and_false, false_and, and_true, true_and, reduceCtorEq] at h ⊢; exact h)
    · (have h := R.d; simp (decide := true) only [sf_upd_ne, sf_upd_ne2, sf_put_ne, sf_upd_eq, sf_getS_upd, sf_getS_put, sf_rg, sf_sh, sf_rf_inj, sf_rf_ne0, sf_0ne_rf, sf_rf_neY, sf_Yne_rf, sf_rf_self, sf_self_rf, sf_rf_self2, sf_self2_rf, not_false_eq_true, and_false, false_and, and_true, true_and, reduceCtorEq] at h ⊢; exact h)
    · (have h := R.e; simp (decide := true) only [sf_upd_ne, sf_upd_ne2, sf_put_ne, sf_upd_eq, sf_getS_upd, sf_getS_put, sf_rg, sf_sh, sf_rf_inj, sf_rf_ne0, sf_0ne_rf, sf_rf_neY, sf_Yne_rf, sf_rf_self, sf_self_rf, sf_rf_self2, sf_self2_rf, not_false_eq_true, and_false, false_and, and_true, true_and, reduceCtorEq] at h ⊢; exact h)
    · (have h := R.f; simp (decide := true) only [sf_upd_ne, sf_upd_ne2, sf_put_ne, sf_upd_eq, sf_getS_upd, sf_getS_put, sf_rg, sf_sh, sf_rf_inj, sf_rf_ne0, sf_0ne_rf, sf_rf_neY, sf_Yne_rf, sf_rf_self, sf_self_rf, sf_rf_self2, sf_self2_rf, not_false_eq_true, and_false, false_and, and_true, true_and, reduceCtorEq] at h ⊢; exact h)
    · (have h := R.g; simp (decide := true) only [sf_upd_ne, sf_upd_ne2, sf_put_ne, sf_upd_eq, sf_getS_upd, sf_getS_put, sf_rg, sf_sh, sf_rf_inj, sf_rf_ne0, sf_0ne_rf, sf_rf_neY, sf_Yne_rf, sf_rf_self, sf_self_rf, sf_rf_self2, sf_self2_rf, not_false_eq_true, and_false, false_and, and_true, true_and, reduceCtorEq] at h ⊢; exact h)
  · rw [sf_upd_ne2 (by decide), sf_upd_ne (by simp [sf_rf_ne0])]
  · rw [hs]; exact sf_tm_in hsd.1 hN
  · intro d Y K
    have m0 : sf_mix V Y 0 = V 0 := sf_mix_lo (by decide)
    rw [s96 (by rw [m0, hs]; exact hs0) hN, m0, sf_mix_ul (by decide)]
    refine congrArg (fun Z => K _ (sf_E Z)) ?_
    refine sf_mix_l (fun a h => ?_)
    rw [sf_upd_ne (a := sf_rf 409 4) (fun z => sf_hi_all 4 (z ▸ h))]
  · intro d Y K
    have m0 : sf_mix Y V (sf_rf 409 4) = V (sf_rf 409 4) := sf_mix_hi (sf_hi_all 4)
    rw [s130 (by rw [m0]; exact hs0) hN, m0, ← hs, sf_mix_ur (sf_hi_all 4)]
    refine congrArg (fun Z => K _ (sf_E Z)) ?_
    refine sf_mix_r (fun a h => ?_)
    funext k
    unfold sf_upd
    by_cases q : a = sf_rf 409 4 ∧ k = 3
    · rw [if_pos q, if_pos q]
    · rw [if_neg q, if_neg q, if_neg (fun z : a = 0 ∧ _ => h (by omega))]
theorem sf_driftH (R : sf_RR V n nx c ce cf cg) (hn : 0 < n) (hh : V (sf_rf 409 4) 2 ≤ 90098) : ∃ (W : sf_MV) (nx c : Nat), sf_RR W n nx c ce cf cg ∧ W (sf_rf 409 4) 2 = V (sf_rf 409 4) 2 + 1 ∧
    (∀ Y K, sf_wp 18 none 95 0 [some (.inr (.inl (some 0))), none, none] [] (sf_E (sf_mix V Y)) K = K none (sf_E (sf_mix W Y))) ∧
    (∃ a' b' : Int, ∀ Y K (x k : Int) a b, sf_wp 19 none 131 46 [some (.inr (.inl (some 409))), some (.inl x), some (.inl k), a, b] [] (sf_E (sf_mix Y V)) K = sf_wp 19 none 131 105 [some (.inr (.inl (some 409))), some (.inl x), some (.inl k), some (.inl a'), some (.inl b')] [] (sf_E (sf_mix Y W)) K) := by
  have c1 := sf_c11_1 sf_x
  have c2 := sf_c11_2 sf_x
  have d2 := sf_c2_2 c1
  have y3 := sf_c12_3 sf_y
  have y4 := sf_c12_4 sf_y
  obtain ⟨l0, l1, l2, l4, l5, l6, l7⟩ := sf_lo_all
  obtain ⟨V1, e, R1, h1, he, x1, z1⟩ := sf_drawS R (N := 8) (by decide)
  obtain ⟨e, rfl⟩ : ∃ q : Nat, e = (q : Int) := ⟨e.toNat, by omega⟩
  by_cases he6 : e < 6
  · have he' : 0 ≤ (e : Int) ∧ (e : Int) < 6 := by omega
    obtain ⟨V2, p, R2, h2, hp, x2, z2⟩ := sf_drawS R1 (N := (n : Int)) (by omega)
    obtain ⟨p, rfl⟩ : ∃ q : Nat, p = (q : Int) := ⟨p.toNat, by omega⟩
    have xn := R1.a.xn
    have yn := R1.a.yn
    have rc : ∀ Y, sf_rd (sf_mix V2 Y) (sf_rf (sf_rf (sf_rf 0 1) 2) 0) (e : Int) = V2 (sf_rf 409 3) e := fun Y => by
      unfold sf_rd
      rw [if_pos ⟨by omega, by have := sf_homeLen c1; omega⟩, Int.toNat_natCast, sf_mix_lo l6]
      exact R2.a.s e he6
    have m2 : ∀ Y, sf_mix V2 Y (sf_rf 0 2) 4 = V2 (sf_rf 409 4) 1 := fun Y => by
      rw [sf_mix_lo l2]
      exact R2.b.q.l
    have m1 : ∀ Y, sf_mix V1 Y (sf_rf 0 1) 4 = (n : Int) := fun Y => by rw [sf_mix_lo l1, xn]
    have m0 : ∀ Y, sf_mix Y V1 409 0 = (n : Int) := fun Y => by rw [sf_mix_hi (by decide), yn]
    have m3 : ∀ Y, sf_mix Y V2 (sf_rf 409 3) = V2 (sf_rf 409 3) := fun Y => sf_mix_hi (sf_hi_all 3)
    have m4 : ∀ Y, sf_mix Y V2 (sf_rf 409 4) = V2 (sf_rf 409 4) := fun Y => sf_mix_hi (sf_hi_all 4)
    by_cases hco : V2 (sf_rf 409 3) e ≤ V2 (sf_rf 409 4) 1
    · obtain ⟨W, nx', c', RW, hW, h94, h127⟩ := sf_hourD R2 hn (by omega) (e := e) (p := p) he6 (by omega) hco
      refine ⟨W, nx', c', RW, by rw [hW, h2, h1], ?_, (e : Int), (p : Int), ?_⟩
      · intro Y K
        simp only [q95_0, q95_1, q95_3, q95_6, sf_x, x1, q95_7, q95_8, s92, q95_11, Option.toList_some, Option.toList_none, List.cons_append, List.nil_append]
        rw [if_pos he', if_neg (by decide)]
        simp only [q95_22, q95_23, q95_24, q95_27, q95_30, q95_33, q95_34, q95_35, q95_38, q95_41, q95_42, sf_x, c1, m1, x2, d2, s31, rc, Option.toList_some, Option.toList_none, List.cons_append, List.nil_append]
        simp only [q95_45, q95_46, q95_49, q95_52, sf_x, c2, m2, Option.toList_some, Option.toList_none, List.cons_append, List.nil_append]
        rw [if_neg (by omega)]
        simp only [q95_55, q95_56, q95_57, q95_58, q95_61, q95_62, sf_x, h94 13, q95_72, Option.toList_some, Option.toList_none, List.cons_append, List.nil_append]
      · intro Y K x k a b
        simp only [q131_46, q131_47, q131_49, q131_52, q131_53, q131_54, q131_56, sf_y, z1, Option.toList_some, Option.toList_none, List.cons_append, List.nil_append]
        rw [if_neg (by omega)]
        simp only [q131_59, q131_60, q131_61, q131_64, q131_67, sf_y, m0, z2, Option.toList_some, Option.toList_none, List.cons_append, List.nil_append]
        simp only [q131_71, q131_73, q131_74, q131_75, q131_77]
        rw [if_neg (by omega)]
        simp (decide := true) only [q131_80, q131_81, q131_84, q131_85, q131_86, q131_87, q131_90, q131_91, q131_92, sf_y, y3, y4, sf_y3, sf_y4, sf_bd, he6, m3, m4, true_and, Int.toNat_natCast, Int.reduceToNat]
        rw [if_neg (by omega)]
        simp only [q131_95, q131_96, q131_100, q131_102, sf_y, h127 15, Option.toList_some, Option.toList_none, List.cons_append, List.nil_append]
    · obtain ⟨W, nx', c', RW, hW, h94, h127⟩ := sf_hourN R2 hn (by omega) (p := -1) (q := (p : Int))
      refine ⟨W, nx', c', RW, by rw [hW, h2, h1], ?_, (e : Int), (p : Int), ?_⟩
      · intro Y K
        simp only [q95_0, q95_1, q95_3, q95_6, sf_x, x1, q95_7, q95_8, s92, q95_11, Option.toList_some, Option.toList_none, List.cons_append, List.nil_append]
        rw [if_pos he', if_neg (by decide)]
        simp only [q95_22, q95_23, q95_24, q95_27, q95_30, q95_33, q95_34, q95_35, q95_38, q95_41, q95_42, sf_x, c1, m1, x2, d2, s31, rc, Option.toList_some, Option.toList_none, List.cons_append, List.nil_append]
        simp only [q95_45, q95_46, q95_49, q95_52, sf_x, c2, m2, Option.toList_some, Option.toList_none, List.cons_append, List.nil_append]
        rw [if_pos (by omega)]
        simp only [q95_65, q95_66, q95_67, q95_68, q95_71, q95_72, sf_x, h94 13, Option.toList_some, Option.toList_none, List.cons_append, List.nil_append]
      · intro Y K x k a b
        simp only [q131_46, q131_47, q131_49, q131_52, q131_53, q131_54, q131_56, sf_y, z1, Option.toList_some, Option.toList_none, List.cons_append, List.nil_append]
        rw [if_neg (by omega)]
        simp only [q131_59, q131_60, q131_61, q131_64, q131_67, sf_y, m0, z2, Option.toList_some, Option.toList_none, List.cons_append, List.nil_append]
        simp only [q131_71, q131_73, q131_74, q131_75, q131_77]
        rw [if_neg (by omega)]
        simp (decide := true) only [q131_80, q131_81, q131_84, q131_85, q131_86, q131_87, q131_90, q131_91, q131_92, sf_y, y3, y4, sf_y3, sf_y4, sf_bd, he6, m3, m4, true_and, Int.toNat_natCast, Int.reduceToNat]
        rw [if_pos (by omega)]
        simp only [q131_99, q131_100, q131_102, sf_y, h127 15, Option.toList_some, Option.toList_none, List.cons_append, List.nil_append]
  · have he' : ¬ (0 ≤ (e : Int) ∧ (e : Int) < 6) := by omega
    obtain ⟨W, nx', c', RW, hW, h94, h127⟩ := sf_hourN R1 hn (by omega) (p := -1) (q := 0)
    refine ⟨W, nx', c', RW, by rw [hW, h1], ?_, (e : Int), 0, ?_⟩
    · intro Y K
      simp only [q95_0, q95_1, q95_3, q95_6, sf_x, x1, q95_7, q95_8, s92, q95_11, Option.toList_some, Option.toList_none, List.cons_append, List.nil_append]
      rw [if_neg he', if_pos rfl]
      simp only [q95_14, q95_15, q95_16, q95_17, q95_20, q95_21, sf_x, h94 13, Option.toList_some, Option.toList_none, List.cons_append, List.nil_append]
    · intro Y K x k a b
      simp only [q131_46, q131_47, q131_49, q131_52, q131_53, q131_54, q131_56, sf_y, z1, Option.toList_some, Option.toList_none, List.cons_append, List.nil_append]
      rw [if_pos (by omega)]
      simp only [q131_70, q131_71, q131_73, q131_74, q131_75, q131_77]
      rw [if_pos (by omega)]
      simp only [q131_99, q131_100, q131_102, sf_y, h127 15, Option.toList_some, Option.toList_none, List.cons_append, List.nil_append]
end SFP11

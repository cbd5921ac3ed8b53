/-! forEver, fair -/
section SFP72
variable {V : sf_MV} {n nx c ce cf cg : Nat}
theorem sf_ever (R : sf_RR V n nx c ce cf cg) (hn : 0 < n) (hcf : 0 < cf) : ∃ (W U : sf_MV) (lap : Nat) (w : Nat → Nat), sf_RR W n nx c ce cf cg ∧ sf_RR U n nx c ce cf cg ∧ (∀ q, w q ≤ 2000) ∧ W (sf_rf 0 12) 5 = (lap : Int) ∧ U 409 37 = (lap : Int) ∧
    (∀ K, sf_wp 18 none 24 0 [some (.inr (.inl (some (sf_rf 0 12)))), some (.inl (n : Int)), some (.inr (.inl (some (sf_rf 0 2)))), some (.inr (.inl (some (sf_rf 0 9)))), none] [] (sf_E V) K = K none (sf_E W)) ∧
    (∀ K (q : Nat), sf_wp 18 none 28 0 [some (.inr (.inl (some (sf_rf 0 12)))), some (.inl (q : Int)), none, none] [] (sf_E W) K = K (some (.inl (w q : Int))) (sf_E W)) ∧
    (∀ K, sf_wp 18 none 29 0 [some (.inr (.inl (some (sf_rf 0 12)))), some (.inl (n : Int)), none, none, none, none] [] (sf_E W) K = K (some (.inl (sf_feX (fun q => (w q : Int)) n - sf_feI (fun q => (w q : Int)) n))) (sf_E W)) ∧
    (∀ K, sf_wp 18 none 147 0 [some (.inr (.inl (some 409))), none, none] [] (sf_E W) K = K none (sf_E U)) ∧
    (∀ K (q : Nat), q < n → sf_wp 18 none 148 0 [some (.inr (.inl (some 409))), some (.inl (q : Int)), none, none] [] (sf_E U) K = K (some (.inl (w q : Int))) (sf_E U)) := by
  have ha := R.a
  have hb := R.b
  have hf := R.f
  have n5 := ha.n5
  have cf20 := hf.c20
  have Z : sf_feZ n cf 90099 (V (sf_rf 409 11)) (sf_fe50 (sf_getS V (sf_rf 0 2))) := sf_feZ.mk (sf_rok_50 hb.x) hn n5 hcf (fun p hp => by
    unfold sf_fe50
    rw [if_pos (by omega)]) hf.r
  have P := sf_feg_fe Z
  obtain ⟨a0, b0, hab, hb0, hB⟩ := sf_fe_ex P
  obtain ⟨r, hr, ⟨k, hk, hM⟩, hrm⟩ := sf_feMin (Q := fun r => ∃ k, k < r ∧ sf_feB n (sf_feDar n cf (V (sf_rf 409 11)) (sf_fe50 (sf_getS V (sf_rf 0 2)))) (sf_feSin n cf (V (sf_rf 409 11)) (sf_fe50 (sf_getS V (sf_rf 0 2)))) (cf * k) (cf * r)) b0 ⟨a0, hab, hB⟩
  obtain ⟨J, hJ, ⟨i, hi, hA⟩, hJm⟩ := sf_feMin (Q := fun r => ∃ k, k < r ∧ sf_feA n (sf_feDar n cf (V (sf_rf 409 11)) (sf_fe50 (sf_getS V (sf_rf 0 2)))) (sf_feSin n cf (V (sf_rf 409 11)) (sf_fe50 (sf_getS V (sf_rf 0 2)))) (cf * k) (cf * r)) b0 ⟨a0, hab, hB.1⟩
  have hlap := sf_fe_lap P hi hA (fun b hb a ha h => hJm b hb ⟨a, ha, h⟩) hk hM (fun b hb a ha h => hrm b hb ⟨a, ha, h⟩)
  have hcode : ∀ x y, sf_feE (sf_feg n cf (V (sf_rf 409 11)) (sf_fe50 (sf_getS V (sf_rf 0 2))) (cf * x)) n n = sf_feE (sf_feg n cf (V (sf_rf 409 11)) (sf_fe50 (sf_getS V (sf_rf 0 2))) (cf * y)) n n ↔ sf_feA n (sf_feDar n cf (V (sf_rf 409 11)) (sf_fe50 (sf_getS V (sf_rf 0 2)))) (sf_feSin n cf (V (sf_rf 409 11)) (sf_fe50 (sf_getS V (sf_rf 0 2)))) (cf * x) (cf * y) := fun x y => by
    rw [sf_feE_eq n5 n (Nat.le_refl _), sf_feA_iff P, sf_feg_0 Z, sf_feg_0 Z]
    exact ⟨fun h => ⟨by have := h.1; omega, h.2⟩, fun h => ⟨by have := h.1; omega, h.2⟩⟩
  obtain ⟨S', sa', da', hda, c1⟩ := s24 (d := 14) R Z (Int.le_refl _) hi (by omega) ((hcode i J).mpr hA) (fun b hb a ha h => hJm b hb ⟨a, ha, (hcode a b).mp h⟩)
  have eJ : cf * J = cf * i + cf * (J - i) := by rw [← Nat.mul_add]; congr 1; omega
  have hJ20 : cf * J ≤ 20 * 100 := Nat.mul_le_mul cf20 (by omega)
  have RW : sf_RR (sf_mr V S' sa' da' ((cf * J : Nat) : Int) ((cf * (J - i) : Nat) : Int) ((J - i : Nat) : Int)) n nx c ce cf cg := sf_RR_mr R
  have e11 : sf_mr V S' sa' da' ((cf * J : Nat) : Int) ((cf * (J - i) : Nat) : Int) ((J - i : Nat) : Int) (sf_rf 409 11) = V (sf_rf 409 11) := sf_mr_hi
  have e4 : sf_mr V S' sa' da' ((cf * J : Nat) : Int) ((cf * (J - i) : Nat) : Int) ((J - i : Nat) : Int) (sf_rf 409 4) = V (sf_rf 409 4) := sf_mr_hi
  have Y : sf_feY n cf (V (sf_rf 409 11)) (sf_fe50 (sf_getS V (sf_rf 0 2))) (cf * 0) (V (sf_rf 409 4)) := by
    have q := hb.q
    have g0 := sf_feg_0 Z 0
    refine sf_feY.mk ?_ ?_ (fun p hp => ?_) (fun e he => ?_) hb.y.w ?_
    · rw [← q.d]
      have : sf_feg n cf (V (sf_rf 409 11)) (sf_fe50 (sf_getS V (sf_rf 0 2))) 0 0 = sf_getS V (sf_rf 0 2) 0 := sf_fe50_k (by omega)
      rw [← this, g0]
      rfl
    · rw [sf_fe50_k (by omega), q.h]
      omega
    · rw [← q.i p hp]
      exact (sf_fe50_k (by omega)).symm
    · rw [sf_fe50_k (by omega), q.r e he]
    · have := hb.y.l
      omega
  have t := s147 (d := 16) (V := sf_mr V S' sa' da' ((cf * J : Nat) : Int) ((cf * (J - i) : Nat) : Int) ((J - i : Nat) : Int)) (S := sf_fe50 (sf_getS V (sf_rf 0 2))) (B := 90099) (i := k) (r := r) RW (by rw [e11]; exact Z) (Int.le_refl _) (by rw [e11, e4]; exact Y) hk (by omega) (by rw [e11]; exact hM) (fun b hb a ha h => by
    rw [e11] at h
    exact hrm b hb ⟨a, ha, h⟩)
  rw [e11] at t
  obtain ⟨T', ra', ho', hho, t1⟩ := t
  have er : r = k + (J - i) := by omega
  have hC : ∀ q : Nat, sf_feC (fun x => decide (da' (cf * i + x) = (q : Int))) (cf * (J - i)) = sf_feW (sf_feDar n cf (V (sf_rf 409 11)) (sf_fe50 (sf_getS V (sf_rf 0 2)))) (cf * i) (cf * (J - i)) q := fun q =>
    sf_feC_congr _ (fun x hx => by
      rw [hda _ (by omega)]
      exact decide_eq_decide.mpr (by omega))
  have hbd : ∀ q : Nat, sf_feW (sf_feDar n cf (V (sf_rf 409 11)) (sf_fe50 (sf_getS V (sf_rf 0 2)))) (cf * i) (cf * (J - i)) q ≤ cf * (J - i) := fun q => sf_feC_bd _
  refine ⟨_, _, J - i, fun q => sf_feW (sf_feDar n cf (V (sf_rf 409 11)) (sf_fe50 (sf_getS V (sf_rf 0 2)))) (cf * i) (cf * (J - i)) q, RW, sf_RR_mq RW, fun q => Nat.le_trans (hbd q) (by omega), sf_mr_p, ?_, c1, fun K q => ?_, fun K => ?_, t1, fun K q hq => ?_⟩
  · rw [sf_mq_a, hlap.1]
  · rw [eJ]
    have s := s28 (d := 17) (V := V) (S := S') (sa := sa') (da := da') (p := ((J - i : Nat) : Int)) (K := K) (a := cf * i) (N := cf * (J - i)) (q := (q : Int)) (by omega)
    rw [hC q] at s
    exact s
  · rw [eJ]
    exact s29 (d := 16) (V := V) (S := S') (sa := sa') (da := da') (p := ((J - i : Nat) : Int)) (K := K) (a := cf * i) (N := cf * (J - i)) (by omega) (fun q => by rw [hC q]) n5 hn
  · have s := s148 (d := 18) (V := sf_mr V S' sa' da' ((cf * J : Nat) : Int) ((cf * (J - i) : Nat) : Int) ((J - i : Nat) : Int)) (T := T') (ra := ra') (ho := ho') (K := K) (i := k) (c' := J - i) (p := q) (D := sf_feDar n cf (V (sf_rf 409 11)) (sf_fe50 (sf_getS V (sf_rf 0 2)))) (L := cf) (by omega) (by omega) cf20 (fun y hy => hho y (by omega) q (by omega))
    rw [sf_fe_cnt P hi hA hlap.2, ← er] at s
    rw [hlap.1]
    exact s
/-- an empty book -/
theorem s24_no (R : sf_RR V n nx c ce cf cg) (hn : 0 < n) (hcf : cf = 0) : ∃ W, sf_RR W n nx c ce cf cg ∧ W (sf_rf 0 12) 5 = -1 ∧ ∀ K, sf_wp 18 none 24 0 [some (.inr (.inl (some (sf_rf 0 12)))), some (.inl (n : Int)), some (.inr (.inl (some (sf_rf 0 2)))), some (.inr (.inl (some (sf_rf 0 9)))), none] [] (sf_E V) K = K none (sf_E W) := by
  have hf := R.f
  have n5 := R.a.n5
  have hx := R.b.x.d
  have x2 := sf_c11_2 sf_x
  have x9 := sf_c11_9 sf_x
  have x12 := sf_c11_12 sf_x
  have z1 := sf_c6_1 x12
  have st9 := sf_st9
  have st0 := sf_c9_0 st9
  obtain ⟨l1, l2, l3⟩ := sf_stoveLen st9
  have h0 : sf_fe50 (sf_getS V (sf_rf 0 2)) 0 = sf_getS V (sf_rf 0 2) 0 := sf_fe50_k (by omega)
  refine ⟨sf_mr V (sf_fe50 (sf_getS V (sf_rf 0 2))) (sf_ru (V (sf_rf (sf_rf (sf_rf 0 12) 1) 0)) 0 (sf_feE (sf_fe50 (sf_getS V (sf_rf 0 2))) n n)) (V (sf_rf (sf_rf (sf_rf 0 12) 2) 0)) 0 0 (-1), sf_RR_mr R, sf_mr_p, fun K => ?_⟩
  have f0 : sf_setS V (sf_rf (sf_rf 0 12) 0) (sf_fe50 (sf_getS V (sf_rf 0 2))) = sf_mr V (sf_fe50 (sf_getS V (sf_rf 0 2))) (V (sf_rf (sf_rf (sf_rf 0 12) 1) 0)) (V (sf_rf (sf_rf (sf_rf 0 12) 2) 0)) (V (sf_rf 0 12) 3) (V (sf_rf 0 12) 4) (V (sf_rf 0 12) 5) := by
    unfold sf_mr
    rw [sf_mrb_self]
  have w0 : sf_wr (sf_mr V (sf_fe50 (sf_getS V (sf_rf 0 2))) (V (sf_rf (sf_rf (sf_rf 0 12) 1) 0)) (V (sf_rf (sf_rf (sf_rf 0 12) 2) 0)) 0 (V (sf_rf 0 12) 4) (-1)) (sf_rf (sf_rf (sf_rf 0 12) 1) 0) 0 (sf_feE (sf_fe50 (sf_getS V (sf_rf 0 2))) n n) = sf_mr V (sf_fe50 (sf_getS V (sf_rf 0 2))) (sf_ru (V (sf_rf (sf_rf (sf_rf 0 12) 1) 0)) 0 (sf_feE (sf_fe50 (sf_getS V (sf_rf 0 2))) n n)) (V (sf_rf (sf_rf (sf_rf 0 12) 2) 0)) 0 (V (sf_rf 0 12) 4) (-1) := sf_mr_ws (j := 0) (by omega)
  have m9 := (sf_mr_bk (V := V) (S := sf_fe50 (sf_getS V (sf_rf 0 2))) (sa := sf_ru (V (sf_rf (sf_rf (sf_rf 0 12) 1) 0)) 0 (sf_feE (sf_fe50 (sf_getS V (sf_rf 0 2))) n n)) (da := V (sf_rf (sf_rf (sf_rf 0 12) 2) 0)) (h := 0) (l := V (sf_rf 0 12) 4) (p := -1)).1
  simp only [q24_0, q24_1, q24_4, q24_5, x12, st9]
  rw [s39 (d := 16) st9 x2 (by simp [sf_rf_inj])]
  simp only [q24_8, q24_9, q24_12, q24_15, q24_17, x12, st9, st0, s33, l1, sf_put50, f0, Option.toList_some, Option.toList_none, List.cons_append, List.nil_append]
  simp only [q24_20, q24_21, q24_22, q24_25, q24_26, q24_27, q24_30, q24_31, q24_34, q24_35, q24_36, q24_37, x12, z1, sf_mr_uh, sf_mr_up, Option.toList_some, Option.toList_none, List.cons_append, List.nil_append]
  rw [s26 (d := 16) n5 (by omega)]
  simp only [q24_40, z1, s32, Option.toList_some, Option.toList_none, List.cons_append, List.nil_append]
  rw [w0]
  simp only [q24_43, q24_44, q24_46, q24_48, q24_50, Option.toList_some, Option.toList_none, List.cons_append, List.nil_append]
  rw [if_neg (by omega)]
  simp only [q24_53, q24_54, q24_57, q24_58, x12, sf_mr_p]
  rw [if_pos trivial]
  simp only [q24_61, q24_62, q24_65, x9, m9, hf.x]
  rw [if_pos (by omega)]
  simp only [q24_104, q24_105, q24_106, q24_109, q24_110, x12, sf_mr_p]
  rw [if_pos trivial]
  simp only [q24_113, q24_114, q24_126, q24_129, x12, sf_mr_ul]
theorem p_forEver (R : sf_RR V n nx c ce cf cg) {w : Int} : sf_P2 76 149 [some (.inl w)] [some (.inl w)] V := by
  have ha := R.a
  have hf := R.f
  have n5 := ha.n5
  have x1 := sf_c11_1 sf_x
  have x2 := sf_c11_2 sf_x
  have x9 := sf_c11_9 sf_x
  have x12 := sf_c11_12 sf_x
  by_cases h0 : w = -1 ∨ (0 ≤ w ∧ w < n)
  · have ec : ∀ K, sf_wp 19 none 76 0 [some (.inr (.inl (some 0))), some (.inl w)] [] (sf_E V) K = sf_wp 19 none 76 16 [some (.inr (.inl (some 0))), some (.inl w)] [] (sf_E V) K := fun K => by
      simp only [q76_0, q76_1, q76_2]
      by_cases e : w = -1
      · rw [if_pos e]
      · rw [if_neg e]
        simp only [q76_5, q76_6, q76_7, sf_x, s91, q76_10, Option.toList_some, Option.toList_none, List.cons_append, List.nil_append]
        have hq : 0 ≤ w ∧ w < V (sf_rf 0 1) 4 := by rw [ha.xn]; omega
        rw [if_pos hq, if_neg (by decide)]
    have ey : ∀ W, sf_RR W n nx c ce cf cg → ∀ K, sf_wp 19 none 149 0 [some (.inr (.inl (some 409))), some (.inl w)] [] (sf_E W) K = sf_wp 19 none 149 16 [some (.inr (.inl (some 409))), some (.inl w)] [] (sf_E W) K := fun W RW K => by
      have haw := RW.a
      simp only [q149_0, q149_1, q149_2]
      by_cases e : w = -1
      · rw [if_pos e]
      · rw [if_neg e]
        simp only [q149_5, q149_6, q149_7, sf_y, Option.toList_some, Option.toList_none, List.cons_append, List.nil_append]
        rw [s117 (by rw [haw.yn]; omega)]
        simp only [q149_10, Option.toList_some, Option.toList_none, List.cons_append, List.nil_append]
        rw [sf_inB_y (by rw [haw.yn]; omega), if_neg (by decide)]
    by_cases hn : 0 < n
    · by_cases hcf : 0 < cf
      · obtain ⟨W, U, lap, wt, RW, RU, wb, hW, hU, c1, c2, c3, t1, t2⟩ := sf_ever R hn hcf
        have haw := RW.a
        have hfw := RW.f
        refine ⟨if w = -1 then (lap : Int) else (wt w.toNat : Int), W, U, n, nx, c, ce, cf, cg, fun K => ?_, fun K => ?_, RU⟩
        · rw [ec]
          simp only [q76_16, q76_17, q76_20, q76_23, sf_x, x1, ha.xn]
          rw [if_neg (by omega)]
          simp only [q76_29, q76_30, q76_33, q76_34, q76_37, q76_40, q76_41, q76_44, q76_45, q76_48, sf_x, x1, x2, x9, x12, ha.xn]
          refine Eq.trans (c1 _) ?_
          simp only [q76_51, q76_52, q76_53, Option.toList_some, Option.toList_none, List.cons_append, List.nil_append]
          by_cases e : w = -1
          · rw [if_pos e, if_pos e]
            simp only [q76_67, q76_68, q76_71, q76_74, sf_x, x12, hW]
          · rw [if_neg e, if_neg e]
            simp only [q76_56, q76_57, q76_60, q76_63, q76_64, sf_x, x12, hW]
            rw [if_neg (by omega)]
            simp only [q76_75, q76_76, q76_79, q76_80, sf_x, x12]
            obtain ⟨q, rfl⟩ : ∃ q : Nat, w = (q : Int) := ⟨w.toNat, by omega⟩
            refine Eq.trans (c2 _ q) ?_
            simp only [q76_83, Int.toNat_natCast, Option.toList_some, Option.toList_none, List.cons_append, List.nil_append]
        · rw [ey W RW]
          simp only [q149_16, q149_17, q149_20, sf_y, haw.yn]
          rw [if_neg (by omega)]
          simp only [q149_26, q149_27, q149_30, sf_y, hfw.y]
          rw [if_neg (by omega)]
          simp only [q149_35, q149_36, sf_y]
          refine Eq.trans (t1 _) ?_
          simp only [q149_39, q149_40, q149_41, Option.toList_some, Option.toList_none, List.cons_append, List.nil_append]
          by_cases e : w = -1
          · rw [if_pos e, if_pos e]
            simp only [q149_52, q149_53, q149_56, q149_64, sf_y, hU]
          · rw [if_neg e, if_neg e]
            simp only [q149_44, q149_45, q149_48, q149_49, sf_y, hU]
            rw [if_neg (by omega)]
            simp only [q149_59, q149_60, q149_61, sf_y]
            obtain ⟨q, rfl⟩ : ∃ q : Nat, w = (q : Int) := ⟨w.toNat, by omega⟩
            refine Eq.trans (t2 _ q (by omega)) ?_
            simp only [q149_64, Int.toNat_natCast, Option.toList_some, Option.toList_none, List.cons_append, List.nil_append]
      · obtain ⟨W, RW, hW, c1⟩ := s24_no R hn (by omega)
        have haw := RW.a
        have hfw := RW.f
        refine ⟨-1, W, W, n, nx, c, ce, cf, cg, fun K => ?_, fun K => ?_, RW⟩
        · rw [ec]
          simp only [q76_16, q76_17, q76_20, q76_23, sf_x, x1, ha.xn]
          rw [if_neg (by omega)]
          simp only [q76_29, q76_30, q76_33, q76_34, q76_37, q76_40, q76_41, q76_44, q76_45, q76_48, sf_x, x1, x2, x9, x12, ha.xn]
          refine Eq.trans (c1 _) ?_
          simp only [q76_51, q76_52, q76_53, Option.toList_some, Option.toList_none, List.cons_append, List.nil_append]
          by_cases e : w = -1
          · rw [if_pos e]
            simp only [q76_67, q76_68, q76_71, q76_74, sf_x, x12, hW]
          · rw [if_neg e]
            simp only [q76_56, q76_57, q76_60, q76_63, q76_64, sf_x, x12, hW]
            rw [if_pos trivial]
            simp only [q76_67, q76_68, q76_71, q76_74, sf_x, x12, hW]
        · rw [ey W RW]
          simp only [q149_16, q149_17, q149_20, sf_y, haw.yn]
          rw [if_neg (by omega)]
          simp only [q149_26, q149_27, q149_30, sf_y, hfw.y]
          rw [if_pos (by omega)]
          simp only [q149_33, q149_34]
    · refine ⟨-1000000003, V, V, n, nx, c, ce, cf, cg, fun K => ?_, fun K => ?_, R⟩
      · rw [ec]
        simp only [q76_16, q76_17, q76_20, q76_23, sf_x, x1, ha.xn]
        rw [if_pos (by omega)]
        simp only [q76_26, q76_28]
      · rw [ey V R]
        simp only [q149_16, q149_17, q149_20, sf_y, ha.yn]
        rw [if_pos (by omega)]
        simp only [q149_23, q149_25]
  · refine ⟨-1000000001, V, V, n, nx, c, ce, cf, cg, fun K => ?_, fun K => ?_, R⟩
    · simp only [q76_0, q76_1, q76_2]
      rw [if_neg (by omega)]
      simp only [q76_5, q76_6, q76_7, sf_x, s91, q76_10, Option.toList_some, Option.toList_none, List.cons_append, List.nil_append]
      have hq : ¬ (0 ≤ w ∧ w < V (sf_rf 0 1) 4) := by rw [ha.xn]; omega
      rw [if_neg hq, if_pos rfl]
      simp only [q76_13, q76_15]
    · simp only [q149_0, q149_1, q149_2]
      rw [if_neg (by omega)]
      simp only [q149_5, q149_6, q149_7, sf_y, Option.toList_some, Option.toList_none, List.cons_append, List.nil_append]
      rw [s117 (by rw [ha.yn]; omega)]
      simp only [q149_10, Option.toList_some, Option.toList_none, List.cons_append, List.nil_append]
      rw [sf_inB_n (by rw [ha.yn]; omega), if_pos rfl]
      simp only [q149_13, q149_15]
end SFP72

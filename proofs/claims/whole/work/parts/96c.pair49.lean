/-! duel: the pair -/
section SFP49
variable {V X U : sf_MV} {n nx c ce cf cg : Nat}
theorem sf_RR_cx (R : sf_RR V n nx c ce cf cg) {W : sf_MV} (h : ∀ x, ¬ x = sf_rf 0 11 → (∀ t, t < 5 → ¬ x = sf_cx t ∧ ¬ x = sf_rf (sf_rf (sf_cx t) 0) 0 ∧ ¬ x = sf_rf (sf_rf (sf_cx t) 1) 0 ∧ ¬ x = sf_rf (sf_rf (sf_cx t) 2) 0) → W x = V x) : sf_RR W n nx c ce cf cg := by
  refine sf_RR_frame R (fun j hj _ => ?_) (fun j i _ _ => ?_) (fun j i k _ _ => ?_) (fun i => ?_) (fun i j => ?_) (fun i => ?_) (fun i j => ?_) (fun j _ => ?_) ?_ (fun j _ => ?_)
  · rw [h _ (by simp [sf_rf_inj]; omega) (fun t _ => by simp [sf_cx, sf_rf_inj, sf_0ne_rf])]
  · rw [h _ (by simp [sf_rf_inj, sf_rf_ne0]) (fun t _ => by simp [sf_cx, sf_rf_inj, sf_0ne_rf])]
  · rw [h _ (by simp [sf_rf_inj, sf_rf_ne0]) (fun t _ => by simp [sf_cx, sf_rf_inj, sf_0ne_rf])]
  · rw [h _ (by simp [sf_rg, sf_rf_inj, sf_rf_ne0]) (fun t _ => by simp [sf_rg, sf_cx, sf_rf_inj, sf_0ne_rf, sf_rf_ne0])]
  · rw [h _ (by simp [sf_rg, sf_rf_inj, sf_rf_ne0]) (fun t _ => by simp [sf_rg, sf_cx, sf_rf_inj, sf_0ne_rf, sf_rf_ne0])]
  · rw [h _ (by simp [sf_sh, sf_rf_inj, sf_rf_ne0]) (fun t _ => by simp [sf_sh, sf_cx, sf_rf_inj, sf_0ne_rf, sf_rf_ne0])]
  · rw [h _ (by simp [sf_sh, sf_rf_inj, sf_rf_ne0]) (fun t _ => by simp [sf_sh, sf_cx, sf_rf_inj, sf_0ne_rf, sf_rf_ne0])]
  · rw [h _ (by simp [sf_Yne_rf]) (fun t _ => by simp [sf_cx, sf_Yne_rf])]
  · rw [h _ (by simp [sf_0ne_rf]) (fun t _ => by simp [sf_cx, sf_0ne_rf])]
  · rw [h _ (by simp [sf_rf_inj]) (fun t _ => by simp [sf_cx, sf_rf_inj, sf_Yne_rf])]
theorem sf_vl_ch {g : Int} {cold cold' : Nat → Int} {a b : Int} {r k x : Nat} {S T : Nat → Int} (hn : 0 < n) (hn5 : n ≤ 5) (ha : 0 ≤ a ∧ a < n) (hb : 0 ≤ b ∧ b < n) (hc : ∀ p, p < n → cold p = cold' p) (h : sf_req n S T) (hd : 0 ≤ S 0 ∧ S 0 < n) :
    sf_vl n g cold a b r (k + 1) (sf_goes n g cold S (sf_ntx n S (sf_who a b k) x)) = sf_vl n g cold' a b r (k + 1) (sf_goes n g cold' T (sf_ntx n T (sf_who a b k) x)) := by
  have hw : 0 ≤ sf_who a b k ∧ sf_who a b k < n := by
    unfold sf_who
    split <;> assumption
  have e : sf_ntx n S (sf_who a b k) x = sf_ntx n T (sf_who a b k) x := by
    unfold sf_ntx
    by_cases hx : x < 6
    · rw [if_pos hx, if_pos hx, sf_likes_c h, h.r x hx]
    · rw [if_neg hx, if_neg hx, h.d]
  have ht := sf_ntx_in (x := x) hn hw hd
  rw [← e]
  refine sf_vl_c (v := 0) hn hn5 ha hb hc r (k + 1) _ _ (sf_req_l (sf_req_goes h hn5 ht.2 hc)) ?_
  rw [sf_goes_0]
  omega
theorem p_duel (R : sf_RR V n nx c ce cf cg) {a b h w : Int} : sf_P2 75 144 [some (.inl a), some (.inl b), some (.inl h), some (.inl w)] [some (.inl a), some (.inl b), some (.inl h), some (.inl w), none, none, none, none, none] V := by
  have x1 := sf_c11_1 sf_x
  have x2 := sf_c11_2 sf_x
  have x11 := sf_c11_11 sf_x
  have s0 := sf_c1_0 x11
  have y30 := sf_c12_30 sf_y
  have y34 := sf_c12_34 sf_y
  have ha := R.a
  have hb := R.b
  have hn5 := ha.n5
  have i7 : ∀ X : sf_MV, X 409 = V 409 → -1000 ≤ X 409 0 ∧ X 409 0 ≤ 1000 := fun X hX => by rw [hX, ha.yn]; omega
  by_cases hp : (0 ≤ a ∧ a < n) ∧ (0 ≤ b ∧ b < n) ∧ ¬ a = b
  · obtain ⟨hp1, hp2, hab⟩ := hp
    by_cases hq : (1 ≤ h ∧ h ≤ 4) ∧ (0 ≤ w ∧ w ≤ 1)
    · obtain ⟨hq1, hq2⟩ := hq
      obtain ⟨r, rfl⟩ : ∃ r : Nat, h = ((r + 1 : Nat) : Int) := ⟨h.toNat - 1, by omega⟩
      have hn : 0 < n := by omega
      have hd := hb.x.d
      have c0 := sf_cxCls (show 0 < 5 by decide)
      -- the class
      generalize hV1 : sf_upd (sf_upd (sf_upd (sf_setS V (sf_cx 0) (sf_getS V (sf_rf 0 2))) (sf_rf 0 11) 1 a) (sf_rf 0 11) 2 b) (sf_rf 0 11) 3 ((r + 1 : Nat) : Int) = V1
      have n1 : ∀ x, ¬ x = sf_rf 0 11 → ¬ x = sf_cx 0 → ¬ x = sf_rf (sf_rf (sf_cx 0) 0) 0 → ¬ x = sf_rf (sf_rf (sf_cx 0) 1) 0 → ¬ x = sf_rf (sf_rf (sf_cx 0) 2) 0 → V1 x = V x := fun x q1 q2 q3 q4 q5 => by
        rw [← hV1, sf_upd_ne q1, sf_upd_ne q1, sf_upd_ne q1, sf_setS_ne3 q2 q3 q4 q5]
      have row1 : sf_getS V1 (sf_cx 0) = sf_getS V (sf_rf 0 2) := by
        have : sf_getS V1 (sf_cx 0) = sf_getS (sf_setS V (sf_cx 0) (sf_getS V (sf_rf 0 2))) (sf_cx 0) := by
          rw [← hV1]
          refine sf_getS_congr ?_ ?_ ?_ ?_ <;> rw [sf_upd_ne (by simp [sf_cx, sf_rf_inj, sf_rf_ne0]), sf_upd_ne (by simp [sf_cx, sf_rf_inj, sf_rf_ne0]), sf_upd_ne (by simp [sf_cx, sf_rf_inj, sf_rf_ne0])]
        rw [this, sf_getS_cp]
      have hm1 : V1 (sf_rf 0 1) = V (sf_rf 0 1) := n1 _ (by simp [sf_rf_inj]) (by simp [sf_cx, sf_rf_inj, sf_0ne_rf]) (by simp [sf_cx, sf_rf_inj, sf_0ne_rf]) (by simp [sf_cx, sf_rf_inj, sf_0ne_rf]) (by simp [sf_cx, sf_rf_inj, sf_0ne_rf])
      have hm2 : V1 (sf_si (sf_rf 0 1)) = V (sf_si (sf_rf 0 1)) := n1 _ (by simp [sf_si, sf_rf_inj, sf_rf_ne0]) (by simp [sf_si, sf_cx, sf_rf_inj, sf_0ne_rf, sf_rf_ne0]) (by simp [sf_si, sf_cx, sf_rf_inj, sf_0ne_rf, sf_rf_ne0]) (by simp [sf_si, sf_cx, sf_rf_inj, sf_0ne_rf, sf_rf_ne0]) (by simp [sf_si, sf_cx, sf_rf_inj, sf_0ne_rf, sf_rf_ne0])
      obtain ⟨V', fg, _, z5, z4⟩ := s4 (n := n) (g := V 409 1) (a := a) (b := b) (cold := V (sf_si (sf_rf 0 1))) (N := r + 1) hn hn5 hp1 hp2 (by omega) ha.g0 ha.cx (r + 1) 0 V1 90099 (by omega) (by rw [← hV1, sf_upd_ne2 (by decide), sf_upd_ne2 (by decide), sf_upd_eq]) (by rw [← hV1, sf_upd_ne2 (by decide), sf_upd_eq]) (by rw [← hV1, sf_upd_eq]) (by rw [hm1]; exact ha.xn) (by rw [hm1]; exact ha.g) hm2 (by rw [row1]; exact hb.x) (by omega)
      rw [row1] at z4 z5
      have z5' := z5 rfl (by omega)
      rw [show r + 1 - 1 = r by omega] at z5'
      generalize hf : (fun x => sf_vl n (V 409 1) (V (sf_si (sf_rf 0 1))) a b r (0 + 1) (sf_goes n (V 409 1) (V (sf_si (sf_rf 0 1))) (sf_getS V (sf_rf 0 2)) (sf_ntx n (sf_getS V (sf_rf 0 2)) (sf_who a b 0) x))) = f at z5'
      have hval : sf_vl n (V 409 1) (V (sf_si (sf_rf 0 1))) a b (r + 1) 0 (sf_getS V (sf_rf 0 2)) = (sf_vf f (decide (0 % 2 = 0)) 7).1 := by
        rw [← hf]
        rfl
      generalize hev : decide (0 % 2 = 0) = ev at z5' hval
      rw [hval] at z4
      generalize hV2 : sf_upd V' (sf_rf 0 11) 4 (sf_vf f ev 7).1 = V2
      have n2 : ∀ x, ¬ x = sf_rf 0 11 → (∀ t, t < 5 → ¬ x = sf_cx t ∧ ¬ x = sf_rf (sf_rf (sf_cx t) 0) 0 ∧ ¬ x = sf_rf (sf_rf (sf_cx t) 1) 0 ∧ ¬ x = sf_rf (sf_rf (sf_cx t) 2) 0) → V2 x = V x := fun x q1 q2 => by
        obtain ⟨t1, t2, t3, t4⟩ := q2 0 (by decide)
        rw [← hV2, sf_upd_ne q1, fg.1 x q1 (fun t _ ht => q2 t ht), n1 x q1 t1 t2 t3 t4]
      have R2 := sf_RR_cx R n2
      have e7 : V2 409 = V 409 := n2 _ (by simp [sf_Yne_rf]) (fun t _ => by simp [sf_cx, sf_Yne_rf])
      have er : ∀ q, V2 (sf_rf 409 q) = V (sf_rf 409 q) := fun q => n2 _ (by simp [sf_rf_inj]) (fun t _ => by simp [sf_cx, sf_rf_inj, sf_Yne_rf])
      have cls : ∀ K, sf_wp 19 none 75 0 [some (.inr (.inl (some 0))), some (.inl a), some (.inl b), some (.inl ((r + 1 : Nat) : Int)), some (.inl w)] [] (sf_E V) K = K (some (.inl (if w = 0 then (sf_vf f ev 7).1 else (sf_vf f ev 7).2))) (sf_E V2) := fun K => by
        have ee : ∀ t, sf_rf (sf_rf (sf_rf (sf_rf 0 11) 0) 0) t = sf_cx t := fun _ => rfl
        simp only [q75_0, q75_1, q75_2, s91, q75_5, sf_x, ha.xn, Option.toList_some, Option.toList_none, List.cons_append, List.nil_append]
        rw [if_pos hp1, if_neg (by decide)]
        simp only [q75_8, q75_9, q75_10, s91, q75_13, sf_x, ha.xn, Option.toList_some, Option.toList_none, List.cons_append, List.nil_append]
        rw [if_pos hp2, if_neg (by decide)]
        simp only [q75_16, q75_17, q75_18]
        rw [if_neg hab]
        simp only [q75_24, q75_25, q75_26, q75_27, s90, q75_30, Option.toList_some, Option.toList_none, List.cons_append, List.nil_append]
        rw [if_pos hq1, if_neg (by decide)]
        simp only [q75_33, q75_35, q75_36, q75_37, s90, q75_40, Option.toList_some, Option.toList_none, List.cons_append, List.nil_append]
        rw [if_pos hq2, if_neg (by decide)]
        simp only [q75_46, q75_47, q75_50, q75_51, q75_54, q75_55, q75_58, q75_59, q75_60, sf_x, x1, x2, x11]
        simp only [q75_61, x11]
        simp only [q3_0, q3_1, q3_4, x11]
        simp only [q3_5, s0]
        have h36 := fun K => s36 (d := 17) (h := sf_rf (sf_rf 0 11) 0) (k := 0) (V := V) (K := K) s0 (by rw [sf_cxLen]; decide)
        rw [show ((0 : Nat) : Int) = 0 from rfl] at h36
        rw [h36, ee]
        simp only [q3_8, q3_9, c0, x2, Option.toList_some, Option.toList_none, List.cons_append, List.nil_append]
        rw [s39 (d := 16) c0 x2 (by simp [sf_cx, sf_rf_inj, sf_rf_ne0])]
        simp only [q3_12, q3_13, q3_14, q3_17, q3_18, q3_20, q3_23, q3_24, q3_26, q3_29, q3_30, q3_31, q3_32, x11, hV1, Option.toList_some, Option.toList_none, List.cons_append, List.nil_append]
        simp only [q3_33, x11]
        have z4' := z4 17
        rw [show ((0 : Nat) : Int) = 0 from rfl] at z4'
        rw [z4' _ (by omega)]
        simp only [q3_36, q3_39, x11, hV2, Option.toList_some, Option.toList_none, List.cons_append, List.nil_append]
        simp only [q75_64]
        rw [q75_66]
        by_cases w0 : w = 0
        · rw [if_pos w0, if_pos w0]
          have e4 : V2 (sf_rf 0 11) 4 = (sf_vf f ev 7).1 := by rw [← hV2, sf_upd_eq]
          simp only [q75_69, q75_70, q75_73, q75_76, q75_86, sf_x, x11, e4]
        · rw [if_neg w0, if_neg w0]
          have e5 : V2 (sf_rf 0 11) 5 = (sf_vf f ev 7).2 := by rw [← hV2, sf_upd_ne2 (by decide)]; exact z5'
          simp only [q75_79, q75_80, q75_83, q75_86, sf_x, x11, e5]
      -- the reference
      have hy := hb.y
      generalize hX : sf_upd (sf_upd (sf_put (sf_put V2 (sf_rf 409 28) 0 20 (V (sf_rf 409 4))) (sf_rf 409 29) 0 20 (fun j => sf_put V2 (sf_rf 409 28) 0 20 (V (sf_rf 409 4)) (sf_rf 409 28) j)) (sf_rf 409 30) 0 (-1)) (sf_rf 409 34) 0 (-1) = X
      have nX : ∀ y, ¬ y = sf_rf 409 28 → ¬ y = sf_rf 409 29 → ¬ y = sf_rf 409 30 → ¬ y = sf_rf 409 34 → X y = V2 y := fun y q1 q2 q3 q4 => by
        rw [← hX, sf_upd_ne q4, sf_upd_ne q3, sf_put_ne q2, sf_put_ne q1]
      have X7 : X 409 = V 409 := by rw [nX _ (by simp [sf_Yne_rf]) (by simp [sf_Yne_rf]) (by simp [sf_Yne_rf]) (by simp [sf_Yne_rf]), e7]
      have Xr : ∀ q, q < 28 → X (sf_rf 409 q) = V (sf_rf 409 q) := fun q hq => by rw [nX _ (by simp [sf_rf_inj]; omega) (by simp [sf_rf_inj]; omega) (by simp [sf_rf_inj]; omega) (by simp [sf_rf_inj]; omega), er]
      have hyl := hy.l
      have hyh := hy.h
      have hyd := hy.d
      obtain ⟨X', FX, p6, wv, eq⟩ := s144_node (n := n) (g := V 409 1) (a := a) (b := b) (what := w) (cold := V (sf_rf 409 2)) (N := r + 1) hn hn5 hp1 hp2 (by omega) ha.g0 ha.cy r 0 X (V (sf_rf 409 4)) 0 (by omega) (by rw [X7]; exact ha.yn) (by rw [X7]) (Xr 2 (by decide)) (by rw [Xr 3 (by decide)]; exact ha.s0) (fun j hj => by
        rw [← hX, sf_upd_ne (by simp [sf_rf_inj]), sf_upd_ne (by simp [sf_rf_inj]), Nat.mul_zero, Nat.zero_add, sf_put_at hj, sf_put_at hj]) (sf_rk.mk (by omega) (by omega) (by omega) hy.w hy.r) (by rw [← hX, sf_upd_ne (by simp [sf_rf_inj]), sf_upd_eq]) (by rw [← hX, sf_upd_eq])
      have hfT : (fun x => sf_vl n (V 409 1) (V (sf_rf 409 2)) a b r (0 + 1) (sf_goes n (V 409 1) (V (sf_rf 409 2)) (V (sf_rf 409 4)) (sf_ntx n (V (sf_rf 409 4)) (sf_who a b 0) x))) = f := by
        rw [← hf]
        funext x
        exact (sf_vl_ch hn hn5 hp1 hp2 ha.c hb.q (by omega)).symm
      rw [hfT, hev] at wv eq
      refine ⟨_, V2, sf_upd X' (sf_rf 409 30) 0 7, n, nx, c, ce, cf, cg, cls, fun K => ?_, ?_⟩
      · obtain ⟨m7, m8, m9, me⟩ := eq none none none
        simp only [q144_0, q144_1, q144_2, sf_y, Option.toList_some, Option.toList_none, List.cons_append, List.nil_append]
        rw [s117 (i7 _ e7)]
        simp only [q144_5, e7, ha.yn, Option.toList_some, Option.toList_none, List.cons_append, List.nil_append]
        rw [sf_inB_y (by omega), if_neg (by decide)]
        simp only [q144_8, q144_9, q144_10, sf_y, Option.toList_some, Option.toList_none, List.cons_append, List.nil_append]
        rw [s117 (i7 _ e7)]
        simp only [q144_13, e7, ha.yn, Option.toList_some, Option.toList_none, List.cons_append, List.nil_append]
        rw [sf_inB_y (by omega), if_neg (by decide)]
        simp only [q144_16, q144_17, q144_18]
        rw [if_neg hab]
        simp only [q144_24, q144_25, q144_26, q144_27, q144_30]
        rw [q144_33, sf_inB_y hq1, if_neg (by decide)]
        simp only [q144_36, q144_38, q144_39, q144_40, q144_41]
        rw [q144_44, sf_inB_y hq2, if_neg (by decide)]
        simp only [q144_50, q144_51, sf_y]
        rw [s122, er 4]
        simp only [q144_54, q144_55, q144_56, sf_y, Option.toList_some, Option.toList_none, List.cons_append, List.nil_append]
        have l0 := fun K => s137 (d := 18) (V := sf_put V2 (sf_rf 409 28) 0 20 (V (sf_rf 409 4))) (c := 0) (K := K) (by decide)
        rw [show ((0 : Nat) : Int) = 0 from rfl] at l0
        rw [l0]
        simp (decide := true) only [q144_59, q144_60, q144_62, q144_63, q144_65, q144_66, q144_69, q144_70, q144_71, q144_72, q144_73, q144_76, q144_77, q144_78, sf_y, y30, y34, sf_y30, sf_y34, Int.reduceToNat, true_and, Nat.mul_zero, Nat.zero_add, Nat.sub_zero, hX, Option.toList_some, Option.toList_none, List.cons_append, List.nil_append]
        have me' := me K
        rw [show ((0 : Nat) : Int) = 0 from rfl, if_pos rfl] at me'
        refine Eq.trans me' ?_
        have ov := s144_over (a := a) (b := b) (N := ((r + 1 : Nat) : Int)) (what := w) (fst := (sf_vf f ev 7).2) (l7 := m7) (l8 := m8) (l9 := m9) (K := K) (show 0 < 5 by decide) p6 wv
        rw [show ((0 : Nat) : Int) = 0 from rfl] at ov
        refine Eq.trans ov ?_
        simp only [q144_266]
        rw [q144_268, if_pos (by omega), q144_370]
        simp only [q144_79]
        rw [q144_81, if_pos (by omega)]
        simp only [q144_373]
        rw [q144_375]
        by_cases w0 : w = 0
        · rw [if_pos w0, if_pos w0]
          have e34 : sf_upd X' (sf_rf 409 30) 0 7 (sf_rf 409 34) 0 = (sf_vf f ev 7).1 := by rw [sf_upd_ne (by simp [sf_rf_inj])]; exact wv
          simp (decide := true) only [q144_378, q144_379, q144_382, q144_383, q144_384, q144_389, sf_y, y34, sf_y34, Int.reduceToNat, true_and, e34]
        · rw [if_neg w0, if_neg w0]
          simp only [q144_387, q144_389]
      · refine sf_RR_ref R2 (fun y q1 q2 => ?_) (fun j _ => ?_) (fun j hj => ?_)
        · rw [sf_upd_ne (q2 30), FX.1 y (q2 28) (q2 29) (q2 30) (q2 34), nX y (q2 28) (q2 29) (q2 30) (q2 34)]
        · rw [sf_upd_ne (by simp [sf_Yne_rf]), FX.1 _ (by simp [sf_Yne_rf]) (by simp [sf_Yne_rf]) (by simp [sf_Yne_rf]) (by simp [sf_Yne_rf]), X7, e7]
        · rw [sf_upd_ne (by simp [sf_rf_inj]; omega), FX.1 _ (by simp [sf_rf_inj]; omega) (by simp [sf_rf_inj]; omega) (by simp [sf_rf_inj]; omega) (by simp [sf_rf_inj]; omega), Xr j (by omega), er]
    · -- outside
      refine ⟨-1000000002, V, V, n, nx, c, ce, cf, cg, fun K => ?_, fun K => ?_, R⟩
      · simp only [q75_0, q75_1, q75_2, s91, q75_5, sf_x, ha.xn, Option.toList_some, Option.toList_none, List.cons_append, List.nil_append]
        rw [if_pos hp1, if_neg (by decide)]
        simp only [q75_8, q75_9, q75_10, s91, q75_13, sf_x, ha.xn, Option.toList_some, Option.toList_none, List.cons_append, List.nil_append]
        rw [if_pos hp2, if_neg (by decide)]
        simp only [q75_16, q75_17, q75_18]
        rw [if_neg hab]
        simp only [q75_24, q75_25, q75_26, q75_27, s90, q75_30, Option.toList_some, Option.toList_none, List.cons_append, List.nil_append]
        by_cases h1 : 1 ≤ h ∧ h ≤ 4
        · rw [if_pos h1, if_neg (by decide)]
          simp only [q75_33, q75_35, q75_36, q75_37, s90, q75_40, Option.toList_some, Option.toList_none, List.cons_append, List.nil_append]
          rw [if_neg (fun z => hq ⟨h1, z⟩), if_pos rfl]
          simp only [q75_43, q75_45]
        · rw [if_neg h1, if_pos rfl]
          simp only [q75_43, q75_45]
      · simp only [q144_0, q144_1, q144_2, sf_y, Option.toList_some, Option.toList_none, List.cons_append, List.nil_append]
        rw [s117 (i7 _ rfl)]
        simp only [q144_5, ha.yn, Option.toList_some, Option.toList_none, List.cons_append, List.nil_append]
        rw [sf_inB_y (by omega), if_neg (by decide)]
        simp only [q144_8, q144_9, q144_10, sf_y, Option.toList_some, Option.toList_none, List.cons_append, List.nil_append]
        rw [s117 (i7 _ rfl)]
        simp only [q144_13, ha.yn, Option.toList_some, Option.toList_none, List.cons_append, List.nil_append]
        rw [sf_inB_y (by omega), if_neg (by decide)]
        simp only [q144_16, q144_17, q144_18]
        rw [if_neg hab]
        simp only [q144_24, q144_25, q144_26, q144_27, q144_30]
        by_cases h1 : 1 ≤ h ∧ h ≤ 4
        · rw [q144_33, sf_inB_y h1, if_neg (by decide)]
          simp only [q144_36, q144_38, q144_39, q144_40, q144_41]
          rw [q144_44, sf_inB_n (fun z => hq ⟨h1, z⟩), if_pos rfl]
          simp only [q144_47, q144_49]
        · rw [q144_33, sf_inB_n h1, if_pos rfl]
          simp only [q144_47, q144_49]
  · refine ⟨-1000000001, V, V, n, nx, c, ce, cf, cg, fun K => ?_, fun K => ?_, R⟩
    · simp only [q75_0, q75_1, q75_2, s91, q75_5, sf_x, ha.xn, Option.toList_some, Option.toList_none, List.cons_append, List.nil_append]
      by_cases h1 : 0 ≤ a ∧ a < n
      · rw [if_pos h1, if_neg (by decide)]
        simp only [q75_8, q75_9, q75_10, s91, q75_13, sf_x, ha.xn, Option.toList_some, Option.toList_none, List.cons_append, List.nil_append]
        by_cases h2 : 0 ≤ b ∧ b < n
        · rw [if_pos h2, if_neg (by decide)]
          simp only [q75_16, q75_17, q75_18]
          rw [if_pos (Decidable.byContradiction (fun z => hp ⟨h1, h2, z⟩))]
          simp only [q75_21, q75_23]
        · rw [if_neg h2, if_pos rfl]
          simp only [q75_21, q75_23]
      · rw [if_neg h1, if_pos rfl]
        simp only [q75_21, q75_23]
    · simp only [q144_0, q144_1, q144_2, sf_y, Option.toList_some, Option.toList_none, List.cons_append, List.nil_append]
      rw [s117 (i7 _ rfl)]
      simp only [q144_5, ha.yn, Option.toList_some, Option.toList_none, List.cons_append, List.nil_append]
      by_cases h1 : 0 ≤ a ∧ a < n
      · rw [sf_inB_y (by omega), if_neg (by decide)]
        simp only [q144_8, q144_9, q144_10, sf_y, Option.toList_some, Option.toList_none, List.cons_append, List.nil_append]
        rw [s117 (i7 _ rfl)]
        simp only [q144_13, ha.yn, Option.toList_some, Option.toList_none, List.cons_append, List.nil_append]
        by_cases h2 : 0 ≤ b ∧ b < n
        · rw [sf_inB_y (by omega), if_neg (by decide)]
          simp only [q144_16, q144_17, q144_18]
          rw [if_pos (Decidable.byContradiction (fun z => hp ⟨h1, h2, z⟩))]
          simp only [q144_21, q144_23]
        · rw [sf_inB_n (by omega), if_pos rfl]
          simp only [q144_21, q144_23]
      · rw [sf_inB_n (by omega), if_pos rfl]
        simp only [q144_21, q144_23]
end SFP49

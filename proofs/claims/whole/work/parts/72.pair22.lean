/-! judge -/
theorem sf_lo_tr : sf_lo (sf_rf 0 3) := by unfold sf_lo; decide +kernel
section SFP22
variable {V X Y : sf_MV} {n nx c ce cf cg a k m : Nat} {v : Int} {f : Nat → Int} {K : Option sf_V → sf_M → Prop}
theorem sf_RR_tr (R : sf_RR V n nx c ce cf cg) {S : Nat → Int} : sf_RR (sf_setS V (sf_rf 0 3) S) n nx c ce cf cg := by
  refine sf_RR_frame R (fun j _ hj => ?_) (fun j i _ hj => ?_) (fun j i k _ hj => ?_) (fun i => ?_) (fun i j => ?_) (fun i => ?_) (fun i j => ?_) (fun j _ => ?_) ?_ (fun j _ => ?_)
  · rw [sf_setS_ne3 (by simp [sf_rf_inj, hj]) (by simp [sf_rf_inj, sf_0ne_rf]) (by simp [sf_rf_inj, sf_0ne_rf]) (by simp [sf_rf_inj, sf_0ne_rf])]
  · rw [sf_setS_ne3 (by simp [sf_rf_inj, sf_rf_ne0]) (by simp [sf_rf_inj, sf_0ne_rf]) (by simp [sf_rf_inj, sf_0ne_rf]) (by simp [sf_rf_inj, sf_0ne_rf])]
  · rw [sf_setS_ne3 (by simp [sf_rf_inj, sf_rf_ne0]) (by simp [sf_rf_inj, hj]) (by simp [sf_rf_inj, hj]) (by simp [sf_rf_inj, hj])]
  · rw [sf_setS_ne3 (by simp [sf_rg, sf_rf_inj, sf_rf_ne0]) (by simp [sf_rg, sf_rf_inj, sf_rf_ne0]) (by simp [sf_rg, sf_rf_inj, sf_rf_ne0]) (by simp [sf_rg, sf_rf_inj, sf_rf_ne0])]
  · rw [sf_setS_ne3 (by simp [sf_rg, sf_rf_inj, sf_rf_ne0]) (by simp [sf_rg, sf_rf_inj, sf_rf_ne0]) (by simp [sf_rg, sf_rf_inj, sf_rf_ne0]) (by simp [sf_rg, sf_rf_inj, sf_rf_ne0])]
  · rw [sf_setS_ne3 (by simp [sf_sh, sf_rf_inj, sf_rf_ne0]) (by simp [sf_sh, sf_rf_inj, sf_rf_ne0]) (by simp [sf_sh, sf_rf_inj, sf_rf_ne0]) (by simp [sf_sh, sf_rf_inj, sf_rf_ne0])]
  · rw [sf_setS_ne3 (by simp [sf_sh, sf_rf_inj, sf_rf_ne0]) (by simp [sf_sh, sf_rf_inj, sf_rf_ne0]) (by simp [sf_sh, sf_rf_inj, sf_rf_ne0]) (by simp [sf_sh, sf_rf_inj, sf_rf_ne0])]
  · rw [sf_setS_ne3 (by simp [sf_Yne_rf]) (by simp [sf_Yne_rf]) (by simp [sf_Yne_rf]) (by simp [sf_Yne_rf])]
  · rw [sf_setS_ne3 (by simp [sf_0ne_rf]) (by simp [sf_0ne_rf]) (by simp [sf_0ne_rf]) (by simp [sf_0ne_rf])]
  · rw [sf_setS_ne3 (by simp [sf_rf_inj]) (by simp [sf_rf_inj, sf_Yne_rf]) (by simp [sf_rf_inj, sf_Yne_rf]) (by simp [sf_rf_inj, sf_Yne_rf])]
theorem sf_tr_hi {S : Nat → Int} (h : ¬ a < 409) : sf_setS V (sf_rf 0 3) S a = V a := by
  obtain ⟨h0, h1, h2, h3⟩ := sf_lo_tr
  exact sf_setS_ne3 (fun z => h (z ▸ h0)) (fun z => h (z ▸ h1)) (fun z => h (z ▸ h2)) (fun z => h (z ▸ h3))
def sf_dog (n : Nat) (g : Int) (cost cold : Nat → Int) (e : Nat) (p : Int) (S : Nat → Int) : Nat → Int := sf_goes n g cold (sf_ru S 1 (S 1 - cost e)) (sf_likes n S (S (e + 14)) p).toNat
theorem sf_dog_ok {g B : Int} {cost cold : Nat → Int} {e : Nat} {p : Int} {S : Nat → Int} (r : sf_rok n B S) (hn5 : n ≤ 5) (he : e < 6) (hp : 0 ≤ p ∧ p < n) (hg : 0 ≤ g) (hc : ∀ p, p < n → 0 ≤ cold p) (hs : 0 ≤ cost e) (hl : cost e ≤ S 1) : sf_rok n (B + 1) (sf_dog n g cost cold e p S) := by
  have hd := r.d
  have hl2 := r.l
  obtain ⟨t, ht, ht5⟩ := sf_likes_in (n := n) (S := S) (k := S (e + 14)) (p := p) (by omega) hp (by omega)
  unfold sf_dog
  rw [ht, Int.toNat_natCast]
  exact sf_rok_goes (sf_rok_l r (by omega)) hn5 ht5 hg hc
theorem sf_dog_req {g : Int} {cost cost' cold cold' : Nat → Int} {e : Nat} {p : Int} {S T : Nat → Int} (h : sf_req n S T) (hn5 : n ≤ 5) (he : e < 6) (hp : 0 ≤ p ∧ p < n) (hd : 0 ≤ S 0 ∧ S 0 < n) (hc : ∀ p, p < n → cold p = cold' p) (hs : cost e = cost' e) : sf_req n (sf_dog n g cost cold e p S) (sf_dog n g cost' cold' e p T) := by
  obtain ⟨t, ht, ht5⟩ := sf_likes_in (n := n) (S := S) (k := S (e + 14)) (p := p) (by omega) hp hd
  unfold sf_dog
  rw [← sf_likes_c h, ← h.r e he, ht, Int.toNat_natCast, hs, h.l]
  exact sf_req_goes (sf_req_l h) hn5 ht5 hc
theorem sf_jdg (R : sf_RR V n nx c ce cf cg) (hn : 0 < n) {w : Int} : ∀ (m i : Nat) (S T : Nat → Int), cf - i = m → i ≤ cf → sf_req n S T → sf_rok n (90099 + i) S → sf_rok n (90099 + i) T →
    ∃ (r : Int) (S' T' : Nat → Int), S' 0 = T' 0 ∧
      (∀ K l, sf_wp 18 none 100 2 [some (.inr (.inl (some 0))), some (.inl (i : Int)), l] [] (sf_E (sf_setS V (sf_rf 0 3) S)) K = K (some (.inl r)) (sf_E (sf_setS V (sf_rf 0 3) S'))) ∧
      (∀ X : sf_MV, (∀ a, ¬ a < 409 → X a = V a) → ∀ K l, sf_wp 19 none 159 29 [some (.inr (.inl (some 409))), some (.inl w), some (.inl (i : Int)), l] [] (sf_E (sf_put X (sf_rf 409 28) 0 20 T)) K = K (some (.inl (if w = 0 then r else T' 0))) (sf_E (sf_put X (sf_rf 409 28) 0 20 T'))) := by
  have ha := R.a
  have hf := R.f
  have hn5 := ha.n5
  have cf20 := hf.c20
  have x1 := sf_c11_1 sf_x
  have x3 := sf_c11_3 sf_x
  have x9 := sf_c11_9 sf_x
  have d2 := sf_c2_2 x1
  have b0 := sf_c0_0 x9
  have b1 := sf_c0_1 x9
  have y3 := sf_c12_3 sf_y
  have y11 := sf_c12_11 sf_y
  have y28 := sf_c12_28 sf_y
  have ft : ∀ (S : Nat → Int) a, ¬ a = sf_rf 0 3 → ¬ a = sf_rf (sf_rf (sf_rf 0 3) 0) 0 → ¬ a = sf_rf (sf_rf (sf_rf 0 3) 1) 0 → ¬ a = sf_rf (sf_rf (sf_rf 0 3) 2) 0 → sf_setS V (sf_rf 0 3) S a = V a := fun S a h1 h2 h3 h4 => sf_setS_ne3 h1 h2 h3 h4
  have t9 : ∀ S : Nat → Int, sf_setS V (sf_rf 0 3) S (sf_rf 0 9) = V (sf_rf 0 9) := fun S => by simp (decide := true) only [ft, sf_upd_ne, sf_upd_ne2, sf_put_ne, sf_upd_eq, sf_getS_upd, sf_getS_put, sf_rg, sf_sh, sf_rf_inj, sf_rf_ne0, sf_0ne_rf, sf_rf_neY, sf_Yne_rf, sf_rf_self, sf_self_rf, sf_rf_self2, sf_self2_rf, not_false_eq_true, and_false, false_and, and_true, true_and, reduceCtorEq]
  have t90 : ∀ S : Nat → Int, sf_setS V (sf_rf 0 3) S (sf_rf (sf_rf (sf_rf 0 9) 0) 0) = V (sf_rf (sf_rf (sf_rf 0 9) 0) 0) := fun S => by simp (decide := true) only [ft, sf_upd_ne, sf_upd_ne2, sf_put_ne, sf_upd_eq, sf_getS_upd, sf_getS_put, sf_rg, sf_sh, sf_rf_inj, sf_rf_ne0, sf_0ne_rf, sf_rf_neY, sf_Yne_rf, sf_rf_self, sf_self_rf, sf_rf_self2, sf_self2_rf, not_false_eq_true, and_false, false_and, and_true, true_and, reduceCtorEq]
  have t91 : ∀ S : Nat → Int, sf_setS V (sf_rf 0 3) S (sf_rf (sf_rf (sf_rf 0 9) 1) 0) = V (sf_rf (sf_rf (sf_rf 0 9) 1) 0) := fun S => by simp (decide := true) only [ft, sf_upd_ne, sf_upd_ne2, sf_put_ne, sf_upd_eq, sf_getS_upd, sf_getS_put, sf_rg, sf_sh, sf_rf_inj, sf_rf_ne0, sf_0ne_rf, sf_rf_neY, sf_Yne_rf, sf_rf_self, sf_self_rf, sf_rf_self2, sf_self2_rf, not_false_eq_true, and_false, false_and, and_true, true_and, reduceCtorEq]
  have t12 : ∀ S : Nat → Int, sf_setS V (sf_rf 0 3) S (sf_rf (sf_rf (sf_rf 0 1) 2) 0) = V (sf_rf (sf_rf (sf_rf 0 1) 2) 0) := fun S => by simp (decide := true) only [ft, sf_upd_ne, sf_upd_ne2, sf_put_ne, sf_upd_eq, sf_getS_upd, sf_getS_put, sf_rg, sf_sh, sf_rf_inj, sf_rf_ne0, sf_0ne_rf, sf_rf_neY, sf_Yne_rf, sf_rf_self, sf_self_rf, sf_rf_self2, sf_self2_rf, not_false_eq_true, and_false, false_and, and_true, true_and, reduceCtorEq]
  intro m
  induction m with
  | zero =>
    intro i S T hm hi q r1 r2
    refine ⟨-1, S, T, q.d, ?_, ?_⟩
    · intro K l
      simp only [q100_2, q100_3, q100_4, q100_7, q100_10, sf_x, x9, t9, hf.x]
      rw [if_pos (by omega)]
      simp only [q100_77, q100_78]
    · intro X hX K l
      have e0 : sf_put X (sf_rf 409 28) 0 20 T (sf_rf 409 28) 0 = T 0 := sf_put_at (by decide)
      have e407 : X 409 = V 409 := hX 409 (by decide)
      simp only [q159_29, q159_30, q159_31, q159_34, sf_y, sf_so_y, e407, hf.y]
      rw [if_pos (by omega)]
      simp only [q159_101, q159_102]
      by_cases h : w = 0
      · rw [if_pos h, if_pos h]
        simp only [q159_105, q159_106, q159_115]
      · rw [if_neg h, if_neg h]
        simp (decide := true) only [q159_109, q159_110, q159_113, q159_114, q159_115, sf_y, y28, sf_y28, e0, true_and, Int.reduceToNat]
  | succ m ih =>
    intro i S T hm hi q r1 r2
    have hr := hf.r i (by omega)
    have he := hf.e i (by omega)
    obtain ⟨e, hee⟩ : ∃ e : Nat, V (sf_rf 409 11) (2 * i) = (e : Int) := ⟨(V (sf_rf 409 11) (2 * i)).toNat, by omega⟩
    obtain ⟨p, hpp⟩ : ∃ p : Nat, V (sf_rf 409 11) (2 * i + 1) = (p : Int) := ⟨(V (sf_rf 409 11) (2 * i + 1)).toNat, by omega⟩
    rw [hee, hpp] at he hr
    have he6 : e < 6 := by omega
    have hpn : p < n := by omega
    obtain ⟨bl0, bl1⟩ := sf_bkLen
    have re : ∀ S : Nat → Int, sf_rd (sf_setS V (sf_rf 0 3) S) (sf_rf (sf_rf (sf_rf 0 9) 0) 0) (i : Int) = (e : Int) := fun S => by
      rw [sf_rd_nat (by omega), t90, he.1]
    have rp : ∀ S : Nat → Int, sf_rd (sf_setS V (sf_rf 0 3) S) (sf_rf (sf_rf (sf_rf 0 9) 1) 0) (i : Int) = (p : Int) := fun S => by
      rw [sf_rd_nat (by omega), t91, he.2]
    have hcs : V (sf_rf (sf_rf (sf_rf 0 1) 2) 0) e = V (sf_rf 409 3) e := ha.s e he6
    have hcs0 := ha.s0 e he6
    have rc : ∀ S : Nat → Int, sf_rd (sf_setS V (sf_rf 0 3) S) (sf_rf (sf_rf (sf_rf 0 1) 2) 0) (e : Int) = V (sf_rf 409 3) e := fun S => by
      rw [sf_rd_nat (by have := sf_homeLen x1; omega), t12, hcs]
    have rl : sf_setS V (sf_rf 0 3) S (sf_rf 0 3) 4 = S 1 := sf_setS_l
    have i2 : 2 * i < 40 := by omega
    have i21 : 2 * i + 1 < 40 := by omega
    have w2 : sf_w (2 * (i : Int)) = ((2 * i : Nat) : Int) := by rw [sf_w_small (by omega)]; omega
    have w3 : sf_w (((2 * i : Nat) : Int) + 1) = ((2 * i + 1 : Nat) : Int) := sf_wS (by omega)
    have hl0 := r1.l
    have hd0 := r1.d
    have hdT := r2.d
    have hlq := q.l
    have hg := ha.g
    have hg0 := ha.g0
    have h12 := r1.h
    have h22 := r2.h
    by_cases hco : V (sf_rf 409 3) e ≤ S 1
    · have rq := sf_dog_req (g := V 409 1) (cost := V (sf_la (sf_rf 0 1))) (cost' := V (sf_rf 409 3)) (cold := V (sf_si (sf_rf 0 1))) (cold' := V (sf_rf 409 2)) (e := e) (p := (p : Int)) q hn5 he6 (by omega) (by omega) ha.c hcs
      have ok1 := sf_dog_ok (g := V 409 1) (cost := V (sf_la (sf_rf 0 1))) (cold := V (sf_si (sf_rf 0 1))) (e := e) (p := (p : Int)) r1 hn5 he6 (by omega) hg0.1 (fun p hp => (ha.cx p (by omega)).1) (by show 0 ≤ V (sf_rf (sf_rf (sf_rf 0 1) 2) 0) e; omega) (by show V (sf_rf (sf_rf (sf_rf 0 1) 2) 0) e ≤ _; omega)
      have ok2 := sf_dog_ok (g := V 409 1) (cost := V (sf_rf 409 3)) (cold := V (sf_rf 409 2)) (e := e) (p := (p : Int)) r2 hn5 he6 (by omega) hg0.1 (fun p hp => (ha.cy p (by omega)).1) (by omega) (by omega)
      obtain ⟨t, ht, ht5⟩ := sf_likes_in (n := n) (S := S) (k := S (e + 14)) (p := (p : Int)) (by omega) (by omega) (by omega)
      have hT : sf_likes n T (T (e + 14)) (p : Int) = (t : Int) := by rw [← sf_likes_c q, ← q.r e he6, ht]
      obtain ⟨r, S', T', z0, z1, z2⟩ := ih (i + 1) _ _ (by omega) (by omega) rq (by rw [show (90099 : Int) + ((i + 1 : Nat) : Int) = 90099 + i + 1 by omega]; exact ok1) (by rw [show (90099 : Int) + ((i + 1 : Nat) : Int) = 90099 + i + 1 by omega]; exact ok2)
      refine ⟨r, S', T', z0, ?_, ?_⟩
      · intro K l
        have hq9 := hf.x
        simp only [q100_2, q100_3, q100_4, q100_7, q100_10, sf_x, x9, t9, hf.x]
        rw [if_neg (by omega)]
        simp only [q100_13, q100_14, q100_17, q100_20, q100_21, sf_x, x9, b0, s31, re, Option.toList_some, Option.toList_none, List.cons_append, List.nil_append]
        simp only [q100_24, q100_25, q100_26, q100_29, q100_32, q100_33, sf_x, x1, d2, s31, rc, Option.toList_some, Option.toList_none, List.cons_append, List.nil_append]
        simp only [q100_36, q100_37, q100_40, q100_43, sf_x, x3, rl, Option.toList_some, Option.toList_none, List.cons_append, List.nil_append]
        rw [if_pos hco]
        simp only [q100_48, q100_49, q100_52, q100_53, q100_56, q100_57, q100_58, q100_61, q100_64, q100_65, sf_x, x1, x3, x9, b1, s31, rp, Option.toList_some, Option.toList_none, List.cons_append, List.nil_append]
        simp only [q100_68, x3, x1, Option.toList_some, Option.toList_none, List.cons_append, List.nil_append]
        rw [s43d (d := 14) (n := n) (e := e) (t := t) x3 x1 ha.xn hn5 he6 (by omega) (by omega) ht (by omega) ha.cx (by show 0 ≤ V (sf_rf (sf_rf (sf_rf 0 1) 2) 0) e ∧ V (sf_rf (sf_rf (sf_rf 0 1) 2) 0) e ≤ 9; omega) r1.w (by omega) (by omega)]
        simp only [q100_71, Option.toList_some, Option.toList_none, List.cons_append, List.nil_append]
        rw [q100_74, sf_wS (by omega)]
        have e1 := z1 K (some (.inl (e : Int)))
        unfold sf_dog at e1
        rw [ht, Int.toNat_natCast, ← hg] at e1
        exact e1
      · intro X hX K l
        have e407 : X 409 = V 409 := hX 409 (by decide)
        have e3 : X (sf_rf 409 3) = V (sf_rf 409 3) := hX _ (sf_hi_all 3)
        have e2 : X (sf_rf 409 2) = V (sf_rf 409 2) := hX _ (sf_hi_all 2)
        have e11 : X (sf_rf 409 11) = V (sf_rf 409 11) := hX _ (sf_hi_all 11)
        have t1 : sf_put X (sf_rf 409 28) 0 20 T (sf_rf 409 28) 1 = T 1 := sf_put_at (by decide)
        have k3 := sf_so_k (V := X) (S := T) (k := 3) (by decide)
        have k11 := sf_so_k (V := X) (S := T) (k := 11) (by decide)
        simp only [q159_29, q159_30, q159_31, q159_34, sf_y, sf_so_y, e407, hf.y]
        rw [if_neg (by omega)]
        simp only [q159_37, q159_38, q159_41, q159_42, q159_43, q159_44, q159_45, sf_y, y11, sf_y11, k11, e11, w2, sf_bd, i2, true_and, Int.toNat_natCast, hee]
        simp (decide := true) only [q159_46, q159_47, q159_50, q159_51, q159_52, q159_53, q159_56, q159_57, q159_58, sf_y, y3, sf_y3, y28, sf_y28, k3, e3, t1, sf_bd, he6, true_and, Int.toNat_natCast, Int.reduceToNat]
        rw [if_pos (by omega)]
        simp only [q159_76, q159_77, q159_78, q159_79, q159_82, q159_83, q159_84, q159_85, q159_86, q159_87, q159_88, sf_y, y11, sf_y11, k11, e11, w2, w3, sf_bd, i21, true_and, Int.toNat_natCast, hpp]
        rw [s124 (d := 17) (V := X) (n := n) (e := e) (by rw [e407]; exact ha.yn) hn hn5 he6 (r2.r e he6) (by omega) (by omega) (by omega) (by rw [e3]; exact hcs0)]
        simp only [q159_91, q159_92, sf_y, Option.toList_some, Option.toList_none, List.cons_append, List.nil_append]
        have g2 : ∀ k, 2 ≤ k → sf_ru (sf_ru T 1 (T 1 - X (sf_rf 409 3) e)) 0 (sf_likes n T (T (e + 14)) (p : Int)) k = T k := fun k hk => by
          rw [sf_ru_ne (by omega), sf_ru_ne (by omega)]
        rw [s125 (d := 17) (V := X) (n := n) (t := t) (by rw [e407]; exact ha.yn) hn5 (by omega) (by rw [sf_ru_eq]; exact hT) (by rw [e407]; exact hg0) (by rw [e2]; exact ha.cy) (fun p hp => by rw [g2 _ (by omega)]; exact r2.w p hp) (by rw [g2 _ (by omega)]; omega)]
        simp only [q159_95, Option.toList_some, Option.toList_none, List.cons_append, List.nil_append]
        rw [q159_98, sf_wS (by omega), hT, sf_goes_d, e407, e2, e3]
        have e1 := z2 X hX K (some (.inl (e : Int)))
        unfold sf_dog at e1
        rw [hT, Int.toNat_natCast] at e1
        exact e1
    · refine ⟨i, S, T, q.d, ?_, ?_⟩
      · intro K l
        simp only [q100_2, q100_3, q100_4, q100_7, q100_10, sf_x, x9, t9, hf.x]
        rw [if_neg (by omega)]
        simp only [q100_13, q100_14, q100_17, q100_20, q100_21, sf_x, x9, b0, s31, re, Option.toList_some, Option.toList_none, List.cons_append, List.nil_append]
        simp only [q100_24, q100_25, q100_26, q100_29, q100_32, q100_33, sf_x, x1, d2, s31, rc, Option.toList_some, Option.toList_none, List.cons_append, List.nil_append]
        simp only [q100_36, q100_37, q100_40, q100_43, sf_x, x3, rl, Option.toList_some, Option.toList_none, List.cons_append, List.nil_append]
        rw [if_neg hco]
        simp only [q100_46, q100_47]
      · intro X hX K l
        have e407 : X 409 = V 409 := hX 409 (by decide)
        have e3 : X (sf_rf 409 3) = V (sf_rf 409 3) := hX _ (sf_hi_all 3)
        have e11 : X (sf_rf 409 11) = V (sf_rf 409 11) := hX _ (sf_hi_all 11)
        have t0 : sf_put X (sf_rf 409 28) 0 20 T (sf_rf 409 28) 0 = T 0 := sf_put_at (by decide)
        have t1 : sf_put X (sf_rf 409 28) 0 20 T (sf_rf 409 28) 1 = T 1 := sf_put_at (by decide)
        have k3 := sf_so_k (V := X) (S := T) (k := 3) (by decide)
        have k11 := sf_so_k (V := X) (S := T) (k := 11) (by decide)
        simp only [q159_29, q159_30, q159_31, q159_34, sf_y, sf_so_y, e407, hf.y]
        rw [if_neg (by omega)]
        simp only [q159_37, q159_38, q159_41, q159_42, q159_43, q159_44, q159_45, sf_y, y11, sf_y11, k11, e11, w2, sf_bd, i2, true_and, Int.toNat_natCast, hee]
        simp (decide := true) only [q159_46, q159_47, q159_50, q159_51, q159_52, q159_53, q159_56, q159_57, q159_58, sf_y, y3, sf_y3, y28, sf_y28, k3, e3, t1, sf_bd, he6, true_and, Int.toNat_natCast, Int.reduceToNat]
        rw [if_neg (by omega)]
        simp only [q159_61, q159_62]
        by_cases h : w = 0
        · rw [if_pos h, if_pos h]
          simp only [q159_65, q159_66, q159_75]
        · rw [if_neg h, if_neg h]
          simp (decide := true) only [q159_69, q159_70, q159_73, q159_74, q159_75, sf_y, y28, sf_y28, t0, true_and, Int.reduceToNat]
theorem p_judge (R : sf_RR V n nx c ce cf cg) {w : Int} : sf_P2 85 159 [some (.inl w), none] [some (.inl w), none, none] V := by
  have ha := R.a
  have hb := R.b
  have x1 := sf_c11_1 sf_x
  have x2 := sf_c11_2 sf_x
  have x3 := sf_c11_3 sf_x
  by_cases hp : 0 ≤ w ∧ w ≤ 1
  · by_cases hn : 0 < n
    · obtain ⟨r, S', T', z0, z1, z2⟩ := sf_jdg R hn (w := w) cf 0 (sf_getS V (sf_rf 0 2)) (V (sf_rf 409 4)) (by omega) (by omega) hb.q hb.x hb.y
      have td : sf_setS V (sf_rf 0 3) S' (sf_rf 0 3) 3 = S' 0 := sf_setS_d
      have e4 : sf_setS V (sf_rf 0 3) S' (sf_rf 409 4) = V (sf_rf 409 4) := sf_tr_hi (sf_hi_all 4)
      have e0 : sf_setS V (sf_rf 0 3) S' 409 = V 409 := sf_tr_hi (by decide)
      refine ⟨if w = 0 then r else T' 0, sf_setS V (sf_rf 0 3) S', sf_put (sf_setS V (sf_rf 0 3) S') (sf_rf 409 28) 0 20 T', n, nx, c, ce, cf, cg, ?_, ?_, sf_RR_so (sf_RR_tr R)⟩
      · intro K
        simp only [q85_0, q85_1, q85_2, q85_3, s90, q85_6, Option.toList_some, Option.toList_none, List.cons_append, List.nil_append]
        rw [if_pos hp, if_neg (by decide)]
        simp only [q85_12, q85_13, q85_16, sf_x, x1, ha.xn]
        rw [q85_19, if_neg (by omega)]
        simp only [q85_25, q85_26, q85_29, q85_30, q85_33, sf_x, x2, x3]
        rw [s39 x3 x2 (by simp [sf_rf_inj])]
        simp only [q85_36, q85_37, sf_x, q100_0, q100_1, Option.toList_some, Option.toList_none, List.cons_append, List.nil_append]
        refine Eq.trans (z1 _ none) ?_
        simp only [q85_40, q85_41, Option.toList_some, Option.toList_none, List.cons_append, List.nil_append]
        by_cases h : w = 0
        · rw [if_pos h, q85_42, if_pos h]
          simp only [q85_45, q85_46, q85_56]
        · rw [if_neg h, q85_42, if_neg h]
          simp only [q85_49, q85_50, q85_53, q85_56, sf_x, x3, td, z0]
      · intro K
        simp only [q159_0, q159_1, q159_2, q159_3, q159_4, q159_7, Option.toList_some, Option.toList_none, List.cons_append, List.nil_append]
        rw [sf_inB_y hp, if_neg (by decide)]
        simp only [q159_13, q159_14, sf_y, e0, ha.yn]
        rw [q159_17, if_neg (by omega)]
        simp only [q159_23, q159_24, sf_y]
        rw [s122, e4]
        simp only [q159_27, q159_28, Option.toList_some, Option.toList_none, List.cons_append, List.nil_append]
        exact z2 (sf_setS V (sf_rf 0 3) S') (fun a h => sf_tr_hi h) K none
    · have n0 : n = 0 := by omega
      refine ⟨-1000000003, V, V, n, nx, c, ce, cf, cg, ?_, ?_, R⟩
      · intro K
        simp only [q85_0, q85_1, q85_2, q85_3, s90, q85_6, Option.toList_some, Option.toList_none, List.cons_append, List.nil_append]
        rw [if_pos hp, if_neg (by decide)]
        simp only [q85_12, q85_13, q85_16, sf_x, x1, ha.xn]
        rw [q85_19, if_pos (by omega)]
        simp only [q85_22, q85_24]
      · intro K
        simp only [q159_0, q159_1, q159_2, q159_3, q159_4, q159_7, Option.toList_some, Option.toList_none, List.cons_append, List.nil_append]
        rw [sf_inB_y hp, if_neg (by decide)]
        simp only [q159_13, q159_14, sf_y, ha.yn]
        rw [q159_17, if_pos (by omega)]
        simp only [q159_20, q159_22]
  · refine ⟨-1000000002, V, V, n, nx, c, ce, cf, cg, ?_, ?_, R⟩
    · intro K
      simp only [q85_0, q85_1, q85_2, q85_3, s90, q85_6, Option.toList_some, Option.toList_none, List.cons_append, List.nil_append]
      rw [if_neg hp, if_pos rfl]
      simp only [q85_9, q85_11]
    · intro K
      simp only [q159_0, q159_1, q159_2, q159_3, q159_4, q159_7, Option.toList_some, Option.toList_none, List.cons_append, List.nil_append]
      rw [sf_inB_n hp, if_pos rfl]
      simp only [q159_10, q159_12]
end SFP22

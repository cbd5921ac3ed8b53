/-! act, sit, drift -/
section SFP9
variable {V X Y : sf_MV} {n nx c ce cf cg a k m : Nat} {v : Int} {f : Nat → Int}
theorem sf_likes_c {S T : Nat → Int} {r p : Int} (h : sf_req n S T) : sf_likes n S r p = sf_likes n T r p := by
  unfold sf_likes
  rw [sf_least_congr n (f := fun j => S (j + 4)) (g := fun j => T (j + 4)) (fun j hj => h.w j hj), sf_least_congr n (f := fun j => S (j + 9)) (g := fun j => T (j + 9)) (fun j hj => h.i j hj), h.d]
theorem sf_mo_lt {R : Nat → Int} (hb : a < 409) : sf_mo V R a = V a := by
  have h5 := sf_hi_all 5
  have h4 := sf_hi_all 4
  have h28 := sf_hi_all 28
  exact sf_mo_ne (by omega) (fun z => h5 (z ▸ hb)) (fun z => h4 (z ▸ hb)) (fun z => h28 (z ▸ hb))
theorem sf_mix_mol {R : Nat → Int} : sf_mix (sf_mo X R) Y = sf_mix X Y := sf_mix_l (fun _ h => sf_mo_lt h)
theorem sf_mix_spr {R : Nat → Int} (hnx : nx < 30) : sf_mix Y (sf_sp V nx c R) = sf_mix Y V := by
  have e : sf_sp V nx c R = sf_mix (sf_sp V nx c R) V := by
    have := sf_mix_sp (X := V) (Y := V) (c := c) (R := R) hnx
    rw [sf_mix_self] at this
    exact this
  rw [e, sf_mix_mixr]
theorem sf_goes_3 {t : Nat} {gain : Int} {cold S : Nat → Int} : sf_goes m gain cold S t 3 = S 3 := by
  rw [sf_goes_k (by omega)]
  unfold sf_turn
  rw [sf_ru_ne (by omega), sf_ru_ne (by omega), sf_ru_ne (by omega)]
theorem sf_goes_d {t : Nat} {gain : Int} {cold S : Nat → Int} : sf_goes m gain cold (sf_ru S 0 (t : Int)) t = sf_goes m gain cold S t := by
  have h2 : sf_ru S 0 (t : Int) 2 = S 2 := sf_ru_ne (by omega)
  funext k
  unfold sf_goes sf_turn
  by_cases h : 4 ≤ k ∧ k < 4 + m
  · rw [if_pos h, if_pos h, sf_ru_ne (S := S) (by omega)]
  · rw [if_neg h, if_neg h, h2]
    unfold sf_ru
    (repeat' split) <;> rfl
/-- what an hour of both does to a pair of memories -/
def sf_HH (V : sf_MV) (n ce cf cg : Nat) (as bs : List (Option sf_V)) : Prop :=
  ∃ (W : sf_MV) (nx c : Nat), sf_RR W n nx c ce cf cg ∧ W (sf_rf 409 4) 2 = V (sf_rf 409 4) 2 + 1 ∧
    (∀ d Y K, sf_wp (d + 4) none 94 0 (some (.inr (.inl (some 0))) :: as) [] (sf_E (sf_mix V Y)) K = K (some (.inl (W (sf_rf 409 4) 0))) (sf_E (sf_mix W Y))) ∧
    (∀ d Y K, sf_wp (d + 3) none 127 0 (some (.inr (.inl (some 409))) :: bs) [] (sf_E (sf_mix Y V)) K = K none (sf_E (sf_mix Y W)))
theorem sf_hourN (R : sf_RR V n nx c ce cf cg) (hn : 0 < n) (hh : V (sf_rf 409 4) 2 ≤ 90098) {p q : Int} : sf_HH V n ce cf cg [some (.inl (-1)), some (.inl p)] [some (.inl (-1)), some (.inl q), none] := by
  obtain ⟨l0, l1, l2, l4, l5, l6, l7⟩ := sf_lo_all
  have ha := R.a
  have hb := R.b
  have hc := R.c
  have hn5 := ha.n5
  have hd := hb.x.d
  have hdy : V (sf_rf 409 4) 0 = sf_getS V (sf_rf 0 2) 0 := hb.q.d.symm
  have hhy : V (sf_rf 409 4) 2 = sf_getS V (sf_rf 0 2) 2 := hb.q.h.symm
  obtain ⟨t, ht⟩ : ∃ t : Nat, sf_getS V (sf_rf 0 2) 0 = (t : Int) := ⟨(sf_getS V (sf_rf 0 2) 0).toNat, by omega⟩
  have ht5 : t < n := by omega
  have hg : V (sf_rf 0 1) 6 = V 409 1 := ha.g
  have hg0 := ha.g0
  have hbh := hb.x.h
  have rokX : sf_rok n 90098 (sf_getS V (sf_rf 0 2)) := sf_rok.mk hb.x.d hb.x.l ⟨hbh.1, by omega⟩ hb.x.w hb.x.i hb.x.a hb.x.m hb.x.r
  have hby := hb.y.h
  have rokY : sf_rok n 90098 (V (sf_rf 409 4)) := sf_rok.mk hb.y.d hb.y.l ⟨hby.1, by omega⟩ hb.y.w hb.y.i hb.y.a hb.y.m hb.y.r
  refine ⟨sf_mo (sf_sp V nx c (sf_goes n (V (sf_rf 0 1) 6) (V (sf_si (sf_rf 0 1))) (sf_getS V (sf_rf 0 2)) t)) (sf_goes n (V 409 1) (V (sf_rf 409 2)) (V (sf_rf 409 4)) t), _, _, sf_RR_hour R ?_ ?_ ?_ ?_, ?_, ?_, ?_⟩
  · rw [hg]
    exact sf_req_goes hb.q hn5 ht5 ha.c
  · exact sf_rok_goes rokX hn5 ht5 (by omega) (fun p hp => (ha.cx p (by omega)).1)
  · exact sf_rok_goes rokY hn5 ht5 (by omega) (fun p hp => (ha.cy p (by omega)).1)
  · exact sf_goes_3
  · rw [sf_mo_now (by omega), sf_goes_2]
  · intro d Y K
    have m1 : sf_mix V Y (sf_rf 0 1) = V (sf_rf 0 1) := sf_mix_lo l1
    have m4 : sf_mix V Y (sf_rf 0 4) = V (sf_rf 0 4) := sf_mix_lo l4
    have m5 : sf_mix V Y (sf_si (sf_rf 0 1)) = V (sf_si (sf_rf 0 1)) := sf_mix_lo l5
    have m2 : sf_getS (sf_mix V Y) (sf_rf 0 2) = sf_getS V (sf_rf 0 2) := sf_mix_gl sf_lo_now
    have e := s94n (d := d) (V := sf_mix V Y) (K := K) (nx := nx) (c := c) (n := n) (t := t) (p := p) (by rw [m4]; exact hc.x) hc.nx (by rw [m4]; exact hc.c) hc.c30 (by rw [m1]; exact ha.xn) hn5 (by omega) (by rw [m2]; exact ht) (by rw [m1, hg]; exact hg0) (by rw [m5]; exact ha.cx) (by rw [m2]; exact hb.x.w) (by rw [m2]; omega)
    rw [m1, m5, m2, sf_mix_sp hc.nx] at e
    rw [e, sf_mix_mol, sf_mo_now (by omega), sf_goes_0]
  · intro d Y K
    have m0 : sf_mix Y V 409 = V 409 := sf_mix_hi (by decide)
    have m2 : sf_mix Y V (sf_rf 409 2) = V (sf_rf 409 2) := sf_mix_hi (sf_hi_all 2)
    have m4 : sf_mix Y V (sf_rf 409 4) = V (sf_rf 409 4) := sf_mix_hi (sf_hi_all 4)
    have e := s127n (d := d) (V := sf_mix Y V) (K := K) (n := n) (t := t) (u := c) (p := q) hc.c30 (by rw [m0]; exact hc.u) (by rw [m0]; exact ha.yn) hn5 (by omega) (by rw [m4, hdy]; exact ht) (by rw [m0]; exact hg0) (by rw [m2]; exact ha.cy) (by rw [m4]; exact hb.y.w) (by rw [m4]; omega)
    rw [m0, m2, m4, sf_mix_mo] at e
    rw [e, ← sf_mix_mo (Y := sf_sp V nx c _), sf_mix_spr hc.nx, sf_mix_mo]
theorem sf_hourD (R : sf_RR V n nx c ce cf cg) (hn : 0 < n) (hh : V (sf_rf 409 4) 2 ≤ 90098) {e p : Nat} (he : e < 6) (hp : p < n) (hco : V (sf_rf 409 3) e ≤ V (sf_rf 409 4) 1) : sf_HH V n ce cf cg [some (.inl (e : Int)), some (.inl (p : Int))] [some (.inl (e : Int)), some (.inl (p : Int)), none] := by
  obtain ⟨l0, l1, l2, l4, l5, l6, l7⟩ := sf_lo_all
  have ha := R.a
  have hb := R.b
  have hc := R.c
  have hn5 := ha.n5
  have hd := hb.x.d
  have hdy : V (sf_rf 409 4) 0 = sf_getS V (sf_rf 0 2) 0 := hb.q.d.symm
  have hhy : V (sf_rf 409 4) 2 = sf_getS V (sf_rf 0 2) 2 := hb.q.h.symm
  have hly : V (sf_rf 409 4) 1 = sf_getS V (sf_rf 0 2) 1 := hb.q.l.symm
  have hry : V (sf_rf 409 4) (e + 14) = sf_getS V (sf_rf 0 2) (e + 14) := (hb.q.r e he).symm
  have hsy : V (sf_la (sf_rf 0 1)) e = V (sf_rf 409 3) e := ha.s e he
  have hs0 := ha.s0 e he
  have hl0 := hb.x.l
  obtain ⟨t, ht, ht5⟩ := sf_likes_in (n := n) (S := sf_getS V (sf_rf 0 2)) (k := sf_getS V (sf_rf 0 2) (e + 14)) (p := (p : Int)) hn ⟨by omega, by omega⟩ (by omega)
  have hg : V (sf_rf 0 1) 6 = V 409 1 := ha.g
  have hg0 := ha.g0
  have hbh := hb.x.h
  have rokX : sf_rok n 90098 (sf_getS V (sf_rf 0 2)) := sf_rok.mk hb.x.d hb.x.l ⟨hbh.1, by omega⟩ hb.x.w hb.x.i hb.x.a hb.x.m hb.x.r
  have hby := hb.y.h
  have rokY : sf_rok n 90098 (V (sf_rf 409 4)) := sf_rok.mk hb.y.d hb.y.l ⟨hby.1, by omega⟩ hb.y.w hb.y.i hb.y.a hb.y.m hb.y.r
  have rq := sf_req_l (v := sf_getS V (sf_rf 0 2) 1 - V (sf_rf 409 3) e) hb.q
  refine ⟨sf_mo (sf_sp V nx c (sf_goes n (V (sf_rf 0 1) 6) (V (sf_si (sf_rf 0 1))) (sf_ru (sf_getS V (sf_rf 0 2)) 1 (sf_getS V (sf_rf 0 2) 1 - V (sf_la (sf_rf 0 1)) e)) t)) (sf_goes n (V 409 1) (V (sf_rf 409 2)) (sf_ru (V (sf_rf 409 4)) 1 (V (sf_rf 409 4) 1 - V (sf_rf 409 3) e)) t), _, _, sf_RR_hour R ?_ ?_ ?_ ?_, ?_, ?_, ?_⟩
  · rw [hg, hsy, hly]
    exact sf_req_goes rq hn5 ht5 ha.c
  · exact sf_rok_goes (sf_rok_l rokX (by omega)) hn5 ht5 (by omega) (fun p hp => (ha.cx p (by omega)).1)
  · exact sf_rok_goes (sf_rok_l rokY (by omega)) hn5 ht5 (by omega) (fun p hp => (ha.cy p (by omega)).1)
  · rw [sf_goes_3, sf_ru_ne (by omega)]
  · rw [sf_mo_now (by omega), sf_goes_2, sf_ru_ne (by omega)]
  · intro d Y K
    have m1 : sf_mix V Y (sf_rf 0 1) = V (sf_rf 0 1) := sf_mix_lo l1
    have m4 : sf_mix V Y (sf_rf 0 4) = V (sf_rf 0 4) := sf_mix_lo l4
    have m5 : sf_mix V Y (sf_si (sf_rf 0 1)) = V (sf_si (sf_rf 0 1)) := sf_mix_lo l5
    have m6 : sf_mix V Y (sf_la (sf_rf 0 1)) = V (sf_la (sf_rf 0 1)) := sf_mix_lo l6
    have m2 : sf_getS (sf_mix V Y) (sf_rf 0 2) = sf_getS V (sf_rf 0 2) := sf_mix_gl sf_lo_now
    have e := s94d (d := d) (V := sf_mix V Y) (K := K) (nx := nx) (c := c) (n := n) (t := t) (e := e) (p := (p : Int)) (by rw [m4]; exact hc.x) hc.nx (by rw [m4]; exact hc.c) hc.c30 (by rw [m1]; exact ha.xn) hn5 he ⟨by omega, by omega⟩ (by rw [m2]; omega) (by rw [m2]; exact ht) (by rw [m1, hg]; exact hg0) (by rw [m5]; exact ha.cx) (by rw [m6, hsy]; exact hs0) (by rw [m2]; exact hb.x.w) (by rw [m2]; omega) (by rw [m2]; omega)
    rw [m1, m5, m2, m6, sf_mix_sp hc.nx] at e
    rw [e, sf_mix_mol, sf_mo_now (by omega), sf_goes_0]
  · intro d Y K
    have m0 : sf_mix Y V 409 = V 409 := sf_mix_hi (by decide)
    have m2 : sf_mix Y V (sf_rf 409 2) = V (sf_rf 409 2) := sf_mix_hi (sf_hi_all 2)
    have m3 : sf_mix Y V (sf_rf 409 3) = V (sf_rf 409 3) := sf_mix_hi (sf_hi_all 3)
    have m4 : sf_mix Y V (sf_rf 409 4) = V (sf_rf 409 4) := sf_mix_hi (sf_hi_all 4)
    have hr := hb.y.r e he
    have e := s127d (d := d) (V := sf_mix Y V) (K := K) (n := n) (t := t) (u := c) (e := e) (p := (p : Int)) hc.c30 (by rw [m0]; exact hc.u) (by rw [m0]; exact ha.yn) hn hn5 he (by rw [m4]; exact hr) ⟨by omega, by omega⟩ (by rw [m4]; omega) (by rw [m4, ← ht, hry]; exact (sf_likes_c hb.q).symm) (by rw [m0]; exact hg0) (by rw [m2]; exact ha.cy) (by rw [m3]; exact hs0) (by rw [m4]; exact hb.y.w) (by rw [m4]; omega) (by rw [m4]; omega)
    rw [m0, m2, m3, m4, sf_goes_d, sf_mix_mo] at e
    rw [e, ← sf_mix_mo (Y := sf_sp V nx c _), sf_mix_spr hc.nx, sf_mix_mo]
theorem p_act (R : sf_RR V n nx c ce cf cg) {e p : Int} : sf_P2 66 128 [some (.inl e), some (.inl p)] [some (.inl e), some (.inl p)] V := by
  have c1 := sf_c11_1 sf_x
  have c2 := sf_c11_2 sf_x
  have d2 := sf_c2_2 c1
  have y3 := sf_c12_3 sf_y
  have y4 := sf_c12_4 sf_y
  have ha := R.a
  have hb := R.b
  have hn5 := ha.n5
  by_cases hp : (0 ≤ e ∧ e < 6) ∧ (0 ≤ p ∧ p < n)
  · obtain ⟨hp1, hp2⟩ := hp
    obtain ⟨e, rfl⟩ : ∃ q : Nat, e = (q : Int) := ⟨e.toNat, by omega⟩
    obtain ⟨p, rfl⟩ : ∃ q : Nat, p = (q : Int) := ⟨p.toNat, by omega⟩
    have he : e < 6 := by omega
    have hpn : p < n := by omega
    have hly : sf_getS V (sf_rf 0 2) 1 = V (sf_rf 409 4) 1 := hb.q.l
    have hhy : sf_getS V (sf_rf 0 2) 2 = V (sf_rf 409 4) 2 := hb.q.h
    have rc : sf_rd V (sf_rf (sf_rf (sf_rf 0 1) 2) 0) (e : Int) = V (sf_rf 409 3) e := by
      unfold sf_rd
      rw [if_pos ⟨by omega, by have := sf_homeLen c1; omega⟩, Int.toNat_natCast]
      exact ha.s e he
    have l1 : V (sf_rf 0 2) 4 = V (sf_rf 409 4) 1 := hly
    have l2 : V (sf_rf 0 2) 5 = V (sf_rf 409 4) 2 := hhy
    have i7 : ∀ X : sf_MV, X 409 = V 409 → -1000 ≤ X 409 0 ∧ X 409 0 ≤ 1000 := fun X hX => by rw [hX, ha.yn]; omega
    by_cases hco : V (sf_rf 409 3) e ≤ V (sf_rf 409 4) 1
    · by_cases hho : V (sf_rf 409 4) 2 ≤ 90000
      · obtain ⟨W, nx', c', RW, _, h94, h127⟩ := sf_hourD R (by omega) (by omega) he hpn hco
        refine ⟨W (sf_rf 409 4) 0, sf_mix W V, W, n, nx', c', ce, cf, cg, ?_, ?_, RW⟩
        · intro K
          simp only [q66_0, q66_1, s92, q66_4, Option.toList_some, Option.toList_none, List.cons_append, List.nil_append]
          rw [if_pos hp1, if_neg (by decide)]
          simp only [q66_7, q66_8, q66_9, s91, q66_12, sf_x, ha.xn, Option.toList_some, Option.toList_none, List.cons_append, List.nil_append]
          rw [if_pos hp2, if_neg (by decide)]
          simp only [q66_18, q66_19, q66_22, q66_25, q66_26, q66_29, q66_30, q66_33, q66_36, sf_x, c1, c2, d2, s31, rc, l1, Option.toList_some, Option.toList_none, List.cons_append, List.nil_append]
          rw [if_pos (by omega)]
          simp only [q66_42, q66_43, q66_46, q66_49, q66_51, sf_x, c2, l2]
          rw [if_pos (by omega)]
          have h := h94 14 V
          rw [sf_mix_self] at h
          simp only [q66_57, q66_58, q66_59, q66_60, q66_63, sf_x, h, Option.toList_some, Option.toList_none, List.cons_append, List.nil_append]
        · intro K
          have m0 : sf_mix W V 409 = V 409 := sf_mix_hi (by decide)
          have m3 : sf_mix W V (sf_rf 409 3) = V (sf_rf 409 3) := sf_mix_hi (sf_hi_all 3)
          have m4 : sf_mix W V (sf_rf 409 4) = V (sf_rf 409 4) := sf_mix_hi (sf_hi_all 4)
          simp only [q128_0, q128_1, s118, q128_4, Option.toList_some, Option.toList_none, List.cons_append, List.nil_append]
          rw [sf_inB_y (by omega), if_neg (by decide)]
          simp only [q128_7, q128_8, q128_9, sf_y, Option.toList_some, Option.toList_none, List.cons_append, List.nil_append]
          rw [s117 (i7 _ m0)]
          simp only [q128_12, m0, ha.yn, Option.toList_some, Option.toList_none, List.cons_append, List.nil_append]
          rw [sf_inB_y (by omega), if_neg (by decide)]
          simp (decide := true) only [q128_18, q128_19, q128_22, q128_23, q128_24, q128_25, q128_28, q128_29, q128_30, sf_y, y3, y4, sf_y3, sf_y4, sf_bd, he, m3, m4, true_and, Int.toNat_natCast, Int.reduceToNat]
          rw [if_pos hco]
          simp (decide := true) only [q128_36, q128_37, q128_40, q128_41, q128_42, q128_44, sf_y, y4, sf_y4, sf_bd, m4, true_and, Int.toNat_natCast, Int.reduceToNat]
          rw [if_pos hho]
          have h := h127 15 W
          rw [sf_mix_self (V := W)] at h
          simp (decide := true) only [q128_50, q128_51, q128_52, q128_53, q128_56, q128_57, q128_60, q128_61, q128_62, sf_y, y4, sf_y4, h, true_and, Int.reduceToNat, Option.toList_some, Option.toList_none, List.cons_append, List.nil_append]
      · refine ⟨-1000000004, V, V, n, nx, c, ce, cf, cg, ?_, ?_, R⟩
        · intro K
          simp only [q66_0, q66_1, s92, q66_4, Option.toList_some, Option.toList_none, List.cons_append, List.nil_append]
          rw [if_pos hp1, if_neg (by decide)]
          simp only [q66_7, q66_8, q66_9, s91, q66_12, sf_x, ha.xn, Option.toList_some, Option.toList_none, List.cons_append, List.nil_append]
          rw [if_pos hp2, if_neg (by decide)]
          simp only [q66_18, q66_19, q66_22, q66_25, q66_26, q66_29, q66_30, q66_33, q66_36, sf_x, c1, c2, d2, s31, rc, l1, Option.toList_some, Option.toList_none, List.cons_append, List.nil_append]
          rw [if_pos (by omega)]
          simp only [q66_42, q66_43, q66_46, q66_49, q66_51, sf_x, c2, l2]
          rw [if_neg (by omega)]
          simp only [q66_54, q66_56]
        · intro K
          simp only [q128_0, q128_1, s118, q128_4, Option.toList_some, Option.toList_none, List.cons_append, List.nil_append]
          rw [sf_inB_y (by omega), if_neg (by decide)]
          simp only [q128_7, q128_8, q128_9, sf_y, Option.toList_some, Option.toList_none, List.cons_append, List.nil_append]
          rw [s117 (i7 _ rfl)]
          simp only [q128_12, ha.yn, Option.toList_some, Option.toList_none, List.cons_append, List.nil_append]
          rw [sf_inB_y (by omega), if_neg (by decide)]
          simp (decide := true) only [q128_18, q128_19, q128_22, q128_23, q128_24, q128_25, q128_28, q128_29, q128_30, sf_y, y3, y4, sf_y3, sf_y4, sf_bd, he, true_and, Int.toNat_natCast, Int.reduceToNat]
          rw [if_pos hco]
          simp (decide := true) only [q128_36, q128_37, q128_40, q128_41, q128_42, q128_44, sf_y, y4, sf_y4, sf_bd, true_and, Int.toNat_natCast, Int.reduceToNat]
          rw [if_neg hho]
          simp only [q128_47, q128_49]
    · refine ⟨-1000000003, V, V, n, nx, c, ce, cf, cg, ?_, ?_, R⟩
      · intro K
        simp only [q66_0, q66_1, s92, q66_4, Option.toList_some, Option.toList_none, List.cons_append, List.nil_append]
        rw [if_pos hp1, if_neg (by decide)]
        simp only [q66_7, q66_8, q66_9, s91, q66_12, sf_x, ha.xn, Option.toList_some, Option.toList_none, List.cons_append, List.nil_append]
        rw [if_pos hp2, if_neg (by decide)]
        simp only [q66_18, q66_19, q66_22, q66_25, q66_26, q66_29, q66_30, q66_33, q66_36, sf_x, c1, c2, d2, s31, rc, l1, Option.toList_some, Option.toList_none, List.cons_append, List.nil_append]
        rw [if_neg (by omega)]
        simp only [q66_39, q66_41]
      · intro K
        simp only [q128_0, q128_1, s118, q128_4, Option.toList_some, Option.toList_none, List.cons_append, List.nil_append]
        rw [sf_inB_y (by omega), if_neg (by decide)]
        simp only [q128_7, q128_8, q128_9, sf_y, Option.toList_some, Option.toList_none, List.cons_append, List.nil_append]
        rw [s117 (i7 _ rfl)]
        simp only [q128_12, ha.yn, Option.toList_some, Option.toList_none, List.cons_append, List.nil_append]
        rw [sf_inB_y (by omega), if_neg (by decide)]
        simp (decide := true) only [q128_18, q128_19, q128_22, q128_23, q128_24, q128_25, q128_28, q128_29, q128_30, sf_y, y3, y4, sf_y3, sf_y4, sf_bd, he, true_and, Int.toNat_natCast, Int.reduceToNat]
        rw [if_neg hco]
        simp only [q128_33, q128_35]
  · refine ⟨-1000000001, V, V, n, nx, c, ce, cf, cg, ?_, ?_, R⟩
    · intro K
      simp only [q66_0, q66_1, s92, q66_4, Option.toList_some, Option.toList_none, List.cons_append, List.nil_append]
      by_cases h1 : 0 ≤ e ∧ e < 6
      · rw [if_pos h1, if_neg (by decide)]
        simp only [q66_7, q66_8, q66_9, s91, q66_12, sf_x, ha.xn, Option.toList_some, Option.toList_none, List.cons_append, List.nil_append]
        rw [if_neg (fun z => hp ⟨h1, z⟩), if_pos rfl]
        simp only [q66_15, q66_17]
      · rw [if_neg h1, if_pos rfl]
        simp only [q66_15, q66_17]
    · intro K
      simp only [q128_0, q128_1, s118, q128_4, Option.toList_some, Option.toList_none, List.cons_append, List.nil_append]
      by_cases h1 : 0 ≤ e ∧ e < 6
      · rw [sf_inB_y (by omega), if_neg (by decide)]
        simp only [q128_7, q128_8, q128_9, sf_y, Option.toList_some, Option.toList_none, List.cons_append, List.nil_append]
        rw [s117 (by rw [ha.yn]; omega)]
        simp only [q128_12, ha.yn, Option.toList_some, Option.toList_none, List.cons_append, List.nil_append]
        rw [sf_inB_n (fun z => hp ⟨h1, by omega⟩), if_pos rfl]
        simp only [q128_15, q128_17]
      · rw [sf_inB_n (by omega), if_pos rfl]
        simp only [q128_15, q128_17]
end SFP9

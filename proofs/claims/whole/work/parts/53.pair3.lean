/-! pairs of calls: chair, stack, law -/
section SFP3
variable {V : sf_MV} {n nx c ce cf cg : Nat}
theorem sf_getS_ul {s : Nat} {v : Int} : sf_getS (sf_upd V s 4 v) s = sf_ru (sf_getS V s) 1 v := by
  obtain ⟨a1, a2, a3, _⟩ := sf_apart1 s
  funext k
  unfold sf_getS sf_ru
  rw [sf_upd_ne (Ne.symm a1), sf_upd_ne (Ne.symm a2), sf_upd_ne (Ne.symm a3)]
  by_cases h : k = 1
  · subst h
    rw [if_pos rfl, if_pos (by decide), sf_upd_eq]
  · rw [if_neg h, sf_upd_ne2 (by omega)]
theorem sf_getS_ur {s j : Nat} {v : Int} (hj : j < 6) : sf_getS (sf_upd V (sf_rf (sf_rf s 2) 0) j v) s = sf_ru (sf_getS V s) (j + 14) v := by
  obtain ⟨a1, a2, a3, a4, a5, a6⟩ := sf_apart1 s
  have e : sf_rf (sf_rf s 2) 0 = sf_la s := rfl
  rw [e]
  funext k
  unfold sf_getS sf_ru
  rw [sf_upd_ne a3, sf_upd_ne a5, sf_upd_ne a6]
  by_cases h : k = j + 14
  · subst h
    rw [if_neg (by omega), if_neg (by omega), if_neg (by omega), if_neg (by omega), if_pos (by omega), if_pos rfl, Nat.add_sub_cancel, sf_upd_eq]
  · rw [if_neg h]
    show _ = if k < 3 then V s (k + 3) else if k < 4 then 0 else if k < 9 then V (sf_wa s) (k - 4) else if k < 14 then V (sf_si s) (k - 9) else if k < 20 then V (sf_la s) (k - 14) else 0
    by_cases q1 : k < 3
    · rw [if_pos q1, if_pos q1]
    rw [if_neg q1, if_neg q1]
    by_cases q2 : k < 4
    · rw [if_pos q2, if_pos q2]
    rw [if_neg q2, if_neg q2]
    by_cases q3 : k < 9
    · rw [if_pos q3, if_pos q3]
    rw [if_neg q3, if_neg q3]
    by_cases q4 : k < 14
    · rw [if_pos q4, if_pos q4]
    rw [if_neg q4, if_neg q4, sf_upd_ne2 (by omega)]
theorem sf_ru_ne {S : Nat → Int} {j k : Nat} {v : Int} (h : k ≠ j) : sf_ru S j v k = S k := if_neg h
theorem sf_ru_eq {S : Nat → Int} {j : Nat} {v : Int} : sf_ru S j v j = v := if_pos rfl
theorem sf_upd_ru {a k : Nat} {v : Int} : sf_upd V a k v a = sf_ru (V a) k v := by
  funext j
  unfold sf_upd sf_ru
  by_cases h : j = k
  · rw [if_pos ⟨rfl, h⟩, if_pos h]
  · rw [if_neg (fun z => h z.2), if_neg h]
theorem sf_req_l {S T : Nat → Int} {v : Int} (h : sf_req n S T) : sf_req n (sf_ru S 1 v) (sf_ru T 1 v) :=
  sf_req.mk (by rw [sf_ru_ne (by omega), sf_ru_ne (by omega)]; exact h.d) (by rw [sf_ru_eq, sf_ru_eq]) (by rw [sf_ru_ne (by omega), sf_ru_ne (by omega)]; exact h.h) (fun p hp => by rw [sf_ru_ne (by omega), sf_ru_ne (by omega)]; exact h.w p hp) (fun p hp => by rw [sf_ru_ne (by omega), sf_ru_ne (by omega)]; exact h.i p hp) (fun p hp => by rw [sf_ru_ne (by omega), sf_ru_ne (by omega)]; exact h.r p hp)
theorem sf_rok_l {S : Nat → Int} {B v : Int} (h : sf_rok n B S) (hv : 0 ≤ v ∧ v ≤ 9999) : sf_rok n B (sf_ru S 1 v) := by
  have g9 : ∀ p, sf_ru S 1 v (p + 9) = S (p + 9) := fun p => sf_ru_ne (by omega)
  have g4 : ∀ p, sf_ru S 1 v (p + 4) = S (p + 4) := fun p => sf_ru_ne (by omega)
  have g14 : ∀ p, sf_ru S 1 v (p + 14) = S (p + 14) := fun p => sf_ru_ne (by omega)
  have g0 : sf_ru S 1 v 0 = S 0 := sf_ru_ne (by omega)
  have g2 : sf_ru S 1 v 2 = S 2 := sf_ru_ne (by omega)
  refine sf_rok.mk ?_ ?_ ?_ ?_ ?_ ?_ ?_ ?_
  · rw [g0]; exact h.d
  · rw [sf_ru_eq]; exact hv
  · rw [g2]; exact h.h
  · simp only [g4]; exact h.w
  · simp only [g9, g2]; exact h.i
  · simp only [g9]; exact h.a
  · simp only [g9, g0]; exact h.m
  · simp only [g14]; exact h.r
theorem sf_req_k {S T : Nat → Int} {v : Int} {j : Nat} (h : sf_req n S T) (hn : n ≤ 5) : sf_req n (sf_ru S (j + 14) v) (sf_ru T (j + 14) v) :=
  sf_req.mk (by rw [sf_ru_ne (by omega), sf_ru_ne (by omega)]; exact h.d) (by rw [sf_ru_ne (by omega), sf_ru_ne (by omega)]; exact h.l) (by rw [sf_ru_ne (by omega), sf_ru_ne (by omega)]; exact h.h) (fun p hp => by rw [sf_ru_ne (by omega), sf_ru_ne (by omega)]; exact h.w p hp) (fun p hp => by rw [sf_ru_ne (by omega), sf_ru_ne (by omega)]; exact h.i p hp) (fun e he => by
    by_cases q : e = j
    · rw [q, sf_ru_eq, sf_ru_eq]
    · rw [sf_ru_ne (by omega), sf_ru_ne (by omega)]; exact h.r e he)
theorem sf_rok_k {S : Nat → Int} {B v : Int} {j : Nat} (h : sf_rok n B S) (hn : n ≤ 5) (hv : 0 ≤ v ∧ v ≤ 6) : sf_rok n B (sf_ru S (j + 14) v) := by
  have g9 : ∀ p, p < n → sf_ru S (j + 14) v (p + 9) = S (p + 9) := fun p hp => sf_ru_ne (by omega)
  have g4 : ∀ p, p < 5 → sf_ru S (j + 14) v (p + 4) = S (p + 4) := fun p hp => sf_ru_ne (by omega)
  have g0 : sf_ru S (j + 14) v 0 = S 0 := sf_ru_ne (by omega)
  have g1 : sf_ru S (j + 14) v 1 = S 1 := sf_ru_ne (by omega)
  have g2 : sf_ru S (j + 14) v 2 = S 2 := sf_ru_ne (by omega)
  refine sf_rok.mk ?_ ?_ ?_ ?_ ?_ ?_ ?_ ?_
  · rw [g0]; exact h.d
  · rw [g1]; exact h.l
  · rw [g2]; exact h.h
  · intro p hp; rw [g4 p hp]; exact h.w p hp
  · intro p hp; rw [g9 p hp, g2]; exact h.i p hp
  · intro p hp q hq; rw [g9 p hp, g9 q hq]; exact h.a p hp q hq
  · rcases h.m with m | m
    · exact Or.inl (fun p hp => by rw [g9 p hp]; exact m p hp)
    · refine Or.inr (fun p hp => ?_)
      have hd := h.d
      rw [g0, g9 p hp, g9 _ (by omega)]
      exact m p hp
  · intro e he
    by_cases q : e = j
    · rw [q, sf_ru_eq]; exact hv
    · rw [sf_ru_ne (by omega)]; exact h.r e he
theorem p_chair (R : sf_RR V n nx c ce cf cg) {p : Int} : sf_P2 80 153 [some (.inl p)] [some (.inl p), none] V := by
  have y2 := sf_c12_2 sf_y
  have y4 := sf_c12_4 sf_y
  have ha := R.a
  have hb := R.b
  have hn5 := ha.n5
  by_cases hp : 0 ≤ p ∧ p < n
  · obtain ⟨q, rfl⟩ : ∃ q : Nat, p = (q : Int) := ⟨p.toNat, by omega⟩
    have hq : q < n := by omega
    have k4 : q + 4 < 20 := by omega
    have k0 : q < 5 := by omega
    have w0 := hb.x.w q k0
    have c0 := ha.cx q k0
    refine ⟨sf_dr (sf_getS V (sf_rf 0 2) (q + 4)) (V (sf_si (sf_rf 0 1)) q), V, V, n, nx, c, ce, cf, cg, ?_, ?_, R⟩
    · intro K
      simp only [q80_0, q80_1, q80_2, s91, q80_5, sf_x, ha.xn, Option.toList_some, Option.toList_none, List.cons_append, List.nil_append]
      rw [if_pos hp, if_neg (by decide)]
      simp only [q80_8, q80_9, q80_10, sf_x]
      rw [s97 k0 w0 c0]
      simp only [q80_13, q80_16, q80_18, Option.toList_some, Option.toList_none, List.cons_append, List.nil_append]
    · intro K
      simp only [q153_0, q153_1, q153_2, sf_y, Option.toList_some, Option.toList_none, List.cons_append, List.nil_append]
      rw [s117 (by rw [ha.yn]; omega)]
      simp only [q153_5, ha.yn, Option.toList_some, Option.toList_none, List.cons_append, List.nil_append]
      rw [sf_inB_y (by omega), if_neg (by decide)]
      have ew : V (sf_rf 409 4) (q + 4) = sf_getS V (sf_rf 0 2) (q + 4) := (hb.q.w q hq).symm
      have ec : V (sf_rf 409 2) q = V (sf_si (sf_rf 0 1)) q := (ha.c q hq).symm
      simp only [q153_11, q153_12, q153_15, q153_16, q153_17, q153_18, q153_19, q153_20, q153_21, q153_24, q153_25, q153_28, q153_29, q153_32, q153_33, q153_34, q153_37, q153_38, q153_41, q153_42, q153_43, q153_46, q153_47, q153_48, q153_49, q153_50, q153_51, q153_52, q153_55, q153_56, q153_57, q153_58, sf_y, y2, y4, sf_y2, sf_y4, sf_n4 (show q < 1000 by omega), sf_bd, k4, k0, true_and, Int.toNat_natCast, ew, ec]
      replace c0 : 0 ≤ V (sf_si (sf_rf 0 1)) q ∧ V (sf_si (sf_rf 0 1)) q ≤ 9 := c0
      generalize V (sf_si (sf_rf 0 1)) q = cc at *
      generalize sf_getS V (sf_rf 0 2) (q + 4) = ww at *
      unfold sf_dr
      by_cases h1 : ww = 0
      · rw [if_pos h1, if_pos h1]
      rw [if_neg h1, if_neg h1]
      by_cases h2 : cc = 0
      · rw [if_pos h2, if_pos (by omega)]
      rw [if_neg h2, if_neg (by omega), sf_w_small (n := ww + cc) (by omega), sf_w_small (n := ww + cc - 1) (by omega)]
      simp only [h2, not_false_eq_true, true_and]
      have t1 : 0 ≤ (ww + cc - 1).tdiv cc := Int.tdiv_nonneg (by omega) (by omega)
      have t2 : (ww + cc - 1).tdiv cc ≤ ww + cc - 1 := Int.tdiv_le_self _ (by omega)
      rw [sf_w_small (by omega)]
  · refine ⟨-1000000001, V, V, n, nx, c, ce, cf, cg, ?_, ?_, R⟩
    · intro K
      simp only [q80_0, q80_1, q80_2, s91, q80_5, sf_x, ha.xn, Option.toList_some, Option.toList_none, List.cons_append, List.nil_append]
      rw [if_neg hp, if_pos rfl]
      simp only [q80_16, q80_18]
    · intro K
      simp only [q153_0, q153_1, q153_2, sf_y, Option.toList_some, Option.toList_none, List.cons_append, List.nil_append]
      rw [s117 (by rw [ha.yn]; omega)]
      simp only [q153_5, ha.yn, Option.toList_some, Option.toList_none, List.cons_append, List.nil_append]
      rw [sf_inB_n (by omega), if_pos rfl]
      simp only [q153_8, q153_10]
end SFP3

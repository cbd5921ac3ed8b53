/-! favour, allWarm -/
section SFP59
variable {V X U : sf_MV} {n nx c ce cf cg : Nat}
theorem sf_r3_pk {σ : Type} {M : Nat} {lg : Int} {cst dc : Nat → Int} {ch : σ → Nat → σ} {al : Nat → σ → Bool} : ∀ r k s t d (pk : Nat → Nat) (B : Int × Int × (Nat → Nat)), (∀ j, pk j < M) → (∀ j, B.2.2 j < M) → ∀ j, (sf_r3 M lg cst dc ch al r k s t d pk B).2.2 j < M
  | 0, k, s, t, d, pk, B, h1, h2 => by
    unfold sf_r3
    split
    · exact h1
    · exact h2
  | r + 1, k, s, t, d, pk, B, h1, h2 => by
    unfold sf_r3
    generalize hf : (fun (x : Nat) (B : Int × Int × (Nat → Nat)) => if t + cst x ≤ lg ∧ al r (ch s x) = true then sf_r3 M lg cst dc ch al r (k + 1) (ch s x) (t + cst x) (d + dc x) (sf_upn pk k x) B else B) = f
    have fm : ∀ x B, f x B = if t + cst x ≤ lg ∧ al r (ch s x) = true then sf_r3 M lg cst dc ch al r (k + 1) (ch s x) (t + cst x) (d + dc x) (sf_upn pk k x) B else B := fun x B => by rw [← hf]
    have key : ∀ m, m ≤ M → ∀ j, (sf_fld f m B).2.2 j < M := by
      intro m
      induction m with
      | zero => intro _; exact h2
      | succ m ih =>
        intro hm
        have i1 := ih (by omega)
        have e : sf_fld f (m + 1) B = f m (sf_fld f m B) := rfl
        rw [e, fm]
        by_cases q : t + cst m ≤ lg ∧ al r (ch s m) = true
        · rw [if_pos q]
          exact sf_r3_pk r (k + 1) _ _ _ _ _ (fun j => by
            unfold sf_upn
            by_cases z : j = k
            · rw [if_pos z]; omega
            · rw [if_neg z]; exact h1 j) i1
        · rw [if_neg q]
          exact i1
    exact key M (Nat.le_refl M)
theorem sf_plan (R : sf_RR V n nx c ce cf cg) (hn : 0 < n) {r : Nat} (hr : r + 1 ≤ 3) {want i : Int} :
    ∃ (v : Int) (V2 X' : sf_MV), sf_RR V2 n nx c ce cf cg ∧ sf_RR X' n nx c ce cf cg ∧
      (∀ K, sf_wp 18 none 17 0 [some (.inr (.inl (some (sf_rf 0 10)))), some (.inr (.inl (some (sf_rf 0 1)))), some (.inr (.inl (some (sf_rf 0 2)))), some (.inl ((r + 1 : Nat) : Int)), some (.inl want)] [] (sf_E V) K = K none (sf_E V2)) ∧
      (∀ K, sf_wp 18 none 18 0 [some (.inr (.inl (some (sf_rf 0 10)))), some (.inl i)] [] (sf_E V2) K = K (some (.inl v)) (sf_E V2)) ∧
      V2 409 = V 409 ∧
      (∀ K, sf_wp 18 none 139 0 [some (.inr (.inl (some 409))), some (.inl ((r + 1 : Nat) : Int)), some (.inl want), none, none, none] [] (sf_E V2) K = K none (sf_E X')) ∧
      (∀ K, sf_wp 18 none 141 0 [some (.inr (.inl (some 409))), some (.inl ((r + 1 : Nat) : Int)), some (.inl i), none] [] (sf_E X') K = K (some (.inl v)) (sf_E X')) := by
  have x1 := sf_c11_1 sf_x
  have x2 := sf_c11_2 sf_x
  have x10 := sf_c11_10 sf_x
  have p0 := sf_c5_0 x10
  have y30 := sf_c12_30 sf_y
  obtain ⟨m1, m2, m3, m4, m5⟩ := sf_pxLen
  have ha := R.a
  have hb := R.b
  have hn5 := ha.n5
  have hd := hb.x.d
  have hl := hb.x.l
  have ee : ∀ t, sf_rf (sf_rf (sf_rf (sf_rf 0 10) 0) 0) t = sf_px t := fun _ => rfl
  have c0 := sf_pxCls (show 0 < 4 by decide)
  generalize hS : sf_getS V (sf_rf 0 2) = S at hb hd hl
  -- the class
  generalize hV1 : sf_upd (sf_upd (sf_upd (sf_upd (sf_setS V (sf_px 0) S) (sf_rf 0 10) 5 ((r + 1 : Nat) : Int)) (sf_rf 0 10) 6 want) (sf_rf 0 10) 7 (S 1)) (sf_rf 0 10) 8 0 = V1
  have n1 : ∀ a, ¬ a = sf_rf 0 10 → ¬ a = sf_px 0 → ¬ a = sf_rf (sf_rf (sf_px 0) 0) 0 → ¬ a = sf_rf (sf_rf (sf_px 0) 1) 0 → ¬ a = sf_rf (sf_rf (sf_px 0) 2) 0 → V1 a = V a := fun a q0 q1 q2 q3 q4 => by
    rw [← hV1, sf_upd_ne q0, sf_upd_ne q0, sf_upd_ne q0, sf_upd_ne q0, sf_setS_ne3 q1 q2 q3 q4]
  have h1m : V1 (sf_rf 0 1) = V (sf_rf 0 1) := n1 _ (by simp [sf_rf_inj]) (by simp [sf_px, sf_rf_inj, sf_0ne_rf]) (by simp [sf_px, sf_rf_inj, sf_0ne_rf]) (by simp [sf_px, sf_rf_inj, sf_0ne_rf]) (by simp [sf_px, sf_rf_inj, sf_0ne_rf])
  have h1r : ∀ j, V1 (sf_rf (sf_rf (sf_rf 0 1) j) 0) = V (sf_rf (sf_rf (sf_rf 0 1) j) 0) := fun j => n1 _ (by simp [sf_rf_inj, sf_rf_ne0]) (by simp [sf_px, sf_rf_inj, sf_0ne_rf, sf_rf_ne0]) (by simp [sf_px, sf_rf_inj, sf_0ne_rf, sf_rf_ne0]) (by simp [sf_px, sf_rf_inj, sf_0ne_rf, sf_rf_ne0]) (by simp [sf_px, sf_rf_inj, sf_0ne_rf, sf_rf_ne0])
  have row1 : ∀ j, j < 20 → j ≠ 3 → sf_getS V1 (sf_px 0) j = S j := fun j j1 j2 => by
    have : sf_getS V1 (sf_px 0) = sf_getS (sf_setS V (sf_px 0) S) (sf_px 0) := by
      rw [← hV1]
      refine sf_getS_congr ?_ ?_ ?_ ?_ <;> rw [sf_upd_ne (by simp [sf_px, sf_rf_inj, sf_rf_ne0]), sf_upd_ne (by simp [sf_px, sf_rf_inj, sf_rf_ne0]), sf_upd_ne (by simp [sf_px, sf_rf_inj, sf_rf_ne0]), sf_upd_ne (by simp [sf_px, sf_rf_inj, sf_rf_ne0])]
    rw [this]
    exact sf_getS_set j1 j2
  obtain ⟨V2, F2, RP2, z⟩ := s19 (n := n) (L := r + 1) (g := V 409 1) (lg := S 1) (want := want) (cold := V (sf_si (sf_rf 0 1))) (cost := V (sf_rf 409 3)) hn hn5 ha.g0 ha.cx ha.s0 hr (r + 1) 0 (by omega) V1 S 0 0 (fun _ => 0) (-1, 0, fun _ => 0) (sf_PH.mk (by rw [← hV1, sf_upd_ne2 (by decide), sf_upd_ne2 (by decide), sf_upd_ne2 (by decide), sf_upd_eq]) (by rw [← hV1, sf_upd_ne2 (by decide), sf_upd_ne2 (by decide), sf_upd_eq]) (by rw [← hV1, sf_upd_ne2 (by decide), sf_upd_eq]) (by rw [h1m]; exact ha.xn) (by rw [h1m]; exact ha.g) (by unfold sf_si; rw [h1r]) (fun e he => by unfold sf_la; rw [h1r]; exact ha.s e he) row1 (by rw [show (90099 : Int) + ((0 : Nat) : Int) = 90099 by omega]; exact hb.x) (by omega) (by omega)) (Or.inl ⟨rfl, by rw [← hV1, sf_upd_eq]⟩) (fun j hj => absurd hj (by omega)) (Or.inl rfl)
  have cs9 : ∀ x, 0 ≤ sf_pcs n (V (sf_rf 409 3)) x ∧ sf_pcs n (V (sf_rf 409 3)) x ≤ 9 := fun x => by
    unfold sf_pcs
    split
    · decide
    · split
      · exact ha.s0 _ (by omega)
      · decide
  rw [sf_c4_r3 (fun x => (cs9 x).1) (fun x => by unfold sf_pdc; split <;> decide) (fun x y h => by unfold sf_pdc; (repeat' split) <;> omega) (fun s x hx => by
    obtain ⟨y, y1, y2, y3, y4⟩ := sf_wn_ex (f := sf_pfx n s) cs9 hx
    exact ⟨y, y1, y2, by unfold sf_pch; rw [y3], y4⟩) (r + 1) 0 S 0 0 (fun _ => 0) (-1, 0, fun _ => 0) (Int.le_refl 0) (Or.inl rfl)] at RP2
  rw [sf_r3_c (cold := V (sf_si (sf_rf 0 1))) (cold' := V (sf_rf 409 2)) hn hn5 ha.c (r + 1) 0 S (V (sf_rf 409 4)) 0 0 (fun _ => 0) _ hb.q (by omega)] at RP2
  have pkB := sf_r3_pk (M := 6 * n + 1) (lg := S 1) (cst := sf_pcs n (V (sf_rf 409 3))) (dc := sf_pdc) (ch := sf_pch n (V 409 1) (V (sf_rf 409 2))) (al := sf_pal n want) (r + 1) 0 (V (sf_rf 409 4)) 0 0 (fun _ => 0) (-1, 0, fun _ => 0) (fun _ => by omega) (fun _ => by show 0 < _; omega)
  have n2 : ∀ x, ¬ x = sf_rf 0 10 → ¬ x = sf_rf (sf_rf (sf_rf 0 10) 1) 0 → ¬ x = sf_rf (sf_rf (sf_rf 0 10) 2) 0 → ¬ x = sf_rf (sf_rf (sf_rf 0 10) 3) 0 → ¬ x = sf_rf (sf_rf (sf_rf 0 10) 4) 0 → (∀ t, t < 4 → ¬ x = sf_px t ∧ ¬ x = sf_rf (sf_rf (sf_px t) 0) 0 ∧ ¬ x = sf_rf (sf_rf (sf_px t) 1) 0 ∧ ¬ x = sf_rf (sf_rf (sf_px t) 2) 0) → V2 x = V x := fun x q0 q1 q2 q3 q5 q4 => by
    obtain ⟨t1, t2, t3, t4⟩ := q4 0 (by decide)
    rw [F2.1 x q0 q1 q2 q3 q5 (fun t _ ht => q4 t ht), n1 x q0 t1 t2 t3 t4]
  have R2 := sf_RR_px R n2
  have e7 : V2 409 = V 409 := n2 _ (by simp [sf_Yne_rf]) (by simp [sf_Yne_rf]) (by simp [sf_Yne_rf]) (by simp [sf_Yne_rf]) (by simp [sf_Yne_rf]) (fun t _ => by simp [sf_px, sf_Yne_rf])
  have er : ∀ q, V2 (sf_rf 409 q) = V (sf_rf 409 q) := fun q => n2 _ (by simp [sf_rf_inj]) (by simp [sf_rf_inj, sf_Yne_rf]) (by simp [sf_rf_inj, sf_Yne_rf]) (by simp [sf_rf_inj, sf_Yne_rf]) (by simp [sf_rf_inj, sf_Yne_rf]) (fun t _ => by simp [sf_px, sf_rf_inj, sf_Yne_rf])
  have P4 : V2 (sf_rf 0 10) 5 = ((r + 1 : Nat) : Int) := by
    rw [F2.2.1 5 (by decide) (by decide) (by decide), ← hV1, sf_upd_ne2 (by decide), sf_upd_ne2 (by decide), sf_upd_ne2 (by decide), sf_upd_eq]
  generalize hB : sf_r3 (6 * n + 1) (S 1) (sf_pcs n (V (sf_rf 409 3))) sf_pdc (sf_pch n (V 409 1) (V (sf_rf 409 2))) (sf_pal n want) (r + 1) 0 (V (sf_rf 409 4)) 0 0 (fun _ => 0) (-1, 0, fun _ => 0) = B at RP2 pkB
  -- the reference
  have hlY : V (sf_rf 409 4) 1 = S 1 := hb.q.l.symm
  generalize hX : sf_upd (sf_upd (sf_upd (sf_put (sf_put V2 (sf_rf 409 28) 0 20 (V (sf_rf 409 4))) (sf_rf 409 29) 0 20 (fun j => sf_put V2 (sf_rf 409 28) 0 20 (V (sf_rf 409 4)) (sf_rf 409 28) j)) 409 32 (-1)) 409 33 (-1)) (sf_rf 409 30) 0 (-1) = X
  have nX : ∀ y, ¬ y = 409 → ¬ y = sf_rf 409 28 → ¬ y = sf_rf 409 29 → ¬ y = sf_rf 409 30 → X y = V2 y := fun y q0 q1 q2 q3 => by
    rw [← hX, sf_upd_ne q3, sf_upd_ne q0, sf_upd_ne q0, sf_put_ne q2, sf_put_ne q1]
  have X7 : ∀ j, ¬ j = 32 → ¬ j = 33 → X 409 j = V 409 j := fun j j1 j2 => by
    rw [← hX, sf_upd_ne (by simp [sf_Yne_rf]), sf_upd_ne2 j2, sf_upd_ne2 j1, sf_put_ne (by simp [sf_Yne_rf]), sf_put_ne (by simp [sf_Yne_rf]), e7]
  have Xr : ∀ q, q < 28 → X (sf_rf 409 q) = V (sf_rf 409 q) := fun q hq => by rw [nX _ (by simp [sf_rf_neY]) (by simp [sf_rf_inj]; omega) (by simp [sf_rf_inj]; omega) (by simp [sf_rf_inj]; omega), er]
  obtain ⟨X', FX, RQ', eq⟩ := s139_node (n := n) (L := r + 1) (g := V 409 1) (lg := S 1) (want := want) (cold := V (sf_rf 409 2)) (cost := V (sf_rf 409 3)) hn hn5 ha.g0 ha.cy ha.s0 hr r 0 X (V (sf_rf 409 4)) (V (sf_rf 409 4)) 0 (fun _ => 0) (-1, 0, fun _ => 0) (by omega) (sf_QH.mk (by rw [X7 0 (by decide) (by decide)]; exact ha.yn) (X7 1 (by decide) (by decide)) (Xr 2 (by decide)) (fun e _ => by rw [Xr 3 (by decide)]) (by rw [Xr 4 (by decide)]; exact hlY) (fun j hj => by
    rw [← hX, sf_upd_ne (by simp [sf_rf_inj]), sf_upd_ne (by simp [sf_rf_neY]), sf_upd_ne (by simp [sf_rf_neY]), Nat.mul_zero, Nat.zero_add, sf_put_at hj, sf_put_at hj]) (fun _ _ _ _ => rfl) (by rw [hlY]; omega) (by rw [show (90099 : Int) + ((0 : Nat) : Int) = 90099 by omega]; exact hb.y) (by omega) hl hl.1) (fun j hj => absurd hj (by omega)) (by rw [← hX, sf_upd_eq]) ⟨by rw [← hX, sf_upd_ne (by simp [sf_Yne_rf]), sf_upd_ne2 (by decide), sf_upd_eq], Or.inl rfl⟩
  have dn0 : sf_dn (fun _ => 0) 0 = 0 := rfl
  rw [dn0, hB] at RQ'
  refine ⟨sf_tel n (r + 1) B i, V2, X', R2, ?_, fun K => ?_, fun K => s18 hr P4 RP2, e7, fun K => ?_, fun K => s141 hn hn5 hr (by rw [FX.2.1 0 (by decide) (by decide), X7 0 (by decide) (by decide)]; exact ha.yn) RQ' (fun j _ => Or.inr (pkB j))⟩
  · refine sf_RR_ref R2 (fun y q1 q2 => ?_) (fun j hj => ?_) (fun j hj => ?_)
    · rw [FX.1 y q1 (q2 28) (q2 29) (q2 30) (q2 31), nX y q1 (q2 28) (q2 29) (q2 30)]
    · rw [FX.2.1 j (by omega) (by omega), X7 j (by omega) (by omega), e7]
    · rw [FX.1 _ (by simp [sf_rf_neY]) (by simp [sf_rf_inj]; omega) (by simp [sf_rf_inj]; omega) (by simp [sf_rf_inj]; omega) (by simp [sf_rf_inj]; omega), Xr j (by omega), er]
  · have h36 := fun K => s36 (d := 17) (h := sf_rf (sf_rf 0 10) 0) (k := 0) (V := V) (K := K) p0 (by omega)
    rw [show ((0 : Nat) : Int) = 0 from rfl] at h36
    have g4 : ∀ Z : sf_MV, Z (sf_rf 0 2) 4 = V (sf_rf 0 2) 4 → Z (sf_rf 0 2) 4 = S 1 := fun Z hZ => by
      rw [hZ, ← hS, sf_getS_l]
    have g4' : sf_upd (sf_upd (sf_setS V (sf_px 0) S) (sf_rf 0 10) 5 ((r + 1 : Nat) : Int)) (sf_rf 0 10) 6 want (sf_rf 0 2) 4 = S 1 := g4 _ (by rw [sf_upd_ne (by simp [sf_rf_inj]), sf_upd_ne (by simp [sf_rf_inj]), sf_setS_ne3 (by simp [sf_px, sf_rf_inj, sf_0ne_rf]) (by simp [sf_px, sf_rf_inj, sf_0ne_rf]) (by simp [sf_px, sf_rf_inj, sf_0ne_rf]) (by simp [sf_px, sf_rf_inj, sf_0ne_rf])])
    simp only [q17_0, q17_1, q17_4, x10]
    simp only [q17_5, p0]
    rw [h36, ee]
    simp only [q17_8, q17_9, c0, x2, Option.toList_some, Option.toList_none, List.cons_append, List.nil_append]
    rw [s39 (d := 16) c0 x2 (by simp [sf_px, sf_rf_inj, sf_rf_ne0]), hS]
    simp (decide := true) only [q17_12, q17_13, q17_14, q17_17, q17_18, q17_20, q17_23, q17_24, q17_25, q17_28, q17_31, q17_32, q17_33, q17_36, q17_37, q17_38, q17_39, q17_40, x10, x2, g4', hV1, true_or, true_and, Option.toList_some, Option.toList_none, List.cons_append, List.nil_append]
    simp only [q17_41, x10]
    have z' := z 17
    rw [show ((0 : Nat) : Int) = 0 from rfl] at z'
    rw [z' _ (by omega)]
    simp only [q17_44, Option.toList_some, Option.toList_none, List.cons_append, List.nil_append]
  · simp only [q139_0, q139_1, sf_y]
    rw [s122, er 4]
    simp only [q139_4, q139_5, q139_6, sf_y, Option.toList_some, Option.toList_none, List.cons_append, List.nil_append]
    have l0 := fun K => s137 (d := 17) (V := sf_put V2 (sf_rf 409 28) 0 20 (V (sf_rf 409 4))) (c := 0) (K := K) (by decide)
    rw [show ((0 : Nat) : Int) = 0 from rfl] at l0
    rw [l0]
    simp (decide := true) only [q139_9, q139_10, q139_11, q139_14, q139_15, q139_16, q139_19, q139_20, q139_21, q139_22, q139_25, q139_26, q139_27, sf_y, y30, sf_y30, Int.reduceToNat, true_and, Nat.mul_zero, Nat.zero_add, Nat.sub_zero, hX, Option.toList_some, Option.toList_none, List.cons_append, List.nil_append]
    obtain ⟨a4, a5, ea⟩ := eq none none K
    rw [show ((0 : Nat) : Int) = 0 from rfl] at ea
    refine Eq.trans ea ?_
    simp only [q139_28]
    rw [q139_29, if_pos (by omega), q139_218]
end SFP59

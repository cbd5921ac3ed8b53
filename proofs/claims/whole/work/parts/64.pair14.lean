/-! keep, goBack -/
theorem sf_shLen : sf_len (sf_rf (sf_rf 0 5) 0) = 2 ∧ sf_len (sf_rf (sf_rf 0 6) 0) = 2 ∧ sf_len (sf_rf (sf_rf 0 7) 0) = 2 := by decide +kernel
section SFP14
variable {V X Y : sf_MV} {n nx c ce cf cg a k m : Nat} {v : Int} {f : Nat → Int} {K : Option sf_V → sf_M → Prop}
theorem sf_shCls {i : Nat} (h : i < 2) : sf_cls (sf_sh i) = 9 := (sf_elem (sf_c8_0 (sf_c11_5 sf_x)) (by rw [sf_shLen.1]; exact h)).1
theorem s162_loop {d q : Nat} (hq : q < 2) : ∀ (m k : Nat) (V : sf_MV), 20 - k = m → k ≤ 20 →
    sf_wp d none 162 15 [some (.inr (.inl (some 409))), some (.inl (q : Int)), some (.inl (k : Int))] [] (sf_E V) K = sf_wp d none 162 44 [some (.inr (.inl (some 409))), some (.inl (q : Int)), some (.inl 20)] [] (sf_E (sf_put V (sf_rf 409 7) (20 * q + k) (20 * q + 20) (fun j => V (sf_rf 409 4) (j - 20 * q)))) K := by
  have c1 := sf_c12_7 sf_y
  have c2 := sf_c12_4 sf_y
  intro m
  induction m with
  | zero =>
    intro k V hm hk
    simp only [q162_15, q162_16, q162_18]
    rw [if_pos (by omega), sf_put_nil (by omega), show (k : Int) = 20 by omega]
  | succ m ih =>
    intro k V hm hk
    have b1 : k < 20 := by omega
    have b2 : 20 * q + k < 40 := by omega
    simp only [q162_15, q162_16, q162_18, q162_21, q162_22, q162_25, q162_27, q162_28, q162_29, q162_30, q162_31, q162_32, q162_35, q162_36, q162_37, q162_38, sf_y, c1, c2, sf_y7, sf_y4, sf_w20 (show q < 100 by omega) (show k < 100 by omega), sf_bd, b1, b2, true_and, Int.toNat_natCast]
    rw [if_neg (by omega), q162_41, sf_wS (by omega), ih (k + 1) _ (by omega) (by omega)]
    rw [sf_upd_ne (b := sf_rf 409 4) (by simp [sf_rf_inj])]
    have e := sf_put_step (V := V) (a := sf_rf 409 7) (k := 20 * q + k) (n := 20 * q + 20) (f := fun j => V (sf_rf 409 4) (j - 20 * q)) (by omega)
    rw [Nat.add_sub_cancel_left] at e
    rw [show 20 * q + (k + 1) = 20 * q + k + 1 by omega, e]
theorem s163_loop {d q : Nat} (hq : q < 2) : ∀ (m k : Nat) (V : sf_MV), 20 - k = m → k ≤ 20 →
    sf_wp d none 163 27 [some (.inr (.inl (some 409))), some (.inl (q : Int)), some (.inl (k : Int))] [] (sf_E V) K = sf_wp d none 163 56 [some (.inr (.inl (some 409))), some (.inl (q : Int)), some (.inl 20)] [] (sf_E (sf_put V (sf_rf 409 4) k 20 (fun j => V (sf_rf 409 7) (20 * q + j)))) K := by
  have c1 := sf_c12_7 sf_y
  have c2 := sf_c12_4 sf_y
  intro m
  induction m with
  | zero =>
    intro k V hm hk
    simp only [q163_27, q163_28, q163_30]
    rw [if_pos (by omega), sf_put_nil (by omega), show (k : Int) = 20 by omega]
  | succ m ih =>
    intro k V hm hk
    have b1 : k < 20 := by omega
    have b2 : 20 * q + k < 40 := by omega
    simp only [q163_27, q163_28, q163_30, q163_33, q163_34, q163_37, q163_38, q163_39, q163_42, q163_44, q163_45, q163_46, q163_47, q163_48, q163_49, q163_50, sf_y, c1, c2, sf_y7, sf_y4, sf_w20 (show q < 100 by omega) (show k < 100 by omega), sf_bd, b1, b2, true_and, Int.toNat_natCast]
    rw [if_neg (by omega), q163_53, sf_wS (by omega), ih (k + 1) _ (by omega) (by omega)]
    rw [sf_upd_ne (b := sf_rf 409 7) (by simp [sf_rf_inj])]
    rw [sf_put_step (V := V) (f := fun j => V (sf_rf 409 7) (20 * q + j)) (by omega)]
theorem p_keep (R : sf_RR V n nx c ce cf cg) {x : Int} : sf_P2 88 162 [some (.inl x)] [some (.inl x), none] V := by
  have x2 := sf_c11_2 sf_x
  have x4 := sf_c11_4 sf_x
  have x5 := sf_c11_5 sf_x
  have x6 := sf_c11_6 sf_x
  have x7 := sf_c11_7 sf_x
  have y8 := sf_c12_8 sf_y
  have ha := R.a
  have hb := R.b
  have hd := R.d
  have hn5 := ha.n5
  obtain ⟨z1, z2, z3⟩ := sf_shLen
  by_cases h1 : 0 ≤ x ∧ x ≤ 1
  · obtain ⟨q, rfl⟩ : ∃ m : Nat, x = (m : Int) := ⟨x.toNat, by omega⟩
    have hq : q < 2 := by omega
    have cq := sf_shCls hq
    have hne : ¬ sf_sh q = sf_rf 0 2 := by unfold sf_sh; simp [sf_rf_inj, sf_rf_ne0]
    generalize hW0 : sf_upd (sf_upd (sf_upd (sf_setS V (sf_sh q) (sf_getS V (sf_rf 0 2))) (sf_rf (sf_rf 0 6) 0) q (V 0 13)) (sf_rf (sf_rf 0 7) 0) q 1) (sf_rf 0 4) 2 0 = W0
    generalize hW1 : sf_upd (sf_upd (sf_put W0 (sf_rf 409 7) (20 * q) (20 * q + 20) (fun j => V (sf_rf 409 4) (j - 20 * q))) (sf_rf 409 8) q 1) 409 6 0 = W1
    have n0 : ∀ a, ¬ a = sf_sh q → ¬ a = sf_rf (sf_rf (sf_sh q) 0) 0 → ¬ a = sf_rf (sf_rf (sf_sh q) 1) 0 → ¬ a = sf_rf (sf_rf (sf_sh q) 2) 0 → ¬ a = sf_rf (sf_rf 0 6) 0 → ¬ a = sf_rf (sf_rf 0 7) 0 → ¬ a = sf_rf 0 4 → W0 a = V a := fun a a1 a2 a3 a4 a5 a6 a7 => by
      rw [← hW0, sf_upd_ne a7, sf_upd_ne a6, sf_upd_ne a5, sf_setS_ne3 a1 a2 a3 a4]
    have n1 : ∀ a, ¬ a = 409 → ¬ a = sf_rf 409 8 → ¬ a = sf_rf 409 7 → W1 a = W0 a := fun a a1 a2 a3 => by
      rw [← hW1, sf_upd_ne a1, sf_upd_ne a2, sf_put_ne a3]
    have w07 : W0 409 = V 409 := by simp (decide := true) only [n0, sf_upd_ne, sf_upd_ne2, sf_put_ne, sf_upd_eq, sf_getS_upd, sf_getS_put, sf_rg, sf_sh, sf_rf_inj, sf_rf_ne0, sf_0ne_rf, sf_rf_neY, sf_Yne_rf, sf_rf_self, sf_self_rf, sf_rf_self2, sf_self2_rf, not_false_eq_true, and_false, false_and, and_true, true_and, reduceCtorEq]
    have e7 : ∀ k, ¬ k = 6 → W1 409 k = V 409 k := fun k hk => by
      rw [← hW1, sf_upd_ne2 hk, sf_upd_ne (by simp [sf_Yne_rf]), sf_put_ne (by simp [sf_Yne_rf]), w07]
    have e70 := e7 0 (by decide)
    have e71 := e7 1 (by decide)
    have e710 := e7 10 (by decide)
    have e712 := e7 12 (by decide)
    have e714 := e7 14 (by decide)
    have e715 := e7 15 (by decide)
    have w074 : W0 (sf_rf 409 4) = V (sf_rf 409 4) := by simp (decide := true) only [n0, sf_upd_ne, sf_upd_ne2, sf_put_ne, sf_upd_eq, sf_getS_upd, sf_getS_put, sf_rg, sf_sh, sf_rf_inj, sf_rf_ne0, sf_0ne_rf, sf_rf_neY, sf_Yne_rf, sf_rf_self, sf_self_rf, sf_rf_self2, sf_self2_rf, not_false_eq_true, and_false, false_and, and_true, true_and, reduceCtorEq]
    have w0q : W0 (sf_rf 409 7) = V (sf_rf 409 7) := by simp (decide := true) only [n0, sf_upd_ne, sf_upd_ne2, sf_put_ne, sf_upd_eq, sf_getS_upd, sf_getS_put, sf_rg, sf_sh, sf_rf_inj, sf_rf_ne0, sf_0ne_rf, sf_rf_neY, sf_Yne_rf, sf_rf_self, sf_self_rf, sf_rf_self2, sf_self2_rf, not_false_eq_true, and_false, false_and, and_true, true_and, reduceCtorEq]
    have w08 : W0 (sf_rf 409 8) = V (sf_rf 409 8) := by simp (decide := true) only [n0, sf_upd_ne, sf_upd_ne2, sf_put_ne, sf_upd_eq, sf_getS_upd, sf_getS_put, sf_rg, sf_sh, sf_rf_inj, sf_rf_ne0, sf_0ne_rf, sf_rf_neY, sf_Yne_rf, sf_rf_self, sf_self_rf, sf_rf_self2, sf_self2_rf, not_false_eq_true, and_false, false_and, and_true, true_and, reduceCtorEq]
    have h7 : W1 (sf_rf 409 7) = sf_put V (sf_rf 409 7) (20 * q) (20 * q + 20) (fun j => V (sf_rf 409 4) (j - 20 * q)) (sf_rf 409 7) := by
      rw [← hW1, sf_upd_ne (by simp [sf_rf_neY]), sf_upd_ne (by simp [sf_rf_inj])]
      funext j
      unfold sf_put
      rw [w0q]
    have h8 : ∀ i, W1 (sf_rf 409 8) i = if i = q then 1 else V (sf_rf 409 8) i := fun i => by
      rw [← hW1, sf_upd_ne (by simp [sf_rf_neY])]
      by_cases hi : i = q
      · subst hi; rw [sf_upd_eq, if_pos rfl]
      · rw [if_neg hi, sf_upd_ne2 hi, sf_put_ne (by simp [sf_rf_inj]), w08]
    have g6 : ∀ i, W1 (sf_rf (sf_rf 0 6) 0) i = if i = q then V 0 13 else V (sf_rf (sf_rf 0 6) 0) i := fun i => by
      rw [n1 _ (by simp [sf_rf_neY]) (by simp [sf_rf_inj, sf_rf_neY]) (by simp [sf_rf_inj, sf_rf_neY]), ← hW0, sf_upd_ne (by simp [sf_rf_inj, sf_rf_ne0]), sf_upd_ne (by simp [sf_rf_inj])]
      by_cases hi : i = q
      · subst hi; rw [sf_upd_eq, if_pos rfl]
      · rw [if_neg hi, sf_upd_ne2 hi, sf_setS_ne3 (by simp [sf_sh, sf_rf_inj, sf_0ne_rf]) (by simp [sf_sh, sf_rf_inj, sf_0ne_rf]) (by simp [sf_sh, sf_rf_inj, sf_0ne_rf]) (by simp [sf_sh, sf_rf_inj, sf_0ne_rf])]
    have g7 : ∀ i, W1 (sf_rf (sf_rf 0 7) 0) i = if i = q then 1 else V (sf_rf (sf_rf 0 7) 0) i := fun i => by
      rw [n1 _ (by simp [sf_rf_neY]) (by simp [sf_rf_inj, sf_rf_neY]) (by simp [sf_rf_inj, sf_rf_neY]), ← hW0, sf_upd_ne (by simp [sf_rf_inj, sf_rf_ne0])]
      by_cases hi : i = q
      · subst hi; rw [sf_upd_eq, if_pos rfl]
      · rw [if_neg hi, sf_upd_ne2 hi, sf_upd_ne (by simp [sf_rf_inj]), sf_setS_ne3 (by simp [sf_sh, sf_rf_inj, sf_0ne_rf]) (by simp [sf_sh, sf_rf_inj, sf_0ne_rf]) (by simp [sf_sh, sf_rf_inj, sf_0ne_rf]) (by simp [sf_sh, sf_rf_inj, sf_0ne_rf])]
    have gsh : ∀ i, i < 2 → sf_getS W1 (sf_sh i) = if i = q then sf_getS V (sf_rf 0 2) else sf_getS V (sf_sh i) := fun i hi => by
      have r1 : sf_getS W1 (sf_sh i) = sf_getS (sf_setS V (sf_sh q) (sf_getS V (sf_rf 0 2))) (sf_sh i) := by
        have m1 : ∀ b, ¬ b = sf_rf (sf_rf 0 6) 0 → ¬ b = sf_rf (sf_rf 0 7) 0 → ¬ b = sf_rf 0 4 → ¬ b = 409 → ¬ b = sf_rf 409 8 → ¬ b = sf_rf 409 7 → W1 b = sf_setS V (sf_sh q) (sf_getS V (sf_rf 0 2)) b := fun b b1 b2 b3 b4 b5 b6 => by
          rw [n1 b b4 b5 b6, ← hW0, sf_upd_ne b3, sf_upd_ne b2, sf_upd_ne b1]
        refine sf_getS_congr ?_ ?_ ?_ ?_ <;> exact m1 _ (by simp [sf_sh, sf_rf_inj, sf_rf_ne0]) (by simp [sf_sh, sf_rf_inj, sf_rf_ne0]) (by simp [sf_sh, sf_rf_inj, sf_rf_ne0]) (by simp [sf_sh, sf_rf_neY]) (by simp [sf_sh, sf_rf_inj, sf_rf_neY]) (by simp [sf_sh, sf_rf_inj, sf_rf_neY])
      rw [r1]
      by_cases hi : i = q
      · subst hi
        rw [if_pos rfl, sf_getS_cp]
      · rw [if_neg hi]
        refine sf_getS_congr ?_ ?_ ?_ ?_ <;> exact sf_setS_ne3 (by simp [sf_sh, sf_rf_inj, hi, sf_self2_rf, sf_rf_self2]) (by simp [sf_sh, sf_rf_inj, hi, sf_self2_rf, sf_rf_self2, sf_rf_ne0, sf_0ne_rf, sf_self_rf, sf_rf_self]) (by simp [sf_sh, sf_rf_inj, hi, sf_self2_rf, sf_rf_self2, sf_rf_ne0, sf_0ne_rf, sf_self_rf, sf_rf_self]) (by simp [sf_sh, sf_rf_inj, hi, sf_self2_rf, sf_rf_self2, sf_rf_ne0, sf_0ne_rf, sf_self_rf, sf_rf_self])
    have e14 : W1 (sf_rf 0 4) = W0 (sf_rf 0 4) := n1 _ (by simp [sf_rf_neY]) (by simp [sf_rf_inj]) (by simp [sf_rf_inj])
    have himn : ∀ k, k < 20 → W1 (sf_rf 409 7) (20 * q + k) = V (sf_rf 409 4) k := fun k hk => by
      rw [h7]
      unfold sf_put
      rw [if_pos ⟨rfl, by omega, by omega⟩]
      show V (sf_rf 409 4) (20 * q + k - 20 * q) = _
      rw [Nat.add_sub_cancel_left]
    have himo : ∀ i k, i < 2 → k < 20 → ¬ i = q → W1 (sf_rf 409 7) (20 * i + k) = V (sf_rf 409 7) (20 * i + k) := fun i k hi hk hne => by
      rw [h7]
      unfold sf_put
      rw [if_neg (fun z => by omega)]
    have RW : sf_RR W1 n nx 0 ce cf cg := by
      refine sf_RR.mk ?_ ?_ ?_ ?_ ?_ ?_ ?_
      · (have h := R.a; simp (decide := true) only [n0, n1, e70, e71, e710, e712, e714, e715, sf_upd_ne, sf_upd_ne2, sf_put_ne, sf_upd_eq, sf_getS_upd, sf_getS_put, sf_rg, sf_sh, sf_rf_inj, sf_rf_ne0, sf_0ne_rf, sf_rf_neY, sf_Yne_rf, sf_rf_self, sf_self_rf, sf_rf_self2, sf_self2_rf, not_false_eq_true, and_false, false_and, and_true, true_and, reduceCtorEq] at h ⊢; exact h)
      · have h := hb
        have g : sf_getS W1 (sf_rf 0 2) = sf_getS V (sf_rf 0 2) := by
          refine sf_getS_congr ?_ ?_ ?_ ?_ <;> simp (decide := true) only [n0, n1, sf_upd_ne, sf_upd_ne2, sf_put_ne, sf_upd_eq, sf_getS_upd, sf_getS_put, sf_rg, sf_sh, sf_rf_inj, sf_rf_ne0, sf_0ne_rf, sf_rf_neY, sf_Yne_rf, sf_rf_self, sf_self_rf, sf_rf_self2, sf_self2_rf, not_false_eq_true, and_false, false_and, and_true, true_and, reduceCtorEq]
        rw [g]
        simp (decide := true) only [n0, n1, sf_upd_ne, sf_upd_ne2, sf_put_ne, sf_upd_eq, sf_getS_upd, sf_getS_put, sf_rg, sf_sh, sf_rf_inj, sf_rf_ne0, sf_0ne_rf, sf_rf_neY, sf_Yne_rf, sf_rf_self, sf_self_rf, sf_rf_self2, sf_self2_rf, not_false_eq_true, and_false, false_and, and_true, true_and, reduceCtorEq] at h ⊢
        exact h
      · refine sf_GC.mk ?_ R.c.nx ?_ (by omega) ?_ (fun j hj => absurd hj (by omega)) (fun j hj => absurd hj (by omega)) (fun j hj => absurd hj (by omega))
        · rw [e14, ← hW0, sf_upd_ne2 (by decide), sf_upd_ne (by simp [sf_rf_inj, sf_0ne_rf]), sf_upd_ne (by simp [sf_rf_inj, sf_0ne_rf]), sf_setS_ne3 (by simp [sf_sh, sf_rf_inj, sf_0ne_rf]) (by simp [sf_sh, sf_rf_inj, sf_0ne_rf]) (by simp [sf_sh, sf_rf_inj, sf_0ne_rf]) (by simp [sf_sh, sf_rf_inj, sf_0ne_rf])]
          exact R.c.x
        · rw [e14, ← hW0, sf_upd_eq]
          rfl
        · rw [← hW1, sf_upd_eq]
          rfl
      · refine sf_GD.mk ?_ ?_ ?_ ?_ ?_
        · intro i hi
          rw [g7, h8]
          by_cases q1 : i = q
          · rw [if_pos q1, if_pos q1]
            exact ⟨rfl, Or.inr rfl⟩
          · rw [if_neg q1, if_neg q1]
            exact hd.t i hi
        · intro i hi h
          show sf_req n (sf_getS W1 (sf_sh i)) _
          rw [gsh i hi]
          by_cases q1 : i = q
          · subst q1
            rw [if_pos rfl]
            exact sf_req_c hb.q hn5 (fun _ _ _ => rfl) (fun k hk _ => himn k hk)
          · rw [h8, if_neg q1] at h
            rw [if_neg q1]
            exact sf_req_c (hd.q i hi h) hn5 (fun _ _ _ => rfl) (fun k hk _ => himo i k hi hk q1)
        · intro i hi h
          show sf_rok n _ (sf_getS W1 (sf_sh i))
          rw [gsh i hi]
          by_cases q1 : i = q
          · rw [if_pos q1]
            exact hb.x
          · rw [h8, if_neg q1] at h
            rw [if_neg q1]
            exact hd.x i hi h
        · intro i hi h
          by_cases q1 : i = q
          · subst q1
            exact sf_rok_c hb.y hn5 (fun k hk _ => himn k hk)
          · rw [h8, if_neg q1] at h
            exact sf_rok_c (hd.y i hi h) hn5 (fun k hk _ => himo i k hi hk q1)
        · intro i hi h
          rw [g6]
          by_cases q1 : i = q
          · subst q1
            rw [if_pos rfl, himn 3 (by omega)]
            exact ⟨hb.s, hb.s0⟩
          · rw [h8, if_neg q1] at h
            rw [if_neg q1, himo i 3 hi (by omega) q1]
            exact hd.s i hi h
      · (have h := R.e; simp (decide := true) only [n0, n1, e70, e71, e710, e712, e714, e715, sf_upd_ne, sf_upd_ne2, sf_put_ne, sf_upd_eq, sf_getS_upd, sf_getS_put, sf_rg, sf_sh, sf_rf_inj, sf_rf_ne0, sf_0ne_rf, sf_rf_neY, sf_Yne_rf, sf_rf_self, sf_self_rf, sf_rf_self2, sf_self2_rf, not_false_eq_true, and_false, false_and, and_true, true_and, reduceCtorEq] at h ⊢; exact h)
      · (have h := R.f; simp (decide := true) only [n0, n1, e70, e71, e710, e712, e714, e715, sf_upd_ne, sf_upd_ne2, sf_put_ne, sf_upd_eq, sf_getS_upd, sf_getS_put, sf_rg, sf_sh, sf_rf_inj, sf_rf_ne0, sf_0ne_rf, sf_rf_neY, sf_Yne_rf, sf_rf_self, sf_self_rf, sf_rf_self2, sf_self2_rf, not_false_eq_true, and_false, false_and, and_true, true_and, reduceCtorEq] at h ⊢; exact h)
      · (have h := R.g; simp (decide := true) only [n0, n1, e70, e71, e710, e712, e714, e715, sf_upd_ne, sf_upd_ne2, sf_put_ne, sf_upd_eq, sf_getS_upd, sf_getS_put, sf_rg, sf_sh, sf_rf_inj, sf_rf_ne0, sf_0ne_rf, sf_rf_neY, sf_Yne_rf, sf_rf_self, sf_self_rf, sf_rf_self2, sf_self2_rf, not_false_eq_true, and_false, false_and, and_true, true_and, reduceCtorEq] at h ⊢; exact h)
    refine ⟨1, W0, W1, n, nx, 0, ce, cf, cg, ?_, ?_, RW⟩
    · intro K
      have wr1 : ∀ X v, sf_wr X (sf_rf (sf_rf 0 6) 0) (q : Int) v = sf_upd X (sf_rf (sf_rf 0 6) 0) q v := fun X v => sf_wr_nat (by omega)
      have wr2 : ∀ X v, sf_wr X (sf_rf (sf_rf 0 7) 0) (q : Int) v = sf_upd X (sf_rf (sf_rf 0 7) 0) q v := fun X v => sf_wr_nat (by omega)
      have s13 : sf_setS V (sf_sh q) (sf_getS V (sf_rf 0 2)) 0 = V 0 := sf_setS_ne3 (by simp [sf_sh, sf_0ne_rf]) (by simp [sf_0ne_rf]) (by simp [sf_0ne_rf]) (by simp [sf_0ne_rf])
      simp only [q88_0, q88_1, q88_2, q88_3, s90, q88_6, Option.toList_some, Option.toList_none, List.cons_append, List.nil_append]
      rw [if_pos h1, if_neg (by decide)]
      simp only [q88_12, q88_13, q88_16, q88_17, sf_x, x5]
      rw [s36 x5 (by omega)]
      have esh : sf_rf (sf_rf (sf_rf 0 5) 0) q = sf_sh q := rfl
      rw [esh]
      simp only [q88_20, q88_21, q88_24, sf_x, x2, cq, Option.toList_some, Option.toList_none, List.cons_append, List.nil_append]
      rw [s39 cq x2 hne]
      simp only [q88_27, q88_28, q88_31, q88_32, q88_33, q88_36, q88_39, q88_40, q88_43, q88_44, q88_45, q88_48, q88_49, q88_52, q88_53, q88_56, q88_57, sf_x, x4, x6, x7, s32, wr1, wr2, s13, hW0, Option.toList_some, Option.toList_none, List.cons_append, List.nil_append]
    · intro K
      have b1 : q < 2 := hq
      simp only [q162_0, q162_1, q162_2, q162_3, q162_4, q162_7, Option.toList_some, Option.toList_none, List.cons_append, List.nil_append]
      rw [sf_inB_y h1, if_neg (by decide)]
      simp only [q162_13, q162_14]
      refine Eq.trans (s162_loop (K := K) hq 20 0 _ rfl (by omega)) ?_
      rw [w074, Nat.add_zero]
      simp (decide := true) only [q162_44, q162_45, q162_48, q162_49, q162_50, q162_51, q162_52, q162_53, q162_56, q162_57, sf_y, y8, sf_y8, sf_bd, b1, true_and, or_true, Int.toNat_natCast, hW1]
  · refine ⟨-1000000001, V, V, n, nx, c, ce, cf, cg, ?_, ?_, R⟩
    · intro K
      simp only [q88_0, q88_1, q88_2, q88_3, s90, q88_6, Option.toList_some, Option.toList_none, List.cons_append, List.nil_append]
      rw [if_neg h1, if_pos rfl]
      simp only [q88_9, q88_11]
    · intro K
      simp only [q162_0, q162_1, q162_2, q162_3, q162_4, q162_7, Option.toList_some, Option.toList_none, List.cons_append, List.nil_append]
      rw [sf_inB_n h1, if_pos rfl]
      simp only [q162_10, q162_12]
end SFP14

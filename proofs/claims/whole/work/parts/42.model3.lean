/-! the reference: lies, stands, draws, keepsHour, does -/
section SFM3
variable {V : sf_MV} {S : Nat → Int} {K : Option sf_V → sf_M → Prop}
theorem sf_w20 {c j : Nat} (hc : c < 100) (hj : j < 100) : sf_w (sf_w (20 * (c : Int)) + (j : Int)) = ((20 * c + j : Nat) : Int) := by
  rw [sf_w_small (n := 20 * (c : Int)) (by omega), sf_w_small (by omega)]; omega
theorem s137_loop {d c : Nat} (hc : c < 5) : ∀ (m k : Nat) (V : sf_MV), 20 - k = m → k ≤ 20 →
    sf_wp d none 137 2 [some (.inr (.inl (some 409))), some (.inl (c : Int)), some (.inl (k : Int))] [] (sf_E V) K = K none (sf_E (sf_put V (sf_rf 409 29) (20 * c + k) (20 * c + 20) (fun j => V (sf_rf 409 28) (j - 20 * c)))) := by
  have c1 := sf_c12_28 sf_y
  have c2 := sf_c12_29 sf_y
  intro m
  induction m with
  | zero =>
    intro k V hm hk
    simp only [q137_2, q137_3, q137_5, q137_31]
    rw [if_pos (by omega), sf_put_nil (by omega)]
  | succ m ih =>
    intro k V hm hk
    have b1 : k < 20 := by omega
    have b2 : 20 * c + k < 100 := by omega
    simp only [q137_2, q137_3, q137_5, q137_8, q137_9, q137_12, q137_14, q137_15, q137_16, q137_17, q137_18, q137_19, q137_22, q137_23, q137_24, q137_25, sf_y, c1, c2, sf_y28, sf_y29, sf_w20 (show c < 100 by omega) (show k < 100 by omega), sf_bd, b1, b2, true_and, Int.toNat_natCast]
    rw [if_neg (by omega), q137_28, sf_wS (by omega), ih (k + 1) _ (by omega) (by omega)]
    rw [sf_upd_ne (b := sf_rf 409 28) (by simp [sf_rf_inj])]
    have e := sf_put_step (V := V) (a := sf_rf 409 29) (k := 20 * c + k) (n := 20 * c + 20) (f := fun j => V (sf_rf 409 28) (j - 20 * c)) (by omega)
    rw [Nat.add_sub_cancel_left] at e
    rw [show 20 * c + (k + 1) = 20 * c + k + 1 by omega, e]
theorem s137 {d c : Nat} (hc : c < 5) : sf_wp d none 137 0 [some (.inr (.inl (some 409))), some (.inl (c : Int)), none] [] (sf_E V) K = K none (sf_E (sf_put V (sf_rf 409 29) (20 * c) (20 * c + 20) (fun j => V (sf_rf 409 28) (j - 20 * c)))) := by
  simp only [q137_0, q137_1]
  exact s137_loop hc 20 0 V rfl (by omega)
theorem s138_loop {d c : Nat} (hc : c < 5) : ∀ (m k : Nat) (V : sf_MV), 20 - k = m → k ≤ 20 →
    sf_wp d none 138 2 [some (.inr (.inl (some 409))), some (.inl (c : Int)), some (.inl (k : Int))] [] (sf_E V) K = K none (sf_E (sf_put V (sf_rf 409 28) k 20 (fun j => V (sf_rf 409 29) (20 * c + j)))) := by
  have c1 := sf_c12_28 sf_y
  have c2 := sf_c12_29 sf_y
  intro m
  induction m with
  | zero =>
    intro k V hm hk
    simp only [q138_2, q138_3, q138_5, q138_31]
    rw [if_pos (by omega), sf_put_nil (by omega)]
  | succ m ih =>
    intro k V hm hk
    have b1 : k < 20 := by omega
    have b2 : 20 * c + k < 100 := by omega
    simp only [q138_2, q138_3, q138_5, q138_8, q138_9, q138_12, q138_13, q138_14, q138_17, q138_19, q138_20, q138_21, q138_22, q138_23, q138_24, q138_25, sf_y, c1, c2, sf_y28, sf_y29, sf_w20 (show c < 100 by omega) (show k < 100 by omega), sf_bd, b1, b2, true_and, Int.toNat_natCast]
    rw [if_neg (by omega), q138_28, sf_wS (by omega), ih (k + 1) _ (by omega) (by omega)]
    rw [sf_upd_ne (b := sf_rf 409 29) (by simp [sf_rf_inj])]
    rw [sf_put_step (f := fun j => V (sf_rf 409 29) (20 * c + j)) (by omega)]
theorem s138 {d c : Nat} (hc : c < 5) : sf_wp d none 138 0 [some (.inr (.inl (some 409))), some (.inl (c : Int)), none] [] (sf_E V) K = K none (sf_E (sf_put V (sf_rf 409 28) 0 20 (fun j => V (sf_rf 409 29) (20 * c + j)))) := by
  simp only [q138_0, q138_1]
  exact s138_loop hc 20 0 V rfl (by omega)
/-- the next seed -/
def sf_seed (x : Int) : Int := (x * 1103515245 + 12345).tmod 2147483648
theorem sf_seed_in {x : Int} (h : 0 ≤ x ∧ x ≤ 2147483647) : 0 ≤ sf_seed x ∧ sf_seed x ≤ 2147483647 := by
  unfold sf_seed
  rw [Int.tmod_eq_emod_of_nonneg (by omega)]
  omega
theorem s130 {d : Nat} {n : Int} (h : 0 ≤ V (sf_rf 409 4) 3 ∧ V (sf_rf 409 4) 3 ≤ 2147483647) (hn : 0 < n) : sf_wp d none 130 0 [some (.inr (.inl (some 409))), some (.inl n)] [] (sf_E V) K = K (some (.inl ((sf_seed (V (sf_rf 409 4) 3)).tdiv 65536 |>.tmod n))) (sf_E (sf_upd V (sf_rf 409 4) 3 (sf_seed (V (sf_rf 409 4) 3)))) := by
  have c2 := sf_c12_4 sf_y
  have hs := sf_seed_in h
  have x1 : sf_w ((sf_wl (sf_wl (V (sf_rf 409 4) 3 * 1103515245) + 12345)).tmod 2147483648) = sf_seed (V (sf_rf 409 4) 3) := by
    rw [sf_wl_of (n := V (sf_rf 409 4) 3 * 1103515245) ⟨by omega, by omega⟩, sf_wl_of ⟨by omega, by omega⟩]
    exact sf_w_of ⟨by unfold sf_seed at hs; omega, by unfold sf_seed at hs; omega⟩
  have n0 : ¬ n = 0 := by omega
  simp (decide := true) only [q130_0, q130_1, q130_4, q130_5, q130_6, q130_9, q130_10, q130_11, q130_12, q130_15, q130_16, q130_19, q130_20, q130_23, q130_24, q130_25, q130_26, q130_27, q130_30, q130_31, q130_32, q130_34, q130_35, q130_36, q130_37, sf_y, c2, sf_y4, true_and, Int.reduceToNat, x1, sf_upd_eq, n0, not_false_eq_true]
  rw [sf_w_of (n := (sf_seed (V (sf_rf 409 4) 3)).tdiv 65536) ⟨by rw [Int.tdiv_eq_ediv_of_nonneg (by omega)]; omega, by rw [Int.tdiv_eq_ediv_of_nonneg (by omega)]; omega⟩]
/-- the reference's hours to be undone: one more, the eldest of 30 gone -/
def sf_kh (V : sf_MV) : sf_MV := if V 409 6 = 30 then
  sf_upd (sf_put (sf_upd (sf_put V (sf_rf 409 5) 0 580 (fun j => V (sf_rf 409 5) (j + 20))) 409 6 29) (sf_rf 409 5) 580 600 (fun j => V (sf_rf 409 4) (j - 580))) 409 6 30
  else sf_upd (sf_put V (sf_rf 409 5) (20 * (V 409 6).toNat) (20 * (V 409 6).toNat + 20) (fun j => V (sf_rf 409 4) (j - 20 * (V 409 6).toNat))) 409 6 (V 409 6 + 1)
theorem s126_loop1 {d : Nat} : ∀ (m k : Nat) (V : sf_MV), 580 - k = m → k ≤ 580 →
    sf_wp d none 126 11 [some (.inr (.inl (some 409))), some (.inl (k : Int))] [] (sf_E V) K = sf_wp d none 126 39 [some (.inr (.inl (some 409))), some (.inl 580)] [] (sf_E (sf_put V (sf_rf 409 5) k 580 (fun j => V (sf_rf 409 5) (j + 20)))) K := by
  have c1 := sf_c12_5 sf_y
  intro m
  induction m with
  | zero =>
    intro k V hm hk
    simp only [q126_11, q126_12, q126_15]
    rw [if_pos (by omega), sf_put_nil (by omega), show (k : Int) = 580 by omega]
  | succ m ih =>
    intro k V hm hk
    have b1 : k < 600 := by omega
    have b2 : k + 20 < 600 := by omega
    have w1 : sf_w ((k : Int) + 20) = ((k + 20 : Nat) : Int) := by rw [sf_w_small (by omega)]; omega
    simp only [q126_11, q126_12, q126_15, q126_18, q126_19, q126_22, q126_23, q126_24, q126_27, q126_28, q126_30, q126_31, q126_32, q126_33, sf_y, c1, sf_y5, w1, sf_bd, b1, b2, true_and, Int.toNat_natCast]
    rw [if_neg (by omega), q126_36, sf_wS (by omega), ih (k + 1) _ (by omega) (by omega)]
    refine congrArg (fun Z => sf_wp d none 126 39 [some (.inr (.inl (some 409))), some (.inl 580)] [] (sf_E Z) K) ?_
    funext a j
    unfold sf_put sf_upd
    by_cases h1 : a = sf_rf 409 5
    · subst h1
      by_cases h2 : j = k
      · subst h2; simp; omega
      · by_cases h3 : k + 1 ≤ j ∧ j < 580
        · have q1 : ¬ (j + 20 = k) := by omega
          have q2 : k ≤ j := by omega
          simp [h3, q1, q2]
        · rw [if_neg (fun z => h3 z.2), if_neg (fun z => h2 z.2), if_neg (fun z => h3 ⟨by omega, z.2.2⟩)]
    · simp [h1]
theorem s126_loop2 {d u : Nat} (hu : u < 30) : ∀ (m k : Nat) (V : sf_MV), 20 - k = m → k ≤ 20 → V 409 6 = (u : Int) →
    sf_wp d none 126 51 [some (.inr (.inl (some 409))), some (.inl (k : Int))] [] (sf_E V) K = K none (sf_E (sf_upd (sf_put V (sf_rf 409 5) (20 * u + k) (20 * u + 20) (fun j => V (sf_rf 409 4) (j - 20 * u))) 409 6 ((u : Int) + 1))) := by
  have c1 := sf_c12_5 sf_y
  have c2 := sf_c12_4 sf_y
  intro m
  induction m with
  | zero =>
    intro k V hm hk h6
    simp only [q126_51, q126_52, q126_54, q126_83, q126_84, q126_85, q126_88, q126_89, q126_90, q126_93, sf_y, h6]
    rw [if_pos (by omega), sf_put_nil (by omega), sf_w_small (by omega)]
  | succ m ih =>
    intro k V hm hk h6
    have b1 : k < 20 := by omega
    have b2 : 20 * u + k < 600 := by omega
    simp only [q126_51, q126_52, q126_54, q126_57, q126_58, q126_61, q126_63, q126_64, q126_67, q126_68, q126_69, q126_70, q126_71, q126_74, q126_75, q126_76, q126_77, sf_y, c1, c2, sf_y5, sf_y4, h6, sf_w20 (show u < 100 by omega) (show k < 100 by omega), sf_bd, b1, b2, true_and, Int.toNat_natCast]
    rw [if_neg (by omega), q126_80, sf_wS (by omega), ih (k + 1) _ (by omega) (by omega) (by rw [sf_upd_ne (by simp [sf_Yne_rf])]; exact h6)]
    rw [sf_upd_ne (b := sf_rf 409 4) (by simp [sf_rf_inj])]
    have e := sf_put_step (V := V) (a := sf_rf 409 5) (k := 20 * u + k) (n := 20 * u + 20) (f := fun j => V (sf_rf 409 4) (j - 20 * u)) (by omega)
    rw [Nat.add_sub_cancel_left] at e
    rw [show 20 * u + (k + 1) = 20 * u + k + 1 by omega, e]
theorem s126 {d u : Nat} (hu : u ≤ 30) (h6 : V 409 6 = (u : Int)) : sf_wp d none 126 0 [some (.inr (.inl (some 409))), none] [] (sf_E V) K = K none (sf_E (sf_kh V)) := by
  simp only [q126_0, q126_1, q126_4, q126_6, q126_9, q126_10, sf_y, h6]
  unfold sf_kh
  by_cases h30 : (u : Int) = 30
  · rw [if_pos h30, h6, if_pos h30]
    refine Eq.trans (s126_loop1 (d := d) 580 0 V rfl (by omega)) ?_
    generalize hW : sf_put V (sf_rf 409 5) 0 580 (fun j => V (sf_rf 409 5) (j + 20)) = W
    have w6 : W 409 6 = 30 := by
      rw [← hW, sf_put_ne (by simp [sf_Yne_rf]), h6, h30]
    simp only [q126_39, q126_40, q126_41, q126_44, q126_45, q126_46, q126_49, q126_50, sf_y, w6]
    rw [show sf_w (30 - 1) = 29 from rfl]
    refine Eq.trans (s126_loop2 (d := d) (u := 29) (by omega) 20 0 (sf_upd W 409 6 29) rfl (by omega) (by rw [sf_upd_eq]; rfl)) ?_
    have e4 : sf_upd W 409 6 29 (sf_rf 409 4) = V (sf_rf 409 4) := by
      rw [sf_upd_ne (by simp [sf_rf_neY]), ← hW, sf_put_ne (by simp [sf_rf_inj])]
    rw [e4]
    rfl
  · rw [if_neg h30, h6, if_neg h30]
    simp only [q126_49, q126_50]
    refine Eq.trans (s126_loop2 (d := d) (u := u) (by omega) 20 0 V rfl (by omega) h6) ?_
    rfl
end SFM3

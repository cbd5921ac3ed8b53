/-! the reference: does -/
section SFM4
variable {V : sf_MV} {K : Option sf_V → sf_M → Prop}
theorem sf_kh_y {k : Nat} (h : ¬ k = 6) : sf_kh V 409 k = V 409 k := by
  unfold sf_kh
  split
  · rw [sf_upd_ne2 h, sf_put_ne (by simp [sf_Yne_rf]), sf_upd_ne2 h, sf_put_ne (by simp [sf_Yne_rf])]
  · rw [sf_upd_ne2 h, sf_put_ne (by simp [sf_Yne_rf])]
theorem sf_kh_r {k : Nat} (h : ¬ k = 5) : sf_kh V (sf_rf 409 k) = V (sf_rf 409 k) := by
  unfold sf_kh
  split
  · rw [sf_upd_ne (by simp [sf_rf_neY]), sf_put_ne (by simp [sf_rf_inj, h]), sf_upd_ne (by simp [sf_rf_neY]), sf_put_ne (by simp [sf_rf_inj, h])]
  · rw [sf_upd_ne (by simp [sf_rf_neY]), sf_put_ne (by simp [sf_rf_inj, h])]
theorem s127_loop {d : Nat} {e p : Int} : ∀ (m k : Nat) (V : sf_MV), 20 - k = m → k ≤ 20 →
    sf_wp (d + 1) none 127 24 [some (.inr (.inl (some 409))), some (.inl e), some (.inl p), some (.inl (k : Int))] [] (sf_E V) K = K none (sf_E (sf_put V (sf_rf 409 4) k 20 (V (sf_rf 409 28)))) := by
  have c1 := sf_c12_28 sf_y
  have c2 := sf_c12_4 sf_y
  intro m
  induction m with
  | zero =>
    intro k V hm hk
    simp only [q127_24, q127_25, q127_27, q127_48]
    rw [if_pos (by omega), sf_put_nil (by omega)]
  | succ m ih =>
    intro k V hm hk
    have b1 : k < 20 := by omega
    simp only [q127_24, q127_25, q127_27, q127_30, q127_31, q127_34, q127_35, q127_36, q127_39, q127_40, q127_41, q127_42, sf_y, c1, c2, sf_y28, sf_y4, sf_bd, b1, true_and, Int.toNat_natCast]
    rw [if_neg (by omega), q127_45, sf_wS (by omega), ih (k + 1) _ (by omega) (by omega)]
    rw [sf_upd_ne (b := sf_rf 409 28) (by simp [sf_rf_inj]), sf_put_step (by omega)]
/-- behind an hour of the reference: the old row kept, the new one R -/
def sf_mo (V : sf_MV) (R : Nat → Int) : sf_MV := sf_put (sf_put (sf_kh V) (sf_rf 409 28) 0 20 R) (sf_rf 409 4) 0 20 R
theorem sf_mo_end {W : sf_MV} {R : Nat → Int} : sf_put (sf_put W (sf_rf 409 28) 0 20 R) (sf_rf 409 4) 0 20 (sf_put W (sf_rf 409 28) 0 20 R (sf_rf 409 28)) = sf_put (sf_put W (sf_rf 409 28) 0 20 R) (sf_rf 409 4) 0 20 R :=
  sf_put_ext (fun j hj => sf_put_at hj)
theorem s127n {d n t u : Nat} {p : Int} (hu : u ≤ 30) (h6 : V 409 6 = (u : Int)) (hn : V 409 0 = (n : Int)) (hn5 : n ≤ 5) (ht : t < 5) (hd : V (sf_rf 409 4) 0 = (t : Int)) (hg : 0 ≤ V 409 1 ∧ V 409 1 ≤ 20) (hc : ∀ p, p < 5 → 0 ≤ V (sf_rf 409 2) p ∧ V (sf_rf 409 2) p ≤ 9) (hw : ∀ p, p < 5 → 0 ≤ V (sf_rf 409 4) (p + 4) ∧ V (sf_rf 409 4) (p + 4) ≤ 99) (h2 : -1000 ≤ V (sf_rf 409 4) 2 ∧ V (sf_rf 409 4) 2 ≤ 100000) :
    sf_wp (d + 3) none 127 0 [some (.inr (.inl (some 409))), some (.inl (-1)), some (.inl p), none] [] (sf_E V) K = K none (sf_E (sf_mo V (sf_goes n (V 409 1) (V (sf_rf 409 2)) (V (sf_rf 409 4)) t))) := by
  simp only [q127_0, q127_1, sf_y]
  rw [s126 hu h6]
  simp only [q127_4, q127_5, sf_y, Option.toList_some, Option.toList_none, List.cons_append, List.nil_append]
  rw [s122]
  simp only [q127_8, q127_9, q127_12, q127_13, q127_14, q127_15, q127_18, q127_19, sf_y, Option.toList_some, Option.toList_none, List.cons_append, List.nil_append]
  rw [if_pos (by decide)]
  have k0 : sf_kh V 409 = fun k => sf_kh V 409 k := rfl
  rw [sf_kh_r (by decide)]
  rw [s125 (d := d + 1) (n := n) (t := t) (by rw [sf_kh_y (by decide)]; exact hn) hn5 ht hd (by rw [sf_kh_y (by decide)]; exact hg) (by rw [sf_kh_r (by decide)]; exact hc) hw h2]
  simp only [q127_22, q127_23, Option.toList_some, Option.toList_none, List.cons_append, List.nil_append]
  refine Eq.trans (s127_loop (d := d + 2) 20 0 _ rfl (by omega)) ?_
  rw [sf_kh_y (by decide), sf_kh_r (by decide), sf_mo_end]
  rfl
theorem s127d {d n e t u : Nat} {p : Int} (hu : u ≤ 30) (h6 : V 409 6 = (u : Int)) (hn : V 409 0 = (n : Int)) (hn0 : 0 < n) (hn5 : n ≤ 5) (he : e < 6) (hr : 0 ≤ V (sf_rf 409 4) (e + 14) ∧ V (sf_rf 409 4) (e + 14) ≤ 6) (hp : 0 ≤ p ∧ p < n) (hd : 0 ≤ V (sf_rf 409 4) 0 ∧ V (sf_rf 409 4) 0 < n) (ht : sf_likes n (V (sf_rf 409 4)) (V (sf_rf 409 4) (e + 14)) p = (t : Int)) (hg : 0 ≤ V 409 1 ∧ V 409 1 ≤ 20) (hc : ∀ p, p < 5 → 0 ≤ V (sf_rf 409 2) p ∧ V (sf_rf 409 2) p ≤ 9) (hcs : 0 ≤ V (sf_rf 409 3) e ∧ V (sf_rf 409 3) e ≤ 9) (hw : ∀ p, p < 5 → 0 ≤ V (sf_rf 409 4) (p + 4) ∧ V (sf_rf 409 4) (p + 4) ≤ 99) (h1 : -100000 ≤ V (sf_rf 409 4) 1 ∧ V (sf_rf 409 4) 1 ≤ 100000) (h2 : -1000 ≤ V (sf_rf 409 4) 2 ∧ V (sf_rf 409 4) 2 ≤ 100000) :
    sf_wp (d + 3) none 127 0 [some (.inr (.inl (some 409))), some (.inl (e : Int)), some (.inl p), none] [] (sf_E V) K = K none (sf_E (sf_mo V (sf_goes n (V 409 1) (V (sf_rf 409 2)) (sf_ru (sf_ru (V (sf_rf 409 4)) 1 (V (sf_rf 409 4) 1 - V (sf_rf 409 3) e)) 0 t) t))) := by
  have ht5 : t < 5 := by
    obtain ⟨t', h1', h2'⟩ := sf_likes_in (S := V (sf_rf 409 4)) (k := V (sf_rf 409 4) (e + 14)) (p := p) (n := n) (by omega) hp hd
    have : (t : Int) = (t' : Int) := by rw [← ht, h1']
    omega
  simp only [q127_0, q127_1, sf_y]
  rw [s126 hu h6]
  simp only [q127_4, q127_5, sf_y, Option.toList_some, Option.toList_none, List.cons_append, List.nil_append]
  rw [s122]
  simp only [q127_8, q127_9, q127_12, q127_13, q127_14, q127_15, sf_y, Option.toList_some, Option.toList_none, List.cons_append, List.nil_append]
  rw [if_neg (by omega), sf_kh_r (by decide)]
  rw [s124 (d := d + 1) (n := n) (by rw [sf_kh_y (by decide)]; exact hn) hn0 hn5 he hr hp hd h1 (by rw [sf_kh_r (by decide)]; exact hcs)]
  simp only [q127_18, q127_19, sf_y, Option.toList_some, Option.toList_none, List.cons_append, List.nil_append]
  rw [sf_kh_r (by decide), ht]
  generalize hT : sf_ru (sf_ru (V (sf_rf 409 4)) 1 (V (sf_rf 409 4) 1 - V (sf_rf 409 3) e)) 0 t = T
  have g : ∀ k, 2 ≤ k → T k = V (sf_rf 409 4) k := fun k hk => by
    rw [← hT]
    unfold sf_ru
    rw [if_neg (by omega), if_neg (by omega)]
  rw [s125 (d := d + 1) (n := n) (t := t) (by rw [sf_kh_y (by decide)]; exact hn) hn5 ht5 (by rw [← hT]; unfold sf_ru; simp) (by rw [sf_kh_y (by decide)]; exact hg) (by rw [sf_kh_r (by decide)]; exact hc) (fun p hp => by rw [g _ (by omega)]; exact hw p hp) (by rw [g _ (by omega)]; exact h2)]
  simp only [q127_22, q127_23, Option.toList_some, Option.toList_none, List.cons_append, List.nil_append]
  refine Eq.trans (s127_loop (d := d + 2) 20 0 _ rfl (by omega)) ?_
  rw [sf_kh_y (by decide), sf_kh_r (by decide), sf_mo_end]
  rfl
end SFM4
/-! the class: draw -/
theorem sf_land31 (n : Nat) (h : n < 9223372036854775808) : (Int64.ofInt (n : Int) &&& Int64.ofInt 2147483647).toInt = ((n % 2147483648 : Nat) : Int) := by
  have e1 : (Int64.ofInt (n : Int) &&& Int64.ofInt 2147483647).toBitVec = BitVec.ofNat 64 n &&& BitVec.ofNat 64 2147483647 := by
    rw [Int64.toBitVec_and]
    rfl
  have e2 : (BitVec.ofNat 64 n &&& BitVec.ofNat 64 2147483647).toNat = n % 2147483648 := by
    rw [BitVec.toNat_and, BitVec.toNat_ofNat, BitVec.toNat_ofNat, Nat.mod_eq_of_lt (by omega)]
    exact Nat.and_two_pow_sub_one_eq_mod n 31
  show ((Int64.ofInt (n : Int) &&& Int64.ofInt 2147483647).toBitVec).toInt = _
  rw [e1, BitVec.toInt_eq_toNat_of_lt (by rw [e2]; omega), e2]
theorem s96 {d : Nat} {V : sf_MV} {n : Int} {K : Option sf_V → sf_M → Prop} (h : 0 ≤ V 0 13 ∧ V 0 13 ≤ 2147483647) (hn : 0 < n) : sf_wp d none 96 0 [some (.inr (.inl (some 0))), some (.inl n)] [] (sf_E V) K = K (some (.inl ((sf_seed (V 0 13)).tdiv 65536 |>.tmod n))) (sf_E (sf_upd V 0 13 (sf_seed (V 0 13)))) := by
  have hs := sf_seed_in h
  have x1 : sf_w (Int64.ofInt (sf_wl (sf_wl (V 0 13 * 1103515245) + 12345)) &&& Int64.ofInt 2147483647).toInt = sf_seed (V 0 13) := by
    rw [sf_wl_of (n := V 0 13 * 1103515245) ⟨by omega, by omega⟩, sf_wl_of ⟨by omega, by omega⟩]
    have e : V 0 13 * 1103515245 + 12345 = (((V 0 13 * 1103515245 + 12345).toNat : Nat) : Int) := by omega
    rw [e, sf_land31 _ (by omega)]
    unfold sf_seed
    rw [Int.tmod_eq_emod_of_nonneg (by omega)]
    rw [sf_w_of ⟨by omega, by omega⟩]
    omega
  have n0 : ¬ n = 0 := by omega
  simp (decide := true) only [q96_0, q96_1, q96_2, q96_5, q96_6, q96_9, q96_10, q96_13, q96_14, q96_17, q96_18, q96_19, q96_22, q96_23, q96_26, q96_27, q96_30, q96_33, q96_34, q96_35, q96_36, q96_39, q96_40, sf_x, true_and, x1, sf_upd_eq, n0, not_false_eq_true]
  rw [if_neg (by omega), sf_w_of (n := (sf_seed (V 0 13)).tdiv 65536) ⟨by rw [Int.tdiv_eq_ediv_of_nonneg (by omega)]; omega, by rw [Int.tdiv_eq_ediv_of_nonneg (by omega)]; omega⟩]

/-! the class: frozen, hoursInDraught, hoursUndisturbed, refusalOfHours, takeBack -/
section SFS2
variable {V : sf_MV} {K : Option sf_V → sf_M → Prop}
def sf_bit (p : Nat) : Int32 := Int32.ofInt 1 <<< (Int32.ofInt (p : Int) &&& 31)
theorem sf_i32 (x : Int32) : Int32.ofInt x.toInt = x := by simp
def sf_frz (S : Nat → Int) : Nat → Int32
  | 0 => 0
  | p + 1 => if S (p + 4) = 0 then sf_frz S p ||| sf_bit p else sf_frz S p
theorem sf_frz_s {S : Nat → Int} {p : Nat} : sf_frz S (p + 1) = if S (p + 4) = 0 then sf_frz S p ||| sf_bit p else sf_frz S p := rfl
theorem sf_frz_congr {S T : Nat → Int} : ∀ n, (∀ p, p < n → S (p + 4) = T (p + 4)) → sf_frz S n = sf_frz T n
  | 0, _ => rfl
  | n + 1, h => by
    unfold sf_frz
    rw [h n (by omega), sf_frz_congr n (fun p hp => h p (by omega))]
theorem sf_rdw {s p : Nat} (h : sf_cls s = 9) (hp : p < 5) : sf_rd V (sf_rf (sf_rf s 0) 0) (p : Int) = sf_getS V s (p + 4) := by
  obtain ⟨l1, l2, l3⟩ := sf_stoveLen h
  rw [sf_rd_nat (by omega), sf_getS_w hp]
  rfl
theorem sf_rdi {s p : Nat} (h : sf_cls s = 9) (hp : p < 5) : sf_rd V (sf_rf (sf_rf s 1) 0) (p : Int) = sf_getS V s (p + 9) := by
  obtain ⟨l1, l2, l3⟩ := sf_stoveLen h
  rw [sf_rd_nat (by omega), sf_getS_i hp]
  rfl
theorem sf_rdr {s p : Nat} (h : sf_cls s = 9) (hp : p < 6) : sf_rd V (sf_rf (sf_rf s 2) 0) (p : Int) = sf_getS V s (p + 14) := by
  obtain ⟨l1, l2, l3⟩ := sf_stoveLen h
  rw [sf_rd_nat (by omega), sf_getS_r hp]
  rfl
theorem s46_loop {d s n : Nat} (h : sf_cls s = 9) (hn : n ≤ 5) : ∀ (m p : Nat), n - p = m → p ≤ n →
    sf_wp (d + 1) none 46 4 [some (.inr (.inl (some s))), some (.inl (n : Int)), some (.inl (sf_frz (sf_getS V s) p).toInt), some (.inl (p : Int))] [] (sf_E V) K = K (some (.inl (sf_frz (sf_getS V s) n).toInt)) (sf_E V) := by
  have c0 := sf_c9_0 h
  intro m
  induction m with
  | zero =>
    intro p hm hp
    simp only [q46_4, q46_5, q46_6, q46_32, q46_33]
    rw [if_pos (by omega), show p = n by omega]
  | succ m ih =>
    intro p hm hp
    have r1 := sf_rdw (V := V) h (show p < 5 by omega)
    have i1 := ih (p + 1) (by omega) (by omega)
    rw [sf_frz_s] at i1
    by_cases hz : sf_getS V s (p + 4) = 0
    · rw [if_pos hz] at i1
      simp only [q46_4, q46_5, q46_6, q46_9, q46_10, q46_13, q46_14, q46_17, q46_20, q46_21, q46_22, q46_23, q46_24, q46_25, q46_26, h, c0, s31, r1, hz, if_true, Option.toList_some, Option.toList_none, List.cons_append, List.nil_append]
      rw [if_neg (by omega), q46_29, sf_wS (by omega), sf_i32]
      rw [sf_i32]
      exact i1
    · rw [if_neg hz] at i1
      simp only [q46_4, q46_5, q46_6, q46_9, q46_10, q46_13, q46_14, q46_17, q46_26, h, c0, s31, r1, hz, if_false, Option.toList_some, Option.toList_none, List.cons_append, List.nil_append]
      rw [if_neg (by omega), q46_29, sf_wS (by omega)]
      exact i1
theorem s46 {d s n : Nat} (h : sf_cls s = 9) (hn : n ≤ 5) : sf_wp (d + 1) none 46 0 [some (.inr (.inl (some s))), some (.inl (n : Int)), none, none] [] (sf_E V) K = K (some (.inl (sf_frz (sf_getS V s) n).toInt)) (sf_E V) := by
  simp only [q46_0, q46_1, q46_2, q46_3]
  exact s46_loop h hn n 0 rfl (by omega)
/-- the hours in which somebody of that warmth is frozen -/
def sf_dr (w c : Int) : Int := if w = 0 then 0 else if c ≤ 0 then -1 else (w + c - 1).tdiv c
theorem s97 {d p : Nat} (hp : p < 5) (hw : 0 ≤ sf_getS V (sf_rf 0 2) (p + 4) ∧ sf_getS V (sf_rf 0 2) (p + 4) ≤ 99) (hc : 0 ≤ V (sf_si (sf_rf 0 1)) p ∧ V (sf_si (sf_rf 0 1)) p ≤ 9) : sf_wp (d + 1) none 97 0 [some (.inr (.inl (some 0))), some (.inl (p : Int)), none, none] [] (sf_E V) K = K (some (.inl (sf_dr (sf_getS V (sf_rf 0 2) (p + 4)) (V (sf_si (sf_rf 0 1)) p)))) (sf_E V) := by
  have c1 := sf_c11_1 sf_x
  have c2 := sf_c11_2 sf_x
  have d0 := sf_c9_0 c2
  have d1 := sf_c2_1 c1
  obtain ⟨m1, m2, m3, m4⟩ := sf_homeLen c1
  have r1 := sf_rdw (V := V) c2 hp
  have r2 : sf_rd V (sf_rf (sf_rf (sf_rf 0 1) 1) 0) (p : Int) = V (sf_si (sf_rf 0 1)) p := by
    rw [sf_rd_nat (by omega)]
    rfl
  simp only [q97_0, q97_1, q97_4, q97_7, q97_8, q97_11, q97_12, q97_13, q97_16, q97_19, q97_20, q97_23, q97_24, q97_25, q97_28, q97_29, sf_x, c1, c2, d0, d1, s31, r1, r2, Option.toList_some, Option.toList_none, List.cons_append, List.nil_append]
  unfold sf_dr
  by_cases h1 : sf_getS V (sf_rf 0 2) (p + 4) = 0
  · rw [if_pos h1, if_pos h1]
  rw [if_neg h1, if_neg h1]
  simp only [q97_30, q97_31, q97_34, q97_35, q97_36, q97_37, q97_38, q97_39]
  by_cases h2 : V (sf_si (sf_rf 0 1)) p ≤ 0
  · rw [if_pos h2, if_pos h2]
    simp only [q97_44, q97_45]
  rw [if_neg h2, if_neg h2]
  simp only [q97_40, q97_41, q97_44, q97_45]
  rw [sf_w_small (n := sf_getS V (sf_rf 0 2) (p + 4) + V (sf_si (sf_rf 0 1)) p) (by omega), sf_w_small (n := sf_getS V (sf_rf 0 2) (p + 4) + V (sf_si (sf_rf 0 1)) p - 1) (by omega)]
  have z0 : ¬ V (sf_si (sf_rf 0 1)) p = 0 := by omega
  simp only [z0, not_false_eq_true, true_and]
  generalize hx : sf_getS V (sf_rf 0 2) (p + 4) + V (sf_si (sf_rf 0 1)) p - 1 = x
  have t1 : 0 ≤ x.tdiv (V (sf_si (sf_rf 0 1)) p) := Int.tdiv_nonneg (by omega) (by omega)
  have t2 : x.tdiv (V (sf_si (sf_rf 0 1)) p) ≤ x := Int.tdiv_le_self _ (by omega)
  rw [sf_w_small (by omega)]
theorem s98 {d p : Nat} (hp : p < 5) (hw : 0 ≤ sf_getS V (sf_rf 0 2) (p + 4) ∧ sf_getS V (sf_rf 0 2) (p + 4) ≤ 99) (hc : 0 ≤ V (sf_si (sf_rf 0 1)) p ∧ V (sf_si (sf_rf 0 1)) p ≤ 9) : sf_wp (d + 2) none 98 0 [some (.inr (.inl (some 0))), some (.inl (p : Int))] [] (sf_E V) K = K (some (.inl (if (p : Int) = sf_getS V (sf_rf 0 2) 0 ∧ 0 < sf_getS V (sf_rf 0 2) (p + 4) then -1 else sf_dr (sf_getS V (sf_rf 0 2) (p + 4)) (V (sf_si (sf_rf 0 1)) p)))) (sf_E V) := by
  have c1 := sf_c11_1 sf_x
  have c2 := sf_c11_2 sf_x
  have d0 := sf_c9_0 c2
  have r1 := sf_rdw (V := V) c2 hp
  have g0 : V (sf_rf 0 2) 3 = sf_getS V (sf_rf 0 2) 0 := rfl
  simp only [q98_0, q98_1, q98_2, q98_5, q98_8, sf_x, c1, c2, g0]
  by_cases h1 : (p : Int) = sf_getS V (sf_rf 0 2) 0
  · rw [if_pos h1]
    simp only [q98_11, q98_12, q98_15, q98_18, q98_19, q98_22, sf_x, c2, d0, s31, r1, Option.toList_some, Option.toList_none, List.cons_append, List.nil_append]
    by_cases h2 : sf_getS V (sf_rf 0 2) (p + 4) ≤ 0
    · rw [if_pos h2, if_neg (by omega)]
      simp only [q98_27, q98_28, q98_29, sf_x]
      rw [s97 hp hw hc]
      simp only [q98_32, Option.toList_some, Option.toList_none, List.cons_append, List.nil_append]
    · rw [if_neg h2, if_pos ⟨h1, by omega⟩]
      simp only [q98_25, q98_26]
  · rw [if_neg h1, if_neg (fun z => h1 z.1)]
    simp only [q98_27, q98_28, q98_29, sf_x]
    rw [s97 hp hw hc]
    simp only [q98_32, Option.toList_some, Option.toList_none, List.cons_append, List.nil_append]
def sf_rfs (V : sf_MV) (x : Int) : Int := if 1 ≤ x ∧ x ≤ 99 then (if V (sf_rf 0 1) 4 = 0 then -1000000003 else if V (sf_rf 0 2) 5 ≤ 90000 then 0 else -1000000004) else -1000000002
theorem s93 {d : Nat} {x : Int} : sf_wp (d + 1) none 93 0 [some (.inr (.inl (some 0))), some (.inl x)] [] (sf_E V) K = K (some (.inl (sf_rfs V x))) (sf_E V) := by
  have c1 := sf_c11_1 sf_x
  have c2 := sf_c11_2 sf_x
  simp only [q93_0, q93_1, q93_2, q93_4, s90, q93_7, Option.toList_some, Option.toList_none, List.cons_append, List.nil_append]
  unfold sf_rfs
  by_cases h1 : 1 ≤ x ∧ x ≤ 99
  · rw [if_pos h1, if_pos h1, if_neg (by decide)]
    simp only [q93_13, q93_14, q93_17, q93_20, sf_x, c1]
    by_cases h2 : V (sf_rf 0 1) 4 = 0
    · rw [if_pos h2, if_pos h2]
      simp only [q93_23, q93_25]
    · rw [if_neg h2, if_neg h2]
      simp only [q93_26, q93_27, q93_30, q93_33, q93_35, sf_x, c2]
      by_cases h3 : V (sf_rf 0 2) 5 ≤ 90000
      · rw [if_pos h3, if_pos h3]
        simp only [q93_43, q93_44]
      · rw [if_neg h3, if_neg h3]
        simp only [q93_38, q93_40, q93_44]
  · rw [if_neg h1, if_neg h1, if_pos (by decide)]
    simp only [q93_10, q93_12]
/-- n hours back in the ring -/
def sf_bk (nx n : Nat) : Nat := if n ≤ nx then nx - n else nx + 30 - n
theorem s15 {d nx c n : Nat} (h1 : V (sf_rf 0 4) 1 = (nx : Int)) (hnx : nx < 30) (h2 : V (sf_rf 0 4) 2 = (c : Int)) (hc : c ≤ 30) (hn : n ≤ c) :
    sf_wp (d + 1) none 15 0 [some (.inr (.inl (some (sf_rf 0 4)))), some (.inl (n : Int))] [] (sf_E V) K = K (some (.inr (.inl (some (sf_rg (sf_bk nx n)))))) (sf_E (sf_upd (sf_upd V (sf_rf 0 4) 1 (sf_bk nx n : Nat)) (sf_rf 0 4) 2 ((c - n : Nat) : Int))) := by
  have c4 := sf_c11_4 sf_x
  have c8 := sf_c4_0 c4
  have hb : sf_bk nx n < 30 := by unfold sf_bk; split <;> omega
  have hlt : sf_bk nx n < sf_len (sf_rf (sf_rf (sf_rf 0 4) 0) 0) := by rw [sf_rgLen]; exact hb
  have e1 : ∀ (W : sf_MV) v, sf_upd W (sf_rf 0 4) 2 v (sf_rf 0 4) 1 = W (sf_rf 0 4) 1 := fun W v => sf_upd_ne2 (by decide)
  have e2 : ∀ (W : sf_MV) v, sf_upd W (sf_rf 0 4) 1 v (sf_rf 0 4) 2 = W (sf_rf 0 4) 2 := fun W v => sf_upd_ne2 (by decide)
  have tl : sf_wp (d + 1) none 15 27 [some (.inr (.inl (some (sf_rf 0 4)))), some (.inl (n : Int))] [.inl ((sf_bk nx n : Nat) : Int), .inr (.inl (some (sf_rf 0 4)))] (sf_E V) K = K (some (.inr (.inl (some (sf_rg (sf_bk nx n)))))) (sf_E (sf_upd (sf_upd V (sf_rf 0 4) 1 (sf_bk nx n : Nat)) (sf_rf 0 4) 2 ((c - n : Nat) : Int))) := by
    simp only [q15_27, q15_30, q15_31, q15_32, q15_35, q15_36, q15_37, q15_40, q15_41, q15_44, q15_45, q15_48, c4, c8, h2, e1, e2, sf_upd_eq]
    rw [s36 c8 hlt]
    simp only [q15_51, Option.toList_some, Option.toList_none, List.cons_append, List.nil_append]
    rw [sf_w_small (by omega), show (c : Int) - n = ((c - n : Nat) : Int) by omega]
    rfl
  simp only [q15_0, q15_1, q15_2, q15_5, q15_6, c4, h1]
  by_cases h : (nx : Int) < n
  · rw [if_pos h]
    simp only [q15_18, q15_19, q15_22, q15_23, q15_24, q15_26, c4, h1]
    rw [sf_w_small (n := (nx : Int) - n) (by omega), sf_w_small (by omega), ← tl]
    have : ((sf_bk nx n : Nat) : Int) = (nx : Int) - n + 30 := by unfold sf_bk; rw [if_neg (by omega)]; omega
    rw [this]
  · rw [if_neg h]
    simp only [q15_9, q15_10, q15_13, q15_14, q15_15, c4, h1]
    rw [sf_w_small (by omega), ← tl]
    have : ((sf_bk nx n : Nat) : Int) = (nx : Int) - n := by unfold sf_bk; rw [if_pos (by omega)]; omega
    rw [this]
end SFS2

/-! Row -/
theorem sf_bd {k n : Nat} : (0 ≤ (k : Int) ∧ (k : Int) < (n : Int)) = (k < n) := propext (by omega)
def sf_rd (V : sf_MV) (a : Nat) (p : Int) : Int := if 0 ≤ p ∧ p < sf_len a then V a p.toNat else 0
theorem sf_rd_in {V : sf_MV} {a : Nat} {p : Int} (h0 : 0 ≤ p) (h1 : p < sf_len a) : sf_rd V a p = V a p.toNat := if_pos ⟨h0, h1⟩
theorem sf_rd_nat {V : sf_MV} {a k : Nat} (h1 : k < sf_len a) : sf_rd V a (k : Int) = V a k := by
  rw [sf_rd_in (by omega) (by omega), Int.toNat_natCast]
theorem s31 {d r : Nat} {V : sf_MV} {p : Int} {K : Option sf_V → sf_M → Prop} (h : sf_cls r = 7) : sf_wp d none 31 0 [some (.inr (.inl (some r))), some (.inl p)] [] (sf_E V) K = K (some (.inl (sf_rd V (sf_rf r 0) p))) (sf_E V) := by
  have h0 := sf_c7_0 h
  simp only [q31_0, q31_1, q31_4, q31_5, q31_6, q31_9, q31_10, q31_13, q31_14, q31_17, q31_18, q31_19, q31_22, q31_23, h, h0]
  unfold sf_rd
  by_cases h1 : p < 0
  · rw [if_pos h1, if_neg (by omega)]
  · rw [if_neg h1]
    by_cases h2 : (sf_len (sf_rf r 0) : Int) ≤ p
    · rw [if_pos h2, if_neg (by omega)]
    · rw [if_neg h2, if_pos (by omega)]
      simp only [show (0 ≤ p ∧ p < (sf_len (sf_rf r 0) : Int)) = True from eq_true (by omega), true_and]
def sf_wr (V : sf_MV) (a : Nat) (p v : Int) : sf_MV := if 0 ≤ p ∧ p < sf_len a then sf_upd V a p.toNat v else V
theorem s32 {d r : Nat} {V : sf_MV} {p v : Int} {K : Option sf_V → sf_M → Prop} (h : sf_cls r = 7) : sf_wp d none 32 0 [some (.inr (.inl (some r))), some (.inl p), some (.inl v)] [] (sf_E V) K = K none (sf_E (sf_wr V (sf_rf r 0) p v)) := by
  have h0 := sf_c7_0 h
  simp only [q32_0, q32_1, q32_4, q32_5, q32_6, q32_9, q32_10, q32_13, q32_14, q32_17, q32_18, q32_19, q32_20, h, h0]
  unfold sf_wr
  by_cases h1 : p < 0
  · rw [if_pos h1, if_neg (by omega)]
  · rw [if_neg h1]
    by_cases h2 : (sf_len (sf_rf r 0) : Int) ≤ p
    · rw [if_pos h2, if_neg (by omega)]
    · rw [if_neg h2, if_pos (by omega)]
      simp only [show (0 ≤ p ∧ p < (sf_len (sf_rf r 0) : Int)) = True from eq_true (by omega), true_and]
theorem sf_len_le (a : Nat) : sf_len a ≤ 100000 := by
  unfold sf_len
  split
  · rename_i t ht
    have := sf_chk_at ht
    simp only [sf_chk, Bool.and_eq_true, decide_eq_true_eq] at this
    exact this.2
  · rename_i r hr
    have := sf_chk_at hr
    simp only [sf_chk, Bool.and_eq_true, decide_eq_true_eq, List.all_eq_true] at this
    exact this.2
  · omega
theorem sf_wS {n : Nat} (h : n < 2147483647) : sf_w ((n : Int) + 1) = ((n + 1 : Nat) : Int) := by
  rw [sf_w_of ⟨by omega, by omega⟩]
  omega
/-- places k .. n - 1 of a from f -/
def sf_put (V : sf_MV) (a k n : Nat) (f : Nat → Int) : sf_MV := fun b j => if b = a ∧ k ≤ j ∧ j < n then f j else V b j
theorem sf_put_nil {V : sf_MV} {a k n : Nat} {f : Nat → Int} (h : n ≤ k) : sf_put V a k n f = V := by
  funext b j
  unfold sf_put
  rw [if_neg (by omega)]
theorem sf_put_step {V : sf_MV} {a k n : Nat} {f : Nat → Int} (h : k < n) : sf_put (sf_upd V a k (f k)) a (k + 1) n f = sf_put V a k n f := by
  funext b j
  unfold sf_put sf_upd
  by_cases h1 : b = a
  · subst h1
    by_cases h2 : j = k
    · subst h2
      simp [h]
    · by_cases h3 : k + 1 ≤ j ∧ j < n
      · rw [if_pos ⟨rfl, h3⟩, if_pos ⟨rfl, by omega, h3.2⟩]
      · rw [if_neg (fun z => h3 z.2), if_neg (fun z => h2 z.2), if_neg (fun z => h3 ⟨by omega, z.2.2⟩)]
  · simp [h1]
theorem s33_loop {d r : Nat} {v : Int} {K : Option sf_V → sf_M → Prop} (h : sf_cls r = 7) : ∀ (m k : Nat) (V : sf_MV), k ≤ sf_len (sf_rf r 0) → sf_len (sf_rf r 0) - k = m →
    sf_wp d none 33 2 [some (.inr (.inl (some r))), some (.inl v), some (.inl k)] [] (sf_E V) K = K none (sf_E (sf_put V (sf_rf r 0) k (sf_len (sf_rf r 0)) (fun _ => v))) := by
  have h0 := sf_c7_0 h
  have hle := sf_len_le (sf_rf r 0)
  intro m
  induction m with
  | zero =>
    intro k V hk hm
    simp only [q33_2, q33_3, q33_4, q33_7, q33_8, h, h0, q33_24]
    rw [if_pos (by omega), sf_put_nil (by omega)]
  | succ m ih =>
    intro k V hk hm
    simp only [q33_2, q33_3, q33_4, q33_7, q33_8, q33_11, q33_12, q33_15, q33_16, q33_17, q33_18, h, h0]
    rw [if_neg (by omega)]
    simp only [show (0 ≤ (k : Int) ∧ (k : Int) < (sf_len (sf_rf r 0) : Int)) = True from eq_true (by omega), true_and, Int.toNat_natCast]
    rw [q33_21, sf_wS (by omega), ih (k + 1) _ (by omega) (by omega), sf_put_step (f := fun _ => v) (by omega)]
theorem s33 {d r : Nat} {v : Int} {V : sf_MV} {K : Option sf_V → sf_M → Prop} (h : sf_cls r = 7) : sf_wp d none 33 0 [some (.inr (.inl (some r))), some (.inl v), none] [] (sf_E V) K = K none (sf_E (sf_put V (sf_rf r 0) 0 (sf_len (sf_rf r 0)) (fun _ => v))) := by
  simp only [q33_0, q33_1]
  exact s33_loop h _ 0 V (Nat.zero_le _) rfl
theorem s34_loop {d r o : Nat} {K : Option sf_V → sf_M → Prop} (h : sf_cls r = 7) (ho : sf_cls o = 7) (hl : sf_len (sf_rf o 0) = sf_len (sf_rf r 0)) (hne : r ≠ o) : ∀ (m k : Nat) (V : sf_MV), k ≤ sf_len (sf_rf r 0) → sf_len (sf_rf r 0) - k = m →
    sf_wp d none 34 2 [some (.inr (.inl (some r))), some (.inr (.inl (some o))), some (.inl k)] [] (sf_E V) K = K none (sf_E (sf_put V (sf_rf r 0) k (sf_len (sf_rf r 0)) (V (sf_rf o 0)))) := by
  have h0 := sf_c7_0 h
  have h0o := sf_c7_0 ho
  have hle := sf_len_le (sf_rf r 0)
  intro m
  induction m with
  | zero =>
    intro k V hk hm
    simp only [q34_2, q34_3, q34_4, q34_7, q34_8, h, h0, q34_38]
    rw [if_pos (by omega), sf_put_nil (by omega)]
  | succ m ih =>
    intro k V hk hm
    simp only [q34_2, q34_3, q34_4, q34_7, q34_8, q34_11, q34_12, q34_13, q34_16, q34_17, q34_20, q34_21, q34_24, q34_25, q34_26, q34_29, q34_30, q34_31, q34_32, h, h0, ho, h0o]
    rw [if_neg (by omega), if_neg (by omega)]
    simp only [show (0 ≤ (k : Int) ∧ (k : Int) < (sf_len (sf_rf r 0) : Int)) = True from eq_true (by omega), show (0 ≤ (k : Int) ∧ (k : Int) < (sf_len (sf_rf o 0) : Int)) = True from eq_true (by omega), true_and, Int.toNat_natCast]
    rw [q34_35, sf_wS (by omega), ih (k + 1) _ (by omega) (by omega)]
    have e : sf_upd V (sf_rf r 0) k (V (sf_rf o 0) k) (sf_rf o 0) = V (sf_rf o 0) := by
      funext j
      unfold sf_upd
      rw [if_neg (fun z => hne (by have := z.1; rw [sf_rf_inj] at this; exact this.1.symm))]
    rw [e, sf_put_step (by omega)]
theorem s34 {d r o : Nat} {V : sf_MV} {K : Option sf_V → sf_M → Prop} (h : sf_cls r = 7) (ho : sf_cls o = 7) (hl : sf_len (sf_rf o 0) = sf_len (sf_rf r 0)) (hne : r ≠ o) : sf_wp d none 34 0 [some (.inr (.inl (some r))), some (.inr (.inl (some o))), none] [] (sf_E V) K = K none (sf_E (sf_put V (sf_rf r 0) 0 (sf_len (sf_rf r 0)) (V (sf_rf o 0)))) := by
  simp only [q34_0, q34_1]
  exact s34_loop h ho hl hne _ 0 V (Nat.zero_le _) rfl

/-! laws -/
section SFP23
variable {V X Y : sf_MV} {n nx c ce cf cg a k m : Nat} {v : Int} {f : Nat → Int} {K : Option sf_V → sf_M → Prop}
def sf_alw (g : Nat → Bool) : Nat → Nat → Bool
  | _, 0 => true
  | k, m + 1 => g k && sf_alw g (k + 1) m
theorem sf_al_snoc {g : Nat → Bool} : ∀ (m k : Nat), sf_alw g k (m + 1) = (sf_alw g k m && g (k + m))
  | 0, k => by simp [sf_alw]
  | m + 1, k => by
    have ih := sf_al_snoc (g := g) m (k + 1)
    show (g k && sf_alw g (k + 1) (m + 1)) = ((g k && sf_alw g (k + 1) m) && g (k + (m + 1)))
    rw [ih, show k + 1 + m = k + (m + 1) by omega, Bool.and_assoc]
def sf_fmk (F : Nat → Bool) : Nat → Int32
  | 0 => 0
  | k + 1 => if (k = 2 ∨ k = 3) ∨ F k = false then sf_fmk F k else sf_fmk F k ||| sf_bit k
theorem sf_fm_congr {F G : Nat → Bool} : ∀ m, (∀ l, l < m → ¬ (l = 2 ∨ l = 3) → F l = G l) → sf_fmk F m = sf_fmk G m
  | 0, _ => rfl
  | m + 1, h => by
    unfold sf_fmk
    rw [sf_fm_congr m (fun l hl h2 => h l (by omega) h2)]
    by_cases q : m = 2 ∨ m = 3
    · rw [if_pos (Or.inl q), if_pos (Or.inl q)]
    · rw [h m (by omega) q]
def sf_mk5 (b0 b1 b4 b5 b6 : Bool) : Int32 := (if b0 then 1 else 0) ||| (if b1 then 2 else 0) ||| (if b4 then 16 else 0) ||| (if b5 then 32 else 0) ||| (if b6 then 64 else 0)
theorem sf_fm7 {F : Nat → Bool} : sf_fmk F 7 = sf_mk5 (F 0) (F 1) (F 4) (F 5) (F 6) := by
  unfold sf_fmk sf_fmk sf_fmk sf_fmk sf_fmk sf_fmk sf_fmk sf_fmk
  generalize F 0 = b0
  generalize F 1 = b1
  generalize F 4 = b4
  generalize F 5 = b5
  generalize F 6 = b6
  generalize F 2 = b2
  generalize F 3 = b3
  revert b0 b1 b2 b3 b4 b5 b6
  decide +kernel
theorem sf_mk5_and : ∀ b0 b1 b4 b5 b6 : Bool, sf_mk5 b0 b1 b4 b5 b6 &&& Int32.ofInt 127 = sf_mk5 b0 b1 b4 b5 b6 := by decide +kernel
theorem sf_mk5_clr : ∀ b0 b1 b4 b5 b6 : Bool, ∀ k : Nat, k < 7 → sf_mk5 b0 b1 b4 b5 b6 &&& (sf_bit k ^^^ Int32.ofInt (-1)) = sf_mk5 (b0 && (0 != k)) (b1 && (1 != k)) (b4 && (4 != k)) (b5 && (5 != k)) (b6 && (6 != k)) := by decide +kernel
theorem sf_fm_and {F : Nat → Bool} : sf_fmk F 7 &&& Int32.ofInt 127 = sf_fmk F 7 := by
  rw [sf_fm7]
  exact sf_mk5_and _ _ _ _ _
theorem sf_fm_clr {F : Nat → Bool} (hk : k < 7) : sf_fmk F 7 &&& (sf_bit k ^^^ Int32.ofInt (-1)) = sf_fmk (fun l => F l && (l != k)) 7 := by
  rw [sf_fm7, sf_fm7]
  exact sf_mk5_clr _ _ _ _ _ k hk
theorem sf_115 : ∀ k : Nat, k < 7 → (Int32.ofInt (Int32.ofInt 115 >>> (Int32.ofInt (k : Int) &&& 31)).toInt &&& Int32.ofInt 1).toInt = if k = 2 ∨ k = 3 then 0 else 1 := by decide +kernel
def sf_goo (n : Nat) (e : Int) (n0 n1 n2 n3 : Nat → Int) (l j : Nat) : Bool := decide (¬ n0 j = e ∨ sf_pln l (n1 j) (n2 j) n = n3 j)
def sf_ng (V : sf_MV) (n : Nat) (e : Int) (l j : Nat) : Bool := sf_goo n e (V (sf_rf (sf_rf (sf_rf 0 8) 0) 0)) (V (sf_rf (sf_rf (sf_rf 0 8) 1) 0)) (V (sf_rf (sf_rf (sf_rf 0 8) 2) 0)) (V (sf_rf (sf_rf (sf_rf 0 8) 3) 0)) l j
theorem s12_loop {d l : Nat} {e : Int} (R : sf_RR V n nx c ce cf cg) : ∀ (m j : Nat), ce - j = m → j ≤ ce → sf_wp (d + 1) none 12 3 [some (.inr (.inl (some (sf_rf 0 8)))), some (.inl (l : Int)), some (.inl e), some (.inl (n : Int)), some (.inl (j : Int))] [] (sf_E V) K = K (some (.inl (if sf_alw (sf_ng V n e l) j m then 1 else 0))) (sf_E V) := by
  have hf := R.e
  have hn5 := R.a.n5
  have c8 := sf_c11_8 sf_x
  have d0 := sf_c3_0 c8
  have d1 := sf_c3_1 c8
  have d2 := sf_c3_2 c8
  have d3 := sf_c3_3 c8
  obtain ⟨l0, l1, l2, l3⟩ := sf_ntLen
  have c12 := hf.c12
  intro m
  induction m with
  | zero =>
    intro j hm hj
    simp only [q12_3, q12_5, q12_6, q12_9, c8, hf.x]
    rw [if_pos (by omega)]
    simp (decide := true) only [q12_68, q12_69, or_true, true_and]
    rfl
  | succ m ih =>
    intro j hm hj
    have r0 : sf_rd V (sf_rf (sf_rf (sf_rf 0 8) 0) 0) (j : Int) = V (sf_rf (sf_rf (sf_rf 0 8) 0) 0) j := sf_rd_nat (by omega)
    have r1 : sf_rd V (sf_rf (sf_rf (sf_rf 0 8) 1) 0) (j : Int) = V (sf_rf (sf_rf (sf_rf 0 8) 1) 0) j := sf_rd_nat (by omega)
    have r2 : sf_rd V (sf_rf (sf_rf (sf_rf 0 8) 2) 0) (j : Int) = V (sf_rf (sf_rf (sf_rf 0 8) 2) 0) j := sf_rd_nat (by omega)
    have r3 : sf_rd V (sf_rf (sf_rf (sf_rf 0 8) 3) 0) (j : Int) = V (sf_rf (sf_rf (sf_rf 0 8) 3) 0) j := sf_rd_nat (by omega)
    have rr := hf.r j (by omega)
    have re := hf.e j (by omega)
    simp only [q12_3, q12_5, q12_6, q12_9, c8, hf.x]
    rw [if_neg (by omega)]
    simp only [q12_12, q12_13, q12_16, q12_18, q12_21, q12_22, c8, d0, s31, r0, Option.toList_some, Option.toList_none, List.cons_append, List.nil_append]
    have e1 : sf_alw (sf_ng V n e l) j (m + 1) = (sf_ng V n e l j && sf_alw (sf_ng V n e l) (j + 1) m) := rfl
    rw [e1]
    by_cases h0 : V (sf_rf (sf_rf (sf_rf 0 8) 0) 0) j = e
    · rw [if_pos h0]
      simp only [q12_25, q12_26, q12_27, q12_30, q12_32, q12_35, q12_36, q12_39, q12_41, c8, d1, d2, s31, r1, r2, Option.toList_some, Option.toList_none, List.cons_append, List.nil_append]
      simp only [q12_44, q12_45]
      rw [s41 (by omega) (by omega) (by omega)]
      simp only [q12_48, q12_49, q12_52, q12_54, q12_57, c8, d3, s31, r3, Option.toList_some, Option.toList_none, List.cons_append, List.nil_append]
      by_cases h1 : sf_pln l (V (sf_rf (sf_rf (sf_rf 0 8) 1) 0) j) (V (sf_rf (sf_rf (sf_rf 0 8) 2) 0) j) n = V (sf_rf (sf_rf (sf_rf 0 8) 3) 0) j
      · have g : sf_ng V n e l j = true := decide_eq_true (Or.inr h1)
        rw [if_pos h1, g, Bool.true_and]
        simp only [q12_62]
        rw [q12_65, sf_wS (by omega)]
        exact ih (j + 1) (by omega) (by omega)
      · have g : sf_ng V n e l j = false := decide_eq_false (fun z => by rcases z with z | z; exact z h0; exact h1 z)
        rw [if_neg h1, g, Bool.false_and]
        simp (decide := true) only [q12_60, q12_61, true_or, true_and]
        rfl
    · have g : sf_ng V n e l j = true := decide_eq_true (Or.inl h0)
      rw [if_neg h0, g, Bool.true_and]
      simp only [q12_62]
      rw [q12_65, sf_wS (by omega)]
      exact ih (j + 1) (by omega) (by omega)
theorem s11_loop {d : Nat} {e : Int} (R : sf_RR V n nx c ce cf cg) : ∀ (m k : Nat), 7 - k = m → k ≤ 7 → sf_wp (d + 2) none 11 5 [some (.inr (.inl (some (sf_rf 0 8)))), some (.inl e), some (.inl (n : Int)), some (.inl (sf_fmk (fun l => sf_alw (sf_ng V n e l) 0 ce) k).toInt), some (.inl (k : Int))] [] (sf_E V) K = K (some (.inl (sf_fmk (fun l => sf_alw (sf_ng V n e l) 0 ce) 7).toInt)) (sf_E V) := by
  have c8 := sf_c11_8 sf_x
  intro m
  induction m with
  | zero =>
    intro k hm hk
    simp only [q11_5, q11_7, q11_9]
    rw [if_pos (by omega), show k = 7 by omega]
    simp only [q11_46, q11_47]
  | succ m ih =>
    intro k hm hk
    have i1 := ih (k + 1) (by omega) (by omega)
    have e1 : sf_fmk (fun l => sf_alw (sf_ng V n e l) 0 ce) (k + 1) = if (k = 2 ∨ k = 3) ∨ sf_alw (sf_ng V n e k) 0 ce = false then sf_fmk (fun l => sf_alw (sf_ng V n e l) 0 ce) k else sf_fmk (fun l => sf_alw (sf_ng V n e l) 0 ce) k ||| sf_bit k := rfl
    rw [e1] at i1
    simp only [q11_5, q11_7, q11_9]
    rw [if_neg (by omega)]
    simp only [q11_12, q11_14, q11_16, q11_17, q11_18]
    rw [sf_115 k (by omega)]
    by_cases h23 : k = 2 ∨ k = 3
    · rw [if_pos (Or.inl h23)] at i1
      rw [if_pos h23, q11_19, if_pos rfl]
      simp only [q11_40]
      rw [q11_43, sf_wS (by omega)]
      exact i1
    · rw [if_neg h23, q11_19, if_neg (by decide)]
      simp only [q11_22, q11_23, q11_25, q11_26, q11_27, c8, q12_0, q12_1]
      refine Eq.trans (s12_loop (d := d) (l := k) R ce 0 rfl (by omega)) ?_
      by_cases hz : sf_alw (sf_ng V n e k) 0 ce = true
      · rw [if_neg (by rw [hz]; simp [h23])] at i1
        rw [if_pos hz]
        simp only [q11_30, Option.toList_some, Option.toList_none, List.cons_append, List.nil_append]
        rw [if_neg (by decide)]
        simp only [q11_33, q11_34, q11_35, q11_37, q11_38, q11_39, q11_40]
        rw [q11_43, sf_wS (by omega), sf_i32, sf_i32]
        exact i1
      · rw [if_pos (Or.inr (by simpa using hz))] at i1
        rw [if_neg hz]
        simp only [q11_30, Option.toList_some, Option.toList_none, List.cons_append, List.nil_append]
        rw [if_pos trivial]
        simp only [q11_40]
        rw [q11_43, sf_wS (by omega)]
        exact i1
theorem s11 {d : Nat} {e : Int} (R : sf_RR V n nx c ce cf cg) : sf_wp (d + 2) none 11 0 [some (.inr (.inl (some (sf_rf 0 8)))), some (.inl e), some (.inl (n : Int)), none, none] [] (sf_E V) K = K (some (.inl (sf_fmk (fun l => sf_alw (sf_ng V n e l) 0 ce) 7).toInt)) (sf_E V) := by
  simp only [q11_0, q11_1, q11_2, q11_3]
  exact s11_loop R 7 0 rfl (by omega)
end SFP23

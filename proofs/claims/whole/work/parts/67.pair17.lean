/-! freezes -/
section SFP17
variable {V X Y : sf_MV} {n nx c ce cf cg a k m : Nat} {v : Int} {f : Nat → Int} {K : Option sf_V → sf_M → Prop}
theorem sf_RR_ref (R : sf_RR V n nx c ce cf cg) {W : sf_MV} (hl : ∀ a, ¬ a = 409 → (∀ j, ¬ a = sf_rf 409 j) → W a = V a) (hy : ∀ j, j < 16 → W 409 j = V 409 j) (hz : ∀ j, j < 21 → W (sf_rf 409 j) = V (sf_rf 409 j)) : sf_RR W n nx c ce cf cg := by
  have g : ∀ j, W (sf_rf 0 j) = V (sf_rf 0 j) := fun j => hl _ (by simp [sf_rf_neY]) (fun i => by simp [sf_rf_inj])
  have g2 : ∀ j i, W (sf_rf (sf_rf 0 j) i) = V (sf_rf (sf_rf 0 j) i) := fun j i => hl _ (by simp [sf_rf_neY]) (fun i => by simp [sf_rf_inj, sf_rf_neY])
  have g3 : ∀ a j i, W (sf_rf (sf_rf (sf_rf a j) i) 0) = V (sf_rf (sf_rf (sf_rf a j) i) 0) := fun a j i => hl _ (by simp [sf_rf_neY]) (fun i => by simp [sf_rf_inj, sf_rf_neY])
  have g4 : ∀ a j i k, W (sf_rf (sf_rf (sf_rf a j) i) k) = V (sf_rf (sf_rf (sf_rf a j) i) k) := fun a j i k => hl _ (by simp [sf_rf_neY]) (fun i => by simp [sf_rf_inj, sf_rf_neY])
  refine sf_RR_frame R (fun j _ _ => g j) (fun j i _ _ => g2 j i) (fun j i k _ _ => g4 0 j i k) (fun i => ?_) (fun i j => g3 _ _ _) (fun i => ?_) (fun i j => g3 _ _ _) hy ?_ hz
  · unfold sf_rg
    exact g4 _ _ _ _
  · unfold sf_sh
    exact g4 _ _ _ _
  · rw [hl 0 (by decide) (fun j => by simp [sf_0ne_rf])]
theorem sf_RR_so (R : sf_RR V n nx c ce cf cg) {S : Nat → Int} : sf_RR (sf_put V (sf_rf 409 28) 0 20 S) n nx c ce cf cg :=
  sf_RR_ref R (fun a _ h => sf_put_ne (h 28)) (fun j _ => by rw [sf_so_y]) (fun j hj => sf_so_k (by omega))
/-- class: hours until p freezes -/
def sf_du (V : sf_MV) (p : Nat) : Int := if (p : Int) = sf_getS V (sf_rf 0 2) 0 ∧ 0 < sf_getS V (sf_rf 0 2) (p + 4) then -1 else sf_dr (sf_getS V (sf_rf 0 2) (p + 4)) (V (sf_si (sf_rf 0 1)) p)
def sf_frq (D : Nat → Int) : Nat → Int × Int
  | 0 => (-1, -1)
  | m + 1 => if D m = -1 then sf_frq D m else if (sf_frq D m).1 = -1 ∨ D m < (sf_frq D m).1 then (D m, (m : Int)) else sf_frq D m
theorem s72_loop {w : Int} (hn : V (sf_rf 0 1) 4 = (n : Int)) (hn5 : n ≤ 5) (hw : ∀ p, p < 5 → 0 ≤ sf_getS V (sf_rf 0 2) (p + 4) ∧ sf_getS V (sf_rf 0 2) (p + 4) ≤ 99) (hc : ∀ p, p < 5 → 0 ≤ V (sf_si (sf_rf 0 1)) p ∧ V (sf_si (sf_rf 0 1)) p ≤ 9) : ∀ (m p : Nat) l, n - p = m → p ≤ n →
    sf_wp 19 none 72 19 [some (.inr (.inl (some 0))), some (.inl w), some (.inl (sf_frq (sf_du V) p).1), some (.inl (sf_frq (sf_du V) p).2), some (.inl (p : Int)), l] [] (sf_E V) K = K (some (.inl (if w = 0 then (sf_frq (sf_du V) n).1 else (sf_frq (sf_du V) n).2))) (sf_E V) := by
  have c1 := sf_c11_1 sf_x
  intro m
  induction m with
  | zero =>
    intro p l hm hp
    simp only [q72_19, q72_21, q72_22, q72_25, q72_28, sf_x, c1, hn]
    rw [if_pos (by omega), show p = n by omega]
    simp only [q72_68, q72_69]
    by_cases h : w = 0
    · rw [if_pos h, if_pos h]
      simp only [q72_72, q72_73, q72_77]
    · rw [if_neg h, if_neg h]
      simp only [q72_76, q72_77]
  | succ m ih =>
    intro p l hm hp
    have p5 : p < 5 := by omega
    simp only [q72_19, q72_21, q72_22, q72_25, q72_28, q72_31, q72_32, q72_34, sf_x, c1, hn, Option.toList_some, Option.toList_none, List.cons_append, List.nil_append]
    rw [if_neg (by omega), s98 (d := 16) p5 (hw p p5) (hc p p5)]
    have e : (if (p : Int) = sf_getS V (sf_rf 0 2) 0 ∧ 0 < sf_getS V (sf_rf 0 2) (p + 4) then -1 else sf_dr (sf_getS V (sf_rf 0 2) (p + 4)) (V (sf_si (sf_rf 0 1)) p)) = sf_du V p := rfl
    rw [e]
    have i1 := ih (p + 1) (some (.inl (sf_du V p))) (by omega) (by omega)
    have es : sf_frq (sf_du V) (p + 1) = if sf_du V p = -1 then sf_frq (sf_du V) p else if (sf_frq (sf_du V) p).1 = -1 ∨ sf_du V p < (sf_frq (sf_du V) p).1 then (sf_du V p, (p : Int)) else sf_frq (sf_du V) p := rfl
    rw [es] at i1
    simp only [q72_37, q72_39, q72_41, q72_42, Option.toList_some, Option.toList_none, List.cons_append, List.nil_append]
    by_cases h1 : sf_du V p = -1
    · rw [if_pos h1] at i1
      rw [if_pos h1]
      simp only [q72_62]
      rw [q72_65, sf_wS (by omega)]
      exact i1
    · rw [if_neg h1] at i1
      rw [if_neg h1]
      simp only [q72_45, q72_46, q72_47]
      by_cases h2 : (sf_frq (sf_du V) p).1 = -1
      · rw [if_pos (Or.inl h2)] at i1
        rw [if_pos h2]
        simp only [q72_56, q72_58, q72_59, q72_61, q72_62]
        rw [q72_65, sf_wS (by omega)]
        exact i1
      · rw [if_neg h2]
        simp only [q72_50, q72_52, q72_53]
        by_cases h3 : sf_du V p < (sf_frq (sf_du V) p).1
        · rw [if_pos (Or.inr h3)] at i1
          rw [if_neg (by omega)]
          simp only [q72_56, q72_58, q72_59, q72_61, q72_62]
          rw [q72_65, sf_wS (by omega)]
          exact i1
        · rw [if_neg (fun z => by rcases z with z | z; exact h2 z; exact h3 z)] at i1
          rw [if_pos (by omega)]
          simp only [q72_62]
          rw [q72_65, sf_wS (by omega)]
          exact i1
/-- what the pair of results is -/
def sf_frqP (D : Nat → Int) (n : Nat) (b i : Int) : Prop :=
  (b = -1 ∧ i = -1 ∧ ∀ p, p < n → D p = -1) ∨ (∃ j : Nat, i = (j : Int) ∧ j < n ∧ D j = b ∧ b ≠ -1 ∧ ∀ p, p < n → D p = -1 ∨ (b ≤ D p ∧ (p < j → b < D p)))
theorem sf_frq_P {D : Nat → Int} : ∀ n, sf_frqP D n (sf_frq D n).1 (sf_frq D n).2
  | 0 => Or.inl ⟨rfl, rfl, fun p hp => absurd hp (by omega)⟩
  | n + 1 => by
    have ih := sf_frq_P (D := D) n
    unfold sf_frq
    by_cases h1 : D n = -1
    · rw [if_pos h1]
      rcases ih with ⟨a1, a2, a3⟩ | ⟨j, a1, a2, a3, a4, a5⟩
      · refine Or.inl ⟨a1, a2, fun p hp => ?_⟩
        by_cases q : p = n
        · rw [q]; exact h1
        · exact a3 p (by omega)
      · refine Or.inr ⟨j, a1, by omega, a3, a4, fun p hp => ?_⟩
        by_cases q : p = n
        · rw [q]; exact Or.inl h1
        · exact a5 p (by omega)
    · rw [if_neg h1]
      rcases ih with ⟨a1, a2, a3⟩ | ⟨j, a1, a2, a3, a4, a5⟩
      · rw [if_pos (Or.inl a1)]
        refine Or.inr ⟨n, rfl, by omega, rfl, h1, fun p hp => ?_⟩
        by_cases q : p = n
        · rw [q]; exact Or.inr ⟨Int.le_refl _, fun z => absurd z (by omega)⟩
        · exact Or.inl (a3 p (by omega))
      · by_cases h2 : D n < (sf_frq D n).1
        · rw [if_pos (Or.inr h2)]
          refine Or.inr ⟨n, rfl, by omega, rfl, h1, fun p hp => ?_⟩
          by_cases q : p = n
          · rw [q]; exact Or.inr ⟨Int.le_refl _, fun z => absurd z (by omega)⟩
          · rcases a5 p (by omega) with z | z
            · exact Or.inl z
            · exact Or.inr ⟨by show D n ≤ _; omega, fun _ => by show D n < _; omega⟩
        · rw [if_neg (fun z => by rcases z with z | z; exact a4 z; exact h2 z)]
          refine Or.inr ⟨j, a1, by omega, a3, a4, fun p hp => ?_⟩
          by_cases q : p = n
          · rw [q]; exact Or.inr ⟨by omega, fun z => absurd z (by omega)⟩
          · exact a5 p (by omega)
theorem sf_ff_P {f : Nat → Int} : ∀ m k, (sf_ff f k m = -1 ∧ ∀ j, k ≤ j → j < k + m → f j ≠ 0) ∨ (∃ j : Nat, sf_ff f k m = (j : Int) ∧ k ≤ j ∧ j < k + m ∧ f j = 0 ∧ ∀ i, k ≤ i → i < j → f i ≠ 0)
  | 0, k => Or.inl ⟨rfl, fun j h1 h2 => absurd h1 (by omega)⟩
  | m + 1, k => by
    unfold sf_ff
    by_cases h : f k = 0
    · rw [if_pos h]
      exact Or.inr ⟨k, rfl, Nat.le_refl _, by omega, h, fun i h1 h2 => absurd h1 (by omega)⟩
    · rw [if_neg h]
      have ih := sf_ff_P (f := f) m (k + 1)
      rcases ih with ⟨a1, a2⟩ | ⟨j, a1, a2, a3, a4, a5⟩
      · refine Or.inl ⟨a1, fun j h1 h2 => ?_⟩
        by_cases q : j = k
        · rw [q]; exact h
        · exact a2 j (by omega) (by omega)
      · refine Or.inr ⟨j, a1, by omega, by omega, a4, fun i h1 h2 => ?_⟩
        by_cases q : i = k
        · rw [q]; exact h
        · exact a5 i (by omega) h2
theorem sf_dr_le {w cc h : Int} (hw : 0 < w) (hc : 0 < cc) : sf_dr w cc ≤ h ↔ w ≤ h * cc := by
  unfold sf_dr
  rw [if_neg (by omega), if_neg (by omega), Int.tdiv_eq_ediv_of_nonneg (by omega)]
  have h1 : (w + cc - 1) / cc ≤ h ↔ (w + cc - 1) / cc < h + 1 := by omega
  rw [h1, Int.ediv_lt_iff_lt_mul hc, Int.add_mul]
  omega
theorem sf_dr_99 {w cc : Int} (hw : 0 ≤ w ∧ w ≤ 99) (hc : 0 ≤ cc ∧ cc ≤ 9) : -1 ≤ sf_dr w cc ∧ sf_dr w cc ≤ 99 := by
  by_cases h1 : w = 0
  · unfold sf_dr
    rw [if_pos h1]
    omega
  by_cases h2 : cc ≤ 0
  · unfold sf_dr
    rw [if_neg h1, if_pos h2]
    omega
  refine ⟨?_, ?_⟩
  · unfold sf_dr
    rw [if_neg h1, if_neg h2]
    have := Int.tdiv_nonneg (a := w + cc - 1) (b := cc) (by omega) (by omega)
    omega
  · rw [sf_dr_le (by omega) (by omega)]
    have : 99 * 1 ≤ 99 * cc := Int.mul_le_mul_of_nonneg_left (by omega) (by decide)
    omega
end SFP17

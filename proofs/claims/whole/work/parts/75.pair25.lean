/-! tryNext: the class -/
section SFP25
variable {V X Y : sf_MV} {n nx c ce cf cg a k m : Nat} {v : Int} {f : Nat → Int} {K : Option sf_V → sf_M → Prop}
def sf_bt (F : Nat → Bool) (k : Nat) : Bool := (! decide (k = 2 ∨ k = 3)) && F k
def sf_bc (F : Nat → Bool) : Nat → Int
  | 0 => 0
  | m + 1 => sf_bc F m + if sf_bt F m = true then 1 else 0
def sf_ct (F : Nat → Bool) (ch : Nat → Int) (t : Int) : Nat → Int
  | 0 => 0
  | m + 1 => if sf_bt F m = true ∧ ch m = t then sf_ct F ch t m + 1 else sf_ct F ch t m
theorem sf_ct_in {F : Nat → Bool} {ch : Nat → Int} {t : Int} : ∀ m, 0 ≤ sf_ct F ch t m ∧ sf_ct F ch t m ≤ m
  | 0 => ⟨Int.le_refl 0, Int.le_refl 0⟩
  | m + 1 => by
    have := sf_ct_in (F := F) (ch := ch) (t := t) m
    unfold sf_ct
    split <;> omega
theorem sf_bc_in {F : Nat → Bool} : ∀ m, 0 ≤ sf_bc F m ∧ sf_bc F m ≤ m
  | 0 => ⟨Int.le_refl 0, Int.le_refl 0⟩
  | m + 1 => by
    have := sf_bc_in (F := F) m
    unfold sf_bc
    split <;> omega
def sf_mx (f : Nat → Int) : Nat → Int
  | 0 => 0
  | t + 1 => if sf_mx f t < f t then f t else sf_mx f t
def sf_isx (f : Nat → Int) (n : Nat) (v : Int) : Prop := 0 ≤ v ∧ (∀ t, t < n → f t ≤ v) ∧ (v = 0 ∨ ∃ t, t < n ∧ v = f t)
theorem sf_mx_isx {f : Nat → Int} : ∀ n, sf_isx f n (sf_mx f n)
  | 0 => ⟨Int.le_refl 0, fun t ht => absurd ht (by omega), Or.inl rfl⟩
  | n + 1 => by
    obtain ⟨h1, h2, h3⟩ := sf_mx_isx (f := f) n
    unfold sf_mx
    by_cases h : sf_mx f n < f n
    · rw [if_pos h]
      refine ⟨by omega, fun t ht => ?_, Or.inr ⟨n, by omega, rfl⟩⟩
      by_cases q : t = n
      · rw [q]; exact Int.le_refl _
      · have := h2 t (by omega)
        omega
    · rw [if_neg h]
      refine ⟨h1, fun t ht => ?_, ?_⟩
      · by_cases q : t = n
        · rw [q]; omega
        · exact h2 t (by omega)
      · rcases h3 with h3 | ⟨t, h3, h4⟩
        · exact Or.inl h3
        · exact Or.inr ⟨t, by omega, h4⟩
theorem sf_isx_eq {f : Nat → Int} {n : Nat} {v w : Int} (h : sf_isx f n v) (h' : sf_isx f n w) : v = w := by
  have key : ∀ v w, sf_isx f n v → sf_isx f n w → v ≤ w := fun v w h h' => by
    rcases h.2.2 with z | ⟨t, z, z2⟩
    · rw [z]; exact h'.1
    · rw [z2]; exact h'.2.1 t z
  have := key v w h h'
  have := key w v h' h
  omega
theorem sf_m5_bit : ∀ b0 b1 b4 b5 b6 : Bool, ∀ k : Nat, k < 7 → ((sf_mk5 b0 b1 b4 b5 b6 >>> (Int32.ofInt (k : Int) &&& 31)) &&& Int32.ofInt 1).toInt = if (b0 && k == 0) || (b1 && k == 1) || (b4 && k == 4) || (b5 && k == 5) || (b6 && k == 6) then 1 else 0 := by decide +kernel
theorem sf_fm_bit {F : Nat → Bool} (hk : k < 7) : ((sf_fmk F 7 >>> (Int32.ofInt (k : Int) &&& 31)) &&& Int32.ofInt 1).toInt = if sf_bt F k = true then 1 else 0 := by
  rw [sf_fm7, sf_m5_bit _ _ _ _ _ k hk]
  unfold sf_bt
  have : k = 0 ∨ k = 1 ∨ k = 2 ∨ k = 3 ∨ k = 4 ∨ k = 5 ∨ k = 6 := by omega
  rcases this with h | h | h | h | h | h | h <;> subst h <;> simp
theorem s164 {d : Nat} {M : sf_M} {F : Nat → Bool} : sf_wp d none 164 0 [some (.inl (sf_fmk F 7).toInt)] [] M K = K (some (.inl (sf_bc F 7))) M := by
  have e : sf_bc F 7 = (if F 0 then 1 else 0) + (if F 1 then 1 else 0) + (if F 4 then 1 else 0) + (if F 5 then 1 else 0) + (if F 6 then 1 else 0) := by
    unfold sf_bc sf_bc sf_bc sf_bc sf_bc sf_bc sf_bc sf_bc sf_bt
    simp
  rw [e, sf_fm7]
  simp only [q164_0, q164_1, q164_2, q164_3, q164_4, q164_7, q164_8, q164_9, q164_10, q164_11, q164_14, q164_15, q164_16, q164_17, q164_18, q164_21, q164_22, q164_23, q164_24, q164_25, q164_26, q164_27, q164_28, q164_29, q164_32, q164_33, q164_34, q164_35, q164_36, q164_38, q164_39, q164_40, q164_41, q164_42, q164_43, q164_45, q164_46, q164_47, q164_48, q164_49, q164_51, q164_52]
  refine congrArg (fun z => K (some (.inl z)) M) ?_
  generalize F 0 = b0
  generalize F 1 = b1
  generalize F 4 = b4
  generalize F 5 = b5
  generalize F 6 = b6
  revert b0 b1 b4 b5 b6
  decide +kernel
theorem s99_in {F : Nat → Bool} {p t b : Int} (hn : V (sf_rf 0 1) 4 = (n : Int)) (hn5 : n ≤ 5) (hp : -9 ≤ p ∧ p ≤ 9) (hd : -9 ≤ sf_getS V (sf_rf 0 2) 0 ∧ sf_getS V (sf_rf 0 2) 0 ≤ 9) : ∀ (m k : Nat), 7 - k = m → k ≤ 7 →
    sf_wp 18 none 99 23 [some (.inr (.inl (some 0))), some (.inl (sf_fmk F 7).toInt), some (.inl p), some (.inl b), some (.inl t), some (.inl (sf_ct F (fun l => sf_pln l p (sf_getS V (sf_rf 0 2) 0) n) t k)), some (.inl (k : Int))] [] (sf_E V) K = sf_wp 18 none 99 73 [some (.inr (.inl (some 0))), some (.inl (sf_fmk F 7).toInt), some (.inl p), some (.inl b), some (.inl t), some (.inl (sf_ct F (fun l => sf_pln l p (sf_getS V (sf_rf 0 2) 0) n) t 7)), some (.inl 7)] [] (sf_E V) K := by
  have c1 := sf_c11_1 sf_x
  have c2 := sf_c11_2 sf_x
  intro m
  induction m with
  | zero =>
    intro k hm hk
    have k7 : k = 7 := by omega
    subst k7
    simp only [q99_23, q99_25, q99_27]
    rw [if_pos (by decide)]
    rfl
  | succ m ih =>
    intro k hm hk
    have i1 := ih (k + 1) (by omega) (by omega)
    have hct := sf_ct_in (F := F) (ch := fun l => sf_pln l p (sf_getS V (sf_rf 0 2) 0) n) (t := t) k
    have e1 : sf_ct F (fun l => sf_pln l p (sf_getS V (sf_rf 0 2) 0) n) t (k + 1) = if sf_bt F k = true ∧ sf_pln k p (sf_getS V (sf_rf 0 2) 0) n = t then sf_ct F (fun l => sf_pln l p (sf_getS V (sf_rf 0 2) 0) n) t k + 1 else sf_ct F (fun l => sf_pln l p (sf_getS V (sf_rf 0 2) 0) n) t k := rfl
    rw [e1] at i1
    simp only [q99_23, q99_25, q99_27]
    rw [if_neg (by omega)]
    simp only [q99_30, q99_31, q99_33, q99_34, q99_35]
    rw [sf_i32, sf_i32, sf_fm_bit (by omega), q99_36]
    by_cases h1 : sf_bt F k = true
    · rw [if_pos h1, if_neg (by decide)]
      simp only [q99_39, q99_41, q99_42, q99_43, q99_46, q99_49, q99_50, q99_53, q99_56, sf_x, c1, c2, hn, ← sf_getS_d]
      rw [s41 hp hd (by omega)]
      simp only [q99_59, q99_61, Option.toList_some, Option.toList_none, List.cons_append, List.nil_append]
      by_cases h2 : sf_pln k p (sf_getS V (sf_rf 0 2) 0) n = t
      · rw [if_pos ⟨h1, h2⟩] at i1
        rw [if_pos h2]
        simp only [q99_64, q99_67]
        rw [q99_70, sf_wS (by omega), sf_w_small (by omega)]
        exact i1
      · rw [if_neg (fun z => h2 z.2)] at i1
        rw [if_neg h2]
        simp only [q99_67]
        rw [q99_70, sf_wS (by omega)]
        exact i1
    · rw [if_neg (fun z => h1 z.1)] at i1
      rw [if_neg h1, if_pos rfl]
      simp only [q99_67]
      rw [q99_70, sf_wS (by omega)]
      exact i1
def sf_pt2 (V : sf_MV) (n : Nat) (F : Nat → Bool) (p : Int) (t : Nat) : Int := sf_ct F (fun l => sf_pln l p (sf_getS V (sf_rf 0 2) 0) n) t 7
theorem s99_out {F : Nat → Bool} {p : Int} (hn : V (sf_rf 0 1) 4 = (n : Int)) (hn5 : n ≤ 5) (hp : -9 ≤ p ∧ p ≤ 9) (hd : -9 ≤ sf_getS V (sf_rf 0 2) 0 ∧ sf_getS V (sf_rf 0 2) 0 ≤ 9) : ∀ (m t : Nat) l5 l6, n - t = m → t ≤ n →
    sf_wp 18 none 99 5 [some (.inr (.inl (some 0))), some (.inl (sf_fmk F 7).toInt), some (.inl p), some (.inl (sf_mx (sf_pt2 V n F p) t)), some (.inl (t : Int)), l5, l6] [] (sf_E V) K = K (some (.inl (sf_mx (sf_pt2 V n F p) n))) (sf_E V) := by
  have c1 := sf_c11_1 sf_x
  intro m
  induction m with
  | zero =>
    intro t l5 l6 hm ht
    simp only [q99_5, q99_7, q99_8, q99_11, q99_14, sf_x, c1, hn]
    rw [if_pos (by omega), show t = n by omega]
    simp only [q99_86, q99_87]
  | succ m ih =>
    intro t l5 l6 hm ht
    simp only [q99_5, q99_7, q99_8, q99_11, q99_14, sf_x, c1, hn]
    rw [if_neg (by omega)]
    simp only [q99_17, q99_18, q99_20, q99_21]
    refine Eq.trans (s99_in (F := F) hn hn5 hp hd 7 0 rfl (by omega)) ?_
    simp only [q99_73, q99_74, q99_76, q99_79, q99_80]
    rw [q99_83, sf_wS (by omega)]
    exact ih (t + 1) _ _ (by omega) (by omega)
/-- the best so far and who -/
def sf_tn (P : Nat → Int) (b0 : Int) : Nat → Int × Int
  | 0 => (b0, -1)
  | p + 1 => if P p < (sf_tn P b0 p).1 then (P p, (p : Int)) else sf_tn P b0 p
def sf_pa (V : sf_MV) (n : Nat) (F : Nat → Bool) (p : Nat) : Int := sf_mx (sf_pt2 V n F p) n
theorem s83_loop {F : Nat → Bool} {e : Int} (hn : V (sf_rf 0 1) 4 = (n : Int)) (hn5 : n ≤ 5) (hd : -9 ≤ sf_getS V (sf_rf 0 2) 0 ∧ sf_getS V (sf_rf 0 2) 0 ≤ 9) : ∀ (m p : Nat) l6, n - p = m → p ≤ n →
    sf_wp 19 none 83 50 [some (.inr (.inl (some 0))), some (.inl e), some (.inl (sf_fmk F 7).toInt), some (.inl (sf_tn (sf_pa V n F) (sf_bc F 7) p).1), some (.inl (sf_tn (sf_pa V n F) (sf_bc F 7) p).2), some (.inl (p : Int)), l6] [] (sf_E V) K = K (some (.inl (sf_tn (sf_pa V n F) (sf_bc F 7) n).2)) (sf_E V) := by
  have c1 := sf_c11_1 sf_x
  intro m
  induction m with
  | zero =>
    intro p l6 hm hp
    simp only [q83_50, q83_52, q83_53, q83_56, q83_59, sf_x, c1, hn]
    rw [if_pos (by omega), show p = n by omega]
    simp only [q83_90, q83_92]
  | succ m ih =>
    intro p l6 hm hp
    have i1 := ih (p + 1) (some (.inl (sf_pa V n F p))) (by omega) (by omega)
    have e1 : sf_tn (sf_pa V n F) (sf_bc F 7) (p + 1) = if sf_pa V n F p < (sf_tn (sf_pa V n F) (sf_bc F 7) p).1 then (sf_pa V n F p, (p : Int)) else sf_tn (sf_pa V n F) (sf_bc F 7) p := rfl
    rw [e1] at i1
    simp only [q83_50, q83_52, q83_53, q83_56, q83_59, sf_x, c1, hn]
    rw [if_neg (by omega)]
    simp only [q83_62, q83_63, q83_64, q83_66, sf_x, q99_0, q99_1, q99_2, q99_3]
    refine Eq.trans (s99_out (F := F) (p := (p : Int)) hn hn5 (by omega) hd n 0 none none rfl (by omega)) ?_
    have e2 : sf_mx (sf_pt2 V n F p) n = sf_pa V n F p := rfl
    rw [e2]
    simp only [q83_69, q83_71, q83_73, q83_74, Option.toList_some, Option.toList_none, List.cons_append, List.nil_append]
    by_cases h : sf_pa V n F p < (sf_tn (sf_pa V n F) (sf_bc F 7) p).1
    · rw [if_pos h] at i1
      rw [if_neg (by omega)]
      simp only [q83_77, q83_79, q83_80, q83_82, q83_84]
      rw [q83_87, sf_wS (by omega)]
      exact i1
    · rw [if_neg h] at i1
      rw [if_pos (by omega)]
      simp only [q83_84]
      rw [q83_87, sf_wS (by omega)]
      exact i1
end SFP25

/-! the class: helpers, the ring of hours -/
theorem sf_x : sf_cls 0 = 11 := by decide +kernel
theorem s90 {d : Nat} {M : sf_M} {v a b : Int} {K : Option sf_V → sf_M → Prop} : sf_wp d none 90 0 [some (.inl v), some (.inl a), some (.inl b)] [] M K = K (some (.inl (if a ≤ v ∧ v ≤ b then 1 else 0))) M := by
  simp (decide := true) only [q90_0, q90_1, q90_2, q90_5, q90_6, q90_7, q90_10, q90_11, q90_14, q90_15, true_and]
  by_cases h : v < a
  · rw [if_pos h, if_neg (by omega)]
  · rw [if_neg h]
    by_cases h2 : b < v
    · rw [if_pos h2, if_neg (by omega)]
    · rw [if_neg h2, if_pos (by omega)]
theorem s91 {d : Nat} {V : sf_MV} {p : Int} {K : Option sf_V → sf_M → Prop} : sf_wp d none 91 0 [some (.inr (.inl (some 0))), some (.inl p)] [] (sf_E V) K = K (some (.inl (if 0 ≤ p ∧ p < V (sf_rf 0 1) 4 then 1 else 0))) (sf_E V) := by
  have c1 := sf_c11_1 sf_x
  simp (decide := true) only [q91_0, q91_1, q91_4, q91_5, q91_6, q91_9, q91_12, q91_15, q91_16, q91_19, q91_20, sf_x, c1, true_and]
  by_cases h : p < 0
  · rw [if_pos h, if_neg (by omega)]
  · rw [if_neg h]
    by_cases h2 : V (sf_rf 0 1) 4 ≤ p
    · rw [if_pos h2, if_neg (by omega)]
    · rw [if_neg h2, if_pos (by omega)]
theorem s92 {d : Nat} {M : sf_M} {p : Int} {K : Option sf_V → sf_M → Prop} : sf_wp d none 92 0 [some (.inl p)] [] M K = K (some (.inl (if 0 ≤ p ∧ p < 6 then 1 else 0))) M := by
  simp (decide := true) only [q92_0, q92_1, q92_4, q92_5, q92_7, q92_10, q92_11, q92_14, q92_15, true_and]
  by_cases h : p < 0
  · rw [if_pos h, if_neg (by omega)]
  · rw [if_neg h]
    by_cases h2 : 6 ≤ p
    · rw [if_pos h2, if_neg (by omega)]
    · rw [if_neg h2, if_pos (by omega)]
theorem s36 {d h k : Nat} {V : sf_MV} {K : Option sf_V → sf_M → Prop} (hc : sf_cls h = 8) (hk : k < sf_len (sf_rf h 0)) : sf_wp d none 36 0 [some (.inr (.inl (some h))), some (.inl (k : Int)), none] [] (sf_E V) K = K (some (.inr (.inl (some (sf_rf (sf_rf h 0) k))))) (sf_E V) := by
  have c0 := sf_c8_0 hc
  simp only [q36_0, q36_1, q36_4, q36_5, q36_6, q36_9, q36_10, hc, c0]
  rw [if_neg (by omega), if_neg (by omega)]
  simp only [q36_13, q36_14, q36_17, q36_18, q36_19, q36_22, q36_23, q36_26, q36_27, q36_28, q36_31, q36_32, q36_35, q36_36, q36_39, hc, c0, sf_bd, hk, true_and, Int.toNat_natCast]
theorem sf_setS_obj {V : sf_MV} {s a : Nat} {S : Nat → Int} (hs : sf_cls s = 9) (ha : sf_cls a < 100) (hne : ¬ a = s) : sf_setS V s S a = V a := by
  have a3 := sf_apart3 hs ha
  exact sf_setS_ne hne a3.1 a3.2.1 a3.2.2
def sf_rg (i : Nat) : Nat := sf_rf (sf_rf (sf_rf (sf_rf 0 4) 0) 0) i
theorem sf_rgLen : sf_len (sf_rf (sf_rf (sf_rf 0 4) 0) 0) = 30 := by decide +kernel
theorem sf_rgCls {i : Nat} (h : i < 30) : sf_cls (sf_rg i) = 9 := (sf_elem (sf_c8_0 (sf_c4_0 (sf_c11_4 sf_x))) (by rw [sf_rgLen]; exact h)).1
theorem sf_rg_ne {i : Nat} {k : Nat} : ¬ sf_rg i = sf_rf 0 k := by
  unfold sf_rg
  simp [sf_rf_inj, sf_rf_ne0]
/-- an hour is kept: the stove o as it stands -/
def sf_pt (V : sf_MV) (nx c : Nat) (o : Nat) : sf_MV := sf_upd (sf_upd (sf_setS V (sf_rg nx) (sf_getS V o)) (sf_rf 0 4) 1 (if nx + 1 < 30 then (nx : Int) + 1 else 0)) (sf_rf 0 4) 2 (if (c : Int) + 1 < 30 then (c : Int) + 1 else 30)
theorem s14 {d nx c : Nat} {V : sf_MV} {K : Option sf_V → sf_M → Prop} (h1 : V (sf_rf 0 4) 1 = (nx : Int)) (hnx : nx < 30) (h2 : V (sf_rf 0 4) 2 = (c : Int)) (hc : c ≤ 30) :
    sf_wp (d + 2) none 14 0 [some (.inr (.inl (some (sf_rf 0 4)))), some (.inr (.inl (some (sf_rf 0 2))))] [] (sf_E V) K = K none (sf_E (sf_pt V nx c (sf_rf 0 2))) := by
  have c4 := sf_c11_4 sf_x
  have c8 := sf_c4_0 c4
  have cn := sf_c11_2 sf_x
  have cr := sf_rgCls hnx
  have hlt : nx < sf_len (sf_rf (sf_rf (sf_rf 0 4) 0) 0) := by rw [sf_rgLen]; exact hnx
  have crr : sf_cls (sf_rf (sf_rf (sf_rf (sf_rf 0 4) 0) 0) nx) = 9 := cr
  have hne : sf_rf (sf_rf (sf_rf (sf_rf 0 4) 0) 0) nx ≠ sf_rf 0 2 := sf_rg_ne
  simp only [q14_0, q14_1, q14_4, q14_5, q14_8, c4, c8, h1]
  rw [s36 c8 hlt]
  simp only [q14_11, q14_12, crr, Option.toList_some, Option.toList_none, List.cons_append, List.nil_append]
  rw [s39 crr cn hne]
  have hz : ∀ S, sf_setS V (sf_rf (sf_rf (sf_rf (sf_rf 0 4) 0) 0) nx) S (sf_rf 0 4) = V (sf_rf 0 4) := fun S => sf_setS_obj crr (by omega) (fun e => sf_rg_ne (i := nx) (k := 4) e.symm)
  simp only [q14_15, q14_16, q14_17, q14_20, q14_21, q14_22, q14_24, c4, hz, h1, Option.toList_some, Option.toList_none, List.cons_append, List.nil_append]
  have e2 : ∀ (W : sf_MV) v, sf_upd W (sf_rf 0 4) 1 v (sf_rf 0 4) 2 = W (sf_rf 0 4) 2 := fun W v => sf_upd_ne2 (by decide)
  rw [sf_w_small (n := (nx : Int) + 1) (by omega)]
  unfold sf_pt sf_rg
  by_cases h : 30 ≤ (nx : Int) + 1
  · rw [if_pos h, if_neg (by omega)]
    simp only [q14_36, q14_37, q14_40, q14_41, q14_43, q14_44, q14_47, q14_48, q14_49, q14_52, q14_55, c4, e2, hz, h2]
    rw [sf_w_small (n := (c : Int) + 1) (by omega)]
  · rw [if_neg h, if_pos (by omega)]
    simp only [q14_27, q14_28, q14_31, q14_32, q14_33, q14_36, q14_37, q14_40, q14_41, q14_43, q14_44, q14_47, q14_48, q14_49, q14_52, q14_55, c4, e2, hz, h1, h2]
    rw [sf_w_small (n := (nx : Int) + 1) (by omega), sf_w_small (n := (c : Int) + 1) (by omega)]

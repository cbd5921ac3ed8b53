/-! house: the beginning and the end -/
theorem sf_rw7Len : sf_len (sf_rf (sf_rf 0 7) 0) = 2 := by decide +kernel
theorem sf_c39 : sf_cls (sf_rf 409 39) = 100 := sf_c12_39 sf_y
section SFP39
variable {V X U : sf_MV} {n nx c ce cf cg : Nat} {t : Nat → Int} {L : Nat}
/-- a home untold -/
def sf_un (V : sf_MV) (h : Nat) : sf_MV := sf_put (sf_put (sf_put (sf_put (sf_upd (sf_upd (sf_upd (sf_upd V h 4 0) h 5 0) h 6 5) h 7 20) (sf_rf (sf_rf h 0) 0) 0 5 (fun _ => 0)) (sf_rf (sf_rf h 1) 0) 0 5 (fun _ => 0)) (sf_rf (sf_rf h 2) 0) 0 6 (fun _ => 1)) (sf_rf (sf_rf h 3) 0) 0 6 (fun _ => 4)
theorem s7 {d h : Nat} {K : Option sf_V → sf_M → Prop} (hh : sf_cls h = 2) : sf_wp (d + 1) none 7 0 [some (.inr (.inl (some h)))] [] (sf_E V) K = K none (sf_E (sf_un V h)) := by
  obtain ⟨m1, m2, m3, m4⟩ := sf_homeLen hh
  have r0 := sf_c2_0 hh
  have r1 := sf_c2_1 hh
  have r2 := sf_c2_2 hh
  have r3 := sf_c2_3 hh
  unfold sf_un
  simp only [q7_0, q7_1, q7_2, q7_5, q7_6, q7_7, q7_10, q7_11, q7_12, q7_15, q7_16, q7_18, q7_21, q7_22, q7_25, q7_26, q7_29, q7_30, q7_33, q7_34, q7_37, q7_38, q7_41, q7_42, q7_45, q7_46, q7_49, q7_50, q7_53, hh, r0, r1, r2, r3, s33, m1, m2, m3, m4, Option.toList_some, Option.toList_none, List.cons_append, List.nil_append]
/-- a home copied -/
def sf_cpy (V : sf_MV) (h o : Nat) : sf_MV := sf_put (sf_put (sf_put (sf_put (sf_upd (sf_upd (sf_upd (sf_upd V h 4 (V o 4)) h 5 (V o 5)) h 6 (V o 6)) h 7 (V o 7)) (sf_rf (sf_rf h 0) 0) 0 5 (V (sf_rf (sf_rf o 0) 0))) (sf_rf (sf_rf h 1) 0) 0 5 (V (sf_rf (sf_rf o 1) 0))) (sf_rf (sf_rf h 2) 0) 0 6 (V (sf_rf (sf_rf o 2) 0))) (sf_rf (sf_rf h 3) 0) 0 6 (V (sf_rf (sf_rf o 3) 0))
theorem s8 {d h o : Nat} {K : Option sf_V → sf_M → Prop} (hh : sf_cls h = 2) (ho : sf_cls o = 2) (hne : ¬ h = o) (h2 : ∀ k, ¬ o = sf_rf (sf_rf h k) 0) (h3 : ∀ k, ¬ h = sf_rf (sf_rf o k) 0) : sf_wp (d + 1) none 8 0 [some (.inr (.inl (some h))), some (.inr (.inl (some o)))] [] (sf_E V) K = K none (sf_E (sf_cpy V h o)) := by
  obtain ⟨m1, m2, m3, m4⟩ := sf_homeLen hh
  obtain ⟨k1, k2, k3, k4⟩ := sf_homeLen ho
  have r0 := sf_c2_0 hh
  have r1 := sf_c2_1 hh
  have r2 := sf_c2_2 hh
  have r3 := sf_c2_3 hh
  have o0 := sf_c2_0 ho
  have o1 := sf_c2_1 ho
  have o2 := sf_c2_2 ho
  have o3 := sf_c2_3 ho
  have hne' : ¬ o = h := fun z => hne z.symm
  have h3' : ∀ k, ¬ sf_rf (sf_rf o k) 0 = h := fun k z => h3 k z.symm
  have u : ∀ (Z : sf_MV) k v, sf_upd Z h k v o = Z o := fun Z k v => sf_upd_ne hne'
  unfold sf_cpy
  simp (decide := true) only [q8_0, q8_1, q8_2, q8_5, q8_8, q8_9, q8_10, q8_13, q8_16, q8_17, q8_18, q8_21, q8_24, q8_25, q8_26, q8_29, q8_32, q8_33, q8_36, q8_37, q8_40, q8_43, q8_44, q8_47, q8_48, q8_51, q8_54, q8_55, q8_58, q8_59, q8_62, q8_65, q8_66, q8_69, q8_70, q8_73, q8_76, hh, ho, r0, r1, r2, r3, o0, o1, o2, o3, s34, m1, m2, m3, m4, k1, k2, k3, k4, u, ne_eq, sf_rf_inj, hne, hne', h2, h3, h3', sf_put_ne, sf_upd_ne, false_and, and_false, not_false_eq_true, Option.toList_some, Option.toList_none, List.cons_append, List.nil_append]
/-- the stove moves in -/
def sf_mvi (V : sf_MV) (s h : Nat) : sf_MV := sf_upd (sf_upd (sf_upd (sf_put (sf_put (sf_put V (sf_rf (sf_rf s 0) 0) 0 5 (V (sf_rf (sf_rf h 0) 0))) (sf_rf (sf_rf s 1) 0) 0 5 (fun _ => -1)) (sf_rf (sf_rf s 2) 0) 0 6 (V (sf_rf (sf_rf h 3) 0))) s 3 (if V h 4 ≤ 0 then -1 else V h 5)) s 4 (V h 7)) s 5 0
theorem s38 {d : Nat} {K : Option sf_V → sf_M → Prop} : sf_wp (d + 1) none 38 0 [some (.inr (.inl (some (sf_rf 0 2)))), some (.inr (.inl (some (sf_rf 0 1))))] [] (sf_E V) K = K none (sf_E (sf_mvi V (sf_rf 0 2) (sf_rf 0 1))) := by
  have hs := sf_c11_2 sf_x
  have hh := sf_c11_1 sf_x
  obtain ⟨m1, m2, m3, m4⟩ := sf_homeLen hh
  obtain ⟨k1, k2, k3⟩ := sf_stoveLen hs
  have r0 := sf_c2_0 hh
  have r3 := sf_c2_3 hh
  have o0 := sf_c9_0 hs
  have o1 := sf_c9_1 hs
  have o2 := sf_c9_2 hs
  have n1 : ∀ (Z : sf_MV) k m g, sf_put Z (sf_rf (sf_rf (sf_rf 0 2) k) 0) 0 m g (sf_rf 0 1) = Z (sf_rf 0 1) := fun Z k m g => sf_put_ne (by simp [sf_rf_inj, sf_0ne_rf])
  have n2 : ∀ (Z : sf_MV) k m g j, sf_put Z (sf_rf (sf_rf (sf_rf 0 2) k) 0) 0 m g (sf_rf (sf_rf (sf_rf 0 1) j) 0) = Z (sf_rf (sf_rf (sf_rf 0 1) j) 0) := fun Z k m g j => sf_put_ne (by simp [sf_rf_inj])
  have u1 : ∀ (Z : sf_MV) k v, sf_upd Z (sf_rf 0 2) k v (sf_rf 0 1) = Z (sf_rf 0 1) := fun Z k v => sf_upd_ne (by simp [sf_rf_inj])
  unfold sf_mvi
  simp (decide := true) only [q38_0, q38_1, q38_4, q38_5, q38_8, q38_11, q38_12, q38_15, q38_16, q38_19, q38_20, q38_23, q38_24, q38_27, q38_30, q38_31, q38_32, hh, hs, r0, r3, o0, o1, o2, s33, s34, m1, m4, k1, k2, k3, n1, n2, ne_eq, sf_rf_inj, not_false_eq_true, and_false, false_and, Option.toList_some, Option.toList_none, List.cons_append, List.nil_append]
  rw [q38_35]
  by_cases q : V (sf_rf 0 1) 4 ≤ 0
  · rw [if_pos q, if_pos q]
    simp only [q38_45, q38_46, q38_49, q38_50, q38_51, q38_54, q38_57, q38_58, q38_59, q38_62, hh, hs, n1, u1]
  · rw [if_neg q, if_neg q]
    simp only [q38_38, q38_39, q38_42, q38_46, q38_49, q38_50, q38_51, q38_54, q38_57, q38_58, q38_59, q38_62, hh, hs, n1, u1]
/-- the reference's rows untold -/
theorem s114_fill {Y : sf_MV} {l2 : Option sf_V} {K : Option sf_V → sf_M → Prop} : ∀ (m k : Nat) (U : sf_MV), 6 - k = m → k ≤ 6 →
    sf_wp 18 none 114 17 [some (.inr (.inl (some 409))), some (.inl (k : Int)), l2] [] (sf_E (sf_mix Y U)) K = sf_wp 18 none 114 43 [some (.inr (.inl (some 409))), some (.inl 6), l2] [] (sf_E (sf_mix Y (sf_put (sf_put U (sf_rf 409 21) k 6 (fun _ => 1)) (sf_rf 409 22) k 6 (fun _ => 4)))) K := by
  have y21 := sf_c12_21 sf_y
  have y22 := sf_c12_22 sf_y
  intro m
  induction m with
  | zero =>
    intro k U hm hk
    simp only [q114_17, q114_18, q114_20]
    rw [if_pos (by omega), sf_put_nil (by omega), sf_put_nil (by omega), show (k : Int) = 6 by omega]
  | succ m ih =>
    intro k U hm hk
    have b : k < 6 := by omega
    simp only [q114_17, q114_18, q114_20]
    rw [if_neg (by omega)]
    simp only [q114_23, q114_24, q114_27, q114_28, q114_29, q114_30, q114_31, q114_34, q114_35, q114_36, q114_37, sf_y, y21, y22, sf_y21, sf_y22, sf_mxv, sf_bd, b, true_and, Int.toNat_natCast]
    rw [q114_40, sf_wS (by omega), ih (k + 1) _ (by omega) (by omega)]
    refine congrArg (fun Z => sf_wp 18 none 114 43 [some (.inr (.inl (some 409))), some (.inl 6), l2] [] (sf_E (sf_mix Y Z)) K) ?_
    have n1 : ¬ sf_rf 409 21 = sf_rf 409 22 := by simp [sf_rf_inj]
    have n2 : ¬ sf_rf 409 22 = sf_rf 409 21 := by simp [sf_rf_inj]
    funext a j
    unfold sf_put sf_upd
    by_cases h1 : a = sf_rf 409 22
    · subst h1
      by_cases h2 : j = k
      · subst h2
        simp [n2, b]
      · by_cases h3 : k + 1 ≤ j ∧ j < 6
        · simp [h3, show k ≤ j by omega]
        · simp [n2, h2, h3]
          intro z1 z2
          omega
    · by_cases h4 : a = sf_rf 409 21
      · subst h4
        by_cases h2 : j = k
        · subst h2
          simp [n1, b]
        · by_cases h3 : k + 1 ≤ j ∧ j < 6
          · simp [n1, h3, show k ≤ j by omega]
          · simp [n1, h2, h3]
            intro z1 z2
            omega
      · simp [h1, h4]
end SFP39

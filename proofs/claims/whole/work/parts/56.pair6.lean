/-! pairs of calls: note -/
theorem sf_ntLen : sf_len (sf_rf (sf_rf (sf_rf 0 8) 0) 0) = 12 ∧ sf_len (sf_rf (sf_rf (sf_rf 0 8) 1) 0) = 12 ∧ sf_len (sf_rf (sf_rf (sf_rf 0 8) 2) 0) = 12 ∧ sf_len (sf_rf (sf_rf (sf_rf 0 8) 3) 0) = 12 := by decide +kernel
section SFP6
variable {V : sf_MV} {n nx c ce cf cg : Nat} {K : Option sf_V → sf_M → Prop}
def sf_nt (V : sf_MV) (ce : Nat) (e p a b : Int) : sf_MV := sf_upd (sf_upd (sf_upd (sf_upd (sf_upd V (sf_rf (sf_rf (sf_rf 0 8) 0) 0) ce e) (sf_rf (sf_rf (sf_rf 0 8) 1) 0) ce p) (sf_rf (sf_rf (sf_rf 0 8) 2) 0) ce a) (sf_rf (sf_rf (sf_rf 0 8) 3) 0) ce b) (sf_rf 0 8) 4 ((ce + 1 : Nat) : Int)
theorem s10 {d : Nat} {e p a b : Int} (h : V (sf_rf 0 8) 4 = (ce : Int)) (hc : ce < 12) : sf_wp (d + 1) none 10 0 [some (.inr (.inl (some (sf_rf 0 8)))), some (.inl e), some (.inl p), some (.inl a), some (.inl b)] [] (sf_E V) K = K (some (.inl ((ce + 1 : Nat) : Int))) (sf_E (sf_nt V ce e p a b)) := by
  have c9 := sf_c11_8 sf_x
  have d0 := sf_c3_0 c9
  have d1 := sf_c3_1 c9
  have d2 := sf_c3_2 c9
  have d3 := sf_c3_3 c9
  obtain ⟨l1, l2, l3, l4⟩ := sf_ntLen
  have w0 : ∀ (W : sf_MV) v, sf_wr W (sf_rf (sf_rf (sf_rf 0 8) 0) 0) (ce : Int) v = sf_upd W (sf_rf (sf_rf (sf_rf 0 8) 0) 0) ce v := fun W v => sf_wr_nat (by omega)
  have w1 : ∀ (W : sf_MV) v, sf_wr W (sf_rf (sf_rf (sf_rf 0 8) 1) 0) (ce : Int) v = sf_upd W (sf_rf (sf_rf (sf_rf 0 8) 1) 0) ce v := fun W v => sf_wr_nat (by omega)
  have w2 : ∀ (W : sf_MV) v, sf_wr W (sf_rf (sf_rf (sf_rf 0 8) 2) 0) (ce : Int) v = sf_upd W (sf_rf (sf_rf (sf_rf 0 8) 2) 0) ce v := fun W v => sf_wr_nat (by omega)
  have w3 : ∀ (W : sf_MV) v, sf_wr W (sf_rf (sf_rf (sf_rf 0 8) 3) 0) (ce : Int) v = sf_upd W (sf_rf (sf_rf (sf_rf 0 8) 3) 0) ce v := fun W v => sf_wr_nat (by omega)
  have e1 : ∀ (W : sf_MV) k v, sf_upd W (sf_rf (sf_rf (sf_rf 0 8) k) 0) ce v (sf_rf 0 8) = W (sf_rf 0 8) := fun W k v => sf_upd_ne (by simp [sf_self2_rf])
  simp (decide := true) only [q10_0, q10_1, q10_4, q10_5, q10_8, q10_9, q10_12, q10_13, q10_16, q10_17, q10_20, q10_21, q10_24, q10_25, q10_28, q10_29, q10_32, q10_33, q10_36, q10_37, q10_40, q10_41, q10_44, q10_46, q10_49, q10_50, q10_51, q10_54, q10_55, q10_56, q10_59, q10_60, q10_63, c9, d0, d1, d2, d3, s32, w0, w1, w2, w3, e1, h, sf_upd_eq, Option.toList_some, Option.toList_none, List.cons_append, List.nil_append]
  rw [sf_wS (by omega)]
  rfl
theorem sf_GE_add {b0 b1 b2 b3 bo : Nat → Int} {x y e p a b : Int} (h : sf_GE n b0 b1 b2 b3 x y bo ce) (hc : ce < 12) (he : 0 ≤ e ∧ e < 6) (hp : 0 ≤ p ∧ p < n) (ha : 0 ≤ a ∧ a < n) (hb : 0 ≤ b ∧ b < n) : sf_GE n (sf_ru b0 ce e) (sf_ru b1 ce p) (sf_ru b2 ce a) (sf_ru b3 ce b) ((ce + 1 : Nat) : Int) ((ce + 1 : Nat) : Int) (sf_ru (sf_ru (sf_ru (sf_ru bo (4 * ce) e) (4 * ce + 1) p) (4 * ce + 2) a) (4 * ce + 3) b) (ce + 1) := by
  have g : ∀ j i, j ≠ ce → i < 4 → sf_ru (sf_ru (sf_ru (sf_ru bo (4 * ce) e) (4 * ce + 1) p) (4 * ce + 2) a) (4 * ce + 3) b (4 * j + i) = bo (4 * j + i) := fun j i hj hi => by
    rw [sf_ru_ne (by omega), sf_ru_ne (by omega), sf_ru_ne (by omega), sf_ru_ne (by omega)]
  have g0 : sf_ru (sf_ru (sf_ru (sf_ru bo (4 * ce) e) (4 * ce + 1) p) (4 * ce + 2) a) (4 * ce + 3) b (4 * ce) = e := by
    rw [sf_ru_ne (by omega), sf_ru_ne (by omega), sf_ru_ne (by omega), sf_ru_eq]
  have g1 : sf_ru (sf_ru (sf_ru (sf_ru bo (4 * ce) e) (4 * ce + 1) p) (4 * ce + 2) a) (4 * ce + 3) b (4 * ce + 1) = p := by
    rw [sf_ru_ne (by omega), sf_ru_ne (by omega), sf_ru_eq]
  have g2 : sf_ru (sf_ru (sf_ru (sf_ru bo (4 * ce) e) (4 * ce + 1) p) (4 * ce + 2) a) (4 * ce + 3) b (4 * ce + 2) = a := by
    rw [sf_ru_ne (by omega), sf_ru_eq]
  have g3 : sf_ru (sf_ru (sf_ru (sf_ru bo (4 * ce) e) (4 * ce + 1) p) (4 * ce + 2) a) (4 * ce + 3) b (4 * ce + 3) = b := sf_ru_eq
  refine sf_GE.mk (by omega) rfl rfl (fun j hj => ?_) (fun j hj => ?_)
  · by_cases q : j = ce
    · subst q
      rw [g0, g1, g2, g3, sf_ru_eq, sf_ru_eq, sf_ru_eq, sf_ru_eq]
      exact ⟨rfl, rfl, rfl, rfl⟩
    · rw [sf_ru_ne q, sf_ru_ne q, sf_ru_ne q, sf_ru_ne q, g j 1 q (by omega), g j 2 q (by omega), g j 3 q (by omega)]
      have this : sf_ru (sf_ru (sf_ru (sf_ru bo (4 * ce) e) (4 * ce + 1) p) (4 * ce + 2) a) (4 * ce + 3) b (4 * j) = bo (4 * j) := g j 0 q (by omega)
      rw [this]
      exact h.e j (by omega)
  · by_cases q : j = ce
    · subst q
      rw [g0, g1, g2, g3]
      exact ⟨he, hp, ha, hb⟩
    · rw [g j 1 q (by omega), g j 2 q (by omega), g j 3 q (by omega)]
      have this : sf_ru (sf_ru (sf_ru (sf_ru bo (4 * ce) e) (4 * ce + 1) p) (4 * ce + 2) a) (4 * ce + 3) b (4 * j) = bo (4 * j) := g j 0 q (by omega)
      rw [this]
      exact h.r j (by omega)
end SFP6

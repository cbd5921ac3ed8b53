/-! pairs of calls: write, note -/
theorem sf_bkLen : sf_len (sf_rf (sf_rf (sf_rf 0 9) 0) 0) = 20 ∧ sf_len (sf_rf (sf_rf (sf_rf 0 9) 1) 0) = 20 := by decide +kernel
section SFP5
variable {V : sf_MV} {n nx c ce cf cg : Nat} {K : Option sf_V → sf_M → Prop}
theorem sf_wr_nat {a k : Nat} {v : Int} (h : k < sf_len a) : sf_wr V a (k : Int) v = sf_upd V a k v := by
  unfold sf_wr
  rw [if_pos (by omega), Int.toNat_natCast]
theorem s1 {d : Nat} {e p : Int} (h : V (sf_rf 0 9) 2 = (cf : Int)) (hc : cf < 20) : sf_wp (d + 1) none 1 0 [some (.inr (.inl (some (sf_rf 0 9)))), some (.inl e), some (.inl p)] [] (sf_E V) K = K (some (.inl ((cf + 1 : Nat) : Int))) (sf_E (sf_upd (sf_upd (sf_upd V (sf_rf (sf_rf (sf_rf 0 9) 0) 0) cf e) (sf_rf (sf_rf (sf_rf 0 9) 1) 0) cf p) (sf_rf 0 9) 2 ((cf + 1 : Nat) : Int))) := by
  have c9 := sf_c11_9 sf_x
  have d0 := sf_c0_0 c9
  have d1 := sf_c0_1 c9
  obtain ⟨l1, l2⟩ := sf_bkLen
  have w1 : sf_wr V (sf_rf (sf_rf (sf_rf 0 9) 0) 0) (cf : Int) e = sf_upd V (sf_rf (sf_rf (sf_rf 0 9) 0) 0) cf e := sf_wr_nat (by omega)
  have w2 : ∀ W : sf_MV, sf_wr W (sf_rf (sf_rf (sf_rf 0 9) 1) 0) (cf : Int) p = sf_upd W (sf_rf (sf_rf (sf_rf 0 9) 1) 0) cf p := fun W => sf_wr_nat (by omega)
  have e1 : sf_upd V (sf_rf (sf_rf (sf_rf 0 9) 0) 0) cf e (sf_rf 0 9) = V (sf_rf 0 9) := sf_upd_ne (by simp [sf_self2_rf])
  have e2 : ∀ W : sf_MV, sf_upd W (sf_rf (sf_rf (sf_rf 0 9) 1) 0) cf p (sf_rf 0 9) = W (sf_rf 0 9) := fun W => sf_upd_ne (by simp [sf_self2_rf])
  simp only [q1_0, q1_1, q1_4, q1_5, q1_8, q1_9, q1_12, q1_13, q1_16, q1_17, q1_20, q1_21, q1_24, q1_25, q1_26, q1_29, q1_30, q1_31, q1_34, q1_35, q1_38, c9, d0, d1, s32, w1, w2, e1, e2, h, sf_upd_eq, Option.toList_some, Option.toList_none, List.cons_append, List.nil_append]
  rw [sf_wS (by omega)]
end SFP5

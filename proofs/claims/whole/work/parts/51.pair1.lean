/-! pairs of calls: fault, seed, tear, stack -/
def sf_P2 (x y : Nat) (as bs : List (Option sf_V)) (V : sf_MV) : Prop :=
  ∃ (r : Int) (W U : sf_MV) (n nx c ce cf cg : Nat), (∀ K, sf_wp 19 none x 0 (some (.inr (.inl (some 0))) :: as) [] (sf_E V) K = K (some (.inl r)) (sf_E W)) ∧ (∀ K, sf_wp 19 none y 0 (some (.inr (.inl (some 409))) :: bs) [] (sf_E W) K = K (some (.inl r)) (sf_E U)) ∧ sf_RR U n nx c ce cf cg
theorem sf_getS_upd {V : sf_MV} {s a k : Nat} {v : Int} (h0 : ¬ s = a) (h1 : ¬ sf_rf (sf_rf s 0) 0 = a) (h2 : ¬ sf_rf (sf_rf s 1) 0 = a) (h3 : ¬ sf_rf (sf_rf s 2) 0 = a) : sf_getS (sf_upd V a k v) s = sf_getS V s :=
  sf_getS_congr (sf_upd_ne h0) (sf_upd_ne h1) (sf_upd_ne h2) (sf_upd_ne h3)
theorem sf_getS_put {V : sf_MV} {s a k m : Nat} {f : Nat → Int} (h0 : ¬ s = a) (h1 : ¬ sf_rf (sf_rf s 0) 0 = a) (h2 : ¬ sf_rf (sf_rf s 1) 0 = a) (h3 : ¬ sf_rf (sf_rf s 2) 0 = a) : sf_getS (sf_put V a k m f) s = sf_getS V s :=
  sf_getS_congr (sf_put_ne h0) (sf_put_ne h1) (sf_put_ne h2) (sf_put_ne h3)
theorem sf_req_r {n : Nat} {S T U : Nat → Int} (h : sf_req n S T) (hU : ∀ k, k ≠ 3 → U k = T k) : sf_req n S U :=
  sf_req.mk (by rw [hU _ (by omega)]; exact h.d) (by rw [hU _ (by omega)]; exact h.l) (by rw [hU _ (by omega)]; exact h.h) (fun p hp => by rw [hU _ (by omega)]; exact h.w p hp) (fun p hp => by rw [hU _ (by omega)]; exact h.i p hp) (fun p hp => by rw [hU _ (by omega)]; exact h.r p hp)
theorem sf_rok_r {n : Nat} {B : Int} {T U : Nat → Int} (h : sf_rok n B T) (hU : ∀ k, k ≠ 3 → U k = T k) : sf_rok n B U := by
  have h9 : ∀ p, U (p + 9) = T (p + 9) := fun p => hU _ (by omega)
  have h4 : ∀ p, U (p + 4) = T (p + 4) := fun p => hU _ (by omega)
  have h14 : ∀ p, U (p + 14) = T (p + 14) := fun p => hU _ (by omega)
  have h0 := hU 0 (by omega)
  have h1 := hU 1 (by omega)
  have h2 := hU 2 (by omega)
  refine sf_rok.mk ?_ ?_ ?_ ?_ ?_ ?_ ?_ ?_
  · rw [h0]; exact h.d
  · rw [h1]; exact h.l
  · rw [h2]; exact h.h
  · simp only [h4]; exact h.w
  · simp only [h9, h2]; exact h.i
  · simp only [h9]; exact h.a
  · simp only [h9, h0]; exact h.m
  · simp only [h14]; exact h.r
theorem sf_GB_seed {n : Nat} {S T U : Nat → Int} {a v : Int} (h : sf_GB n S a T) (hv : 0 ≤ v ∧ v ≤ 2147483647) (hU : ∀ k, k ≠ 3 → U k = T k) (h3 : U 3 = v) : sf_GB n S v U :=
  sf_GB.mk (sf_req_r h.q hU) h.x (sf_rok_r h.y hU) h3.symm (by rw [h3]; exact hv)
section SFP1
variable {V : sf_MV} {n nx c ce cf cg : Nat}
theorem p_fault (R : sf_RR V n nx c ce cf cg) : sf_P2 62 116 [] [] V := by
  refine ⟨V (sf_rf 0 0) 3, V, V, n, nx, c, ce, cf, cg, ?_, ?_, R⟩
  · intro K
    have c0 := sf_c11_0 sf_x
    simp only [q62_0, q62_1, q62_4, q62_7, sf_x, c0]
  · intro K
    simp only [q116_0, q116_1, q116_4, sf_y, R.g.f]
theorem p_seed (R : sf_RR V n nx c ce cf cg) {v : Int} (hv : -2147483648 ≤ v ∧ v ≤ 2147483647) : sf_P2 87 161 [some (.inl v), none] [some (.inl v), none] V := by
  have c4 := sf_c12_4 sf_y
  by_cases h : 0 ≤ v
  · refine ⟨V 0 13, sf_upd V 0 13 v, sf_upd (sf_upd V 0 13 v) (sf_rf 409 4) 3 v, n, nx, c, ce, cf, cg, ?_, ?_, ?_⟩
    · intro K
      simp only [q87_0, q87_1, q87_4, q87_6, q87_7, q87_8, q87_11, q87_12, q87_13, q87_14, q87_17, q87_18, sf_x]
      rw [if_pos (by omega)]
    · intro K
      have e : sf_upd V 0 13 v (sf_rf 409 4) 3 = V 0 13 := by
        rw [sf_upd_ne (by simp [sf_rf_ne0]), ← R.b.s]
      simp (decide := true) only [q161_0, q161_1, q161_4, q161_6, q161_7, q161_8, q161_11, q161_12, q161_13, q161_14, q161_15, q161_18, q161_19, q161_20, q161_21, q161_22, sf_y, c4, sf_y4, true_and, Int.reduceToNat, e]
      rw [if_pos (by omega)]
    · have hb := R.b
      refine sf_RR.mk ?_ ?_ ?_ ?_ ?_ ?_ ?_
      · have h := R.a
        simp (decide := true) only [sf_upd_ne, sf_upd_ne2, sf_put_ne, sf_upd_eq, sf_getS_upd, sf_getS_put, sf_rg, sf_sh, sf_rf_inj, sf_rf_ne0, sf_0ne_rf, sf_rf_neY, sf_Yne_rf, sf_rf_self, sf_self_rf, sf_rf_self2, sf_self2_rf, not_false_eq_true, and_false, false_and, and_true, true_and, reduceCtorEq] at h ⊢
        exact h
      · have e2 : ∀ k, k ≠ 3 → sf_upd (sf_upd V 0 13 v) (sf_rf 409 4) 3 v (sf_rf 409 4) k = V (sf_rf 409 4) k := fun k hk => by
          rw [sf_upd_ne2 hk, sf_upd_ne (by simp [sf_rf_ne0])]
        simp (decide := true) only [sf_upd_ne, sf_upd_ne2, sf_put_ne, sf_upd_eq, sf_getS_upd, sf_getS_put, sf_rg, sf_sh, sf_rf_inj, sf_rf_ne0, sf_0ne_rf, sf_rf_neY, sf_Yne_rf, sf_rf_self, sf_self_rf, sf_rf_self2, sf_self2_rf, not_false_eq_true, and_false, false_and, and_true, true_and, reduceCtorEq]
        exact sf_GB_seed hb ⟨h, hv.2⟩ e2 sf_upd_eq
      · have h := R.c
        simp (decide := true) only [sf_upd_ne, sf_upd_ne2, sf_put_ne, sf_upd_eq, sf_getS_upd, sf_getS_put, sf_rg, sf_sh, sf_rf_inj, sf_rf_ne0, sf_0ne_rf, sf_rf_neY, sf_Yne_rf, sf_rf_self, sf_self_rf, sf_rf_self2, sf_self2_rf, not_false_eq_true, and_false, false_and, and_true, true_and, reduceCtorEq] at h ⊢
        exact h
      · have h := R.d
        simp (decide := true) only [sf_upd_ne, sf_upd_ne2, sf_put_ne, sf_upd_eq, sf_getS_upd, sf_getS_put, sf_rg, sf_sh, sf_rf_inj, sf_rf_ne0, sf_0ne_rf, sf_rf_neY, sf_Yne_rf, sf_rf_self, sf_self_rf, sf_rf_self2, sf_self2_rf, not_false_eq_true, and_false, false_and, and_true, true_and, reduceCtorEq] at h ⊢
        exact h
      · have h := R.e
        simp (decide := true) only [sf_upd_ne, sf_upd_ne2, sf_put_ne, sf_upd_eq, sf_getS_upd, sf_getS_put, sf_rg, sf_sh, sf_rf_inj, sf_rf_ne0, sf_0ne_rf, sf_rf_neY, sf_Yne_rf, sf_rf_self, sf_self_rf, sf_rf_self2, sf_self2_rf, not_false_eq_true, and_false, false_and, and_true, true_and, reduceCtorEq] at h ⊢
        exact h
      · have h := R.f
        simp (decide := true) only [sf_upd_ne, sf_upd_ne2, sf_put_ne, sf_upd_eq, sf_getS_upd, sf_getS_put, sf_rg, sf_sh, sf_rf_inj, sf_rf_ne0, sf_0ne_rf, sf_rf_neY, sf_Yne_rf, sf_rf_self, sf_self_rf, sf_rf_self2, sf_self2_rf, not_false_eq_true, and_false, false_and, and_true, true_and, reduceCtorEq] at h ⊢
        exact h
      · have h := R.g
        simp (decide := true) only [sf_upd_ne, sf_upd_ne2, sf_put_ne, sf_upd_eq, sf_getS_upd, sf_getS_put, sf_rg, sf_sh, sf_rf_inj, sf_rf_ne0, sf_0ne_rf, sf_rf_neY, sf_Yne_rf, sf_rf_self, sf_self_rf, sf_rf_self2, sf_self2_rf, not_false_eq_true, and_false, false_and, and_true, true_and, reduceCtorEq] at h ⊢
        exact h
  · refine ⟨-1000000002, V, V, n, nx, c, ce, cf, cg, ?_, ?_, R⟩
    · intro K
      simp only [q87_0, q87_1, q87_4, q87_6]
      rw [if_neg (by omega)]
    · intro K
      simp only [q161_0, q161_1, q161_4, q161_6]
      rw [if_neg (by omega)]
end SFP1

/-! an hour keeps the relation -/
section SFP8
variable {V X Y : sf_MV} {n nx c ce cf cg a k m : Nat} {v : Int} {f : Nat → Int}
theorem sf_sp_4 {R : Nat → Int} : sf_sp V nx c R (sf_rf 0 4) 1 = (if nx + 1 < 30 then (nx : Int) + 1 else 0) ∧ sf_sp V nx c R (sf_rf 0 4) 2 = (if (c : Int) + 1 < 30 then (c : Int) + 1 else 30) := by
  have e : sf_sp V nx c R (sf_rf 0 4) = sf_pt V nx c (sf_rf 0 2) (sf_rf 0 4) := by
    unfold sf_sp
    exact sf_setS_ne (by simp [sf_rf_inj]) (by simp [sf_wa, sf_rf_inj, sf_0ne_rf]) (by simp [sf_si, sf_rf_inj, sf_0ne_rf]) (by simp [sf_la, sf_rf_inj, sf_0ne_rf])
  rw [e]
  unfold sf_pt
  exact ⟨by rw [sf_upd_ne2 (by decide), sf_upd_eq], by rw [sf_upd_eq]⟩
theorem sf_mo_6 {R : Nat → Int} {u : Nat} (h : V 409 6 = (u : Int)) (hu : u ≤ 30) : sf_mo V R 409 6 = ((if u + 1 < 30 then u + 1 else 30 : Nat) : Int) := by
  unfold sf_mo
  rw [sf_put_ne (by simp [sf_Yne_rf]), sf_put_ne (by simp [sf_Yne_rf])]
  unfold sf_kh
  by_cases q : V 409 6 = 30
  · rw [if_pos q, sf_upd_eq, if_neg (by omega)]
    rfl
  · rw [if_neg q, sf_upd_eq]
    split <;> omega
theorem sf_mo_was {R : Nat → Int} {u j : Nat} (h : V 409 6 = (u : Int)) (hu : u ≤ 30) (hk : k < 20) (hj : j < (if u + 1 < 30 then u + 1 else 30)) : sf_mo V R (sf_rf 409 5) (20 * ((if u + 1 < 30 then u + 1 else 30) - 1 - j) + k) = if j = 0 then V (sf_rf 409 4) k else V (sf_rf 409 5) (20 * (u - 1 - (j - 1)) + k) := by
  unfold sf_mo
  rw [sf_put_ne (by simp [sf_rf_inj]), sf_put_ne (by simp [sf_rf_inj])]
  unfold sf_kh
  by_cases q : V 409 6 = 30
  · have hu30 : u = 30 := by omega
    subst hu30
    rw [if_pos q, sf_upd_ne (by simp [sf_rf_neY])]
    unfold sf_put
    rw [if_neg (show ¬ (30 + 1 < 30) by omega)] at hj ⊢
    by_cases j0 : j = 0
    · subst j0
      rw [if_pos rfl, if_pos ⟨rfl, by omega, by omega⟩]
      show V (sf_rf 409 4) (20 * (30 - 1 - 0) + k - 580) = _
      rw [show 20 * (30 - 1 - 0) + k - 580 = k by omega]
    · rw [if_neg j0, if_neg (fun z => by omega)]
      rw [sf_upd_ne (by simp [sf_rf_neY])]
      rw [if_pos ⟨rfl, by omega, by omega⟩]
      show V (sf_rf 409 5) (20 * (30 - 1 - j) + k + 20) = _
      rw [show 20 * (30 - 1 - j) + k + 20 = 20 * (30 - 1 - (j - 1)) + k by omega]
  · have hu30 : u < 30 := by omega
    rw [if_neg q, sf_upd_ne (by simp [sf_rf_neY]), h, Int.toNat_natCast]
    unfold sf_put
    by_cases j0 : j = 0
    · subst j0
      rw [if_pos rfl]
      by_cases q1 : u + 1 < 30
      · rw [if_pos q1, if_pos ⟨rfl, by omega, by omega⟩]
        show V (sf_rf 409 4) (20 * (u + 1 - 1 - 0) + k - 20 * u) = _
        rw [show 20 * (u + 1 - 1 - 0) + k - 20 * u = k by omega]
      · rw [if_neg q1, if_pos ⟨rfl, by omega, by omega⟩]
        show V (sf_rf 409 4) (20 * (30 - 1 - 0) + k - 20 * u) = _
        rw [show 20 * (30 - 1 - 0) + k - 20 * u = k by omega]
    · rw [if_neg j0]
      by_cases q1 : u + 1 < 30
      · rw [if_pos q1] at hj ⊢
        rw [if_neg (fun z => by omega)]
        rw [show 20 * (u + 1 - 1 - j) + k = 20 * (u - 1 - (j - 1)) + k by omega]
      · rw [if_neg q1] at hj ⊢
        rw [if_neg (fun z => by omega)]
        rw [show 20 * (30 - 1 - j) + k = 20 * (u - 1 - (j - 1)) + k by omega]
theorem sf_sp_ring {R : Nat → Int} {i : Nat} : sf_getS (sf_sp V nx c R) (sf_rg i) = if i = nx then sf_getS V (sf_rf 0 2) else sf_getS V (sf_rg i) := by
  have e : sf_getS (sf_sp V nx c R) (sf_rg i) = sf_getS (sf_setS V (sf_rg nx) (sf_getS V (sf_rf 0 2))) (sf_rg i) := by
    unfold sf_sp sf_pt
    refine sf_getS_congr ?_ ?_ ?_ ?_
    · rw [sf_setS_ne (by simp [sf_rg, sf_rf_inj, sf_0ne_rf, sf_rf_ne0]) (by simp [sf_rg, sf_wa, sf_rf_inj, sf_0ne_rf, sf_rf_ne0]) (by simp [sf_rg, sf_si, sf_rf_inj, sf_0ne_rf, sf_rf_ne0]) (by simp [sf_rg, sf_la, sf_rf_inj, sf_0ne_rf, sf_rf_ne0]), sf_upd_ne (by simp [sf_rg, sf_rf_inj, sf_0ne_rf, sf_rf_ne0]), sf_upd_ne (by simp [sf_rg, sf_rf_inj, sf_0ne_rf, sf_rf_ne0])]
    · rw [sf_setS_ne (by simp [sf_rg, sf_rf_inj, sf_0ne_rf, sf_rf_ne0]) (by simp [sf_rg, sf_wa, sf_rf_inj, sf_0ne_rf, sf_rf_ne0]) (by simp [sf_rg, sf_si, sf_rf_inj, sf_0ne_rf, sf_rf_ne0]) (by simp [sf_rg, sf_la, sf_rf_inj, sf_0ne_rf, sf_rf_ne0]), sf_upd_ne (by simp [sf_rg, sf_rf_inj, sf_0ne_rf, sf_rf_ne0]), sf_upd_ne (by simp [sf_rg, sf_rf_inj, sf_0ne_rf, sf_rf_ne0])]
    · rw [sf_setS_ne (by simp [sf_rg, sf_rf_inj, sf_0ne_rf, sf_rf_ne0]) (by simp [sf_rg, sf_wa, sf_rf_inj, sf_0ne_rf, sf_rf_ne0]) (by simp [sf_rg, sf_si, sf_rf_inj, sf_0ne_rf, sf_rf_ne0]) (by simp [sf_rg, sf_la, sf_rf_inj, sf_0ne_rf, sf_rf_ne0]), sf_upd_ne (by simp [sf_rg, sf_rf_inj, sf_0ne_rf, sf_rf_ne0]), sf_upd_ne (by simp [sf_rg, sf_rf_inj, sf_0ne_rf, sf_rf_ne0])]
    · rw [sf_setS_ne (by simp [sf_rg, sf_rf_inj, sf_0ne_rf, sf_rf_ne0]) (by simp [sf_rg, sf_wa, sf_rf_inj, sf_0ne_rf, sf_rf_ne0]) (by simp [sf_rg, sf_si, sf_rf_inj, sf_0ne_rf, sf_rf_ne0]) (by simp [sf_rg, sf_la, sf_rf_inj, sf_0ne_rf, sf_rf_ne0]), sf_upd_ne (by simp [sf_rg, sf_rf_inj, sf_0ne_rf, sf_rf_ne0]), sf_upd_ne (by simp [sf_rg, sf_rf_inj, sf_0ne_rf, sf_rf_ne0])]
  rw [e]
  by_cases h : i = nx
  · subst h
    rw [if_pos rfl, sf_getS_cp]
  · rw [if_neg h]
    refine sf_getS_congr ?_ ?_ ?_ ?_ <;>
      exact sf_setS_ne (by simp [sf_rg, sf_rf_inj, sf_0ne_rf, sf_rf_ne0, sf_self2_rf, sf_rf_self2, h]) (by simp [sf_rg, sf_wa, sf_rf_inj, sf_0ne_rf, sf_rf_ne0, sf_self2_rf, sf_rf_self2, h]) (by simp [sf_rg, sf_si, sf_rf_inj, sf_0ne_rf, sf_rf_ne0, sf_self2_rf, sf_rf_self2, h]) (by simp [sf_rg, sf_la, sf_rf_inj, sf_0ne_rf, sf_rf_ne0, sf_self2_rf, sf_rf_self2, h])
theorem sf_bk_next {j : Nat} (hnx : nx < 30) (hj : j < 30) : sf_bk (if nx + 1 < 30 then nx + 1 else 0) (j + 1) = if j = 0 then nx else sf_bk nx j := by
  unfold sf_bk
  (repeat' split) <;> omega
theorem sf_bk_ne {j : Nat} (hnx : nx < 30) (h0 : 0 < j) (hj : j < 30) : sf_bk nx j ≠ nx := by
  unfold sf_bk
  split <;> omega
theorem sf_getS_mo {R : Nat → Int} {s : Nat} (h : sf_lo s) : sf_getS (sf_mo V R) s = sf_getS V s := by
  have g : ∀ b, b < 409 → sf_mo V R b = V b := fun b hb => by
    have h5 := sf_hi_all 5
    have h4 := sf_hi_all 4
    have h28 := sf_hi_all 28
    exact sf_mo_ne (by omega) (fun z => h5 (z ▸ hb)) (fun z => h4 (z ▸ hb)) (fun z => h28 (z ▸ hb))
  exact sf_getS_congr (g _ h.1) (g _ h.2.1) (g _ h.2.2.1) (g _ h.2.2.2)
theorem sf_RR_hour (R : sf_RR V n nx c ce cf cg) {R1 R2 : Nat → Int} (hq : sf_req n R1 R2) (h1 : sf_rok n 90099 R1) (h2 : sf_rok n 90099 R2) (h3 : R2 3 = V (sf_rf 409 4) 3) : sf_RR (sf_mo (sf_sp V nx c R1) R2) n (if nx + 1 < 30 then nx + 1 else 0) (if c + 1 < 30 then c + 1 else 30) ce cf cg := by
  have hn5 := R.a.n5
  refine sf_RR.mk ?_ ?_ ?_ ?_ ?_ ?_ ?_
  · (have h := R.a; simp (decide := true) only [sf_mo_ne, sf_mo_y, sf_sp_ne, sf_upd_ne, sf_upd_ne2, sf_put_ne, sf_upd_eq, sf_getS_upd, sf_getS_put, sf_rg, sf_sh, sf_rf_inj, sf_rf_ne0, sf_0ne_rf, sf_rf_neY, sf_Yne_rf, sf_rf_self, sf_self_rf, sf_rf_self2, sf_self2_rf, not_false_eq_true, and_false, false_and, and_true, true_and, reduceCtorEq] at h ⊢; exact h)
  · have hb := R.b
    rw [sf_getS_mo sf_lo_now]
    have g1 : sf_mo (sf_sp V nx c R1) R2 0 13 = V 0 13 := by
      simp (decide := true) only [sf_mo_ne, sf_sp_ne, sf_upd_ne, sf_upd_ne2, sf_put_ne, sf_upd_eq, sf_getS_upd, sf_getS_put, sf_rg, sf_sh, sf_rf_inj, sf_rf_ne0, sf_0ne_rf, sf_rf_neY, sf_Yne_rf, sf_rf_self, sf_self_rf, sf_rf_self2, sf_self2_rf, not_false_eq_true, and_false, false_and, and_true, true_and, reduceCtorEq]
    rw [g1]
    refine sf_GB.mk (sf_req_c hq hn5 (fun k hk hk3 => ?_) (fun k hk hk3 => sf_mo_now hk)) (sf_rok_c h1 hn5 (fun k hk hk3 => ?_)) (sf_rok_c h2 hn5 (fun k hk hk3 => sf_mo_now hk)) ?_ ?_
    · exact sf_getS_set hk hk3
    · exact sf_getS_set hk hk3
    · rw [sf_mo_now (by omega), h3]; exact hb.s
    · rw [sf_mo_now (by omega), h3]; exact hb.s0
  · have hc := R.c
    have hb := R.b
    have u6 : sf_sp V nx c R1 409 6 = (c : Int) := by
      rw [sf_sp_ne (by simp [sf_Yne_rf]) (by simp [sf_Yne_rf]) (by simp [sf_Yne_rf]) (by simp [sf_Yne_rf]) (by simp [sf_Yne_rf]) (by simp [sf_rg, sf_Yne_rf]) (by simp [sf_Yne_rf]) (by simp [sf_Yne_rf]) (by simp [sf_Yne_rf])]
      exact hc.u
    have e4 : sf_mo (sf_sp V nx c R1) R2 (sf_rf 0 4) = sf_sp V nx c R1 (sf_rf 0 4) := sf_mo_ne (by simp [sf_rf_neY]) (by simp [sf_rf_inj]) (by simp [sf_rf_inj]) (by simp [sf_rf_inj])
    have f4 : sf_sp V nx c R1 (sf_rf 409 4) = V (sf_rf 409 4) := by
      simp (decide := true) only [sf_sp_ne, sf_upd_ne, sf_upd_ne2, sf_put_ne, sf_upd_eq, sf_getS_upd, sf_getS_put, sf_rg, sf_sh, sf_rf_inj, sf_rf_ne0, sf_0ne_rf, sf_rf_neY, sf_Yne_rf, sf_rf_self, sf_self_rf, sf_rf_self2, sf_self2_rf, not_false_eq_true, and_false, false_and, and_true, true_and, reduceCtorEq]
    have f5 : sf_sp V nx c R1 (sf_rf 409 5) = V (sf_rf 409 5) := by
      simp (decide := true) only [sf_sp_ne, sf_upd_ne, sf_upd_ne2, sf_put_ne, sf_upd_eq, sf_getS_upd, sf_getS_put, sf_rg, sf_sh, sf_rf_inj, sf_rf_ne0, sf_0ne_rf, sf_rf_neY, sf_Yne_rf, sf_rf_self, sf_self_rf, sf_rf_self2, sf_self2_rf, not_false_eq_true, and_false, false_and, and_true, true_and, reduceCtorEq]
    obtain ⟨s1, s2⟩ := sf_sp_4 (V := V) (nx := nx) (c := c) (R := R1)
    have nx30 := hc.nx
    have c30 := hc.c30
    have lt : ∀ j, j < (if c + 1 < 30 then c + 1 else 30) → j < 30 ∧ j ≤ c := fun j hj => by
      split at hj <;> omega
    have bl : ∀ j, sf_bk nx j < 30 ∨ 30 < j := fun j => by
      unfold sf_bk
      split <;> omega
    have key : ∀ j, j < (if c + 1 < 30 then c + 1 else 30) → sf_getS (sf_mo (sf_sp V nx c R1) R2) (sf_rg (sf_bk (if nx + 1 < 30 then nx + 1 else 0) (j + 1))) = if j = 0 then sf_getS V (sf_rf 0 2) else sf_getS V (sf_rg (sf_bk nx j)) := fun j hj => by
      have := lt j hj
      rw [sf_bk_next nx30 (by omega)]
      by_cases q : j = 0
      · rw [if_pos q, if_pos q, sf_getS_mo (sf_lo_rg _ nx30), sf_sp_ring, if_pos rfl]
      · have b1 := bl j
        rw [if_neg q, if_neg q, sf_getS_mo (sf_lo_rg _ (by omega)), sf_sp_ring, if_neg (sf_bk_ne nx30 (by omega) (by omega))]
    have key2 : ∀ j, j < (if c + 1 < 30 then c + 1 else 30) → ∀ k, k < 20 → sf_mo (sf_sp V nx c R1) R2 (sf_rf 409 5) (20 * ((if c + 1 < 30 then c + 1 else 30) - 1 - j) + k) = if j = 0 then V (sf_rf 409 4) k else V (sf_rf 409 5) (20 * (c - 1 - (j - 1)) + k) := fun j hj k hk => by
      rw [sf_mo_was u6 c30 hk hj, f4, f5]
    rw [e4]
    refine sf_GC.mk ?_ ?_ ?_ ?_ ?_ ?_ ?_ ?_
    · rw [s1]; split <;> omega
    · split <;> omega
    · rw [s2]; split <;> split <;> omega
    · split <;> omega
    · exact sf_mo_6 u6 c30
    · intro j hj
      have := lt j hj
      show sf_req n (sf_getS (sf_mo (sf_sp V nx c R1) R2) _) _
      rw [key j hj]
      by_cases q : j = 0
      · rw [if_pos q]
        exact sf_req_c hb.q hn5 (fun k _ _ => rfl) (fun k hk _ => by rw [key2 j hj k hk, if_pos q])
      · rw [if_neg q]
        have := hc.q (j - 1) (by omega)
        rw [show j - 1 + 1 = j by omega] at this
        exact sf_req_c this hn5 (fun k _ _ => rfl) (fun k hk _ => by rw [key2 j hj k hk, if_neg q])
    · intro j hj
      have := lt j hj
      show sf_rok n 90099 (sf_getS (sf_mo (sf_sp V nx c R1) R2) _)
      rw [key j hj]
      by_cases q : j = 0
      · rw [if_pos q]
        exact hb.x
      · rw [if_neg q]
        have := hc.rx (j - 1) (by omega)
        rw [show j - 1 + 1 = j by omega] at this
        exact this
    · intro j hj
      have := lt j hj
      by_cases q : j = 0
      · exact sf_rok_c hb.y hn5 (fun k hk _ => by rw [key2 j hj k hk, if_pos q])
      · exact sf_rok_c (hc.ry (j - 1) (by omega)) hn5 (fun k hk _ => by rw [key2 j hj k hk, if_neg q])
  · have hd := R.d
    have e3 : ∀ i, i < 2 → sf_getS (sf_mo (sf_sp V nx c R1) R2) (sf_sh i) = sf_getS V (sf_sh i) := fun i hi => by
      rw [sf_getS_mo (sf_lo_sh i hi)]
      refine sf_getS_congr ?_ ?_ ?_ ?_ <;> simp (decide := true) only [sf_sp_ne, sf_upd_ne, sf_upd_ne2, sf_put_ne, sf_upd_eq, sf_getS_upd, sf_getS_put, sf_rg, sf_sh, sf_rf_inj, sf_rf_ne0, sf_0ne_rf, sf_rf_neY, sf_Yne_rf, sf_rf_self, sf_self_rf, sf_rf_self2, sf_self2_rf, not_false_eq_true, and_false, false_and, and_true, true_and, reduceCtorEq]
    simp (decide := true) only [sf_mo_ne, sf_mo_y, sf_sp_ne, sf_upd_ne, sf_upd_ne2, sf_put_ne, sf_upd_eq, sf_getS_upd, sf_getS_put, sf_rg, sf_sh, sf_rf_inj, sf_rf_ne0, sf_0ne_rf, sf_rf_neY, sf_Yne_rf, sf_rf_self, sf_self_rf, sf_rf_self2, sf_self2_rf, not_false_eq_true, and_false, false_and, and_true, true_and, reduceCtorEq] at hd ⊢
    refine sf_GD.mk hd.t (fun i hi h => ?_) (fun i hi h => ?_) hd.y hd.s
    · show sf_req n (sf_getS (sf_mo (sf_sp V nx c R1) R2) (sf_sh i)) _
      rw [e3 i hi]; exact hd.q i hi h
    · show sf_rok n _ (sf_getS (sf_mo (sf_sp V nx c R1) R2) (sf_sh i))
      rw [e3 i hi]; exact hd.x i hi h
  · (have h := R.e; simp (decide := true) only [sf_mo_ne, sf_mo_y, sf_sp_ne, sf_upd_ne, sf_upd_ne2, sf_put_ne, sf_upd_eq, sf_getS_upd, sf_getS_put, sf_rg, sf_sh, sf_rf_inj, sf_rf_ne0, sf_0ne_rf, sf_rf_neY, sf_Yne_rf, sf_rf_self, sf_self_rf, sf_rf_self2, sf_self2_rf, not_false_eq_true, and_false, false_and, and_true, true_and, reduceCtorEq] at h ⊢; exact h)
  · (have h := R.f; simp (decide := true) only [sf_mo_ne, sf_mo_y, sf_sp_ne, sf_upd_ne, sf_upd_ne2, sf_put_ne, sf_upd_eq, sf_getS_upd, sf_getS_put, sf_rg, sf_sh, sf_rf_inj, sf_rf_ne0, sf_0ne_rf, sf_rf_neY, sf_Yne_rf, sf_rf_self, sf_self_rf, sf_rf_self2, sf_self2_rf, not_false_eq_true, and_false, false_and, and_true, true_and, reduceCtorEq] at h ⊢; exact h)
  · (have h := R.g; simp (decide := true) only [sf_mo_ne, sf_mo_y, sf_sp_ne, sf_upd_ne, sf_upd_ne2, sf_put_ne, sf_upd_eq, sf_getS_upd, sf_getS_put, sf_rg, sf_sh, sf_rf_inj, sf_rf_ne0, sf_0ne_rf, sf_rf_neY, sf_Yne_rf, sf_rf_self, sf_self_rf, sf_rf_self2, sf_self2_rf, not_false_eq_true, and_false, false_and, and_true, true_and, reduceCtorEq] at h ⊢; exact h)
end SFP8

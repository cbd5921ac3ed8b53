/-! the law's loop; the beginning -/
section SFLOOP
theorem sf_RR_0 : sf_RR sf_iv 0 0 0 0 0 0 := by
  refine sf_RR.mk ?_ ?_ ?_ ?_ ?_ ?_ ?_
  · refine sf_GA.mk (by decide) (by decide +kernel) (by decide +kernel) (by decide +kernel) (by decide +kernel) (fun p hp => absurd hp (by omega)) (by decide +kernel) (by decide +kernel) (by decide +kernel) (by decide +kernel)
  · refine sf_GB.mk (sf_req.mk (by decide +kernel) (by decide +kernel) (by decide +kernel) (fun p hp => absurd hp (by omega)) (fun p hp => absurd hp (by omega)) (by decide +kernel)) (sf_rok.mk (Or.inl ⟨rfl, by decide +kernel⟩) (by decide +kernel) (by decide +kernel) (by decide +kernel) (fun p hp => absurd hp (by omega)) (fun p hp => absurd hp (by omega)) (Or.inl (fun p hp => absurd hp (by omega))) (by decide +kernel)) (sf_rok.mk (Or.inl ⟨rfl, by decide +kernel⟩) (by decide +kernel) (by decide +kernel) (by decide +kernel) (fun p hp => absurd hp (by omega)) (fun p hp => absurd hp (by omega)) (Or.inl (fun p hp => absurd hp (by omega))) (by decide +kernel)) (by decide +kernel) (by decide +kernel)
  · exact sf_GC.mk (by decide +kernel) (by decide) (by decide +kernel) (by decide) (by decide +kernel) (fun p hp => absurd hp (by omega)) (fun p hp => absurd hp (by omega)) (fun p hp => absurd hp (by omega))
  · have t : ∀ i, i < 2 → sf_iv (sf_rf (sf_rf 0 7) 0) i = 0 ∧ sf_iv (sf_rf 409 8) i = 0 := by decide +kernel
    refine sf_GD.mk (fun i hi => ⟨by rw [(t i hi).1, (t i hi).2], Or.inl (t i hi).2⟩) (fun i hi h => ?_) (fun i hi h => ?_) (fun i hi h => ?_) (fun i hi h => ?_)
    all_goals
      rw [(t i hi).2] at h
      exact absurd h (by decide)
  · exact sf_GE.mk (by decide) (by decide +kernel) (by decide +kernel) (fun p hp => absurd hp (by omega)) (fun p hp => absurd hp (by omega))
  · exact sf_GF.mk (by decide) (by decide +kernel) (by decide +kernel) (fun p hp => absurd hp (by omega)) (fun p hp => absurd hp (by omega))
  · exact sf_GG.mk (by decide) (by decide +kernel) (by decide +kernel) (by decide +kernel) (fun p hp => absurd hp (by omega)) (by decide +kernel) (by decide +kernel)
theorem sf_loop {xs : List Int} (hE : ∀ (V : sf_MV) (n nx c ce cf cg : Nat) (p : Int), sf_RR V n nx c ce cf cg → sf_P2 76 149 [some (.inl p)] [some (.inl p)] V) (hA : ∀ (V : sf_MV) (n nx c ce cf cg : Nat), sf_RR V n nx c ce cf cg → sf_P2 77 150 [] [none, none, none] V) (hL : xs.length ≤ 2560) (ho : ∀ x ∈ xs, sf_oi x) : ∀ (m i : Nat) (V : sf_MV) (n nx c ce cf cg : Nat), xs.length - i ≤ m → i ≤ 3000 → sf_RR V n nx c ce cf cg →
    sf_wp 20 (some xs) 165 18 [some svS, some (svR 0), some (svR 409), some (svI (i : Int))] [] (sf_E V) (fun r M' => r = some (.inl 1) ∧ ∃ V, M' = sf_E V) := by
  have stop : ∀ (i : Nat) (V : sf_MV), i ≤ 3000 → xs.length < i + 5 → sf_wp 20 (some xs) 165 18 [some svS, some (svR 0), some (svR 409), some (svI (i : Int))] [] (sf_E V) (fun r M' => r = some (.inl 1) ∧ ∃ V, M' = sf_E V) := fun i V hi h => by
    simp only [q165_18, q165_19, q165_20, q165_21, q165_22]
    rw [sf_w_small (by omega), q165_23, if_pos (by omega)]
    simp only [q165_974, q165_975]
    exact ⟨Or.inr trivial, trivial, V, rfl⟩
  intro m
  induction m with
  | zero =>
    intro i V n nx c ce cf cg hm hi R
    exact stop i V hi (by omega)
  | succ m ih =>
    intro i V n nx c ce cf cg hm hi R
    by_cases h : xs.length < i + 5
    · exact stop i V hi h
    · obtain ⟨U, n', nx', c', ce', cf', cg', RU, st⟩ := sf_step hE hA R (i := i) (xs := xs) (by omega) hL ho
      simp only [q165_18, q165_19, q165_20, q165_21, q165_22]
      rw [sf_w_small (by omega), q165_23, if_neg (by omega), st, q165_968, q165_971, sf_w_small (by omega), show (i : Int) + 5 = ((i + 5 : Nat) : Int) by omega]
      exact ih (i + 5) U n' nx' c' ce' cf' cg' (by omega) (by omega) RU
end SFLOOP

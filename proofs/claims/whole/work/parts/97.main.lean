/-! the law's loop, over the numbers -/
theorem sf_law_main (xs : List Int) (hL : xs.length ≤ 2560) (ho : ∀ x ∈ xs, sf_oi x) : sf_wp 20 (some xs) 165 18 [some svS, some (svR 0), some (svR 409), some (svI 0)] [] sf_M0 (fun r M' => r = some (.inl 1) ∧ ∃ V, M' = sf_E V) := by
  rw [← sf_E_iv]
  exact sf_loop (xs := xs) (fun V n nx c ce cf cg p R => p_forEver R) (fun V n nx c ce cf cg R => p_fair R) hL ho xs.length 0 sf_iv 0 0 0 0 0 0 (by omega) (by omega) sf_RR_0

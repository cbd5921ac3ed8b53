/-! the law's loop, over the numbers -/
theorem sf_law_main (xs : List Int) (hL : xs.length ≤ 2560) (ho : ∀ x ∈ xs, sf_oi x) : sf_wp 20 (some xs) 165 18 [some svS, some (svR 0), some (svR 407), some (svI 0)] [] sf_M0 (fun r M' => r = some (.inl 1) ∧ ∃ V, M' = sf_E V) := sorry

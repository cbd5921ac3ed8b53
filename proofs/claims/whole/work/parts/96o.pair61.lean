/-! pigeonhole -/
theorem sf_pgn {l : List Nat} {f : Nat → Nat} : ∀ N, l.length < N → (∀ k, k < N → f k ∈ l) → ∃ a b, a < b ∧ b < N ∧ f a = f b := by
  intro N
  induction N generalizing l with
  | zero => intro h; exact absurd h (by omega)
  | succ N ih =>
    intro h hf
    by_cases hx : ∃ a, a < N ∧ f a = f N
    · obtain ⟨a, ha, e⟩ := hx
      exact ⟨a, N, ha, by omega, e⟩
    · have hm := hf N (by omega)
      obtain ⟨a, b, h1, h2, h3⟩ := ih (l := l.erase (f N)) (by
        rw [List.length_erase_of_mem hm]
        have : 0 < l.length := List.length_pos_of_mem hm
        omega) (fun k hk => (List.mem_erase_of_ne (fun e => hx ⟨k, hk, e⟩)).mpr (hf k (by omega)))
      exact ⟨a, b, h1, by omega, h3⟩

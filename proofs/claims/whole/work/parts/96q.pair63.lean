/-! for ever: five people -/
section SFFE4
variable {n L : Nat} {D : Nat → Nat} {I : Nat → Nat → Int} {H : Int} {lk pq : Nat → Int}
theorem sf_feQ_of {md : Nat} {s : Nat → Int} (ne : ∀ p q, p < 5 → q < 5 → ¬ p = q → ¬ sf_feR s 5 p = sf_feR s 5 q) (hm : sf_feM md (sf_feR s 5 0) (sf_feR s 5 1) (sf_feR s 5 2) (sf_feR s 5 3) (sf_feR s 5 4) = true) : sf_feQ 5 md (sf_feK s 5 0) (sf_feK s 5 1) (sf_feK s 5 2) (sf_feK s 5 3) (sf_feK s 5 4) = true := by
  have b0 := sf_feR_bd (s := s) (n := 5) (p := 0) (by omega)
  have n1 := ne 0 1 (by omega) (by omega) (by omega)
  have n2 := ne 0 2 (by omega) (by omega) (by omega)
  have n3 := ne 1 2 (by omega) (by omega) (by omega)
  have n4 := ne 0 3 (by omega) (by omega) (by omega)
  have n5 := ne 1 3 (by omega) (by omega) (by omega)
  have n6 := ne 2 3 (by omega) (by omega) (by omega)
  have n7 := ne 0 4 (by omega) (by omega) (by omega)
  have n8 := ne 1 4 (by omega) (by omega) (by omega)
  have n9 := ne 2 4 (by omega) (by omega) (by omega)
  have na := ne 3 4 (by omega) (by omega) (by omega)
  have b1 := sf_feR_bd (s := s) (n := 5) (p := 1) (by omega)
  have b2 := sf_feR_bd (s := s) (n := 5) (p := 2) (by omega)
  have b3 := sf_feR_bd (s := s) (n := 5) (p := 3) (by omega)
  unfold sf_feQ sf_feN sf_feK
  simp (decide := true) only [if_true, Bool.and_eq_true, Bool.or_eq_true, Nat.ble_eq, hm, true_or, or_true, false_or, or_false, true_and, and_true, false_and, and_false]
  omega
theorem sf_feM_top {md : Nat} {r : Nat → Nat} (h5 : md < 5) (h : ∀ q, q < 5 → ¬ q = md → r q < r md) : sf_feM md (r 0) (r 1) (r 2) (r 3) (r 4) = true := by
  have h0 := h 0 (by omega)
  have h1 := h 1 (by omega)
  have h2 := h 2 (by omega)
  have h3 := h 3 (by omega)
  have h4 := h 4 (by omega)
  have : md = 0 ∨ md = 1 ∨ md = 2 ∨ md = 3 ∨ md = 4 := by omega
  unfold sf_feM sf_feT
  rcases this with rfl | rfl | rfl | rfl | rfl <;> simp (decide := true) only [if_true, if_false, Bool.and_eq_true, Nat.ble_eq] <;> omega
theorem sf_feT_of {x y z w v : Nat} (h1 : y < x) (h2 : z < x) (h3 : w < x) (h4 : v < x) : sf_feT x y z w v = true := by
  unfold sf_feT
  simp only [Bool.and_eq_true, Nat.ble_eq]
  omega
theorem sf_feU_of {x z w v : Nat} (h2 : z < x) (h3 : w < x) (h4 : v < x) : sf_feU x z w v = true := by
  unfold sf_feU
  simp only [Bool.and_eq_true, Nat.ble_eq]
  omega
theorem sf_feM_next {r : Nat → Nat} {t d : Nat} (hd : d < 5) (ht : t = if d + 1 < 5 then d + 1 else 0) (h : ∀ q, q < 5 → ¬ q = t → r q < r t) (g : ∀ q, q < 5 → ¬ q = t → ¬ q = d → r q < r d) : sf_feM 5 (r 0) (r 1) (r 2) (r 3) (r 4) = true := by
  have : d = 0 ∨ d = 1 ∨ d = 2 ∨ d = 3 ∨ d = 4 := by omega
  rcases this with rfl | rfl | rfl | rfl | rfl
  · have ht : t = 1 := ht.trans (if_pos (by omega))
    subst ht
    have hT := sf_feT_of (h 0 (by omega) (by omega)) (h 2 (by omega) (by omega)) (h 3 (by omega) (by omega)) (h 4 (by omega) (by omega))
    have hU := sf_feU_of (g 2 (by omega) (by omega) (by omega)) (g 3 (by omega) (by omega) (by omega)) (g 4 (by omega) (by omega) (by omega))
    simp (decide := true) only [sf_feM, if_true, if_false, hT, hU, Bool.and_self, Bool.true_or, Bool.or_true]
  · have ht : t = 2 := ht.trans (if_pos (by omega))
    subst ht
    have hT := sf_feT_of (h 0 (by omega) (by omega)) (h 1 (by omega) (by omega)) (h 3 (by omega) (by omega)) (h 4 (by omega) (by omega))
    have hU := sf_feU_of (g 0 (by omega) (by omega) (by omega)) (g 3 (by omega) (by omega) (by omega)) (g 4 (by omega) (by omega) (by omega))
    simp (decide := true) only [sf_feM, if_true, if_false, hT, hU, Bool.and_self, Bool.true_or, Bool.or_true]
  · have ht : t = 3 := ht.trans (if_pos (by omega))
    subst ht
    have hT := sf_feT_of (h 0 (by omega) (by omega)) (h 1 (by omega) (by omega)) (h 2 (by omega) (by omega)) (h 4 (by omega) (by omega))
    have hU := sf_feU_of (g 0 (by omega) (by omega) (by omega)) (g 1 (by omega) (by omega) (by omega)) (g 4 (by omega) (by omega) (by omega))
    simp (decide := true) only [sf_feM, if_true, if_false, hT, hU, Bool.and_self, Bool.true_or, Bool.or_true]
  · have ht : t = 4 := ht.trans (if_pos (by omega))
    subst ht
    have hT := sf_feT_of (h 0 (by omega) (by omega)) (h 1 (by omega) (by omega)) (h 2 (by omega) (by omega)) (h 3 (by omega) (by omega))
    have hU := sf_feU_of (g 0 (by omega) (by omega) (by omega)) (g 1 (by omega) (by omega) (by omega)) (g 2 (by omega) (by omega) (by omega))
    simp (decide := true) only [sf_feM, if_true, if_false, hT, hU, Bool.and_self, Bool.true_or, Bool.or_true]
  · have ht : t = 0 := ht.trans (if_neg (by omega))
    subst ht
    have hT := sf_feT_of (h 1 (by omega) (by omega)) (h 2 (by omega) (by omega)) (h 3 (by omega) (by omega)) (h 4 (by omega) (by omega))
    have hU := sf_feU_of (g 1 (by omega) (by omega) (by omega)) (g 2 (by omega) (by omega) (by omega)) (g 3 (by omega) (by omega) (by omega))
    simp (decide := true) only [sf_feM, if_true, if_false, hT, hU, Bool.and_self, Bool.true_or, Bool.or_true]
theorem sf_feM_prev {r : Nat → Nat} {t d : Nat} (hd : d < 5) (ht : t = if 0 < d then d - 1 else 4) (h : ∀ q, q < 5 → ¬ q = t → r q < r t) (g : ∀ q, q < 5 → ¬ q = t → ¬ q = d → r q < r d) : sf_feM 6 (r 0) (r 1) (r 2) (r 3) (r 4) = true := by
  have : d = 0 ∨ d = 1 ∨ d = 2 ∨ d = 3 ∨ d = 4 := by omega
  rcases this with rfl | rfl | rfl | rfl | rfl
  · have ht : t = 4 := ht.trans (if_neg (by omega))
    subst ht
    have hT := sf_feT_of (h 0 (by omega) (by omega)) (h 1 (by omega) (by omega)) (h 2 (by omega) (by omega)) (h 3 (by omega) (by omega))
    have hU := sf_feU_of (g 1 (by omega) (by omega) (by omega)) (g 2 (by omega) (by omega) (by omega)) (g 3 (by omega) (by omega) (by omega))
    simp (decide := true) only [sf_feM, if_true, if_false, hT, hU, Bool.and_self, Bool.true_or, Bool.or_true]
  · have ht : t = 0 := ht.trans (if_pos (by omega))
    subst ht
    have hT := sf_feT_of (h 1 (by omega) (by omega)) (h 2 (by omega) (by omega)) (h 3 (by omega) (by omega)) (h 4 (by omega) (by omega))
    have hU := sf_feU_of (g 2 (by omega) (by omega) (by omega)) (g 3 (by omega) (by omega) (by omega)) (g 4 (by omega) (by omega) (by omega))
    simp (decide := true) only [sf_feM, if_true, if_false, hT, hU, Bool.and_self, Bool.true_or, Bool.or_true]
  · have ht : t = 1 := ht.trans (if_pos (by omega))
    subst ht
    have hT := sf_feT_of (h 0 (by omega) (by omega)) (h 2 (by omega) (by omega)) (h 3 (by omega) (by omega)) (h 4 (by omega) (by omega))
    have hU := sf_feU_of (g 0 (by omega) (by omega) (by omega)) (g 3 (by omega) (by omega) (by omega)) (g 4 (by omega) (by omega) (by omega))
    simp (decide := true) only [sf_feM, if_true, if_false, hT, hU, Bool.and_self, Bool.true_or, Bool.or_true]
  · have ht : t = 2 := ht.trans (if_pos (by omega))
    subst ht
    have hT := sf_feT_of (h 0 (by omega) (by omega)) (h 1 (by omega) (by omega)) (h 3 (by omega) (by omega)) (h 4 (by omega) (by omega))
    have hU := sf_feU_of (g 0 (by omega) (by omega) (by omega)) (g 1 (by omega) (by omega) (by omega)) (g 4 (by omega) (by omega) (by omega))
    simp (decide := true) only [sf_feM, if_true, if_false, hT, hU, Bool.and_self, Bool.true_or, Bool.or_true]
  · have ht : t = 3 := ht.trans (if_pos (by omega))
    subst ht
    have hT := sf_feT_of (h 0 (by omega) (by omega)) (h 1 (by omega) (by omega)) (h 2 (by omega) (by omega)) (h 4 (by omega) (by omega))
    have hU := sf_feU_of (g 0 (by omega) (by omega) (by omega)) (g 1 (by omega) (by omega) (by omega)) (g 2 (by omega) (by omega) (by omega))
    simp (decide := true) only [sf_feM, if_true, if_false, hT, hU, Bool.and_self, Bool.true_or, Bool.or_true]
/-- the darling of an hour is the latest, who was it ahead of it the latest but one -/
theorem sf_fe_last (P : sf_fe n L D I H lk pq) (h : Nat) : ∀ q, q < n → ¬ q = D (h + 1) → I (h + 1) q < I (h + 1) (D (h + 1)) := by
  intro q hq hne
  have r := sf_fe_r P h q hq
  rw [P.i h q hq, if_neg hne, P.i h _ (P.d _), if_pos rfl]
  exact r.2
theorem sf_fe_last2 (P : sf_fe n L D I H lk pq) {h : Nat} (ha : ∀ p, p < n → ¬ I h p = -1) (hd : ¬ D h = D (h + 1)) : ∀ q, q < n → ¬ q = D (h + 1) → ¬ q = D h → I (h + 1) q < I (h + 1) (D h) := by
  intro q hq hne hne2
  rw [P.i h q hq, if_neg hne, P.i h _ (P.d _), if_neg hd]
  have m : I h q ≤ I h (D h) := by
    rcases sf_fe_m P h with m | m
    · exact absurd (m _ hq) (ha _ hq)
    · exact m _ hq
  have i := sf_fe_inj P ha q hq (D h) (P.d h)
  omega
/-- a line that takes neither the oldest nor lets it stay -/
theorem sf_fe_mix (P : sf_fe 5 L D I H lk pq) (hall : ∀ h, L * 5 ≤ h → ∀ p, p < 5 → ¬ I h p = -1) {l : Nat} (hl : l < L) (h3 : ¬ lk l = 3) (h4 : ¬ lk l = 4) : ∃ a b, a < b ∧ b ≤ 100 ∧ sf_feB 5 D I (L * a) (L * b) := by
  have hk := P.k l hl
  have hp := P.p l hl
  have hc : ∀ x, (D (L * x + l + 1) : Int) = sf_ch 5 (lk l) (pq l) (D (L * x + l)) (I (L * x + l)) := fun x => by
    have c := P.c (L * x + l)
    rw [show (L * x + l) % L = l by rw [Nat.mul_add_mod, Nat.mod_eq_of_lt hl]] at c
    exact c
  have key : ∀ x, 5 ≤ x → ∀ md, sf_feM md (sf_feR (I (L * x + l + 1)) 5 0) (sf_feR (I (L * x + l + 1)) 5 1) (sf_feR (I (L * x + l + 1)) 5 2) (sf_feR (I (L * x + l + 1)) 5 3) (sf_feR (I (L * x + l + 1)) 5 4) = true → sf_feQ 5 md (sf_feK (I (L * x + (l + 1))) 5 0) (sf_feK (I (L * x + (l + 1))) 5 1) (sf_feK (I (L * x + (l + 1))) 5 2) (sf_feK (I (L * x + (l + 1))) 5 3) (sf_feK (I (L * x + (l + 1))) 5 4) = true := fun x hx md h => by
    have h5 : L * 5 ≤ L * x := Nat.mul_le_mul_left L hx
    have hi := sf_fe_inj P (hall (L * x + l + 1) (by omega))
    exact sf_feQ_of (fun p q hp hq h => sf_feR_ne hi hp hq h) h
  have top : ∀ x q, q < 5 → ¬ q = D (L * x + l + 1) → sf_feR (I (L * x + l + 1)) 5 q < sf_feR (I (L * x + l + 1)) 5 (D (L * x + l + 1)) := fun x q hq h => sf_feR_lt hq (sf_fe_last P _ q hq h)
  have const : ∀ t : Nat, t < 5 → (∀ x, D (L * x + l + 1) = t) → ∃ a b, a < b ∧ b ≤ 100 ∧ sf_feB 5 D I (L * a) (L * b) := fun t ht e =>
    sf_fe_pig P hall (md := t) (o := l + 1) (by omega) (sf_feG_five t (by omega)) (fun x hx => key x hx t (sf_feM_top ht (fun q hq h => by
      have := top x q hq (by rw [e x]; exact h)
      rw [e x] at this
      exact this)))
  have sec : ∀ x, 5 ≤ x → ¬ D (L * x + l) = D (L * x + l + 1) → ∀ q, q < 5 → ¬ q = D (L * x + l + 1) → ¬ q = D (L * x + l) → sf_feR (I (L * x + l + 1)) 5 q < sf_feR (I (L * x + l + 1)) 5 (D (L * x + l)) := fun x hx hd q hq h g => by
    have h5 : L * 5 ≤ L * x := Nat.mul_le_mul_left L hx
    exact sf_feR_lt hq (sf_fe_last2 P (hall (L * x + l) (by omega)) hd q hq h g)
  unfold sf_ch sf_pln at hc
  have : lk l = 0 ∨ lk l = 1 ∨ lk l = 2 ∨ lk l = 5 ∨ lk l = 6 := by omega
  rcases this with e | e | e | e | e
  · simp (decide := true) only [e, if_true, if_false] at hc
    exact const (pq l).toNat (by omega) (fun x => by have := hc x; omega)
  · simp (decide := true) only [e, if_true, if_false] at hc
    refine sf_fe_pig P hall (md := 5) (o := l + 1) (by omega) (sf_feG_five 5 (by omega)) (fun x hx => key x hx 5 ?_)
    have c := hc x
    have d5 := P.d (L * x + l)
    have ht : D (L * x + l + 1) = if D (L * x + l) + 1 < 5 then D (L * x + l) + 1 else 0 := by
      split at c <;> split <;> omega
    have hne : ¬ D (L * x + l) = D (L * x + l + 1) := by
      rw [ht]; split <;> omega
    exact sf_feM_next d5 ht (top x) (sec x hx hne)
  · simp (decide := true) only [e, if_true, if_false] at hc
    exact const 0 (by omega) (fun x => by have := hc x; omega)
  · simp (decide := true) only [e, if_true, if_false] at hc
    refine sf_fe_pig P hall (md := 6) (o := l + 1) (by omega) (sf_feG_five 6 (by omega)) (fun x hx => key x hx 6 ?_)
    have c := hc x
    have d5 := P.d (L * x + l)
    have ht : D (L * x + l + 1) = if 0 < D (L * x + l) then D (L * x + l) - 1 else 4 := by
      split at c <;> split <;> omega
    have hne : ¬ D (L * x + l) = D (L * x + l + 1) := by
      rw [ht]; split <;> omega
    exact sf_feM_prev d5 ht (top x) (sec x hx hne)
  · simp (decide := true) only [e, if_true, if_false] at hc
    refine const (if pq l + 1 < 5 then pq l + 1 else 0).toNat ?_ (fun x => ?_)
    · split <;> omega
    · have c := hc x
      split at c <;> split <;> omega
/-- the oldest alone: the order turns -/
theorem sf_fe_old (P : sf_fe 5 L D I H lk pq) (hall : ∀ h, L * 5 ≤ h → ∀ p, p < 5 → ¬ I h p = -1) (h34 : ∀ l, l < L → lk l = 3 ∨ lk l = 4) : ∃ a b, a < b ∧ b ≤ 100 ∧ sf_feB 5 D I (L * a) (L * b) := by
  have one : ∀ h, L * 5 ≤ h → ∃ s : Nat, ∀ p, p < 5 → sf_feR (I (h + 1)) 5 p = (sf_feR (I h) 5 p + s) % 5 := by
    intro h hh
    have ha := hall h hh
    have hi := sf_fe_inj P ha
    have hc := P.c h
    unfold sf_ch sf_pln at hc
    rcases h34 (h % L) (Nat.mod_lt _ P.L0) with e | e
    · simp (decide := true) only [e, if_true, if_false] at hc
      have ht : D (h + 1) = sf_least (I h) 5 := by omega
      have hmin : ∀ q, q < 5 → ¬ q = D (h + 1) → I h (D (h + 1)) < I h q := fun q hq hne => by
        have := sf_feL_min (s := I h) 5 q hq
        have := hi q hq _ (P.d (h + 1))
        rw [ht] at this hne ⊢
        omega
      refine ⟨4, fun p hp => ?_⟩
      have hb := sf_feR_bd (s := I h) hp
      have hi1 := P.i h
      have hr := sf_fe_r P h
      by_cases ep : p = D (h + 1)
      · have e0 : sf_feR (I h) 5 p = 0 := sf_feC_zero 5 (fun k hk => by
          rw [decide_eq_true_eq]
          by_cases ek : k = p
          · rw [ek]; omega
          · have := hmin k hk (by rw [← ep]; exact ek)
            rw [← ep] at this
            omega)
        have e4 : 5 = sf_feR (I (h + 1)) 5 p + 1 := by
          refine Eq.trans (sf_feC_true 5).symm (sf_feC_rm (t := p) 5 hp rfl ?_ (fun k hk hne => ?_))
          · rw [decide_eq_true_eq]; omega
          · refine Eq.symm ?_
            rw [decide_eq_true_eq]
            have := sf_fe_last P h k hk (by rw [← ep]; exact hne)
            rw [← ep] at this
            exact this
        omega
      · have e1 : sf_feR (I h) 5 p = sf_feR (I (h + 1)) 5 p + 1 := by
          refine sf_feC_rm (t := D (h + 1)) 5 (P.d _) ?_ ?_ (fun k hk hne => ?_)
          · rw [decide_eq_true_eq]; exact hmin p hp ep
          · rw [decide_eq_true_eq]
            have := sf_fe_last P h p hp ep
            omega
          · rw [hi1 k hk, hi1 p hp, if_neg hne, if_neg ep]
        omega
    · simp (decide := true) only [e, if_true, if_false] at hc
      have ht : D (h + 1) = D h := by omega
      refine ⟨0, fun p hp => ?_⟩
      have hb := sf_feR_bd (s := I h) hp
      have hS : sf_feS 5 (I (h + 1)) (I h) := fun p q hp hq => by
        rw [P.i h p hp, P.i h q hq, ht]
        have r1 := sf_fe_r P h p hp
        have r2 := sf_fe_r P h q hq
        have mx : ∀ q, q < 5 → ¬ q = D h → I h q < I h (D h) := fun q hq hne => by
          have m : I h q ≤ I h (D h) := by
            rcases sf_fe_m P h with m | m
            · exact absurd (m _ hq) (ha _ hq)
            · exact m _ hq
          have := hi q hq (D h) (P.d h)
          omega
        by_cases e1 : p = D h
        · rw [if_pos e1]
          by_cases e2 : q = D h
          · rw [if_pos e2, e1, e2]; omega
          · rw [if_neg e2, e1]
            have := mx q hq e2
            omega
        · rw [if_neg e1]
          by_cases e2 : q = D h
          · rw [if_pos e2, e2]
            have := mx p hp e1
            omega
          · rw [if_neg e2]
      rw [sf_feS_rk hS hp]
      omega
  have many : ∀ m h, L * 5 ≤ h → ∃ s : Nat, ∀ p, p < 5 → sf_feR (I (h + m)) 5 p = (sf_feR (I h) 5 p + s) % 5 := by
    intro m h hh
    induction m with
    | zero => exact ⟨0, fun p hp => by have := sf_feR_bd (s := I h) hp; rw [Nat.add_zero]; omega⟩
    | succ m ih =>
      obtain ⟨s, hs⟩ := ih
      obtain ⟨t, ht⟩ := one (h + m) (by omega)
      refine ⟨s + t, fun p hp => ?_⟩
      rw [← Nat.add_assoc, ht p hp, hs p hp]
      omega
  obtain ⟨a, b, hab, hb, e⟩ := sf_pgn (l := List.range 5) (f := fun x => sf_feR (I (L * (x + 5))) 5 0) 6 (by rw [List.length_range]; omega) (fun k _ => List.mem_range.mpr (sf_feR_bd (by omega)))
  have h5 : L * 5 ≤ L * (a + 5) := Nat.mul_le_mul_left L (by omega)
  have hle : L * (a + 5) ≤ L * (b + 5) := Nat.mul_le_mul_left L (by omega)
  obtain ⟨s, hs⟩ := many (L * (b + 5) - L * (a + 5)) (L * (a + 5)) h5
  rw [show L * (a + 5) + (L * (b + 5) - L * (a + 5)) = L * (b + 5) by omega] at hs
  have s0 := hs 0 (by omega)
  have b0 := sf_feR_bd (s := I (L * (a + 5))) (n := 5) (p := 0) (by omega)
  refine sf_fe_end P hall (a := a + 5) (b := b + 5) (o := 0) (by omega) (by omega) (by omega) (by omega) (sf_feS_of (fun p hp => ?_))
  have bp := sf_feR_bd (s := I (L * (a + 5))) hp
  have sp := hs p hp
  show sf_feR (I (L * (a + 5))) 5 p = sf_feR (I (L * (b + 5))) 5 p
  have e : sf_feR (I (L * (a + 5))) 5 0 = sf_feR (I (L * (b + 5))) 5 0 := e
  omega
theorem sf_fe_ex (P : sf_fe n L D I H lk pq) : ∃ a b, a < b ∧ b ≤ 100 ∧ sf_feB n D I (L * a) (L * b) := by
  by_cases h : ∃ l, l < L ∧ lk l = 3
  · obtain ⟨l, hl, h3⟩ := h
    have hall := sf_fe_all P hl h3
    by_cases h5 : n < 5
    · exact sf_fe_few P h5 hall
    · have e : n = 5 := by have := P.n5; omega
      subst e
      by_cases g : ∃ l, l < L ∧ ¬ lk l = 3 ∧ ¬ lk l = 4
      · obtain ⟨l, hl, g3, g4⟩ := g
        exact sf_fe_mix P hall hl g3 g4
      · refine sf_fe_old P hall (fun l hl => ?_)
        by_cases g3 : lk l = 3
        · exact Or.inl g3
        · by_cases g4 : lk l = 4
          · exact Or.inr g4
          · exact absurd ⟨l, hl, g3, g4⟩ g
  · exact sf_fe_noO P (fun j hj e => h ⟨j, hj, e⟩)
/-! what both find -/
/-- both find the same lap -/
theorem sf_fe_lap (P : sf_fe n L D I H lk pq) {i j k r : Nat} (hij : i < j) (hA : sf_feA n D I (L * i) (L * j)) (hAm : ∀ b, b < j → ∀ a, a < b → ¬ sf_feA n D I (L * a) (L * b)) (hkr : k < r) (hB : sf_feB n D I (L * k) (L * r)) (hBm : ∀ b, b < r → ∀ a, a < b → ¬ sf_feB n D I (L * a) (L * b)) : r - k = j - i ∧ i ≤ k := by
  have per : ∀ x, i ≤ x → sf_feA n D I (L * x) (L * (x + (j - i))) := fun x hx => by
    have := sf_fe_per P hA (by rw [Nat.mul_mod_right, Nat.mul_mod_right]) (L * (x - i))
    rw [← Nat.mul_add, ← Nat.mul_add, show i + (x - i) = x by omega, show j + (x - i) = x + (j - i) by omega] at this
    exact this
  have key : ∀ b a, a < b → sf_feA n D I (L * a) (L * b) → i ≤ a ∧ ∃ t, b - a = t * (j - i) := by
    intro b
    induction b using Nat.strongRecOn with
    | _ b ih =>
      intro a hab h
      have hb : j ≤ b := by
        by_cases q : b < j
        · exact absurd h (hAm b q a hab)
        · omega
      have h1 := per (b - (j - i)) (by omega)
      rw [show b - (j - i) + (j - i) = b by omega] at h1
      have h2 := sf_feA_trans h (sf_feA_symm h1)
      by_cases q : a = b - (j - i)
      · exact ⟨by omega, 1, by omega⟩
      · by_cases q2 : a < b - (j - i)
        · obtain ⟨g1, t, g2⟩ := ih (b - (j - i)) (by omega) a q2 h2
          refine ⟨g1, t + 1, ?_⟩
          rw [Nat.add_mul, Nat.one_mul, ← g2]
          omega
        · obtain ⟨g1, t, g2⟩ := ih a hab (b - (j - i)) (by omega) (sf_feA_symm h2)
          refine absurd g2 ?_
          have : t = 0 ∨ 1 ≤ t := by omega
          rcases this with e | e
          · subst e; omega
          · have := Nat.mul_le_mul_right (j - i) e
            omega
  obtain ⟨g1, t, g2⟩ := key r k hkr hB.1
  refine ⟨?_, g1⟩
  have : t = 0 ∨ t = 1 ∨ 2 ≤ t := by omega
  rcases this with e | e | e
  · subst e; omega
  · subst e; omega
  · have t2 := Nat.mul_le_mul_right (j - i) e
    refine absurd ⟨per k g1, fun p hp => ?_⟩ (hBm (k + (j - i)) (by omega) k (by omega))
    refine ⟨fun h => ?_, fun h => ?_⟩
    · have hr := (hB.2 p hp).mp h
      by_cases q : I (L * (k + (j - i))) p = -1
      · exact q
      · have hle : L * (k + (j - i)) ≤ L * r := Nat.mul_le_mul_left L (by omega)
        have := sf_fe_set P hp q (L * r - L * (k + (j - i)))
        rw [show L * (k + (j - i)) + (L * r - L * (k + (j - i))) = L * r by omega] at this
        exact absurd hr this
    · by_cases q : I (L * k) p = -1
      · exact q
      · have hle : L * k ≤ L * (k + (j - i)) := Nat.mul_le_mul_left L (by omega)
        have := sf_fe_set P hp q (L * (k + (j - i)) - L * k)
        rw [show L * k + (L * (k + (j - i)) - L * k) = L * (k + (j - i)) by omega] at this
        exact absurd h this
/-- hours of m from a on in which p is the darling -/
def sf_feW (D : Nat → Nat) (a m p : Nat) : Nat := sf_feC (fun x => decide (D (a + x + 1) = p)) m
theorem sf_fe_cnt (P : sf_fe n L D I H lk pq) {i j k p : Nat} (hij : i < j) (hA : sf_feA n D I (L * i) (L * j)) (hk : i ≤ k) : sf_feW D (L * k) (L * (j - i)) p = sf_feW D (L * i) (L * (j - i)) p := by
  have per : ∀ x, D (L * i + x) = D (L * i + L * (j - i) + x) := fun x => by
    have := (sf_fe_per P hA (by rw [Nat.mul_mod_right, Nat.mul_mod_right]) x).1
    rw [show L * i + L * (j - i) = L * j by rw [← Nat.mul_add]; congr 1; omega]
    exact this
  have slide : ∀ z, sf_feW D (L * i + z) (L * (j - i)) p = sf_feW D (L * i) (L * (j - i)) p := by
    intro z
    induction z with
    | zero => rfl
    | succ z ih =>
      rw [← ih]
      unfold sf_feW
      have f := sf_feC_front (f := fun x => decide (D (L * i + z + x + 1) = p)) (L * (j - i))
      have s : sf_feC (fun x => decide (D (L * i + z + x + 1) = p)) (L * (j - i) + 1) = sf_feC (fun x => decide (D (L * i + z + x + 1) = p)) (L * (j - i)) + (if decide (D (L * i + z + L * (j - i) + 1) = p) = true then 1 else 0) := rfl
      have e0 : D (L * i + z + 0 + 1) = D (L * i + z + L * (j - i) + 1) := by
        have := per (z + 1)
        rw [show L * i + z + 0 + 1 = L * i + (z + 1) by omega, this]
        congr 1
        omega
      have e1 : sf_feC (fun x => decide (D (L * i + (z + 1) + x + 1) = p)) (L * (j - i)) = sf_feC (fun k => (fun x => decide (D (L * i + z + x + 1) = p)) (k + 1)) (L * (j - i)) :=
        sf_feC_congr _ (fun x _ => by
          show decide (D (L * i + (z + 1) + x + 1) = p) = decide (D (L * i + z + (x + 1) + 1) = p)
          rw [show L * i + (z + 1) + x + 1 = L * i + z + (x + 1) + 1 by omega])
      rw [e1]
      have f' : sf_feC (fun x => decide (D (L * i + z + x + 1) = p)) (L * (j - i) + 1) = (if decide (D (L * i + z + 0 + 1) = p) = true then 1 else 0) + sf_feC (fun k => (fun x => decide (D (L * i + z + x + 1) = p)) (k + 1)) (L * (j - i)) := f
      rw [e0] at f'
      omega
  have hle : L * i ≤ L * k := Nat.mul_le_mul_left L hk
  have := slide (L * k - L * i)
  rw [show L * i + (L * k - L * i) = L * k by omega] at this
  exact this
end SFFE4

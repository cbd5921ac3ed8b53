/-! Stove's own methods, over rows -/
def sf_ru (S : Nat → Int) (j : Nat) (v : Int) : Nat → Int := fun k => if k = j then v else S k
section SFST
variable {V : sf_MV} {s : Nat} {S : Nat → Int}
theorem sf_setS_d : sf_setS V s S s 3 = S 0 := by simp [sf_setS]
theorem sf_setS_l : sf_setS V s S s 4 = S 1 := by simp [sf_setS]
theorem sf_setS_h : sf_setS V s S s 5 = S 2 := by simp [sf_setS]
theorem sf_setS_w {k : Nat} (h : k < 5) : sf_setS V s S (sf_wa s) k = S (k + 4) := by
  obtain ⟨a1, a2, a3, a4, a5, a6⟩ := sf_apart1 s
  simp [sf_setS, Ne.symm a1, h]
theorem sf_setS_i {k : Nat} (h : k < 5) : sf_setS V s S (sf_si s) k = S (k + 9) := by
  obtain ⟨a1, a2, a3, a4, a5, a6⟩ := sf_apart1 s
  simp [sf_setS, Ne.symm a2, Ne.symm a4, h]
theorem sf_setS_r {k : Nat} (h : k < 6) : sf_setS V s S (sf_la s) k = S (k + 14) := by
  obtain ⟨a1, a2, a3, a4, a5, a6⟩ := sf_apart1 s
  simp [sf_setS, Ne.symm a3, Ne.symm a5, Ne.symm a6, h]
theorem sf_setS_ne {a : Nat} (h1 : a ≠ s) (h2 : a ≠ sf_wa s) (h3 : a ≠ sf_si s) (h4 : a ≠ sf_la s) : sf_setS V s S a = V a := by
  funext k
  simp [sf_setS, h1, h2, h3, h4]
theorem sf_getS_w {k : Nat} (h : k < 5) : sf_getS V s (k + 4) = V (sf_wa s) k := by
  unfold sf_getS
  rw [if_neg (by omega), if_neg (by omega), if_pos (by omega), Nat.add_sub_cancel]
theorem sf_getS_i {k : Nat} (h : k < 5) : sf_getS V s (k + 9) = V (sf_si s) k := by
  unfold sf_getS
  rw [if_neg (by omega), if_neg (by omega), if_neg (by omega), if_pos (by omega), Nat.add_sub_cancel]
theorem sf_getS_r {k : Nat} (h : k < 6) : sf_getS V s (k + 14) = V (sf_la s) k := by
  unfold sf_getS
  rw [if_neg (by omega), if_neg (by omega), if_neg (by omega), if_neg (by omega), if_pos (by omega), Nat.add_sub_cancel]
theorem sf_setS_off {T : Nat → Int} {a k : Nat} (h0 : ∀ i, i < 3 → a = s → i + 3 = k → S i = T i) (h1 : ∀ i, i < 5 → a = sf_wa s → i = k → S (i + 4) = T (i + 4)) (h2 : ∀ i, i < 5 → a = sf_si s → i = k → S (i + 9) = T (i + 9)) (h3 : ∀ i, i < 6 → a = sf_la s → i = k → S (i + 14) = T (i + 14)) : sf_setS V s S a k = sf_setS V s T a k := by
  unfold sf_setS
  split
  · rename_i h; exact h0 _ (by omega) h.1 (by omega)
  split
  · rename_i h; exact h1 _ h.2 h.1 rfl
  split
  · rename_i h; exact h2 _ h.2 h.1 rfl
  split
  · rename_i h; exact h3 _ h.2 h.1 rfl
  rfl
theorem sf_setS_get : sf_setS V s (sf_getS V s) = V := by
  obtain ⟨a1, a2, a3, a4, a5, a6⟩ := sf_apart1 s
  funext a k
  unfold sf_setS
  split
  · rename_i h
    obtain ⟨rfl, h1, h2⟩ := h
    have : k = 3 ∨ k = 4 ∨ k = 5 := by omega
    rcases this with rfl | rfl | rfl <;> simp [sf_getS]
  split
  · rename_i h
    obtain ⟨rfl, h1⟩ := h
    exact sf_getS_w h1
  split
  · rename_i h
    obtain ⟨rfl, h1⟩ := h
    exact sf_getS_i h1
  split
  · rename_i h
    obtain ⟨rfl, h1⟩ := h
    exact sf_getS_r h1
  rfl
theorem sf_getS_set {k : Nat} (h : k < 20) (h3 : k ≠ 3) : sf_getS (sf_setS V s S) s k = S k := by
  unfold sf_getS
  by_cases e0 : k < 3
  · have : k = 0 ∨ k = 1 ∨ k = 2 := by omega
    rcases this with rfl | rfl | rfl <;> simp [sf_setS]
  rw [if_neg e0, if_neg (by omega)]
  by_cases e1 : k < 9
  · rw [if_pos e1, sf_setS_w (by omega)]; congr 1; omega
  rw [if_neg e1]
  by_cases e2 : k < 14
  · rw [if_pos e2, sf_setS_i (by omega)]; congr 1; omega
  rw [if_neg e2, if_pos h, sf_setS_r (by omega)]
  congr 1
  omega
theorem sf_setS_set {T : Nat → Int} : sf_setS (sf_setS V s S) s T = sf_setS V s T := by
  funext a k
  unfold sf_setS
  repeat (first | rfl | split)
theorem sf_setS_ext {T : Nat → Int} (h : ∀ k, k < 20 → k ≠ 3 → S k = T k) : sf_setS V s S = sf_setS V s T := by
  funext a k
  unfold sf_setS
  split
  · exact h _ (by omega) (by omega)
  split
  · exact h _ (by omega) (by omega)
  split
  · exact h _ (by omega) (by omega)
  split
  · exact h _ (by omega) (by omega)
  rfl
theorem sf_setS_ud {v : Int} : sf_upd (sf_setS V s S) s 3 v = sf_setS V s (sf_ru S 0 v) := by
  funext a k
  by_cases e : a = s ∧ k = 3
  · obtain ⟨rfl, rfl⟩ := e
    rw [sf_upd_eq]
    rw [sf_setS_d]; simp [sf_ru]
  · have : sf_upd (sf_setS V s S) s 3 v a k = sf_setS V s S a k := by unfold sf_upd; rw [if_neg e]
    rw [this]
    apply sf_setS_off
    · intro i h1 h2 h3
      unfold sf_ru
      rw [if_neg (by intro h4; exact e ⟨h2, by omega⟩)]
    · intro i h1 h2 h3
      unfold sf_ru
      rw [if_neg (by omega)]
    · intro i h1 h2 h3
      unfold sf_ru
      rw [if_neg (by omega)]
    · intro i h1 h2 h3
      unfold sf_ru
      rw [if_neg (by omega)]
theorem sf_setS_ul {v : Int} : sf_upd (sf_setS V s S) s 4 v = sf_setS V s (sf_ru S 1 v) := by
  funext a k
  by_cases e : a = s ∧ k = 4
  · obtain ⟨rfl, rfl⟩ := e
    rw [sf_upd_eq]
    rw [sf_setS_l]; simp [sf_ru]
  · have : sf_upd (sf_setS V s S) s 4 v a k = sf_setS V s S a k := by unfold sf_upd; rw [if_neg e]
    rw [this]
    apply sf_setS_off
    · intro i h1 h2 h3
      unfold sf_ru
      rw [if_neg (by intro h4; exact e ⟨h2, by omega⟩)]
    · intro i h1 h2 h3
      unfold sf_ru
      rw [if_neg (by omega)]
    · intro i h1 h2 h3
      unfold sf_ru
      rw [if_neg (by omega)]
    · intro i h1 h2 h3
      unfold sf_ru
      rw [if_neg (by omega)]
theorem sf_setS_uh {v : Int} : sf_upd (sf_setS V s S) s 5 v = sf_setS V s (sf_ru S 2 v) := by
  funext a k
  by_cases e : a = s ∧ k = 5
  · obtain ⟨rfl, rfl⟩ := e
    rw [sf_upd_eq]
    rw [sf_setS_h]; simp [sf_ru]
  · have : sf_upd (sf_setS V s S) s 5 v a k = sf_setS V s S a k := by unfold sf_upd; rw [if_neg e]
    rw [this]
    apply sf_setS_off
    · intro i h1 h2 h3
      unfold sf_ru
      rw [if_neg (by intro h4; exact e ⟨h2, by omega⟩)]
    · intro i h1 h2 h3
      unfold sf_ru
      rw [if_neg (by omega)]
    · intro i h1 h2 h3
      unfold sf_ru
      rw [if_neg (by omega)]
    · intro i h1 h2 h3
      unfold sf_ru
      rw [if_neg (by omega)]
theorem sf_setS_uw {j : Nat} {v : Int} (hj : j < 5) : sf_upd (sf_setS V s S) (sf_wa s) j v = sf_setS V s (sf_ru S (j + 4) v) := by
  funext a k
  by_cases e : a = (sf_wa s) ∧ k = j
  · obtain ⟨rfl, rfl⟩ := e
    rw [sf_upd_eq]
    rw [sf_setS_w hj]; simp [sf_ru]
  · have : sf_upd (sf_setS V s S) (sf_wa s) j v a k = sf_setS V s S a k := by unfold sf_upd; rw [if_neg e]
    rw [this]
    apply sf_setS_off
    · intro i h1 h2 h3
      unfold sf_ru
      rw [if_neg (by omega)]
    · intro i h1 h2 h3
      unfold sf_ru
      rw [if_neg (by intro h4; exact e ⟨h2, by omega⟩)]
    · intro i h1 h2 h3
      unfold sf_ru
      rw [if_neg (by omega)]
    · intro i h1 h2 h3
      unfold sf_ru
      rw [if_neg (by omega)]
theorem sf_setS_ui {j : Nat} {v : Int} (hj : j < 5) : sf_upd (sf_setS V s S) (sf_si s) j v = sf_setS V s (sf_ru S (j + 9) v) := by
  funext a k
  by_cases e : a = (sf_si s) ∧ k = j
  · obtain ⟨rfl, rfl⟩ := e
    rw [sf_upd_eq]
    rw [sf_setS_i hj]; simp [sf_ru]
  · have : sf_upd (sf_setS V s S) (sf_si s) j v a k = sf_setS V s S a k := by unfold sf_upd; rw [if_neg e]
    rw [this]
    apply sf_setS_off
    · intro i h1 h2 h3
      unfold sf_ru
      rw [if_neg (by omega)]
    · intro i h1 h2 h3
      unfold sf_ru
      rw [if_neg (by omega)]
    · intro i h1 h2 h3
      unfold sf_ru
      rw [if_neg (by intro h4; exact e ⟨h2, by omega⟩)]
    · intro i h1 h2 h3
      unfold sf_ru
      rw [if_neg (by omega)]
theorem sf_setS_ur {j : Nat} {v : Int} (hj : j < 6) : sf_upd (sf_setS V s S) (sf_la s) j v = sf_setS V s (sf_ru S (j + 14) v) := by
  funext a k
  by_cases e : a = (sf_la s) ∧ k = j
  · obtain ⟨rfl, rfl⟩ := e
    rw [sf_upd_eq]
    rw [sf_setS_r hj]; simp [sf_ru]
  · have : sf_upd (sf_setS V s S) (sf_la s) j v a k = sf_setS V s S a k := by unfold sf_upd; rw [if_neg e]
    rw [this]
    apply sf_setS_off
    · intro i h1 h2 h3
      unfold sf_ru
      rw [if_neg (by omega)]
    · intro i h1 h2 h3
      unfold sf_ru
      rw [if_neg (by omega)]
    · intro i h1 h2 h3
      unfold sf_ru
      rw [if_neg (by omega)]
    · intro i h1 h2 h3
      unfold sf_ru
      rw [if_neg (by intro h4; exact e ⟨h2, by omega⟩)]
end SFST
def sf_pln (k p d n : Int) : Int := if k = 0 then p else if k = 1 then (if d + 1 < n then d + 1 else 0) else if k = 5 then (if 0 < d then d - 1 else n - 1) else if k = 6 then (if p + 1 < n then p + 1 else 0) else d
theorem s41 {d : Nat} {V : sf_M} {k p l n : Int} {K : Option sf_V → sf_M → Prop} (hp : -9 ≤ p ∧ p ≤ 9) (hl : -9 ≤ l ∧ l ≤ 9) (hn : -9 ≤ n ∧ n ≤ 9) : sf_wp d none 41 0 [some (.inl k), some (.inl p), some (.inl l), some (.inl n)] [] V K = K (some (.inl (sf_pln k p l n))) V := by
  simp only [q41_0, q41_1, q41_44, q41_45, q41_46, q41_47, q41_48, q41_49, q41_50, q41_53, q41_54, q41_55, q41_56, q41_59, q41_60, q41_61, q41_62, q41_65, q41_66, q41_67, q41_68, q41_71, q41_72, q41_73, q41_74, q41_75, q41_76, q41_77, q41_78, q41_79, q41_82, q41_83, q41_84, q41_85, q41_88, q41_89, q41_90, q41_91]
  rw [sf_w_of (n := l + 1) ⟨by omega, by omega⟩, sf_w_of (n := p + 1) ⟨by omega, by omega⟩, sf_w_of (n := l - 1) ⟨by omega, by omega⟩, sf_w_of (n := n - 1) ⟨by omega, by omega⟩]
  unfold sf_pln
  by_cases h0 : k = 0
  · rw [if_pos h0, if_pos h0]
  rw [if_neg h0, if_neg h0]
  by_cases h1 : k = 1
  · rw [if_pos h1, if_pos h1]
    by_cases h2 : n ≤ l + 1
    · rw [if_pos h2, if_neg (by omega)]
    · rw [if_neg h2, if_pos (by omega)]
  rw [if_neg h1, if_neg h1]
  by_cases h5 : k = 5
  · subst h5
    simp only [Int.reduceEq, if_false, if_true]
    by_cases h2 : l ≤ 0
    · rw [if_pos h2, if_neg (by omega)]
    · rw [if_neg h2, if_pos (by omega)]
  by_cases h6 : k = 6
  · subst h6
    simp only [Int.reduceEq, if_false, if_true]
    by_cases h2 : n ≤ p + 1
    · rw [if_pos h2, if_neg (by omega)]
    · rw [if_neg h2, if_pos (by omega)]
  rw [if_neg h5, if_neg h6]
  simp only [h5, h6, if_false, ite_self]
/-- the first of the least of f 0 .. f (m - 1) -/
def sf_least (f : Nat → Int) : Nat → Nat
  | 0 => 0
  | m + 1 => if m = 0 then 0 else if f m < f (sf_least f m) then m else sf_least f m
theorem sf_least_lt (f : Nat → Int) : ∀ m, sf_least f m ≤ m - 1
  | 0 => Nat.le_refl _
  | m + 1 => by
    have := sf_least_lt f m
    unfold sf_least
    split
    · omega
    · split <;> omega
theorem sf_least_congr {f g : Nat → Int} : ∀ m, (∀ j, j < m → f j = g j) → sf_least f m = sf_least g m
  | 0, _ => rfl
  | m + 1, h => by
    have ih := sf_least_congr m (fun j hj => h j (by omega))
    have := sf_least_lt g m
    unfold sf_least
    by_cases h0 : m = 0
    · rw [if_pos h0, if_pos h0]
    · rw [if_neg h0, if_neg h0, ih, h m (by omega), h (sf_least g m) (by omega)]
theorem s42_loop {d r N : Nat} {V : sf_MV} {K : Option sf_V → sf_M → Prop} (h : sf_cls r = 7) (hN : N ≤ sf_len (sf_rf r 0)) : ∀ (m p : Nat), N - p = m → 1 ≤ p → (p ≤ N ∨ (N = 0 ∧ p = 1)) →
    sf_wp (d + 1) none 42 4 [some (.inr (.inl (some r))), some (.inl (N : Int)), some (.inl (sf_least (V (sf_rf r 0)) p : Int)), some (.inl (p : Int))] [] (sf_E V) K = K (some (.inl (sf_least (V (sf_rf r 0)) N : Int))) (sf_E V) := by
  have hle := sf_len_le (sf_rf r 0)
  intro m
  induction m with
  | zero =>
    intro p hm h1 hp
    simp only [q42_4, q42_5, q42_6, q42_30, q42_31]
    rw [if_pos (by omega)]
    have : sf_least (V (sf_rf r 0)) p = sf_least (V (sf_rf r 0)) N := by
      rcases hp with hp | ⟨h0, hp⟩
      · rw [show p = N by omega]
      · subst h0; subst hp; rfl
    rw [this]
  | succ m ih =>
    intro p hm h1 hp
    have hlt := sf_least_lt (V (sf_rf r 0)) p
    simp only [q42_4, q42_5, q42_6, q42_9, q42_10, q42_11, q42_14, q42_15, q42_16, q42_19, q42_22, q42_23, q42_24, h, s31, Option.toList_some, Option.toList_none, List.cons_append, List.nil_append]
    rw [if_neg (by omega), sf_rd_nat (by omega), sf_rd_nat (by omega)]
    have e : sf_least (V (sf_rf r 0)) (p + 1) = if V (sf_rf r 0) p < V (sf_rf r 0) (sf_least (V (sf_rf r 0)) p) then p else sf_least (V (sf_rf r 0)) p := by
      rw [sf_least, if_neg (by omega)]
    have ih2 := ih (p + 1) (by omega) (by omega) (by omega)
    rw [sf_wS (by omega)]
    by_cases hc : V (sf_rf r 0) (sf_least (V (sf_rf r 0)) p) ≤ V (sf_rf r 0) p
    · rw [if_pos hc]
      rw [e, if_neg (by omega)] at ih2
      rw [q42_27]
      exact ih2
    · rw [if_neg hc]
      rw [e, if_pos (by omega)] at ih2
      rw [q42_27]
      exact ih2
theorem s42 {d r N : Nat} {V : sf_MV} {K : Option sf_V → sf_M → Prop} (h : sf_cls r = 7) (hN : N ≤ sf_len (sf_rf r 0)) : sf_wp (d + 1) none 42 0 [some (.inr (.inl (some r))), some (.inl (N : Int)), none, none] [] (sf_E V) K = K (some (.inl (sf_least (V (sf_rf r 0)) N : Int))) (sf_E V) := by
  simp only [q42_0, q42_1, q42_2, q42_3]
  exact s42_loop h hN (N - 1) 1 rfl (by omega) (by omega)

/-! pigeonhole -/
theorem sf_pgn {l : List Nat} {f : Nat → Nat} : ∀ N, l.length < N → (∀ k, k < N → f k ∈ l) → ∃ a b, a < b ∧ b < N ∧ f a = f b := by
  intro N
  induction N generalizing l with
  | zero => intro h; exact absurd h (by omega)
  | succ N ih =>
    intro h hf
    by_cases hx : ∃ a, a < N ∧ f a = f N
    · obtain ⟨a, ha, e⟩ := hx
      exact ⟨a, N, ha, by omega, e⟩
    · have hm := hf N (by omega)
      obtain ⟨a, b, h1, h2, h3⟩ := ih (l := l.erase (f N)) (by
        rw [List.length_erase_of_mem hm]
        have : 0 < l.length := List.length_pos_of_mem hm
        omega) (fun k hk => (List.mem_erase_of_ne (fun e => hx ⟨k, hk, e⟩)).mpr (hf k (by omega)))
      exact ⟨a, b, h1, by omega, h3⟩
/-! counting -/
def sf_feC (f : Nat → Bool) : Nat → Nat
  | 0 => 0
  | m + 1 => sf_feC f m + (if f m = true then 1 else 0)
theorem sf_feC_le {f g : Nat → Bool} : ∀ m, (∀ k, k < m → f k = true → g k = true) → sf_feC f m ≤ sf_feC g m := by
  intro m
  induction m with
  | zero => intro _; exact Nat.le_refl _
  | succ m ih =>
    intro h
    have h1 := ih (fun k hk => h k (by omega))
    have h2 := h m (by omega)
    unfold sf_feC
    by_cases e : f m = true
    · rw [if_pos e, if_pos (h2 e)]; omega
    · rw [if_neg e]; omega
theorem sf_feC_lt {f g : Nat → Bool} {j : Nat} : ∀ m, (∀ k, k < m → f k = true → g k = true) → j < m → ¬ f j = true → g j = true → sf_feC f m < sf_feC g m := by
  intro m
  induction m with
  | zero => intro _ h; exact absurd h (by omega)
  | succ m ih =>
    intro h hj h1 h2
    by_cases e : j = m
    · subst e
      have h3 := sf_feC_le j (fun k hk => h k (by omega))
      unfold sf_feC
      rw [if_neg h1, if_pos h2]; omega
    · have h3 := ih (fun k hk => h k (by omega)) (by omega) h1 h2
      have h4 := h m (by omega)
      unfold sf_feC
      by_cases e : f m = true
      · rw [if_pos e, if_pos (h4 e)]; omega
      · rw [if_neg e]; omega
theorem sf_feC_congr {f g : Nat → Bool} : ∀ m, (∀ k, k < m → f k = g k) → sf_feC f m = sf_feC g m := by
  intro m
  induction m with
  | zero => intro _; rfl
  | succ m ih =>
    intro h
    unfold sf_feC
    rw [ih (fun k hk => h k (by omega)), h m (by omega)]
theorem sf_feC_rm {f g : Nat → Bool} {t : Nat} : ∀ m, t < m → f t = true → ¬ g t = true → (∀ k, k < m → ¬ k = t → f k = g k) → sf_feC f m = sf_feC g m + 1 := by
  intro m
  induction m with
  | zero => intro h; exact absurd h (by omega)
  | succ m ih =>
    intro ht h1 h2 h
    unfold sf_feC
    by_cases e : t = m
    · subst e
      rw [sf_feC_congr t (fun k hk => h k (by omega) (by omega)), if_pos h1, if_neg h2]
    · rw [ih (by omega) h1 h2 (fun k hk => h k (by omega)), h m (by omega) (by omega)]
      omega
theorem sf_feC_true : ∀ m, sf_feC (fun _ => true) m = m
  | 0 => rfl
  | m + 1 => by unfold sf_feC; rw [sf_feC_true m, if_pos rfl]
theorem sf_feC_zero {f : Nat → Bool} : ∀ m, (∀ k, k < m → ¬ f k = true) → sf_feC f m = 0 := by
  intro m
  induction m with
  | zero => intro _; rfl
  | succ m ih =>
    intro h
    unfold sf_feC
    rw [ih (fun k hk => h k (by omega)), if_neg (h m (by omega))]
theorem sf_feC_front {f : Nat → Bool} : ∀ m, sf_feC f (m + 1) = (if f 0 = true then 1 else 0) + sf_feC (fun k => f (k + 1)) m
  | 0 => by simp [sf_feC]
  | m + 1 => by
    rw [sf_feC, sf_feC_front m, sf_feC]
    omega
theorem sf_feC_bd {f : Nat → Bool} (m : Nat) : sf_feC f m ≤ m := by
  have := sf_feC_le (f := f) (g := fun _ => true) m (fun _ _ _ => rfl)
  rw [sf_feC_true] at this
  exact this
/-! ranks -/
def sf_feR (s : Nat → Int) (n p : Nat) : Nat := sf_feC (fun q => decide (s q < s p)) n
def sf_feS (n : Nat) (s u : Nat → Int) : Prop := ∀ p q, p < n → q < n → (s p < s q ↔ u p < u q)
section SFFE1
variable {n : Nat} {s u v : Nat → Int}
theorem sf_feR_lt {p q : Nat} (hp : p < n) (h : s p < s q) : sf_feR s n p < sf_feR s n q := by
  refine sf_feC_lt (j := p) n (fun k _ e => ?_) hp ?_ ?_
  · rw [decide_eq_true_eq] at e ⊢; omega
  · rw [decide_eq_true_eq]; omega
  · rw [decide_eq_true_eq]; exact h
theorem sf_feR_le {p q : Nat} (h : s p ≤ s q) : sf_feR s n p ≤ sf_feR s n q := by
  refine sf_feC_le n (fun k _ e => ?_)
  rw [decide_eq_true_eq] at e ⊢; omega
theorem sf_feR_iff {p q : Nat} (hp : p < n) : s p < s q ↔ sf_feR s n p < sf_feR s n q := by
  refine ⟨fun h => sf_feR_lt hp h, fun h => ?_⟩
  by_cases e : s p < s q
  · exact e
  · have := sf_feR_le (n := n) (show s q ≤ s p by omega)
    omega
theorem sf_feR_bd {p : Nat} (hp : p < n) : sf_feR s n p < n := by
  have := sf_feC_lt (f := fun q => decide (s q < s p)) (g := fun _ => true) (j := p) n (fun _ _ _ => rfl) hp (by rw [decide_eq_true_eq]; omega) rfl
  rw [sf_feC_true] at this
  exact this
theorem sf_feS_of (h : ∀ p, p < n → sf_feR s n p = sf_feR u n p) : sf_feS n s u := fun p q hp hq => by
  rw [sf_feR_iff hp, sf_feR_iff hp, h p hp, h q hq]
theorem sf_feS_rk (h : sf_feS n s u) {p : Nat} (hp : p < n) : sf_feR s n p = sf_feR u n p :=
  sf_feC_congr n (fun k hk => decide_eq_decide.mpr (h k p hk hp))
theorem sf_feS_symm (h : sf_feS n s u) : sf_feS n u s := fun p q hp hq => (h p q hp hq).symm
theorem sf_feS_trans (h : sf_feS n s u) (g : sf_feS n u v) : sf_feS n s v := fun p q hp hq => (h p q hp hq).trans (g p q hp hq)
theorem sf_feS_least (h : sf_feS n s u) : ∀ m, m ≤ n → sf_least s m = sf_least u m := by
  intro m
  induction m with
  | zero => intro _; rfl
  | succ m ih =>
    intro hm
    have ih := ih (by omega)
    unfold sf_least
    by_cases e : m = 0
    · rw [if_pos e, if_pos e]
    · rw [if_neg e, if_neg e, ih]
      have hl := sf_least_lt u m
      have := h m (sf_least u m) (by omega) (by omega)
      by_cases g : s m < s (sf_least u m)
      · rw [if_pos g, if_pos (this.mp g)]
      · rw [if_neg g, if_neg (fun z => g (this.mpr z))]
theorem sf_feL_min : ∀ m p, p < m → s (sf_least s m) ≤ s p := by
  intro m
  induction m with
  | zero => intro p h; exact absurd h (by omega)
  | succ m ih =>
    intro p hp
    unfold sf_least
    by_cases e : m = 0
    · rw [if_pos e, show p = 0 by omega]; exact Int.le_refl _
    · rw [if_neg e]
      by_cases g : s m < s (sf_least s m)
      · rw [if_pos g]
        by_cases q : p = m
        · rw [q]; exact Int.le_refl _
        · have := ih p (by omega)
          omega
      · rw [if_neg g]
        by_cases q : p = m
        · rw [q]; omega
        · exact ih p (by omega)
end SFFE1
/-- whom it likes, all warmth alike -/
def sf_ch (n : Nat) (k p : Int) (d : Nat) (s : Nat → Int) : Int := if k = 2 then 0 else if k = 3 then (sf_least s n : Int) else sf_pln k p (d : Int) n
/-- hours of a book of L lines: D the darling behind h hours, I since when -/
def sf_fe (n L : Nat) (D : Nat → Nat) (I : Nat → Nat → Int) (H : Int) (lk pq : Nat → Int) : Prop := (0 < n) ∧ (n ≤ 5) ∧ (0 < L) ∧ (0 ≤ H) ∧ (∀ h, D h < n) ∧ (∀ h p, p < n → I (h + 1) p = if p = D (h + 1) then H + (h : Int) else I h p) ∧ (∀ p, p < n → -1 ≤ I 0 p ∧ I 0 p < H) ∧ (∀ p, p < n → ∀ q, q < n → I 0 p = I 0 q → p = q ∨ I 0 p = -1) ∧ ((∀ p, p < n → I 0 p = -1) ∨ ∀ p, p < n → I 0 p ≤ I 0 (D 0)) ∧ (∀ h, (D (h + 1) : Int) = sf_ch n (lk (h % L)) (pq (h % L)) (D h) (I h)) ∧ (∀ j, j < L → 0 ≤ lk j ∧ lk j ≤ 6) ∧ (∀ j, j < L → 0 ≤ pq j ∧ pq j < n)
theorem sf_fe.n0 {n L : Nat} {D : Nat → Nat} {I : Nat → Nat → Int} {H : Int} {lk pq : Nat → Int} (h : sf_fe n L D I H lk pq) : 0 < n := h.1
theorem sf_fe.n5 {n L : Nat} {D : Nat → Nat} {I : Nat → Nat → Int} {H : Int} {lk pq : Nat → Int} (h : sf_fe n L D I H lk pq) : n ≤ 5 := h.2.1
theorem sf_fe.L0 {n L : Nat} {D : Nat → Nat} {I : Nat → Nat → Int} {H : Int} {lk pq : Nat → Int} (h : sf_fe n L D I H lk pq) : 0 < L := h.2.2.1
theorem sf_fe.H0 {n L : Nat} {D : Nat → Nat} {I : Nat → Nat → Int} {H : Int} {lk pq : Nat → Int} (h : sf_fe n L D I H lk pq) : 0 ≤ H := h.2.2.2.1
theorem sf_fe.d {n L : Nat} {D : Nat → Nat} {I : Nat → Nat → Int} {H : Int} {lk pq : Nat → Int} (h : sf_fe n L D I H lk pq) : ∀ h, D h < n := h.2.2.2.2.1
theorem sf_fe.i {n L : Nat} {D : Nat → Nat} {I : Nat → Nat → Int} {H : Int} {lk pq : Nat → Int} (h : sf_fe n L D I H lk pq) : ∀ h p, p < n → I (h + 1) p = if p = D (h + 1) then H + (h : Int) else I h p := h.2.2.2.2.2.1
theorem sf_fe.r {n L : Nat} {D : Nat → Nat} {I : Nat → Nat → Int} {H : Int} {lk pq : Nat → Int} (h : sf_fe n L D I H lk pq) : ∀ p, p < n → -1 ≤ I 0 p ∧ I 0 p < H := h.2.2.2.2.2.2.1
theorem sf_fe.a {n L : Nat} {D : Nat → Nat} {I : Nat → Nat → Int} {H : Int} {lk pq : Nat → Int} (h : sf_fe n L D I H lk pq) : ∀ p, p < n → ∀ q, q < n → I 0 p = I 0 q → p = q ∨ I 0 p = -1 := h.2.2.2.2.2.2.2.1
theorem sf_fe.m {n L : Nat} {D : Nat → Nat} {I : Nat → Nat → Int} {H : Int} {lk pq : Nat → Int} (h : sf_fe n L D I H lk pq) : (∀ p, p < n → I 0 p = -1) ∨ ∀ p, p < n → I 0 p ≤ I 0 (D 0) := h.2.2.2.2.2.2.2.2.1
theorem sf_fe.c {n L : Nat} {D : Nat → Nat} {I : Nat → Nat → Int} {H : Int} {lk pq : Nat → Int} (h : sf_fe n L D I H lk pq) : ∀ h, (D (h + 1) : Int) = sf_ch n (lk (h % L)) (pq (h % L)) (D h) (I h) := h.2.2.2.2.2.2.2.2.2.1
theorem sf_fe.k {n L : Nat} {D : Nat → Nat} {I : Nat → Nat → Int} {H : Int} {lk pq : Nat → Int} (h : sf_fe n L D I H lk pq) : ∀ j, j < L → 0 ≤ lk j ∧ lk j ≤ 6 := h.2.2.2.2.2.2.2.2.2.2.1
theorem sf_fe.p {n L : Nat} {D : Nat → Nat} {I : Nat → Nat → Int} {H : Int} {lk pq : Nat → Int} (h : sf_fe n L D I H lk pq) : ∀ j, j < L → 0 ≤ pq j ∧ pq j < n := h.2.2.2.2.2.2.2.2.2.2.2
theorem sf_fe.mk {n L : Nat} {D : Nat → Nat} {I : Nat → Nat → Int} {H : Int} {lk pq : Nat → Int} (h0 : 0 < n) (h1 : n ≤ 5) (h2 : 0 < L) (h3 : 0 ≤ H) (h4 : ∀ h, D h < n) (h5 : ∀ h p, p < n → I (h + 1) p = if p = D (h + 1) then H + (h : Int) else I h p) (h6 : ∀ p, p < n → -1 ≤ I 0 p ∧ I 0 p < H) (h7 : ∀ p, p < n → ∀ q, q < n → I 0 p = I 0 q → p = q ∨ I 0 p = -1) (h8 : (∀ p, p < n → I 0 p = -1) ∨ ∀ p, p < n → I 0 p ≤ I 0 (D 0)) (h9 : ∀ h, (D (h + 1) : Int) = sf_ch n (lk (h % L)) (pq (h % L)) (D h) (I h)) (h10 : ∀ j, j < L → 0 ≤ lk j ∧ lk j ≤ 6) (h11 : ∀ j, j < L → 0 ≤ pq j ∧ pq j < n) : sf_fe n L D I H lk pq := ⟨h0, h1, h2, h3, h4, h5, h6, h7, h8, h9, h10, h11⟩
def sf_feA (n : Nat) (D : Nat → Nat) (I : Nat → Nat → Int) (a b : Nat) : Prop := D a = D b ∧ sf_feS n (I a) (I b)
def sf_feB (n : Nat) (D : Nat → Nat) (I : Nat → Nat → Int) (a b : Nat) : Prop := sf_feA n D I a b ∧ ∀ p, p < n → (I a p = -1 ↔ I b p = -1)
section SFFE2
variable {n L : Nat} {D : Nat → Nat} {I : Nat → Nat → Int} {H : Int} {lk pq : Nat → Int}
theorem sf_fe_r (P : sf_fe n L D I H lk pq) : ∀ h p, p < n → -1 ≤ I h p ∧ I h p < H + (h : Int) := by
  intro h
  induction h with
  | zero => intro p hp; have := P.r p hp; omega
  | succ h ih =>
    intro p hp
    have h1 := ih p hp
    have := P.H0
    rw [P.i h p hp]
    split <;> omega
theorem sf_fe_a (P : sf_fe n L D I H lk pq) : ∀ h p, p < n → ∀ q, q < n → I h p = I h q → p = q ∨ I h p = -1 := by
  intro h
  induction h with
  | zero => exact P.a
  | succ h ih =>
    intro p hp q hq e
    have h1 := sf_fe_r P h p hp
    have h2 := sf_fe_r P h q hq
    rw [P.i h p hp] at e ⊢
    rw [P.i h q hq] at e
    by_cases e1 : p = D (h + 1)
    · by_cases e2 : q = D (h + 1)
      · exact Or.inl (by rw [e1, e2])
      · rw [if_pos e1, if_neg e2] at e; omega
    · by_cases e2 : q = D (h + 1)
      · rw [if_neg e1, if_pos e2] at e; omega
      · rw [if_neg e1, if_neg e2] at e
        rw [if_neg e1]
        exact ih p hp q hq e
theorem sf_fe_m (P : sf_fe n L D I H lk pq) : ∀ h, (∀ p, p < n → I h p = -1) ∨ ∀ p, p < n → I h p ≤ I h (D h) := by
  intro h
  cases h with
  | zero => exact P.m
  | succ h =>
    refine Or.inr (fun p hp => ?_)
    have h1 := sf_fe_r P h p hp
    rw [P.i h p hp, P.i h _ (P.d _), if_pos rfl]
    split <;> omega
theorem sf_fe_set (P : sf_fe n L D I H lk pq) {h p : Nat} (hp : p < n) (g : ¬ I h p = -1) : ∀ k, ¬ I (h + k) p = -1 := by
  intro k
  induction k with
  | zero => exact g
  | succ k ih =>
    have := P.H0
    rw [show h + (k + 1) = h + k + 1 by omega, P.i _ p hp]
    split
    · omega
    · exact ih
theorem sf_fe_step (P : sf_fe n L D I H lk pq) {a b : Nat} (h : sf_feA n D I a b) (e : a % L = b % L) : sf_feA n D I (a + 1) (b + 1) := by
  obtain ⟨h1, h2⟩ := h
  have hd : D (a + 1) = D (b + 1) := by
    have c1 := P.c a
    have c2 := P.c b
    unfold sf_ch at c1 c2
    rw [e, h1, sf_feS_least h2 n (Nat.le_refl _), ← c2] at c1
    omega
  refine ⟨hd, fun p q hp hq => ?_⟩
  rw [P.i a p hp, P.i a q hq, P.i b p hp, P.i b q hq, hd]
  have r1 := sf_fe_r P a p hp
  have r2 := sf_fe_r P a q hq
  have r3 := sf_fe_r P b p hp
  have r4 := sf_fe_r P b q hq
  by_cases e1 : p = D (b + 1)
  · rw [if_pos e1, if_pos e1]
    by_cases e2 : q = D (b + 1)
    · rw [if_pos e2, if_pos e2]; omega
    · rw [if_neg e2, if_neg e2]; omega
  · rw [if_neg e1, if_neg e1]
    by_cases e2 : q = D (b + 1)
    · rw [if_pos e2, if_pos e2]; omega
    · rw [if_neg e2, if_neg e2]
      exact h2 p q hp hq
theorem sf_fe_per (P : sf_fe n L D I H lk pq) {a b : Nat} (h : sf_feA n D I a b) (e : a % L = b % L) : ∀ k, sf_feA n D I (a + k) (b + k) := by
  intro k
  induction k with
  | zero => exact h
  | succ k ih => exact sf_fe_step P ih (show (a + k) % L = (b + k) % L by rw [Nat.add_mod a k L, Nat.add_mod b k L, e])
theorem sf_feA_symm {a b : Nat} (h : sf_feA n D I a b) : sf_feA n D I b a := ⟨h.1.symm, sf_feS_symm h.2⟩
theorem sf_feA_trans {a b c : Nat} (h : sf_feA n D I a b) (g : sf_feA n D I b c) : sf_feA n D I a c := ⟨h.1.trans g.1, sf_feS_trans h.2 g.2⟩
theorem sf_fe_win (P : sf_fe n L D I H lk pq) {a b : Nat} (hab : a ≤ b) : ∀ m, (∀ k, k < m → D (a + k + 1) = D (b + k + 1)) → ∀ p, p < n → (I (a + m) p = I a p ∧ I (b + m) p = I b p) ∨ (H + (a : Int) ≤ I (a + m) p ∧ I (b + m) p = I (a + m) p + ((b : Int) - a)) := by
  intro m
  induction m with
  | zero => intro _ p hp; exact Or.inl ⟨rfl, rfl⟩
  | succ m ih =>
    intro h p hp
    have h1 := ih (fun k hk => h k (by omega)) p hp
    rw [show a + (m + 1) = a + m + 1 by omega, show b + (m + 1) = b + m + 1 by omega, P.i (a + m) p hp, P.i (b + m) p hp, h m (by omega)]
    by_cases e : p = D (b + m + 1)
    · rw [if_pos e, if_pos e]
      exact Or.inr (by omega)
    · rw [if_neg e, if_neg e]
      exact h1
theorem sf_fe_winB (P : sf_fe n L D I H lk pq) {a m : Nat} (hm : 0 < m) (h : ∀ k, k < m → D (a + k + 1) = D (a + m + k + 1)) : sf_feB n D I (a + m) (a + m + m) := by
  have w := sf_fe_win P (show a ≤ a + m by omega) m h
  have hd := h (m - 1) (by omega)
  rw [show a + (m - 1) + 1 = a + m by omega, show a + m + (m - 1) + 1 = a + m + m by omega] at hd
  have H0 := P.H0
  refine ⟨⟨hd, fun p q hp hq => ?_⟩, fun p hp => ?_⟩
  · have w1 := w p hp
    have w2 := w q hq
    have r1 := sf_fe_r P a p hp
    have r2 := sf_fe_r P a q hq
    omega
  · have w1 := w p hp
    omega
/-- no law 3 -/
theorem sf_fe_noO (P : sf_fe n L D I H lk pq) (hno : ∀ j, j < L → ¬ lk j = 3) : ∃ a b, a < b ∧ b ≤ 100 ∧ sf_feB n D I (L * a) (L * b) := by
  have hst : ∀ a b, D a = D b → a % L = b % L → D (a + 1) = D (b + 1) := fun a b h e => by
    have c1 := P.c a
    have c2 := P.c b
    have n3 := hno (b % L) (Nat.mod_lt _ P.L0)
    unfold sf_ch at c1 c2
    rw [e, h, if_neg n3] at c1
    rw [if_neg n3, ← c1] at c2
    omega
  have hn := P.n5
  obtain ⟨x, y, hxy, hy, e⟩ := sf_pgn (l := List.range n) (f := fun x => D (L * x)) (n + 1) (by rw [List.length_range]; omega) (fun k _ => List.mem_range.mpr (P.d _))
  have hk : ∀ k, D (L * x + k) = D (L * y + k) := by
    intro k
    induction k with
    | zero => exact e
    | succ k ih => exact hst _ _ ih (show (L * x + k) % L = (L * y + k) % L by rw [Nat.add_mod (L * x), Nat.add_mod (L * y), Nat.mul_mod_right, Nat.mul_mod_right])
  have e1 : L * x + L * (y - x) = L * y := by rw [← Nat.mul_add]; congr 1; omega
  have e2 : L * y + L * (y - x) = L * (y + (y - x)) := by rw [Nat.mul_add]
  have B := sf_fe_winB P (a := L * x) (m := L * (y - x)) (Nat.mul_pos P.L0 (by omega)) (fun k _ => by
    rw [e1, Nat.add_assoc, Nat.add_assoc (L * y)]; exact hk _)
  rw [e1, e2] at B
  exact ⟨y, y + (y - x), by omega, by omega, B⟩
end SFFE2

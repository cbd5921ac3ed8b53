/-! plans: the search with and without its short cuts -/
section SFP50
variable {σ : Type} (M : Nat) (lg : Int) (cst dc : Nat → Int) (w : σ → Nat → Bool) (ch : σ → Nat → σ) (al : Nat → σ → Bool)
def sf_upn (pk : Nat → Nat) (k x : Nat) : Nat → Nat := fun j => if j = k then x else pk j
abbrev sf_b3 (t d : Int) (B : Int × Int × (Nat → Nat)) : Prop := B.1 = -1 ∨ t < B.1 ∨ (t = B.1 ∧ d < B.2.1)
def sf_fld {β : Type} (f : Nat → β → β) : Nat → β → β
  | 0, B => B
  | m + 1, B => f m (sf_fld f m B)
def sf_r3 : Nat → Nat → σ → Int → Int → (Nat → Nat) → Int × Int × (Nat → Nat) → Int × Int × (Nat → Nat)
  | 0, _, _, t, d, pk, B => if sf_b3 t d B then (t, d, pk) else B
  | r + 1, k, s, t, d, pk, B => sf_fld (fun x B => if t + cst x ≤ lg ∧ al r (ch s x) = true then sf_r3 r (k + 1) (ch s x) (t + cst x) (d + dc x) (sf_upn pk k x) B else B) M B
def sf_upi (l : Nat → Int) (k : Nat) (v : Int) : Nat → Int := fun j => if j = k then v else l j
/-- the class's way: one thing a person, the first of the fewest logs (w), and only where it can still be better -/
def sf_c4 : Nat → Nat → σ → Int → Int → (Nat → Nat) → Int × Int × (Nat → Nat) → Int × Int × (Nat → Nat)
  | 0, _, _, t, d, pk, _ => (t, d, pk)
  | r + 1, k, s, t, d, pk, B => sf_fld (fun x B => if w s x = true then (if t + cst x ≤ lg ∧ sf_b3 (t + cst x) (d + dc x) B ∧ al r (ch s x) = true then sf_c4 r (k + 1) (ch s x) (t + cst x) (d + dc x) (sf_upn pk k x) B else B) else B) M B
def sf_nb3 : Nat → σ → Int → Int → Int × Int × (Nat → Nat) → Prop
  | 0, _, t, d, B => ¬ sf_b3 t d B
  | r + 1, s, t, d, B => ∀ x, x < M → t + cst x ≤ lg → al r (ch s x) = true → sf_nb3 r (ch s x) (t + cst x) (d + dc x) B
def sf_ge3 (B' B : Int × Int × (Nat → Nat)) : Prop := ∀ t d, ¬ sf_b3 t d B → ¬ sf_b3 t d B'
theorem sf_ge3_refl {B : Int × Int × (Nat → Nat)} : sf_ge3 B B := fun _ _ h => h
theorem sf_ge3_trans {A B C : Int × Int × (Nat → Nat)} (h : sf_ge3 B A) (g : sf_ge3 C B) : sf_ge3 C A := fun t d q => g t d (h t d q)
theorem sf_fld_ge {f : Nat → Int × Int × (Nat → Nat) → Int × Int × (Nat → Nat)} (h : ∀ x B, sf_ge3 (f x B) B) : ∀ m B, sf_ge3 (sf_fld f m B) B
  | 0, _ => sf_ge3_refl
  | m + 1, B => sf_ge3_trans (sf_fld_ge h m B) (h m _)
variable {M lg cst dc w ch al}
theorem sf_r3_ge (hc : ∀ x, 0 ≤ cst x) : ∀ r k s t d pk B, 0 ≤ t → sf_ge3 (sf_r3 M lg cst dc ch al r k s t d pk B) B
  | 0, k, s, t, d, pk, B, ht => by
    unfold sf_r3
    by_cases q : sf_b3 t d B
    · rw [if_pos q]
      intro t' d' h
      show ¬ (t = -1 ∨ t' < t ∨ (t' = t ∧ d' < d))
      unfold sf_b3 at q h
      omega
    · rw [if_neg q]
      exact sf_ge3_refl
  | r + 1, k, s, t, d, pk, B, ht => by
    unfold sf_r3
    refine sf_fld_ge (fun x B => ?_) M B
    show sf_ge3 (if _ then _ else _) B
    by_cases q : t + cst x ≤ lg ∧ al r (ch s x) = true
    · rw [if_pos q]
      have := hc x
      exact sf_r3_ge hc r (k + 1) _ _ _ _ _ (by omega)
    · rw [if_neg q]
      exact sf_ge3_refl
theorem sf_nb3_ge : ∀ r s t d B B', sf_ge3 B' B → sf_nb3 M lg cst dc ch al r s t d B → sf_nb3 M lg cst dc ch al r s t d B'
  | 0, s, t, d, B, B', g, h => g t d h
  | r + 1, s, t, d, B, B', g, h => fun x hx q1 q2 => sf_nb3_ge r _ _ _ _ _ g (h x hx q1 q2)
theorem sf_nb3_le : ∀ r s t d t' d' B, t ≤ t' → d ≤ d' → sf_nb3 M lg cst dc ch al r s t d B → sf_nb3 M lg cst dc ch al r s t' d' B
  | 0, s, t, d, t', d', B, h1, h2, h => by
    have h' : ¬ sf_b3 t d B := h
    show ¬ sf_b3 t' d' B
    unfold sf_b3 at h' ⊢
    omega
  | r + 1, s, t, d, t', d', B, h1, h2, h => fun x hx q1 q2 => sf_nb3_le r _ _ _ _ _ _ (by omega) (by omega) (h x hx (by omega) q2)
theorem sf_nb3_r3 : ∀ r k s t d pk B, sf_nb3 M lg cst dc ch al r s t d B → sf_r3 M lg cst dc ch al r k s t d pk B = B
  | 0, k, s, t, d, pk, B, h => by
    unfold sf_r3
    exact if_neg h
  | r + 1, k, s, t, d, pk, B, h => by
    unfold sf_r3
    have key : ∀ m, m ≤ M → sf_fld (fun x B => if t + cst x ≤ lg ∧ al r (ch s x) = true then sf_r3 M lg cst dc ch al r (k + 1) (ch s x) (t + cst x) (d + dc x) (sf_upn pk k x) B else B) m B = B := by
      intro m
      induction m with
      | zero => intro _; rfl
      | succ m ih =>
        intro hm
        show (if _ then _ else _) = _
        rw [ih (by omega)]
        by_cases q : t + cst m ≤ lg ∧ al r (ch s m) = true
        · rw [if_pos q]
          exact sf_nb3_r3 r _ _ _ _ _ _ (h m (by omega) q.1 q.2)
        · rw [if_neg q]
    exact key M (Nat.le_refl M)
theorem sf_r3_nb (hc : ∀ x, 0 ≤ cst x) : ∀ r k s t d pk B, 0 ≤ t → sf_nb3 M lg cst dc ch al r s t d (sf_r3 M lg cst dc ch al r k s t d pk B)
  | 0, k, s, t, d, pk, B, ht => by
    unfold sf_r3
    show ¬ sf_b3 t d _
    by_cases q : sf_b3 t d B
    · rw [if_pos q]
      show ¬ (t = -1 ∨ t < t ∨ (t = t ∧ d < d))
      omega
    · rw [if_neg q]
      exact q
  | r + 1, k, s, t, d, pk, B, ht => by
    unfold sf_r3
    have key : ∀ m, m ≤ M → ∀ x, x < m → t + cst x ≤ lg → al r (ch s x) = true → sf_nb3 M lg cst dc ch al r (ch s x) (t + cst x) (d + dc x) (sf_fld (fun x B => if t + cst x ≤ lg ∧ al r (ch s x) = true then sf_r3 M lg cst dc ch al r (k + 1) (ch s x) (t + cst x) (d + dc x) (sf_upn pk k x) B else B) m B) := by
      intro m
      induction m with
      | zero => intro _ x hx; exact absurd hx (by omega)
      | succ m ih =>
        intro hm x hx q1 q2
        have c0 := hc m
        have cx0 := hc x
        show sf_nb3 M lg cst dc ch al r _ _ _ (if _ then _ else _)
        by_cases hxm : x = m
        · subst hxm
          rw [if_pos ⟨q1, q2⟩]
          exact sf_r3_nb hc r (k + 1) _ _ _ _ _ (by omega)
        · have h := ih (by omega) x (by omega) q1 q2
          by_cases q : t + cst m ≤ lg ∧ al r (ch s m) = true
          · rw [if_pos q]
            exact sf_nb3_ge r _ _ _ _ _ (sf_r3_ge hc r (k + 1) _ _ _ _ _ (by omega)) h
          · rw [if_neg q]
            exact h
    exact fun x hx => key M (Nat.le_refl M) x hx
theorem sf_nb3_no (hc : ∀ x, 0 ≤ cst x) (hd : ∀ x, 0 ≤ dc x) : ∀ r s t d B, ¬ sf_b3 t d B → sf_nb3 M lg cst dc ch al r s t d B
  | 0, _, _, _, _, h => h
  | r + 1, s, t, d, B, h => fun x _ _ _ => sf_nb3_no hc hd r _ _ _ _ (by
      have := hc x
      have := hd x
      unfold sf_b3 at h ⊢
      omega)
theorem sf_nb3_sh : ∀ r s t d t' d' (B B' : Int × Int × (Nat → Nat)), t ≤ t' → (B.1 = -1 ∨ (¬ B'.1 = -1 ∧ B'.1 - B.1 = t' - t ∧ B'.2.1 - B.2.1 = d' - d)) → sf_nb3 M lg cst dc ch al r s t d B → sf_nb3 M lg cst dc ch al r s t' d' B'
  | 0, s, t, d, t', d', B, B', ht, hb, h => by
    have h' : ¬ sf_b3 t d B := h
    show ¬ sf_b3 t' d' B'
    unfold sf_b3 at h' ⊢
    omega
  | r + 1, s, t, d, t', d', B, B', ht, hb, h => fun x hx q1 q2 => sf_nb3_sh r _ _ _ _ _ B B' (by omega) (by omega) (h x hx (by omega) q2)
theorem sf_fld_congr {β : Type} {f g : Nat → β → β} (h : ∀ x b, f x b = g x b) : ∀ m b, sf_fld f m b = sf_fld g m b
  | 0, _ => rfl
  | m + 1, b => by
    unfold sf_fld
    rw [sf_fld_congr h m b, h]
/-- a part of the search as what it would put in the best's place, if that is worse -/
def sf_mg (o : Option (Int × Int × (Nat → Nat))) (B : Int × Int × (Nat → Nat)) : Int × Int × (Nat → Nat) := match o with
  | none => B
  | some R => if sf_b3 R.1 R.2.1 B then R else B
theorem sf_mg_pos {R B : Int × Int × (Nat → Nat)} (h : sf_b3 R.1 R.2.1 B) : sf_mg (some R) B = R := by
  show (if sf_b3 R.1 R.2.1 B then R else B) = R
  rw [if_pos h]
abbrev sf_le3 (R : Int × Int × (Nat → Nat)) (i : Nat) (Q : Int × Int × (Nat → Nat)) (j : Nat) : Prop := R.1 < Q.1 ∨ (R.1 = Q.1 ∧ (R.2.1 < Q.2.1 ∨ (R.2.1 = Q.2.1 ∧ i ≤ j)))
abbrev sf_nn (o : Option (Int × Int × (Nat → Nat))) : Prop := ∀ R, o = some R → 0 ≤ R.1
theorem sf_mg_cmp {o1 o2 : Option (Int × Int × (Nat → Nat))} (h1 : sf_nn o1) (h2 : sf_nn o2) : ∃ o, sf_nn o ∧ ∀ B, sf_mg o2 (sf_mg o1 B) = sf_mg o B := by
  cases o1 with
  | none => exact ⟨o2, h2, fun B => rfl⟩
  | some R1 =>
    cases o2 with
    | none => exact ⟨some R1, h1, fun B => rfl⟩
    | some R2 =>
      have p1 := h1 R1 rfl
      have p2 := h2 R2 rfl
      by_cases q : sf_b3 R2.1 R2.2.1 R1
      · refine ⟨some R2, h2, fun B => ?_⟩
        show (if sf_b3 R2.1 R2.2.1 (if sf_b3 R1.1 R1.2.1 B then R1 else B) then R2 else (if sf_b3 R1.1 R1.2.1 B then R1 else B)) = if sf_b3 R2.1 R2.2.1 B then R2 else B
        by_cases b : sf_b3 R1.1 R1.2.1 B
        · rw [if_pos b, if_pos q, if_pos (by unfold sf_b3 at q b ⊢; omega)]
        · rw [if_neg b]
      · refine ⟨some R1, h1, fun B => ?_⟩
        show (if sf_b3 R2.1 R2.2.1 (if sf_b3 R1.1 R1.2.1 B then R1 else B) then R2 else (if sf_b3 R1.1 R1.2.1 B then R1 else B)) = if sf_b3 R1.1 R1.2.1 B then R1 else B
        by_cases b : sf_b3 R1.1 R1.2.1 B
        · rw [if_pos b, if_neg q]
        · rw [if_neg b, if_neg (by unfold sf_b3 at q b ⊢; omega)]
theorem sf_fld_mg {f : Nat → Int × Int × (Nat → Nat) → Int × Int × (Nat → Nat)} (h : ∀ x, ∃ o, sf_nn o ∧ ∀ B, f x B = sf_mg o B) : ∀ m, ∃ o, sf_nn o ∧ ∀ B, sf_fld f m B = sf_mg o B
  | 0 => ⟨none, fun R h => (by cases h), fun B => rfl⟩
  | m + 1 => by
    obtain ⟨o1, h1, e1⟩ := sf_fld_mg h m
    obtain ⟨o2, h2, e2⟩ := h m
    obtain ⟨o, h3, e3⟩ := sf_mg_cmp h1 h2
    refine ⟨o, h3, fun B => ?_⟩
    show f m (sf_fld f m B) = _
    rw [e1, e2, e3]
theorem sf_r3_cl (hc : ∀ x, 0 ≤ cst x) : ∀ r k s t d pk, 0 ≤ t → ∃ o, sf_nn o ∧ ∀ B, sf_r3 M lg cst dc ch al r k s t d pk B = sf_mg o B
  | 0, k, s, t, d, pk, ht => ⟨some (t, d, pk), fun R h => by cases h; exact ht, fun B => rfl⟩
  | r + 1, k, s, t, d, pk, ht => by
    obtain ⟨o, h1, h2⟩ := sf_fld_mg (f := fun x B => if t + cst x ≤ lg ∧ al r (ch s x) = true then sf_r3 M lg cst dc ch al r (k + 1) (ch s x) (t + cst x) (d + dc x) (sf_upn pk k x) B else B) (fun x => by
      by_cases q : t + cst x ≤ lg ∧ al r (ch s x) = true
      · have c0 := hc x
        obtain ⟨o, h1, h2⟩ := sf_r3_cl hc r (k + 1) (ch s x) (t + cst x) (d + dc x) (sf_upn pk k x) (by omega)
        refine ⟨o, h1, fun B => ?_⟩
        show (if _ then _ else _) = _
        rw [if_pos q]
        exact h2 B
      · refine ⟨none, fun R h => (by cases h), fun B => ?_⟩
        show (if _ then _ else _) = _
        rw [if_neg q]
        rfl) M
    refine ⟨o, h1, fun B => ?_⟩
    unfold sf_r3
    exact h2 B
/-- a fold of such parts: the first of the least, if it is better -/
theorem sf_mg_ch {o : Nat → Option (Int × Int × (Nat → Nat))} (h0 : ∀ x, sf_nn (o x)) (B : Int × Int × (Nat → Nat)) : ∀ m, (sf_fld (fun x => sf_mg (o x)) m B = B ∧ ∀ x, x < m → ∀ R, o x = some R → ¬ sf_b3 R.1 R.2.1 B) ∨ ∃ x R, x < m ∧ o x = some R ∧ sf_fld (fun x => sf_mg (o x)) m B = R ∧ sf_b3 R.1 R.2.1 B ∧ 0 ≤ R.1 ∧ ∀ y, y < m → ∀ Q, o y = some Q → sf_le3 R x Q y
  | 0 => Or.inl ⟨rfl, fun x hx => absurd hx (by omega)⟩
  | m + 1 => by
    have ih := sf_mg_ch h0 B m
    have e : sf_fld (fun x => sf_mg (o x)) (m + 1) B = sf_mg (o m) (sf_fld (fun x => sf_mg (o x)) m B) := rfl
    rw [e]
    cases ho : o m with
    | none =>
      rcases ih with ⟨a, b⟩ | ⟨x, R, x1, x2, x3, x4, x5, x6⟩
      · refine Or.inl ⟨a, fun x hx R hR => ?_⟩
        by_cases q : x = m
        · rw [q, ho] at hR
          cases hR
        · exact b x (by omega) R hR
      · refine Or.inr ⟨x, R, by omega, x2, x3, x4, x5, fun y hy Q hQ => ?_⟩
        by_cases q : y = m
        · rw [q, ho] at hQ
          cases hQ
        · exact x6 y (by omega) Q hQ
    | some P =>
      have p0 := h0 m P ho
      rcases ih with ⟨a, b⟩ | ⟨x, R, x1, x2, x3, x4, x5, x6⟩
      · rw [a]
        by_cases z : sf_b3 P.1 P.2.1 B
        · refine Or.inr ⟨m, P, by omega, ho, if_pos z, z, p0, fun y hy Q hQ => ?_⟩
          by_cases q : y = m
          · rw [q, ho] at hQ
            cases hQ
            exact Or.inr ⟨rfl, Or.inr ⟨rfl, by omega⟩⟩
          · have h := b y (by omega) Q hQ
            unfold sf_b3 at h z
            show P.1 < Q.1 ∨ (P.1 = Q.1 ∧ (P.2.1 < Q.2.1 ∨ (P.2.1 = Q.2.1 ∧ m ≤ y)))
            omega
        · refine Or.inl ⟨if_neg z, fun x hx R hR => ?_⟩
          by_cases q : x = m
          · rw [q, ho] at hR
            cases hR
            exact z
          · exact b x (by omega) R hR
      · rw [x3]
        by_cases z : sf_b3 P.1 P.2.1 R
        · refine Or.inr ⟨m, P, by omega, ho, if_pos z, by unfold sf_b3 at z x4 ⊢; omega, p0, fun y hy Q hQ => ?_⟩
          by_cases q : y = m
          · rw [q, ho] at hQ
            cases hQ
            exact Or.inr ⟨rfl, Or.inr ⟨rfl, by omega⟩⟩
          · have h := x6 y (by omega) Q hQ
            unfold sf_b3 at z
            unfold sf_le3 at h
            show P.1 < Q.1 ∨ (P.1 = Q.1 ∧ (P.2.1 < Q.2.1 ∨ (P.2.1 = Q.2.1 ∧ m ≤ y)))
            omega
        · refine Or.inr ⟨x, R, by omega, x2, if_neg z, x4, x5, fun y hy Q hQ => ?_⟩
          by_cases q : y = m
          · rw [q, ho] at hQ
            cases hQ
            unfold sf_b3 at z
            show R.1 < P.1 ∨ (R.1 = P.1 ∧ (R.2.1 < P.2.1 ∨ (R.2.1 = P.2.1 ∧ x ≤ y)))
            omega
          · exact x6 y (by omega) Q hQ
/-- what a better one stands for may be left out -/
theorem sf_skip {o : Nat → Option (Int × Int × (Nat → Nat))} {v : Nat → Bool} {N : Nat} (h0 : ∀ x, sf_nn (o x)) (hv : ∀ x, x < N → ∀ R, o x = some R → ∃ y Q, y < N ∧ v y = true ∧ o y = some Q ∧ sf_le3 Q y R x) (B : Int × Int × (Nat → Nat)) : sf_fld (fun x B => if v x = true then sf_mg (o x) B else B) N B = sf_fld (fun x => sf_mg (o x)) N B := by
  have e : sf_fld (fun x B => if v x = true then sf_mg (o x) B else B) N B = sf_fld (fun x => sf_mg (if v x = true then o x else none)) N B := sf_fld_congr (fun x b => by
    show (if v x = true then sf_mg (o x) b else b) = sf_mg (if v x = true then o x else none) b
    by_cases q : v x = true
    · rw [if_pos q, if_pos q]
    · rw [if_neg q, if_neg q]
      rfl) N B
  rw [e]
  have ow : ∀ y R, (if v y = true then o y else none) = some R → v y = true ∧ o y = some R := fun y R h => by
    by_cases q : v y = true
    · rw [if_pos q] at h
      exact ⟨q, h⟩
    · rw [if_neg q] at h
      cases h
  have wo : ∀ y R, v y = true → o y = some R → (if v y = true then o y else none) = some R := fun y R h g => by
    rw [if_pos h]
    exact g
  have top : ∀ x R, x < N → o x = some R → (∀ y, y < N → ∀ Q, o y = some Q → sf_le3 R x Q y) → v x = true := fun x R hx hR hm => by
    obtain ⟨y, Q, z1, z2, z3, z4⟩ := hv x hx R hR
    have m1 := hm y z1 Q z3
    unfold sf_le3 at m1 z4
    have exy : x = y := by omega
    rw [exy]
    exact z2
  rcases sf_mg_ch h0 B N with ⟨a, b⟩ | ⟨x, R, x1, x2, x3, x4, x5, x6⟩ <;> rcases sf_mg_ch (o := fun x => if v x = true then o x else none) (fun y R h => h0 y R (ow y R h).2) B N with ⟨a', b'⟩ | ⟨x', R', y1, y2, y3, y4, y5, y6⟩
  · rw [a, a']
  · exact absurd y4 (b x' y1 R' (ow _ _ y2).2)
  · exact absurd x4 (b' x x1 R (wo x R (top x R x1 x2 x6) x2))
  · have l1 := x6 x' y1 R' (ow _ _ y2).2
    have l2 := y6 x x1 R (wo x R (top x R x1 x2 x6) x2)
    unfold sf_le3 at l1 l2
    have exy : x = x' := by omega
    have y2' := (ow _ _ y2).2
    rw [← exy, x2] at y2'
    cases y2'
    rw [x3, y3]
/-- the class's way loses nothing -/
theorem sf_c4_r3 (hc : ∀ x, 0 ≤ cst x) (hd : ∀ x, 0 ≤ dc x) (hdm : ∀ x y, y < x → dc y ≤ dc x) (hw : ∀ s x, x < M → ∃ y, y < M ∧ w s y = true ∧ ch s y = ch s x ∧ (cst y < cst x ∨ (cst y = cst x ∧ y ≤ x))) : ∀ r k s t d pk B, 0 ≤ t → sf_b3 t d B → sf_c4 M lg cst dc w ch al r k s t d pk B = sf_r3 M lg cst dc ch al r k s t d pk B
  | 0, k, s, t, d, pk, B, ht, hb => by
    unfold sf_c4 sf_r3
    rw [if_pos hb]
  | r + 1, k, s, t, d, pk, B, ht, hb => by
    have hcl : ∀ x, ∃ o, sf_nn o ∧ ∀ B, (if t + cst x ≤ lg ∧ al r (ch s x) = true then sf_r3 M lg cst dc ch al r (k + 1) (ch s x) (t + cst x) (d + dc x) (sf_upn pk k x) B else B) = sf_mg o B := fun x => by
      by_cases q : t + cst x ≤ lg ∧ al r (ch s x) = true
      · have c0 := hc x
        obtain ⟨o, h1, h2⟩ := sf_r3_cl (M := M) (lg := lg) (dc := dc) (ch := ch) (al := al) hc r (k + 1) (ch s x) (t + cst x) (d + dc x) (sf_upn pk k x) (by omega)
        refine ⟨o, h1, fun B => ?_⟩
        rw [if_pos q]
        exact h2 B
      · refine ⟨none, fun R h => (by cases h), fun B => ?_⟩
        rw [if_neg q]
        rfl
    obtain ⟨o, ho⟩ := Classical.axiomOfChoice hcl
    have eG : ∀ x B, (if t + cst x ≤ lg ∧ al r (ch s x) = true then sf_r3 M lg cst dc ch al r (k + 1) (ch s x) (t + cst x) (d + dc x) (sf_upn pk k x) B else B) = sf_mg (o x) B := fun x B => (ho x).2 B
    have dom : ∀ x, x < M → ∀ R, o x = some R → ∃ y Q, y < M ∧ w s y = true ∧ o y = some Q ∧ sf_le3 Q y R x := fun x hx R hR => by
      obtain ⟨y, y1, y2, y3, y4⟩ := hw s x hx
      have cx := hc x
      have cy := hc y
      have r0 := (ho x).1 R hR
      have eN : sf_mg (some R) ((-1 : Int), (0 : Int), fun _ => 0) = R := sf_mg_pos (Or.inl rfl)
      have gx : t + cst x ≤ lg ∧ al r (ch s x) = true := by
        by_cases g : t + cst x ≤ lg ∧ al r (ch s x) = true
        · exact g
        · have h := eG x ((-1 : Int), (0 : Int), fun _ => 0)
          rw [if_neg g, hR, eN] at h
          rw [← h] at r0
          exact absurd r0 (by decide)
      have gy : t + cst y ≤ lg ∧ al r (ch s y) = true := ⟨by omega, by rw [y3]; exact gx.2⟩
      have rx : ∀ B, sf_r3 M lg cst dc ch al r (k + 1) (ch s x) (t + cst x) (d + dc x) (sf_upn pk k x) B = sf_mg (some R) B := fun B => by
        have h := eG x B
        rw [if_pos gx, hR] at h
        exact h
      have ry : ∀ B, sf_r3 M lg cst dc ch al r (k + 1) (ch s x) (t + cst y) (d + dc y) (sf_upn pk k y) B = sf_mg (o y) B := fun B => by
        have h := eG y B
        rw [if_pos gy, y3] at h
        exact h
      have nb := sf_r3_nb (M := M) (lg := lg) (dc := dc) (ch := ch) (al := al) hc r (k + 1) (ch s x) (t + cst y) (d + dc y) (sf_upn pk k y) ((-1 : Int), (0 : Int), fun _ => 0) (by omega)
      rw [ry] at nb
      cases hy : o y with
      | none =>
        rw [hy] at nb
        have nb2 := sf_nb3_sh r (ch s x) _ _ (t + cst x) (d + dc x) ((-1 : Int), (0 : Int), fun _ => 0) ((-1 : Int), (0 : Int), fun _ => 0) (by omega) (Or.inl rfl) nb
        have h := sf_nb3_r3 r (k + 1) _ _ _ (sf_upn pk k x) _ nb2
        rw [rx, eN] at h
        rw [h] at r0
        exact absurd r0 (by decide)
      | some Q =>
        have q0 := (ho y).1 Q hy
        have eQ : sf_mg (some Q) ((-1 : Int), (0 : Int), fun _ => 0) = Q := sf_mg_pos (Or.inl rfl)
        rw [hy, eQ] at nb
        have nb2 := sf_nb3_sh r (ch s x) _ _ (t + cst x) (d + dc x) Q (Q.1 + (cst x - cst y), Q.2.1 + (dc x - dc y), fun _ => 0) (by omega) (Or.inr ⟨by show ¬ Q.1 + (cst x - cst y) = -1; omega, by show Q.1 + (cst x - cst y) - Q.1 = _; omega, by show Q.2.1 + (dc x - dc y) - Q.2.1 = _; omega⟩) nb
        have h3 := sf_nb3_r3 r (k + 1) _ _ _ (sf_upn pk k x) _ nb2
        rw [rx] at h3
        have h4 : ¬ sf_b3 R.1 R.2.1 ((Q.1 + (cst x - cst y), Q.2.1 + (dc x - dc y), fun _ => 0) : Int × Int × (Nat → Nat)) := fun z => by
          have h5 : sf_mg (some R) ((Q.1 + (cst x - cst y), Q.2.1 + (dc x - dc y), fun _ => 0) : Int × Int × (Nat → Nat)) = R := sf_mg_pos z
          rw [h5] at h3
          rw [h3] at z
          unfold sf_b3 at z
          dsimp only at z
          omega
        have hdc : ¬ y ≤ x ∨ dc y ≤ dc x := by
          by_cases q : y < x
          · exact Or.inr (hdm x y q)
          · by_cases q2 : y = x
            · exact Or.inr (by rw [q2]; exact Int.le_refl _)
            · exact Or.inl (by omega)
        unfold sf_b3 at h4
        dsimp only at h4
        refine ⟨y, Q, y1, y2, hy, ?_⟩
        show Q.1 < R.1 ∨ (Q.1 = R.1 ∧ (Q.2.1 < R.2.1 ∨ (Q.2.1 = R.2.1 ∧ y ≤ x)))
        omega
    unfold sf_c4 sf_r3
    rw [sf_fld_congr (g := fun x => sf_mg (o x)) (fun x b => eG x b) M B, ← sf_skip (v := w s) (fun x => (ho x).1) dom B]
    refine sf_fld_congr (fun x b => ?_) M B
    show (if _ then (if _ then _ else _) else _) = if _ then _ else _
    by_cases q : w s x = true
    · rw [if_pos q, if_pos q, ← eG x b]
      by_cases g : t + cst x ≤ lg ∧ al r (ch s x) = true
      · rw [if_pos g]
        by_cases z : sf_b3 (t + cst x) (d + dc x) b
        · rw [if_pos ⟨g.1, z, g.2⟩]
          have c0 := hc x
          exact sf_c4_r3 hc hd hdm hw r (k + 1) _ _ _ _ _ (by omega) z
        · rw [if_neg (fun y => z y.2.1)]
          exact (sf_nb3_r3 r (k + 1) _ _ _ _ _ (sf_nb3_no hc hd r _ _ _ _ z)).symm
      · rw [if_neg g, if_neg (fun y => g ⟨y.1, y.2.2⟩)]
    · rw [if_neg q, if_neg q]
/-- of each v: the first x with f x = v of the fewest logs, and these (10: there is none) -/
def sf_gt (cst : Nat → Int) (f : Nat → Nat) (m : Nat) : (Nat → Int) × (Nat → Nat) := sf_fld (fun x q => if cst x < q.1 (f x) then (sf_upi q.1 (f x) (cst x), sf_upn q.2 (f x) x) else q) m ((fun _ => 10 : Nat → Int), fun _ => 0)
theorem sf_gt_S (cst : Nat → Int) (f : Nat → Nat) (m : Nat) : sf_gt cst f (m + 1) = if cst m < (sf_gt cst f m).1 (f m) then (sf_upi (sf_gt cst f m).1 (f m) (cst m), sf_upn (sf_gt cst f m).2 (f m) m) else sf_gt cst f m := rfl
theorem sf_gt_in {cst : Nat → Int} {f : Nat → Nat} (hc : ∀ x, 0 ≤ cst x ∧ cst x ≤ 9) : ∀ m v, ((sf_gt cst f m).1 v = 10 ∧ ∀ x, x < m → ¬ f x = v) ∨ ((sf_gt cst f m).2 v < m ∧ f ((sf_gt cst f m).2 v) = v ∧ (sf_gt cst f m).1 v = cst ((sf_gt cst f m).2 v) ∧ ∀ x, x < m → f x = v → cst ((sf_gt cst f m).2 v) < cst x ∨ (cst ((sf_gt cst f m).2 v) = cst x ∧ (sf_gt cst f m).2 v ≤ x))
  | 0, v => Or.inl ⟨rfl, fun x hx => absurd hx (by omega)⟩
  | m + 1, v => by
    have ih := sf_gt_in (f := f) hc m v
    have cm := hc m
    rw [sf_gt_S]
    generalize sf_gt cst f m = q at ih ⊢
    by_cases z : cst m < q.1 (f m)
    · rw [if_pos z]
      show (sf_upi q.1 (f m) (cst m) v = 10 ∧ _) ∨ (sf_upn q.2 (f m) m v < m + 1 ∧ f (sf_upn q.2 (f m) m v) = v ∧ sf_upi q.1 (f m) (cst m) v = cst (sf_upn q.2 (f m) m v) ∧ ∀ x, x < m + 1 → f x = v → cst (sf_upn q.2 (f m) m v) < cst x ∨ (cst (sf_upn q.2 (f m) m v) = cst x ∧ sf_upn q.2 (f m) m v ≤ x))
      by_cases hv : v = f m
      · have e1 : sf_upi q.1 (f m) (cst m) v = cst m := if_pos hv
        have e2 : sf_upn q.2 (f m) m v = m := if_pos hv
        rw [e1, e2]
        refine Or.inr ⟨by omega, hv.symm, rfl, fun x hx hf => ?_⟩
        by_cases xm : x = m
        · rw [xm]
          exact Or.inr ⟨rfl, Nat.le_refl m⟩
        · rcases ih with ⟨_, i2⟩ | ⟨_, _, i3, i4⟩
          · exact absurd hf (i2 x (by omega))
          · have := i4 x (by omega) hf
            rw [← hv] at z
            omega
      · have e1 : sf_upi q.1 (f m) (cst m) v = q.1 v := if_neg hv
        have e2 : sf_upn q.2 (f m) m v = q.2 v := if_neg hv
        rw [e1, e2]
        rcases ih with ⟨i1, i2⟩ | ⟨i1, i2, i3, i4⟩
        · refine Or.inl ⟨i1, fun x hx hf => ?_⟩
          by_cases xm : x = m
          · rw [xm] at hf
            exact hv hf.symm
          · exact i2 x (by omega) hf
        · refine Or.inr ⟨by omega, i2, i3, fun x hx hf => ?_⟩
          by_cases xm : x = m
          · rw [xm] at hf
            exact absurd hf.symm hv
          · exact i4 x (by omega) hf
    · rw [if_neg z]
      rcases ih with ⟨i1, i2⟩ | ⟨i1, i2, i3, i4⟩
      · refine Or.inl ⟨i1, fun x hx hf => ?_⟩
        by_cases xm : x = m
        · rw [xm] at hf
          rw [hf, i1] at z
          omega
        · exact i2 x (by omega) hf
      · refine Or.inr ⟨by omega, i2, i3, fun x hx hf => ?_⟩
        by_cases xm : x = m
        · rw [xm] at hf ⊢
          rw [hf, i3] at z
          omega
        · exact i4 x (by omega) hf
/-- x is the first of the fewest logs for its person -/
def sf_wn (N : Nat) (cst : Nat → Int) (f : Nat → Nat) (x : Nat) : Bool := decide ((sf_gt cst f N).1 (f x) ≤ 9 ∧ (sf_gt cst f N).2 (f x) = x)
theorem sf_wn_ex {N : Nat} {cst : Nat → Int} {f : Nat → Nat} (hc : ∀ x, 0 ≤ cst x ∧ cst x ≤ 9) {x : Nat} (hx : x < N) : ∃ y, y < N ∧ sf_wn N cst f y = true ∧ f y = f x ∧ (cst y < cst x ∨ (cst y = cst x ∧ y ≤ x)) := by
  rcases sf_gt_in (f := f) hc N (f x) with ⟨_, i2⟩ | ⟨i1, i2, i3, i4⟩
  · exact absurd rfl (i2 x hx)
  · refine ⟨(sf_gt cst f N).2 (f x), i1, decide_eq_true ?_, i2, i4 x hx rfl⟩
    rw [i2, i3]
    have := hc ((sf_gt cst f N).2 (f x))
    exact ⟨this.2, rfl⟩
end SFP50

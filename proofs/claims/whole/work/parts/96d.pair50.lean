/-! plans: the search with and without its short cuts -/
section SFP50
variable {σ : Type} (M : Nat) (lg : Int) (cst dc : Nat → Int) (fx : σ → Nat → Nat) (ch : σ → Nat → σ) (al : Nat → σ → Bool)
def sf_upn (pk : Nat → Nat) (k x : Nat) : Nat → Nat := fun j => if j = k then x else pk j
abbrev sf_b3 (t d : Int) (B : Int × Int × (Nat → Nat)) : Prop := B.1 = -1 ∨ t < B.1 ∨ (t = B.1 ∧ d < B.2.1)
def sf_fld {β : Type} (f : Nat → β → β) : Nat → β → β
  | 0, B => B
  | m + 1, B => f m (sf_fld f m B)
def sf_r3 : Nat → Nat → σ → Int → Int → (Nat → Nat) → Int × Int × (Nat → Nat) → Int × Int × (Nat → Nat)
  | 0, _, _, t, d, pk, B => if sf_b3 t d B then (t, d, pk) else B
  | r + 1, k, s, t, d, pk, B => sf_fld (fun x B => if t + cst x ≤ lg ∧ al r (ch s x) = true then sf_r3 r (k + 1) (ch s x) (t + cst x) (d + dc x) (sf_upn pk k x) B else B) M B
def sf_upi (l : Nat → Int) (k : Nat) (v : Int) : Nat → Int := fun j => if j = k then v else l j
def sf_c3 : Nat → Nat → σ → Int → Int → (Nat → Nat) → Int × Int × (Nat → Nat) → Int × Int × (Nat → Nat)
  | 0, _, _, t, d, pk, _ => (t, d, pk)
  | r + 1, k, s, t, d, pk, B => (sf_fld (fun x q => if t + cst x ≤ lg ∧ sf_b3 (t + cst x) (d + dc x) q.2 ∧ cst x < q.1 (fx s x) then (sf_upi q.1 (fx s x) (cst x), if al r (ch s x) = true then sf_c3 r (k + 1) (ch s x) (t + cst x) (d + dc x) (sf_upn pk k x) q.2 else q.2) else q) M ((fun _ => 10 : Nat → Int), B)).2
def sf_nb3 : Nat → σ → Int → Int → Int × Int × (Nat → Nat) → Prop
  | 0, _, t, d, B => ¬ sf_b3 t d B
  | r + 1, s, t, d, B => ∀ x, x < M → t + cst x ≤ lg → al r (ch s x) = true → sf_nb3 r (ch s x) (t + cst x) (d + dc x) B
def sf_ge3 (B' B : Int × Int × (Nat → Nat)) : Prop := ∀ t d, ¬ sf_b3 t d B → ¬ sf_b3 t d B'
theorem sf_ge3_refl {B : Int × Int × (Nat → Nat)} : sf_ge3 B B := fun _ _ h => h
theorem sf_ge3_trans {A B C : Int × Int × (Nat → Nat)} (h : sf_ge3 B A) (g : sf_ge3 C B) : sf_ge3 C A := fun t d q => g t d (h t d q)
theorem sf_fld_ge {f : Nat → Int × Int × (Nat → Nat) → Int × Int × (Nat → Nat)} (h : ∀ x B, sf_ge3 (f x B) B) : ∀ m B, sf_ge3 (sf_fld f m B) B
  | 0, _ => sf_ge3_refl
  | m + 1, B => sf_ge3_trans (sf_fld_ge h m B) (h m _)
variable {M lg cst dc fx ch al}
theorem sf_r3_ge (hc : ∀ x, 0 ≤ cst x) : ∀ r k s t d pk B, 0 ≤ t → sf_ge3 (sf_r3 M lg cst dc ch al r k s t d pk B) B
  | 0, k, s, t, d, pk, B, ht => by
    unfold sf_r3
    by_cases q : sf_b3 t d B
    · rw [if_pos q]
      intro t' d' h
      show ¬ (t = -1 ∨ t' < t ∨ (t' = t ∧ d' < d))
      unfold sf_b3 at q h
      omega
    · rw [if_neg q]
      exact sf_ge3_refl
  | r + 1, k, s, t, d, pk, B, ht => by
    unfold sf_r3
    refine sf_fld_ge (fun x B => ?_) M B
    show sf_ge3 (if _ then _ else _) B
    by_cases q : t + cst x ≤ lg ∧ al r (ch s x) = true
    · rw [if_pos q]
      have := hc x
      exact sf_r3_ge hc r (k + 1) _ _ _ _ _ (by omega)
    · rw [if_neg q]
      exact sf_ge3_refl
theorem sf_nb3_ge : ∀ r s t d B B', sf_ge3 B' B → sf_nb3 M lg cst dc ch al r s t d B → sf_nb3 M lg cst dc ch al r s t d B'
  | 0, s, t, d, B, B', g, h => g t d h
  | r + 1, s, t, d, B, B', g, h => fun x hx q1 q2 => sf_nb3_ge r _ _ _ _ _ g (h x hx q1 q2)
theorem sf_nb3_le : ∀ r s t d t' d' B, t ≤ t' → d ≤ d' → sf_nb3 M lg cst dc ch al r s t d B → sf_nb3 M lg cst dc ch al r s t' d' B
  | 0, s, t, d, t', d', B, h1, h2, h => by
    have h' : ¬ sf_b3 t d B := h
    show ¬ sf_b3 t' d' B
    unfold sf_b3 at h' ⊢
    omega
  | r + 1, s, t, d, t', d', B, h1, h2, h => fun x hx q1 q2 => sf_nb3_le r _ _ _ _ _ _ (by omega) (by omega) (h x hx (by omega) q2)
theorem sf_nb3_r3 : ∀ r k s t d pk B, sf_nb3 M lg cst dc ch al r s t d B → sf_r3 M lg cst dc ch al r k s t d pk B = B
  | 0, k, s, t, d, pk, B, h => by
    unfold sf_r3
    exact if_neg h
  | r + 1, k, s, t, d, pk, B, h => by
    unfold sf_r3
    have key : ∀ m, m ≤ M → sf_fld (fun x B => if t + cst x ≤ lg ∧ al r (ch s x) = true then sf_r3 M lg cst dc ch al r (k + 1) (ch s x) (t + cst x) (d + dc x) (sf_upn pk k x) B else B) m B = B := by
      intro m
      induction m with
      | zero => intro _; rfl
      | succ m ih =>
        intro hm
        show (if _ then _ else _) = _
        rw [ih (by omega)]
        by_cases q : t + cst m ≤ lg ∧ al r (ch s m) = true
        · rw [if_pos q]
          exact sf_nb3_r3 r _ _ _ _ _ _ (h m (by omega) q.1 q.2)
        · rw [if_neg q]
    exact key M (Nat.le_refl M)
theorem sf_r3_nb (hc : ∀ x, 0 ≤ cst x) : ∀ r k s t d pk B, 0 ≤ t → sf_nb3 M lg cst dc ch al r s t d (sf_r3 M lg cst dc ch al r k s t d pk B)
  | 0, k, s, t, d, pk, B, ht => by
    unfold sf_r3
    show ¬ sf_b3 t d _
    by_cases q : sf_b3 t d B
    · rw [if_pos q]
      show ¬ (t = -1 ∨ t < t ∨ (t = t ∧ d < d))
      omega
    · rw [if_neg q]
      exact q
  | r + 1, k, s, t, d, pk, B, ht => by
    unfold sf_r3
    have key : ∀ m, m ≤ M → ∀ x, x < m → t + cst x ≤ lg → al r (ch s x) = true → sf_nb3 M lg cst dc ch al r (ch s x) (t + cst x) (d + dc x) (sf_fld (fun x B => if t + cst x ≤ lg ∧ al r (ch s x) = true then sf_r3 M lg cst dc ch al r (k + 1) (ch s x) (t + cst x) (d + dc x) (sf_upn pk k x) B else B) m B) := by
      intro m
      induction m with
      | zero => intro _ x hx; exact absurd hx (by omega)
      | succ m ih =>
        intro hm x hx q1 q2
        have c0 := hc m
        have cx0 := hc x
        show sf_nb3 M lg cst dc ch al r _ _ _ (if _ then _ else _)
        by_cases hxm : x = m
        · subst hxm
          rw [if_pos ⟨q1, q2⟩]
          exact sf_r3_nb hc r (k + 1) _ _ _ _ _ (by omega)
        · have h := ih (by omega) x (by omega) q1 q2
          by_cases q : t + cst m ≤ lg ∧ al r (ch s m) = true
          · rw [if_pos q]
            exact sf_nb3_ge r _ _ _ _ _ (sf_r3_ge hc r (k + 1) _ _ _ _ _ (by omega)) h
          · rw [if_neg q]
            exact h
    exact fun x hx => key M (Nat.le_refl M) x hx
theorem sf_nb3_no (hc : ∀ x, 0 ≤ cst x) (hd : ∀ x, 0 ≤ dc x) : ∀ r s t d B, ¬ sf_b3 t d B → sf_nb3 M lg cst dc ch al r s t d B
  | 0, _, _, _, _, h => h
  | r + 1, s, t, d, B, h => fun x _ _ _ => sf_nb3_no hc hd r _ _ _ _ (by
      have := hc x
      have := hd x
      unfold sf_b3 at h ⊢
      omega)
/-- the short cuts lose nothing -/
theorem sf_c3_r3 (hc : ∀ x, 0 ≤ cst x ∧ cst x ≤ 9) (hd : ∀ x, 0 ≤ dc x) (hdm : ∀ x y, y < x → dc y ≤ dc x) (hch : ∀ s x y, fx s x = fx s y → ch s x = ch s y) : ∀ r k s t d pk B, 0 ≤ t → sf_b3 t d B → sf_c3 M lg cst dc fx ch al r k s t d pk B = sf_r3 M lg cst dc ch al r k s t d pk B
  | 0, k, s, t, d, pk, B, ht, hb => by
    unfold sf_c3 sf_r3
    rw [if_pos hb]
  | r + 1, k, s, t, d, pk, B, ht, hb => by
    have hc0 : ∀ x, 0 ≤ cst x := fun x => (hc x).1
    unfold sf_c3 sf_r3
    generalize hF : (fun (x : Nat) (q : (Nat → Int) × (Int × Int × (Nat → Nat))) => if t + cst x ≤ lg ∧ sf_b3 (t + cst x) (d + dc x) q.2 ∧ cst x < q.1 (fx s x) then (sf_upi q.1 (fx s x) (cst x), if al r (ch s x) = true then sf_c3 M lg cst dc fx ch al r (k + 1) (ch s x) (t + cst x) (d + dc x) (sf_upn pk k x) q.2 else q.2) else q) = F
    generalize hG : (fun (x : Nat) (B : Int × Int × (Nat → Nat)) => if t + cst x ≤ lg ∧ al r (ch s x) = true then sf_r3 M lg cst dc ch al r (k + 1) (ch s x) (t + cst x) (d + dc x) (sf_upn pk k x) B else B) = G
    have key : ∀ m, (sf_fld F m ((fun _ => 10 : Nat → Int), B)).2 = sf_fld G m B ∧ ∀ v, (sf_fld F m ((fun _ => 10 : Nat → Int), B)).1 v = 10 ∨ ∃ y, y < m ∧ fx s y = v ∧ cst y = (sf_fld F m ((fun _ => 10 : Nat → Int), B)).1 v ∧ (al r (ch s y) = true → sf_nb3 M lg cst dc ch al r (ch s y) (t + cst y) (d + dc y) (sf_fld G m B)) := by
      intro m
      induction m with
      | zero => exact ⟨rfl, fun v => Or.inl rfl⟩
      | succ m ih =>
        obtain ⟨i1, i2⟩ := ih
        have cm := hc m
        have eF : sf_fld F (m + 1) ((fun _ => 10 : Nat → Int), B) = F m (sf_fld F m ((fun _ => 10 : Nat → Int), B)) := rfl
        have eG : sf_fld G (m + 1) B = G m (sf_fld G m B) := rfl
        rw [eF, eG]
        generalize sf_fld F m ((fun _ => 10 : Nat → Int), B) = q at i1 i2 ⊢
        generalize sf_fld G m B = b at i1 i2 ⊢
        have gm : G m b = if t + cst m ≤ lg ∧ al r (ch s m) = true then sf_r3 M lg cst dc ch al r (k + 1) (ch s m) (t + cst m) (d + dc m) (sf_upn pk k m) b else b := by rw [← hG]
        have fm : F m q = if t + cst m ≤ lg ∧ sf_b3 (t + cst m) (d + dc m) q.2 ∧ cst m < q.1 (fx s m) then (sf_upi q.1 (fx s m) (cst m), if al r (ch s m) = true then sf_c3 M lg cst dc fx ch al r (k + 1) (ch s m) (t + cst m) (d + dc m) (sf_upn pk k m) q.2 else q.2) else q := by rw [← hF]
        have ge : sf_ge3 (G m b) b := by
          rw [gm]
          by_cases z : t + cst m ≤ lg ∧ al r (ch s m) = true
          · rw [if_pos z]
            exact sf_r3_ge hc0 r (k + 1) _ _ _ _ _ (by omega)
          · rw [if_neg z]
            exact sf_ge3_refl
        by_cases run : t + cst m ≤ lg ∧ sf_b3 (t + cst m) (d + dc m) q.2 ∧ cst m < q.1 (fx s m)
        · rw [if_pos run] at fm
          have e2 : (F m q).2 = G m b := by
            rw [fm, gm]
            show (if _ then _ else _) = _
            by_cases z : al r (ch s m) = true
            · rw [if_pos z, if_pos ⟨run.1, z⟩, ← i1]
              exact sf_c3_r3 hc hd hdm hch r (k + 1) _ _ _ _ _ (by omega) run.2.1
            · rw [if_neg z, if_neg (fun y => z y.2)]
              exact i1
          refine ⟨e2, fun v => ?_⟩
          rw [fm]
          show sf_upi q.1 (fx s m) (cst m) v = 10 ∨ ∃ y, y < m + 1 ∧ fx s y = v ∧ cst y = sf_upi q.1 (fx s m) (cst m) v ∧ _
          unfold sf_upi
          by_cases hv : v = fx s m
          · rw [if_pos hv]
            refine Or.inr ⟨m, by omega, hv.symm, rfl, fun z => ?_⟩
            rw [gm, if_pos ⟨run.1, z⟩]
            exact sf_r3_nb hc0 r (k + 1) _ _ _ _ _ (by omega)
          · rw [if_neg hv]
            rcases i2 v with h | ⟨y, h1, h2, h3, h4⟩
            · exact Or.inl h
            · exact Or.inr ⟨y, by omega, h2, h3, fun z => sf_nb3_ge r _ _ _ _ _ ge (h4 z)⟩
        · rw [if_neg run] at fm
          have gb : G m b = b := by
            rw [gm]
            by_cases z : t + cst m ≤ lg ∧ al r (ch s m) = true
            · rw [if_pos z]
              refine sf_nb3_r3 r (k + 1) _ _ _ _ _ ?_
              by_cases hb3 : sf_b3 (t + cst m) (d + dc m) q.2
              · have hl : ¬ cst m < q.1 (fx s m) := fun y => run ⟨z.1, hb3, y⟩
                rcases i2 (fx s m) with h | ⟨y, h1, h2, h3, h4⟩
                · omega
                · have e : ch s y = ch s m := hch s y m h2
                  have h5 := h4 (by rw [e]; exact z.2)
                  rw [e] at h5
                  have := hdm m y h1
                  exact sf_nb3_le r _ _ _ _ _ _ (by omega) (by omega) h5
              · rw [← i1]
                exact sf_nb3_no hc0 hd r _ _ _ _ hb3
            · rw [if_neg z]
          rw [fm, gb]
          refine ⟨i1, fun v => ?_⟩
          rcases i2 v with h | ⟨y, h1, h2, h3, h4⟩
          · exact Or.inl h
          · exact Or.inr ⟨y, by omega, h2, h3, h4⟩
    exact (key M).1
end SFP50

/-! freezes: the reference -/
section SFP18
variable {V X Y : sf_MV} {n nx c ce cf cg a k m : Nat} {v : Int} {f : Nat → Int} {K : Option sf_V → sf_M → Prop}
def sf_itr (n : Nat) (g : Int) (cold : Nat → Int) (t : Nat) (S : Nat → Int) : Nat → Nat → Int
  | 0 => S
  | h + 1 => sf_goes n g cold (sf_itr n g cold t S h) t
theorem sf_itr_0 {g : Int} {cold S : Nat → Int} {t : Nat} (hd : S 0 = (t : Int)) : ∀ h, sf_itr n g cold t S h 0 = (t : Int)
  | 0 => hd
  | h + 1 => sf_goes_0
theorem sf_itr_rok {g B : Int} {cold S : Nat → Int} {t : Nat} (r : sf_rok n B S) (hn : n ≤ 5) (ht : t < n) (hg : 0 ≤ g) (hc : ∀ p, p < n → 0 ≤ cold p) : ∀ h : Nat, sf_rok n (B + h) (sf_itr n g cold t S h)
  | 0 => by
    rw [show B + ((0 : Nat) : Int) = B by omega]
    exact r
  | h + 1 => by
    rw [show B + ((h + 1 : Nat) : Int) = B + h + 1 by omega]
    exact sf_rok_goes (sf_itr_rok r hn ht hg hc h) hn ht hg hc
theorem sf_itr_w {g : Int} {cold S : Nat → Int} {t p : Nat} (hp : p < n) (hpt : p ≠ t) (hw : 0 ≤ S (p + 4)) (hc : 0 ≤ cold p) : ∀ h : Nat, sf_itr n g cold t S h (p + 4) = if 0 < S (p + 4) - h * cold p then S (p + 4) - h * cold p else 0
  | 0 => by
    show S (p + 4) = _
    rw [show ((0 : Nat) : Int) * cold p = 0 by simp]
    split <;> omega
  | h + 1 => by
    show sf_goes n g cold (sf_itr n g cold t S h) t (p + 4) = _
    rw [sf_goes_w hp, if_neg hpt, sf_itr_w hp hpt hw hc h, show ((h + 1 : Nat) : Int) = (h : Int) + 1 by omega, Int.add_mul, Int.one_mul]
    generalize (h : Int) * cold p = z
    (repeat' split) <;> omega
theorem sf_itr_t {g : Int} {cold S : Nat → Int} {t : Nat} (ht : t < n) (hw : 0 < S (t + 4)) (hg : 0 ≤ g) : ∀ h : Nat, 0 < sf_itr n g cold t S h (t + 4)
  | 0 => hw
  | h + 1 => by
    show 0 < sf_goes n g cold (sf_itr n g cold t S h) t (t + 4)
    have := sf_itr_t (cold := cold) ht hw hg h
    rw [sf_goes_w ht, if_pos rfl]
    split <;> omega
theorem sf_itr_zero {g : Int} {cold S : Nat → Int} {t p : Nat} {D : Int} (hp : p < n) (ht : t < n) (hw : 0 ≤ S (p + 4)) (hg : 0 ≤ g) (hc : 0 ≤ cold p) (hD : D = if p = t ∧ 0 < S (p + 4) then -1 else sf_dr (S (p + 4)) (cold p)) (h : Nat) (hh : D = -1 ∨ (h : Int) ≤ D) : sf_itr n g cold t S h (p + 4) = 0 ↔ D = h := by
  by_cases q : p = t ∧ 0 < S (p + 4)
  · rw [if_pos q] at hD
    obtain ⟨q1, q2⟩ := q
    subst q1
    have := sf_itr_t (n := n) (g := g) (cold := cold) ht q2 hg h
    omega
  · rw [if_neg q] at hD
    by_cases hz : S (p + 4) = 0
    · have hD0 : D = 0 := by
        rw [hD]
        unfold sf_dr
        rw [if_pos hz]
      have h0 : h = 0 := by omega
      subst h0
      show S (p + 4) = 0 ↔ _
      omega
    · have hpt : p ≠ t := fun z => q ⟨z, by omega⟩
      rw [sf_itr_w hp hpt hw hc h]
      by_cases hc0 : cold p = 0
      · have hD1 : D = -1 := by
          rw [hD]
          unfold sf_dr
          rw [if_neg hz, if_pos (by omega)]
        rw [hc0, Int.mul_zero]
        rw [if_pos (by omega)]
        omega
      · have e := sf_dr_le (w := S (p + 4)) (cc := cold p) (h := (h : Int)) (by omega) (by omega)
        rw [← hD] at e
        have hDm : D ≠ -1 := by
          rw [hD]
          unfold sf_dr
          rw [if_neg hz, if_neg (by omega)]
          have := Int.tdiv_nonneg (a := S (p + 4) + cold p - 1) (b := cold p) (by omega) (by omega)
          omega
        generalize (h : Int) * cold p = z at e ⊢
        constructor
        · intro hz0
          have : S (p + 4) ≤ z := by
            rcases Int.lt_or_le 0 (S (p + 4) - z) with w | w
            · rw [if_pos w] at hz0; omega
            · omega
          have := e.2 this
          omega
        · intro hz0
          have := e.1 (by omega)
          rw [if_neg (by omega)]
theorem s136_loop {w b i g : Int} {cold S : Nat → Int} {t : Nat} {D : Nat → Int} (hn : V 409 0 = (n : Int)) (hn5 : n ≤ 5) (ht : t < n) (hg : V 409 1 = g ∧ 0 ≤ g ∧ g ≤ 20) (hcd : V (sf_rf 409 2) = cold) (hc : ∀ p, p < 5 → 0 ≤ cold p ∧ cold p ≤ 9) (r : sf_rok n 90099 S) (hd : S 0 = (t : Int))
    (hD : ∀ p, p < n → D p = if p = t ∧ 0 < S (p + 4) then -1 else sf_dr (S (p + 4)) (cold p)) (hP : sf_frqP D n b i) : ∀ (m h : Nat), 100 - h = m → h ≤ 100 → (∀ p, p < n → D p = -1 ∨ (h : Int) ≤ D p) →
    ∃ T, ∀ K l, sf_wp 19 none 136 19 [some (.inr (.inl (some 409))), some (.inl w), some (.inl (h : Int)), l] [] (sf_E (sf_put V (sf_rf 409 28) 0 20 (sf_itr n g cold t S h))) K = K (some (.inl (if w = 0 then b else i))) (sf_E (sf_put V (sf_rf 409 28) 0 20 T)) := by
  intro m
  have hDm : ∀ p, p < n → -1 ≤ D p ∧ D p ≤ 99 := fun p hp => by
    have h1 := sf_dr_99 (r.w p (by omega)) (hc p (by omega))
    rw [hD p hp]
    split <;> omega
  induction m with
  | zero =>
    intro h hm hh hf
    have hall : b = -1 ∧ i = -1 := by
      rcases hP with ⟨a1, a2, a3⟩ | ⟨j, a1, a2, a3, a4, a5⟩
      · exact ⟨a1, a2⟩
      · have := hf j a2
        have := hDm j a2
        omega
    refine ⟨sf_itr n g cold t S h, fun K l => ?_⟩
    simp only [q136_19, q136_20, q136_22]
    rw [if_pos (by omega), hall.1, hall.2]
    simp only [q136_62, q136_63, ite_self]
  | succ m ih =>
    intro h hm hh hf
    have rr := sf_itr_rok (g := g) (cold := cold) r hn5 ht hg.2.1 (fun p hp => (hc p (by omega)).1) h
    have z := fun p (hp : p < n) => sf_itr_zero (n := n) (g := g) (cold := cold) (S := S) (t := t) hp ht (r.w p (by omega)).1 hg.2.1 (hc p (by omega)).1 (hD p hp) h (hf p hp)
    have h2 := rr.h
    rcases sf_ff_P (f := fun j => sf_itr n g cold t S h (j + 4)) n 0 with ⟨a1, a2⟩ | ⟨p, a1, a2, a3, a4, a5⟩
    · obtain ⟨T, hT⟩ := ih (h + 1) (by omega) (by omega) (fun p hp => by
        have h1 := hf p hp
        have h3 := a2 p (by omega) (by omega)
        have h4 := z p hp
        rcases h1 with h1 | h1
        · exact Or.inl h1
        · have h5 : ¬ D p = (h : Int) := fun q => h3 (h4.2 q)
          exact Or.inr (by omega))
      refine ⟨T, fun K l => ?_⟩
      simp only [q136_19, q136_20, q136_22, q136_25, q136_26, q136_29, sf_y, sf_so_y, hn]
      rw [if_neg (by omega), if_neg (by omega)]
      simp only [q136_32, q136_33, sf_y]
      rw [s135 hn hn5, a1]
      simp only [q136_36, q136_37, q136_38, q136_39, q136_42, Option.toList_some, Option.toList_none, List.cons_append, List.nil_append]
      rw [if_pos trivial]
      simp only [q136_52, q136_53, sf_y]
      rw [s125 (d := 17) (n := n) (t := t) hn hn5 (by omega) (sf_itr_0 hd h) (by rw [hg.1]; exact hg.2) (by rw [hcd]; exact hc) rr.w (by omega)]
      simp only [q136_56, Option.toList_some, Option.toList_none, List.cons_append, List.nil_append]
      rw [q136_59, sf_wS (by omega), hcd, hg.1]
      exact hT K _
    · have hDp : D p = (h : Int) := (z p (by omega)).1 a4
      have hbi : b = (h : Int) ∧ i = (p : Int) := by
        rcases hP with ⟨b1, b2, b3⟩ | ⟨j, b1, b2, b3, b4, b5⟩
        · have := b3 p (by omega)
          omega
        · have h1 := hf j b2
          have h3 := b5 p (by omega)
          have hb : b = (h : Int) := by omega
          refine ⟨hb, ?_⟩
          by_cases q : p < j
          · omega
          · by_cases q2 : j < p
            · have := a5 j (by omega) q2
              exact absurd ((z j b2).2 (by omega)) this
            · omega
      refine ⟨sf_itr n g cold t S h, fun K l => ?_⟩
      simp only [q136_19, q136_20, q136_22, q136_25, q136_26, q136_29, sf_y, sf_so_y, hn]
      rw [if_neg (by omega), if_neg (by omega)]
      simp only [q136_32, q136_33, sf_y]
      rw [s135 hn hn5, a1]
      simp only [q136_36, q136_37, q136_38, q136_39, q136_42, Option.toList_some, Option.toList_none, List.cons_append, List.nil_append]
      rw [if_neg (by omega)]
      simp only [q136_42, q136_43]
      rw [hbi.1, hbi.2]
      by_cases hw : w = 0
      · rw [if_pos hw, if_pos hw]
        simp only [q136_46, q136_47, q136_51]
      · rw [if_neg hw, if_neg hw]
        simp only [q136_50, q136_51]
theorem p_freezes (R : sf_RR V n nx c ce cf cg) {w : Int} : sf_P2 72 136 [some (.inl w), none, none, none, none] [some (.inl w), none, none] V := by
  have ha := R.a
  have hb := R.b
  have hn5 := ha.n5
  by_cases hp : 0 ≤ w ∧ w ≤ 1
  · have hP := sf_frq_P (D := sf_du V) n
    have cls : ∀ K : Option sf_V → sf_M → Prop, sf_wp 19 none 72 0 [some (.inr (.inl (some 0))), some (.inl w), none, none, none, none] [] (sf_E V) K = K (some (.inl (if w = 0 then (sf_frq (sf_du V) n).1 else (sf_frq (sf_du V) n).2))) (sf_E V) := fun K => by
      simp only [q72_0, q72_1, q72_2, q72_3, s90, q72_6, Option.toList_some, Option.toList_none, List.cons_append, List.nil_append]
      rw [if_pos hp, if_neg (by decide)]
      simp only [q72_12, q72_13, q72_14, q72_15, q72_16, q72_17]
      exact s72_loop ha.xn hn5 hb.x.w ha.cx n 0 none rfl (Nat.zero_le _)
    by_cases hn0 : n = 0
    · have e : sf_frq (sf_du V) n = (-1, -1) := by rw [hn0]; rfl
      refine ⟨-1, V, sf_put V (sf_rf 409 28) 0 20 (V (sf_rf 409 4)), n, nx, c, ce, cf, cg, ?_, ?_, sf_RR_so R⟩
      · intro K
        rw [cls, e]
        simp only [ite_self]
      · intro K
        simp only [q136_0, q136_1, q136_2, q136_3, q136_4, q136_7, Option.toList_some, Option.toList_none, List.cons_append, List.nil_append]
        rw [sf_inB_y hp, if_neg (by decide)]
        simp only [q136_13, q136_14, sf_y]
        rw [s122]
        simp only [q136_17, q136_18, q136_19, q136_20, q136_22, q136_25, q136_26, q136_29, sf_y, sf_so_y, ha.yn, Option.toList_some, Option.toList_none, List.cons_append, List.nil_append]
        rw [if_neg (by omega), if_pos (by omega)]
        simp only [q136_62, q136_63]
    · have hd := hb.y.d
      obtain ⟨t, ht⟩ : ∃ t : Nat, V (sf_rf 409 4) 0 = (t : Int) := ⟨(V (sf_rf 409 4) 0).toNat, by omega⟩
      have htx : sf_getS V (sf_rf 0 2) 0 = (t : Int) := by rw [← ht]; exact hb.q.d
      obtain ⟨T, hT⟩ := s136_loop (V := V) (w := w) (g := V 409 1) (cold := V (sf_rf 409 2)) (S := V (sf_rf 409 4)) (D := sf_du V) ha.yn hn5 (show t < n by omega) ⟨rfl, ha.g0⟩ rfl ha.cy hb.y ht (fun p hp => by
        unfold sf_du
        have e1 : sf_getS V (sf_rf 0 2) (p + 4) = V (sf_rf 409 4) (p + 4) := hb.q.w p hp
        have e2 : V (sf_si (sf_rf 0 1)) p = V (sf_rf 409 2) p := ha.c p hp
        rw [htx, e1, e2]
        by_cases q : p = t ∧ 0 < V (sf_rf 409 4) (p + 4)
        · rw [if_pos q, if_pos (by omega)]
        · rw [if_neg q, if_neg (by omega)]) hP 100 0 rfl (by omega) (fun p hp => by
        have h1 := sf_dr_99 (hb.x.w p (by omega)) (ha.cx p (by omega))
        unfold sf_du
        split
        · exact Or.inl rfl
        · replace h1 : -1 ≤ sf_dr (sf_getS V (sf_rf 0 2) (p + 4)) (V (sf_si (sf_rf 0 1)) p) ∧ _ := h1
          omega)
      refine ⟨_, V, sf_put V (sf_rf 409 28) 0 20 T, n, nx, c, ce, cf, cg, fun K => cls K, ?_, sf_RR_so R⟩
      intro K
      simp only [q136_0, q136_1, q136_2, q136_3, q136_4, q136_7, Option.toList_some, Option.toList_none, List.cons_append, List.nil_append]
      rw [sf_inB_y hp, if_neg (by decide)]
      simp only [q136_13, q136_14, sf_y]
      rw [s122]
      simp only [q136_17, q136_18, Option.toList_some, Option.toList_none, List.cons_append, List.nil_append]
      exact hT K none
  · refine ⟨-1000000002, V, V, n, nx, c, ce, cf, cg, ?_, ?_, R⟩
    · intro K
      simp only [q72_0, q72_1, q72_2, q72_3, s90, q72_6, Option.toList_some, Option.toList_none, List.cons_append, List.nil_append]
      rw [if_neg hp, if_pos rfl]
      simp only [q72_9, q72_11]
    · intro K
      simp only [q136_0, q136_1, q136_2, q136_3, q136_4, q136_7, Option.toList_some, Option.toList_none, List.cons_append, List.nil_append]
      rw [sf_inB_n hp, if_pos rfl]
      simp only [q136_10, q136_12]
end SFP18

/-! duel: the game -/
section SFP44
variable {V X U : sf_MV} {n nx c ce cf cg : Nat}
def sf_vf (f : Nat → Int) (ev : Bool) : Nat → Int × Int
  | 0 => (-1, 0)
  | m + 1 => if (sf_vf f ev m).1 = -1 ∨ (if ev = true then (sf_vf f ev m).1 < f m else f m < (sf_vf f ev m).1) then (f m, (m : Int)) else sf_vf f ev m
theorem sf_vf_congr {f g : Nat → Int} {ev : Bool} : ∀ m, (∀ x, x < m → f x = g x) → sf_vf f ev m = sf_vf g ev m
  | 0, _ => rfl
  | m + 1, h => by
    unfold sf_vf
    rw [sf_vf_congr m (fun x hx => h x (by omega)), h m (by omega)]
theorem sf_vf_good {f : Nat → Int} {ev : Bool} (h0 : ∀ x, 0 ≤ f x) : ∀ m, (m = 0 ∧ (sf_vf f ev m).1 = -1) ∨ (0 < m ∧ 0 ≤ (sf_vf f ev m).1 ∧ ∀ y, y < m → if ev = true then f y ≤ (sf_vf f ev m).1 else (sf_vf f ev m).1 ≤ f y)
  | 0 => Or.inl ⟨rfl, rfl⟩
  | m + 1 => by
    have ih := sf_vf_good (ev := ev) h0 m
    have hm := h0 m
    refine Or.inr ⟨by omega, ?_⟩
    unfold sf_vf
    by_cases q : (sf_vf f ev m).1 = -1 ∨ (if ev = true then (sf_vf f ev m).1 < f m else f m < (sf_vf f ev m).1)
    · rw [if_pos q]
      refine ⟨hm, fun y hy => ?_⟩
      show if ev = true then f y ≤ f m else f m ≤ f y
      by_cases hy2 : y = m
      · subst hy2
        split <;> exact Int.le_refl _
      · rcases ih with ⟨a1, a2⟩ | ⟨a1, a2, a3⟩
        · omega
        · have := a3 y (by omega)
          rcases q with q | q
          · omega
          · by_cases he : ev = true
            · rw [if_pos he] at this q ⊢
              omega
            · rw [if_neg he] at this q ⊢
              omega
    · rw [if_neg q]
      rcases ih with ⟨a1, a2⟩ | ⟨a1, a2, a3⟩
      · exact absurd (Or.inl a2) q
      · refine ⟨a2, fun y hy => ?_⟩
        by_cases hy2 : y = m
        · subst hy2
          by_cases he : ev = true
          · rw [if_pos he] at q ⊢
            omega
          · rw [if_neg he] at q ⊢
            omega
        · exact a3 y (by omega)
theorem sf_vf_dup {f : Nat → Int} {ev : Bool} (h0 : ∀ x, 0 ≤ f x) {m y : Nat} (hy : y < m) (h : f y = f m) : sf_vf f ev (m + 1) = sf_vf f ev m := by
  rcases sf_vf_good (ev := ev) h0 m with ⟨a1, a2⟩ | ⟨a1, a2, a3⟩
  · omega
  · have := a3 y hy
    rw [h] at this
    show (if _ then _ else _) = _
    rw [if_neg]
    intro q
    by_cases he : ev = true
    · rw [if_pos he] at this q
      omega
    · rw [if_neg he] at this q
      omega
def sf_ntx (n : Nat) (S : Nat → Int) (who : Int) (x : Nat) : Nat := (if x < 6 then sf_likes n S (S (x + 14)) who else S 0).toNat
def sf_who (a b : Int) (k : Nat) : Int := if k % 2 = 0 then a else b
def sf_vl (n : Nat) (g : Int) (cold : Nat → Int) (a b : Int) : Nat → Nat → (Nat → Int) → Int
  | 0, _, S => if S 0 = a then 2 else if S 0 = b then 0 else 1
  | r + 1, k, S => (sf_vf (fun x => sf_vl n g cold a b r (k + 1) (sf_goes n g cold S (sf_ntx n S (sf_who a b k) x))) (decide (k % 2 = 0)) 7).1
theorem sf_vl_0 {g : Int} {cold : Nat → Int} {a b : Int} : ∀ r k S, 0 ≤ sf_vl n g cold a b r k S
  | 0, k, S => by
    unfold sf_vl
    split
    · decide
    · split <;> decide
  | r + 1, k, S => by
    have h := sf_vf_good (f := fun x => sf_vl n g cold a b r (k + 1) (sf_goes n g cold S (sf_ntx n S (sf_who a b k) x))) (ev := decide (k % 2 = 0)) (fun x => sf_vl_0 r (k + 1) _) 7
    rcases h with ⟨h, _⟩ | ⟨_, h, _⟩
    · omega
    · exact h
theorem sf_goes_ru1 {m : Nat} {g v : Int} {cold S : Nat → Int} {t : Nat} : sf_goes m g cold (sf_ru S 1 v) t = sf_ru (sf_goes m g cold S t) 1 v := by
  have h2 : sf_ru S 1 v 2 = S 2 := sf_ru_ne (by omega)
  funext k
  unfold sf_goes sf_turn
  by_cases h : 4 ≤ k ∧ k < 4 + m
  · have e : ∀ f : Nat → Int, sf_ru f 1 v k = f k := fun f => sf_ru_ne (by omega)
    rw [if_pos h, e, e, if_pos h]
  · rw [if_neg h, h2]
    by_cases h1 : k = 1
    · subst h1
      rw [sf_ru_ne (by omega), sf_ru_ne (by omega), sf_ru_ne (by omega), sf_ru_eq, sf_ru_eq]
    · have e : ∀ f : Nat → Int, sf_ru f 1 v k = f k := fun f => sf_ru_ne h1
      rw [e (fun k => if 4 ≤ k ∧ k < 4 + m then _ else _)]
      show _ = if _ then _ else _
      rw [if_neg h]
      unfold sf_ru
      (repeat' split) <;> first | rfl | omega
theorem sf_ntx_in {S : Nat → Int} {who : Int} {x : Nat} (hn : 0 < n) (hw : 0 ≤ who ∧ who < n) (hd : 0 ≤ S 0 ∧ S 0 < n) : ((sf_ntx n S who x : Nat) : Int) = (if x < 6 then sf_likes n S (S (x + 14)) who else S 0) ∧ sf_ntx n S who x < n := by
  unfold sf_ntx
  by_cases h : x < 6
  · rw [if_pos h]
    obtain ⟨t, ht, ht5⟩ := sf_likes_in (n := n) (S := S) (k := S (x + 14)) (p := who) hn hw hd
    rw [ht]
    omega
  · rw [if_neg h]
    omega
/-- the game doesn't ask for logs -/
theorem sf_vl_c {g : Int} {cold cold' : Nat → Int} {a b v : Int} (hn : 0 < n) (hn5 : n ≤ 5) (ha : 0 ≤ a ∧ a < n) (hb : 0 ≤ b ∧ b < n) (hc : ∀ p, p < n → cold p = cold' p) : ∀ r k S T, sf_req n (sf_ru S 1 v) (sf_ru T 1 v) → (0 ≤ S 0 ∧ S 0 < n) → sf_vl n g cold a b r k S = sf_vl n g cold' a b r k T
  | 0, k, S, T, h, _ => by
    have d := h.d
    rw [sf_ru_ne (by omega), sf_ru_ne (by omega)] at d
    unfold sf_vl
    rw [d]
  | r + 1, k, S, T, h, hd => by
    have d := h.d
    rw [sf_ru_ne (by omega), sf_ru_ne (by omega)] at d
    have hw : 0 ≤ sf_who a b k ∧ sf_who a b k < n := by
      unfold sf_who
      split <;> assumption
    unfold sf_vl
    refine congrArg Prod.fst (sf_vf_congr 7 (fun x _ => ?_))
    have e : sf_ntx n S (sf_who a b k) x = sf_ntx n T (sf_who a b k) x := by
      unfold sf_ntx
      by_cases hx : x < 6
      · have h1 := sf_likes_c (r := S (x + 14)) (p := sf_who a b k) h
        rw [sf_likes_ru1, sf_likes_ru1] at h1
        have h2 := h.r x hx
        rw [sf_ru_ne (by omega), sf_ru_ne (by omega)] at h2
        rw [if_pos hx, if_pos hx, h1, h2]
      · rw [if_neg hx, if_neg hx, d]
    have ht := sf_ntx_in (x := x) hn hw hd
    rw [← e]
    refine sf_vl_c (v := v) hn hn5 ha hb hc r (k + 1) _ _ ?_ ?_
    · rw [← sf_goes_ru1, ← sf_goes_ru1]
      exact sf_req_goes h hn5 ht.2 hc
    · rw [sf_goes_0]
      omega
/-- who has been tried -/
def sf_fq (F : Nat → Bool) : Int32 := (if F 0 then 1 else 0) ||| (if F 1 then 2 else 0) ||| (if F 2 then 4 else 0) ||| (if F 3 then 8 else 0) ||| (if F 4 then 16 else 0)
theorem sf_fq_bit0 : ∀ b0 b1 b2 b3 b4 : Bool, ∀ k : Nat, k < 5 → ((((if b0 then 1 else 0) ||| (if b1 then 2 else 0) ||| (if b2 then 4 else 0) ||| (if b3 then 8 else 0) ||| (if b4 then 16 else 0) : Int32) >>> (Int32.ofInt (k : Int) &&& 31)) &&& Int32.ofInt 1).toInt = if (if k = 0 then b0 else if k = 1 then b1 else if k = 2 then b2 else if k = 3 then b3 else b4) then 1 else 0 := by decide +kernel
theorem sf_fq_bit {F : Nat → Bool} {k : Nat} (hk : k < 5) : ((sf_fq F >>> (Int32.ofInt (k : Int) &&& 31)) &&& Int32.ofInt 1).toInt = if F k = true then 1 else 0 := by
  unfold sf_fq
  rw [sf_fq_bit0 _ _ _ _ _ k hk]
  have : k = 0 ∨ k = 1 ∨ k = 2 ∨ k = 3 ∨ k = 4 := by omega
  rcases this with h | h | h | h | h <;> subst h <;> rfl
theorem sf_fq_set0 : ∀ b0 b1 b2 b3 b4 : Bool, ∀ k : Nat, k < 5 → ((if b0 then 1 else 0) ||| (if b1 then 2 else 0) ||| (if b2 then 4 else 0) ||| (if b3 then 8 else 0) ||| (if b4 then 16 else 0) : Int32) ||| sf_bit k = (if b0 || k == 0 then 1 else 0) ||| (if b1 || k == 1 then 2 else 0) ||| (if b2 || k == 2 then 4 else 0) ||| (if b3 || k == 3 then 8 else 0) ||| (if b4 || k == 4 then 16 else 0) := by decide +kernel
theorem sf_fq_set {F : Nat → Bool} {k : Nat} (hk : k < 5) : sf_fq F ||| sf_bit k = sf_fq (fun j => F j || k == j) := by
  unfold sf_fq
  exact sf_fq_set0 _ _ _ _ _ k hk
end SFP44

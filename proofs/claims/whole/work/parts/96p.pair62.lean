/-! for ever: law 3 is in the book -/
def sf_feT (x y z w v : Nat) : Bool := Nat.ble (y + 1) x && (Nat.ble (z + 1) x && (Nat.ble (w + 1) x && Nat.ble (v + 1) x))
def sf_feU (x z w v : Nat) : Bool := Nat.ble (z + 1) x && (Nat.ble (w + 1) x && Nat.ble (v + 1) x)
def sf_feN (x y : Nat) : Bool := Nat.ble (x + 1) y || Nat.ble (y + 1) x
def sf_feM (md a b c d e : Nat) : Bool :=
  if md = 0 then sf_feT a b c d e else if md = 1 then sf_feT b a c d e else if md = 2 then sf_feT c a b d e else if md = 3 then sf_feT d a b c e else if md = 4 then sf_feT e a b c d
  else if md = 5 then (sf_feT a b c d e && sf_feU e b c d) || ((sf_feT b a c d e && sf_feU a c d e) || ((sf_feT c a b d e && sf_feU b a d e) || ((sf_feT d a b c e && sf_feU c a b e) || (sf_feT e a b c d && sf_feU d a b c))))
  else if md = 6 then (sf_feT a b c d e && sf_feU b c d e) || ((sf_feT b a c d e && sf_feU c a d e) || ((sf_feT c a b d e && sf_feU d a b e) || ((sf_feT d a b c e && sf_feU e a b c) || (sf_feT e a b c d && sf_feU a b c d))))
  else true
def sf_feQ (n md a b c d e : Nat) : Bool :=
  (Nat.ble n 1 || sf_feN a b) && ((Nat.ble n 2 || (sf_feN a c && sf_feN b c)) && ((Nat.ble n 3 || (sf_feN a d && (sf_feN b d && sf_feN c d))) && ((Nat.ble n 4 || (sf_feN a e && (sf_feN b e && (sf_feN c e && sf_feN d e)))) &&
  ((Nat.ble 2 n || Nat.ble b 0) && ((Nat.ble 3 n || Nat.ble c 0) && ((Nat.ble 4 n || Nat.ble d 0) && ((Nat.ble 5 n || Nat.ble e 0) && ((Nat.ble (a + 1) n && Nat.ble (b + 1) n) && (Nat.ble (c + 1) n && (Nat.ble (d + 1) n && sf_feM md a b c d e))))))))))
def sf_feG (n md : Nat) : List Nat := (List.range 3125).filter (fun c => sf_feQ n md (c % 5) (c / 5 % 5) (c / 25 % 5) (c / 125 % 5) (c / 625 % 5))
theorem sf_feG_five : ∀ md, md < 7 → (sf_feG 5 md).length ≤ 94 := by decide +kernel
theorem sf_feG_four : ∀ n, n < 5 → (sf_feG n 7).length ≤ 94 := by decide +kernel
def sf_feK (s : Nat → Int) (n p : Nat) : Nat := if p < n then sf_feR s n p else 0
def sf_feD (s : Nat → Int) (n : Nat) : Nat := sf_feK s n 0 + 5 * sf_feK s n 1 + 25 * sf_feK s n 2 + 125 * sf_feK s n 3 + 625 * sf_feK s n 4
section SFFE3
variable {n L : Nat} {D : Nat → Nat} {I : Nat → Nat → Int} {H : Int} {lk pq : Nat → Int}
theorem sf_feK_lt {s : Nat → Int} (h0 : 0 < n) (h5 : n ≤ 5) (p : Nat) : sf_feK s n p < 5 := by
  unfold sf_feK
  split
  · rename_i h
    have := sf_feR_bd (s := s) h
    omega
  · omega
theorem sf_feD_in {s : Nat → Int} {md : Nat} (h0 : 0 < n) (h5 : n ≤ 5) (h : sf_feQ n md (sf_feK s n 0) (sf_feK s n 1) (sf_feK s n 2) (sf_feK s n 3) (sf_feK s n 4) = true) : sf_feD s n ∈ sf_feG n md := by
  have k0 := sf_feK_lt (s := s) h0 h5 0
  have k1 := sf_feK_lt (s := s) h0 h5 1
  have k2 := sf_feK_lt (s := s) h0 h5 2
  have k3 := sf_feK_lt (s := s) h0 h5 3
  have k4 := sf_feK_lt (s := s) h0 h5 4
  unfold sf_feG
  rw [List.mem_filter, List.mem_range]
  unfold sf_feD
  refine ⟨by omega, ?_⟩
  rw [show (sf_feK s n 0 + 5 * sf_feK s n 1 + 25 * sf_feK s n 2 + 125 * sf_feK s n 3 + 625 * sf_feK s n 4) % 5 = sf_feK s n 0 by omega, show (sf_feK s n 0 + 5 * sf_feK s n 1 + 25 * sf_feK s n 2 + 125 * sf_feK s n 3 + 625 * sf_feK s n 4) / 5 % 5 = sf_feK s n 1 by omega, show (sf_feK s n 0 + 5 * sf_feK s n 1 + 25 * sf_feK s n 2 + 125 * sf_feK s n 3 + 625 * sf_feK s n 4) / 25 % 5 = sf_feK s n 2 by omega, show (sf_feK s n 0 + 5 * sf_feK s n 1 + 25 * sf_feK s n 2 + 125 * sf_feK s n 3 + 625 * sf_feK s n 4) / 125 % 5 = sf_feK s n 3 by omega, show (sf_feK s n 0 + 5 * sf_feK s n 1 + 25 * sf_feK s n 2 + 125 * sf_feK s n 3 + 625 * sf_feK s n 4) / 625 % 5 = sf_feK s n 4 by omega]
  exact h
theorem sf_feD_eq {s u : Nat → Int} (h0 : 0 < n) (h5 : n ≤ 5) (h : sf_feD s n = sf_feD u n) : sf_feS n s u := by
  have k0 := sf_feK_lt (s := s) h0 h5 0
  have k1 := sf_feK_lt (s := s) h0 h5 1
  have k2 := sf_feK_lt (s := s) h0 h5 2
  have k3 := sf_feK_lt (s := s) h0 h5 3
  have k4 := sf_feK_lt (s := s) h0 h5 4
  have j0 := sf_feK_lt (s := u) h0 h5 0
  have j1 := sf_feK_lt (s := u) h0 h5 1
  have j2 := sf_feK_lt (s := u) h0 h5 2
  have j3 := sf_feK_lt (s := u) h0 h5 3
  have j4 := sf_feK_lt (s := u) h0 h5 4
  unfold sf_feD at h
  have key : ∀ p, p < n → sf_feK s n p = sf_feK u n p := fun p hp => by
    have : p = 0 ∨ p = 1 ∨ p = 2 ∨ p = 3 ∨ p = 4 := by omega
    rcases this with rfl | rfl | rfl | rfl | rfl <;> omega
  refine sf_feS_of (fun p hp => ?_)
  have := key p hp
  unfold sf_feK at this
  rw [if_pos hp, if_pos hp] at this
  exact this
/-- everybody was the darling behind 5 rounds -/
theorem sf_fe_all (P : sf_fe n L D I H lk pq) {l : Nat} (hl : l < L) (h3 : lk l = 3) : ∀ h, L * 5 ≤ h → ∀ p, p < n → ¬ I h p = -1 := by
  intro h hh p hp e
  have hn := P.n5
  have np : ∀ g, g ≤ h → I g p = -1 := fun g hg => by
    by_cases q : I g p = -1
    · exact q
    · have := sf_fe_set P hp q (h - g)
      rw [show g + (h - g) = h by omega] at this
      exact absurd e this
  have hq : ∀ x, x < 5 → L * x + l + 1 ≤ h := fun x hx => by
    have : L * x + L ≤ L * 5 := by
      rw [show L * x + L = L * (x + 1) by rw [Nat.mul_add, Nat.mul_one]]
      exact Nat.mul_le_mul_left L (by omega)
    omega
  have hc : ∀ x, x < 5 → I (L * x + l) (D (L * x + l + 1)) = -1 := fun x hx => by
    have c := P.c (L * x + l)
    unfold sf_ch at c
    rw [show (L * x + l) % L = l by rw [Nat.mul_add_mod, Nat.mod_eq_of_lt hl], h3, if_neg (by decide), if_pos rfl] at c
    have c' : D (L * x + l + 1) = sf_least (I (L * x + l)) n := by omega
    have m := sf_feL_min (s := I (L * x + l)) n p hp
    have r := sf_fe_r P (L * x + l) _ (P.d (L * x + l + 1))
    have := np (L * x + l) (by have := hq x hx; omega)
    rw [← c'] at m
    omega
  obtain ⟨a, b, hab, hb, eq⟩ := sf_pgn (l := List.range n) (f := fun x => if x < 5 then D (L * x + l + 1) else p) 6 (by rw [List.length_range]; omega) (fun k _ => by
    by_cases q : k < 5
    · simp only [if_pos q]; exact List.mem_range.mpr (P.d _)
    · simp only [if_neg q]; exact List.mem_range.mpr hp)
  have ha5 : a < 5 := by omega
  simp only [if_pos ha5] at eq
  have hI : ¬ I (L * a + l + 1) (D (L * a + l + 1)) = -1 := by
    rw [P.i _ _ (P.d _), if_pos rfl]
    have := P.H0
    omega
  by_cases q : b < 5
  · rw [if_pos q] at eq
    have g := sf_fe_set P (P.d _) hI (L * b + l - (L * a + l + 1))
    have : L * a + L ≤ L * b := by
      rw [show L * a + L = L * (a + 1) by rw [Nat.mul_add, Nat.mul_one]]
      exact Nat.mul_le_mul_left L (by omega)
    rw [show L * a + l + 1 + (L * b + l - (L * a + l + 1)) = L * b + l by have := P.L0; omega, eq] at g
    exact g (hc b q)
  · rw [if_neg q] at eq
    rw [eq] at hI
    exact hI (np _ (hq a ha5))
theorem sf_fe_dar (P : sf_fe n L D I H lk pq) {a b : Nat} (ha : ∀ p, p < n → ¬ I a p = -1) (hb : ∀ p, p < n → ¬ I b p = -1) (h : sf_feS n (I a) (I b)) : D a = D b := by
  have da := P.d a
  have db := P.d b
  have ma : I a (D b) ≤ I a (D a) := by
    rcases sf_fe_m P a with m | m
    · exact absurd (m _ da) (ha _ da)
    · exact m _ db
  have mb : I b (D a) ≤ I b (D b) := by
    rcases sf_fe_m P b with m | m
    · exact absurd (m _ db) (hb _ db)
    · exact m _ da
  have := h (D b) (D a) db da
  have e : I a (D a) = I a (D b) := by omega
  rcases sf_fe_a P a _ da _ db e with g | g
  · exact g
  · exact absurd g (ha _ da)
theorem sf_fe_end (P : sf_fe n L D I H lk pq) (hall : ∀ h, L * 5 ≤ h → ∀ p, p < n → ¬ I h p = -1) {a b o : Nat} (ha : 5 ≤ a) (hab : a < b) (hb : b < 100) (ho : o ≤ L) (h : sf_feS n (I (L * a + o)) (I (L * b + o))) : ∃ a b, a < b ∧ b ≤ 100 ∧ sf_feB n D I (L * a) (L * b) := by
  have l5 : ∀ x, 5 ≤ x → L * 5 ≤ L * x := fun x hx => Nat.mul_le_mul_left L hx
  have a1 := l5 a ha
  have b1 := l5 b (by omega)
  have A : sf_feA n D I (L * a + o) (L * b + o) := ⟨sf_fe_dar P (hall _ (by omega)) (hall _ (by omega)) h, h⟩
  have B := sf_fe_per P A (by rw [Nat.mul_add_mod, Nat.mul_add_mod]) (L - o)
  rw [show L * a + o + (L - o) = L * (a + 1) by rw [Nat.mul_add, Nat.mul_one]; omega, show L * b + o + (L - o) = L * (b + 1) by rw [Nat.mul_add, Nat.mul_one]; omega] at B
  refine ⟨a + 1, b + 1, by omega, by omega, B, fun p hp => ?_⟩
  have := hall _ (l5 (a + 1) (by omega)) p hp
  have := hall _ (l5 (b + 1) (by omega)) p hp
  omega
theorem sf_fe_pig (P : sf_fe n L D I H lk pq) (hall : ∀ h, L * 5 ≤ h → ∀ p, p < n → ¬ I h p = -1) {md o : Nat} (ho : o ≤ L) (hG : (sf_feG n md).length ≤ 94)
    (hq : ∀ x, 5 ≤ x → sf_feQ n md (sf_feK (I (L * x + o)) n 0) (sf_feK (I (L * x + o)) n 1) (sf_feK (I (L * x + o)) n 2) (sf_feK (I (L * x + o)) n 3) (sf_feK (I (L * x + o)) n 4) = true) : ∃ a b, a < b ∧ b ≤ 100 ∧ sf_feB n D I (L * a) (L * b) := by
  obtain ⟨a, b, hab, hb, e⟩ := sf_pgn (l := sf_feG n md) (f := fun x => sf_feD (I (L * (x + 5) + o)) n) 95 (by omega) (fun k _ => sf_feD_in P.n0 P.n5 (hq (k + 5) (by omega)))
  exact sf_fe_end P hall (a := a + 5) (b := b + 5) (by omega) (by omega) (by omega) ho (sf_feD_eq P.n0 P.n5 e)
theorem sf_feR_ne {s : Nat → Int} (ha : ∀ p, p < n → ∀ q, q < n → s p = s q → p = q) {p q : Nat} (hp : p < n) (hq : q < n) (h : ¬ p = q) : ¬ sf_feR s n p = sf_feR s n q := fun e => by
  have h1 := sf_feR_iff (s := s) (q := q) hp
  have h2 := sf_feR_iff (s := s) (q := p) hq
  exact h (ha p hp q hq (by omega))
theorem sf_fe_inj (P : sf_fe n L D I H lk pq) {h : Nat} (ha : ∀ p, p < n → ¬ I h p = -1) : ∀ p, p < n → ∀ q, q < n → I h p = I h q → p = q := fun p hp q hq e => by
  rcases sf_fe_a P h p hp q hq e with g | g
  · exact g
  · exact absurd g (ha p hp)
/-- at most four people -/
theorem sf_fe_few (P : sf_fe n L D I H lk pq) (h4 : n < 5) (hall : ∀ h, L * 5 ≤ h → ∀ p, p < n → ¬ I h p = -1) : ∃ a b, a < b ∧ b ≤ 100 ∧ sf_feB n D I (L * a) (L * b) := by
  refine sf_fe_pig P hall (md := 7) (o := 0) (by omega) (sf_feG_four n h4) (fun x hx => ?_)
  have hi := sf_fe_inj P (hall (L * x + 0) (Nat.mul_le_mul_left L hx))
  have n0 := P.n0
  have ne := fun p q hp hq h => sf_feR_ne hi (p := p) (q := q) hp hq h
  have bd := fun p hp => sf_feR_bd (s := I (L * x + 0)) (n := n) (p := p) hp
  generalize I (L * x + 0) = s at ne bd hi ⊢
  have : n = 1 ∨ n = 2 ∨ n = 3 ∨ n = 4 := by omega
  unfold sf_feQ sf_feN sf_feK
  rcases this with rfl | rfl | rfl | rfl
  · have b0 := bd 0 (by omega)
    simp (decide := true) only [if_true, if_false, sf_feM, Bool.and_eq_true, Bool.or_eq_true, Nat.ble_eq, true_or, or_true, false_or, or_false, true_and, and_true, false_and, and_false]
    omega
  · have b0 := bd 0 (by omega)
    have b1 := bd 1 (by omega)
    have n1 := ne 0 1 (by omega) (by omega) (by omega)
    simp (decide := true) only [if_true, if_false, sf_feM, Bool.and_eq_true, Bool.or_eq_true, Nat.ble_eq, true_or, or_true, false_or, or_false, true_and, and_true, false_and, and_false]
    omega
  · have b0 := bd 0 (by omega)
    have b1 := bd 1 (by omega)
    have b2 := bd 2 (by omega)
    have n1 := ne 0 1 (by omega) (by omega) (by omega)
    have n2 := ne 0 2 (by omega) (by omega) (by omega)
    have n3 := ne 1 2 (by omega) (by omega) (by omega)
    simp (decide := true) only [if_true, if_false, sf_feM, Bool.and_eq_true, Bool.or_eq_true, Nat.ble_eq, true_or, or_true, false_or, or_false, true_and, and_true, false_and, and_false]
    omega
  · have b0 := bd 0 (by omega)
    have b1 := bd 1 (by omega)
    have b2 := bd 2 (by omega)
    have b3 := bd 3 (by omega)
    have n1 := ne 0 1 (by omega) (by omega) (by omega)
    have n2 := ne 0 2 (by omega) (by omega) (by omega)
    have n3 := ne 1 2 (by omega) (by omega) (by omega)
    have n4 := ne 0 3 (by omega) (by omega) (by omega)
    have n5 := ne 1 3 (by omega) (by omega) (by omega)
    have n6 := ne 2 3 (by omega) (by omega) (by omega)
    simp (decide := true) only [if_true, if_false, sf_feM, Bool.and_eq_true, Bool.or_eq_true, Nat.ble_eq, true_or, or_true, false_or, or_false, true_and, and_true, false_and, and_false]
    omega
end SFFE3

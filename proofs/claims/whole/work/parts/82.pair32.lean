/-! a clause: a doing -/
section SFP32
variable {V X U : sf_MV} {n : Nat} {t : Nat → Int} {L : Nat}
theorem sf_TY_FU {U' : sf_MV} (h : sf_TY U t L) (g : sf_FU U U') : sf_TY U' t L := by
  obtain ⟨h1, h2, h3⟩ := h
  exact ⟨by rw [g.2 14 (by decide)]; exact h1, h2, fun j hj => by rw [g.1 _ (by simp [sf_rf_neY]) (by simp [sf_rf_inj]) (by simp [sf_rf_inj]) (by simp [sf_rf_inj]) (by simp [sf_rf_inj]) (by simp [sf_rf_inj])]; exact h3 j hj⟩
theorem sf_sk_stop : ∀ m i, sf_sk t m i < i + m → ¬ t (sf_sk t m i) = 32
  | 0, i, h => by
    have : sf_sk t 0 i = i := rfl
    omega
  | m + 1, i, h => by
    unfold sf_sk at h ⊢
    by_cases q : t i = 32
    · rw [if_pos q] at h ⊢
      exact sf_sk_stop m (i + 1) (by omega)
    · rw [if_neg q]
      exact q
theorem sf_sk_idem {i j : Nat} (hL : i ≤ L) (hj : sf_sk t (L - i) i = j) : sf_sk t (L - j) j = j := by
  have h := sf_sk_in (t := t) (L - i) i
  rw [hj] at h
  by_cases q : j < L
  · have h2 := sf_sk_stop (t := t) (L - i) i (by omega)
    rw [hj] at h2
    have e : L - j = L - j - 1 + 1 := by omega
    rw [e]
    exact if_neg h2
  · have e : L - j = 0 := by omega
    rw [e]
    rfl
theorem sf_ek_bad {j : Nat} (b : ¬ sf_eb t L j = 0) : sf_ek t L j = j := by
  unfold sf_ek
  unfold sf_eb at b
  by_cases z : j < L ∧ t j = 59
  · rw [if_pos z] at b
    exact absurd rfl b
  · rw [if_neg z]
theorem sf_eb_lt {j : Nat} (b : sf_eb t L j = 0) : j < L := by
  unfold sf_eb at b
  by_cases z : j < L ∧ t j = 59
  · exact z.1
  · rw [if_neg z] at b
    exact absurd b (by decide)
def sf_tbit (told e : Int) : Int := (Int32.ofInt (Int32.ofInt told >>> (Int32.ofInt e &&& 31)).toInt &&& Int32.ofInt 1).toInt
def sf_tn2 (told e : Int) : Int := (Int32.ofInt told ||| Int32.ofInt (Int32.ofInt 1 <<< (Int32.ofInt e &&& 31)).toInt).toInt
theorem sf_tbit01 {told e : Int} : sf_tbit told e = 0 ∨ sf_tbit told e = 1 := by
  unfold sf_tbit
  generalize Int32.ofInt (Int32.ofInt told >>> (Int32.ofInt e &&& 31)).toInt = x
  have key : ∀ b : BitVec 32, b &&& 1#32 = 0#32 ∨ b &&& 1#32 = 1#32 := by
    intro b
    have h1 : (b &&& 1#32).toNat = b.toNat % 2 := by
      rw [BitVec.toNat_and]
      exact Nat.and_one_is_mod _
    rcases Nat.mod_two_eq_zero_or_one b.toNat with h | h
    · left
      exact BitVec.eq_of_toNat_eq (by rw [h1, h]; rfl)
    · right
      exact BitVec.eq_of_toNat_eq (by rw [h1, h]; rfl)
  rcases key x.toBitVec with h | h
  · left
    have e1 : x &&& Int32.ofInt 1 = 0 := Int32.toBitVec_inj.1 (by simpa using h)
    rw [e1]; rfl
  · right
    have e1 : x &&& Int32.ofInt 1 = 1 := Int32.toBitVec_inj.1 (by simpa using h)
    rw [e1]; rfl
end SFP32

/-! the text: the reference reads blanks, a number, a row, an end -/
section SFP28
variable {V X Y U : sf_MV} {n nx c ce cf cg a k m : Nat} {v : Int} {f : Nat → Int} {K : Option sf_V → sf_M → Prop} {t : Nat → Int} {L : Nat}
def sf_TY (U : sf_MV) (t : Nat → Int) (L : Nat) : Prop := U 409 14 = (L : Int) ∧ L ≤ 200 ∧ ∀ j, j < L → U (sf_rf 409 13) j = t j ∧ 0 ≤ t j ∧ t j ≤ 255
theorem sf_mxy : sf_mix Y U 409 = U 409 := sf_mix_hi (by decide)
theorem sf_mxr {k : Nat} : sf_mix Y U (sf_rf 409 k) = U (sf_rf 409 k) := sf_mix_hi (sf_hi_all k)
theorem sf_mxu : sf_upd (sf_mix Y U) 409 k v = sf_mix Y (sf_upd U 409 k v) := sf_mix_ur (by decide)
theorem sf_mxv {j : Nat} : sf_upd (sf_mix Y U) (sf_rf 409 j) k v = sf_mix Y (sf_upd U (sf_rf 409 j) k v) := sf_mix_ur (sf_hi_all j)
theorem s105 {d i : Nat} {lo hi : Int} (h : sf_TY U t L) (hi5 : U 409 24 = (i : Int)) : sf_wp d none 105 0 [some (.inr (.inl (some 409))), some (.inl lo), some (.inl hi)] [] (sf_E (sf_mix Y U)) K = K (some (.inl (if i < L ∧ lo ≤ t i ∧ t i ≤ hi then 1 else 0))) (sf_E (sf_mix Y U)) := by
  have y13 := sf_c12_13 sf_y
  have h2 := h.2.1
  simp only [q105_0, q105_1, q105_4, q105_5, q105_8, sf_y, sf_mxy, h.1, hi5]
  by_cases q : i < L
  · have b : i < 200 := by omega
    have e := (h.2.2 i q).1
    rw [if_neg (by omega)]
    simp only [q105_11, q105_12, q105_15, q105_16, q105_19, q105_20, q105_21, q105_22, q105_23, q105_24, q105_25, sf_y, y13, sf_y13, sf_mxy, sf_mxr, hi5, e, sf_bd, b, true_and, Int.toNat_natCast]
    rw [q105_28]
    by_cases q2 : lo ≤ t i ∧ t i ≤ hi
    · rw [sf_inB_y q2, if_neg (by decide), if_pos ⟨q, q2⟩]
      simp (decide := true) only [q105_31, q105_32, q105_36, or_true, true_and]
    · rw [sf_inB_n q2, if_pos rfl, if_neg (fun z => q2 z.2)]
      simp (decide := true) only [q105_35, q105_36, true_or, true_and]
  · rw [if_pos (by omega), if_neg (fun z => q z.1)]
    simp (decide := true) only [q105_35, q105_36, true_or, true_and]
theorem sf_TY_u (h : sf_TY U t L) (hk : ¬ k = 14) : sf_TY (sf_upd U 409 k v) t L := by
  obtain ⟨h1, h2, h3⟩ := h
  exact ⟨by rw [sf_upd_ne2 (fun z => hk z.symm)]; exact h1, h2, fun j hj => by rw [sf_upd_ne (by simp [sf_rf_neY])]; exact h3 j hj⟩
def sf_kr (U : sf_MV) (i j : Nat) : sf_MV := if j = i then U else sf_upd (sf_upd U 409 24 (j : Int)) 409 27 0
theorem sf_TY_kr {i j : Nat} (h : sf_TY U t L) : sf_TY (sf_kr U i j) t L := by
  unfold sf_kr
  split
  · exact h
  · exact sf_TY_u (sf_TY_u h (by decide)) (by decide)
theorem sf_kr_24 {i j : Nat} (h : U 409 24 = (i : Int)) : sf_kr U i j 409 24 = (j : Int) := by
  unfold sf_kr
  by_cases q : j = i
  · rw [if_pos q, h, q]
  · rw [if_neg q, sf_upd_ne2 (by decide), sf_upd_eq]
theorem sf_kr_k {i j : Nat} (h1 : ¬ k = 24) (h2 : ¬ k = 27) : sf_kr U i j 409 k = U 409 k := by
  unfold sf_kr
  split
  · rfl
  · rw [sf_upd_ne2 h2, sf_upd_ne2 h1]
theorem sf_kr_a {i j : Nat} (h1 : ¬ a = 409) : sf_kr U i j a = U a := by
  unfold sf_kr
  split
  · rfl
  · rw [sf_upd_ne h1, sf_upd_ne h1]
theorem s106 {d : Nat} : ∀ (m i : Nat) (U : sf_MV), sf_TY U t L → U 409 24 = (i : Int) → L - i = m → i ≤ L →
    sf_wp (d + 1) none 106 0 [some (.inr (.inl (some 409)))] [] (sf_E (sf_mix Y U)) K = K none (sf_E (sf_mix Y (sf_kr U i (sf_sk t m i)))) := by
  intro m
  induction m with
  | zero =>
    intro i U h hi hm hL
    simp only [q106_0, q106_1, q106_3, q106_5, sf_y]
    rw [s105 h hi, if_neg (fun z => by omega)]
    simp only [q106_8, Option.toList_some, Option.toList_none, List.cons_append, List.nil_append]
    rw [if_pos trivial, q106_29]
    unfold sf_kr
    rw [if_pos (show sf_sk t 0 i = i from rfl)]
  | succ m ih =>
    intro i U h hi hm hL
    have hL2 := h.2.1
    simp only [q106_0, q106_1, q106_3, q106_5, sf_y]
    rw [s105 h hi]
    unfold sf_sk
    by_cases q : t i = 32
    · rw [if_pos q, if_pos ⟨by omega, by omega, by omega⟩]
      simp only [q106_8, Option.toList_some, Option.toList_none, List.cons_append, List.nil_append]
      rw [if_neg (by decide)]
      have i1 := ih (i + 1) (sf_upd (sf_upd U 409 24 ((i + 1 : Nat) : Int)) 409 27 0) (sf_TY_u (sf_TY_u h (by decide)) (by decide)) (by rw [sf_upd_ne2 (by decide), sf_upd_eq]) (by omega) (by omega)
      have hs := sf_sk_in (t := t) m (i + 1)
      have e1 : sf_kr (sf_upd (sf_upd U 409 24 ((i + 1 : Nat) : Int)) 409 27 0) (i + 1) (sf_sk t m (i + 1)) = sf_kr U i (sf_sk t m (i + 1)) := by
        unfold sf_kr
        rw [if_neg (show ¬ sf_sk t m (i + 1) = i by omega)]
        by_cases q2 : sf_sk t m (i + 1) = i + 1
        · rw [if_pos q2, q2]
        · rw [if_neg q2]
          funext b j
          unfold sf_upd
          (repeat' split) <;> first | rfl | omega
      rw [e1] at i1
      simp (decide := true) only [q106_11, q106_12, q106_13, q106_16, q106_17, q106_18, q106_21, q106_22, q106_23, sf_y, sf_mxy, sf_mxu, hi, true_or, true_and]
      rw [q106_26, sf_wS (by omega)]
      exact i1
    · rw [if_neg q, if_neg (fun z => by omega)]
      simp only [q106_8, Option.toList_some, Option.toList_none, List.cons_append, List.nil_append]
      rw [if_pos trivial, q106_29]
      unfold sf_kr
      rw [if_pos rfl]
end SFP28

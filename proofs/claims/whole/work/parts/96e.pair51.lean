/-! plans: the class's small methods -/
theorem sf_pxLen : sf_len (sf_rf (sf_rf (sf_rf 0 10) 0) 0) = 4 ∧ sf_len (sf_rf (sf_rf (sf_rf 0 10) 1) 0) = 3 ∧ sf_len (sf_rf (sf_rf (sf_rf 0 10) 2) 0) = 3 ∧ sf_len (sf_rf (sf_rf (sf_rf 0 10) 3) 0) = 15 ∧ sf_len (sf_rf (sf_rf (sf_rf 0 10) 4) 0) = 15 := by decide +kernel
def sf_px (t : Nat) : Nat := sf_rf (sf_rf (sf_rf (sf_rf 0 10) 0) 0) t
theorem sf_pxCls {t : Nat} (h : t < 4) : sf_cls (sf_px t) = 9 := (sf_elem (sf_c8_0 (sf_c5_0 (sf_c11_10 sf_x))) (by rw [sf_pxLen.1]; exact h)).1
section SFP51
variable {V X U : sf_MV} {n nx c ce cf cg : Nat}
def sf_pcs (n : Nat) (cost : Nat → Int) (x : Nat) : Int := if x = 0 then 0 else if (x - 1) / n < 6 then cost ((x - 1) / n) else 0
def sf_pdc (x : Nat) : Int := if x = 0 then 0 else 1
def sf_pfx (n : Nat) (S : Nat → Int) (x : Nat) : Nat := (if x = 0 then S 0 else sf_likes n S (S ((x - 1) / n + 14)) (((x - 1) % n : Nat) : Int)).toNat
def sf_pch (n : Nat) (g : Int) (cold : Nat → Int) (S : Nat → Int) (x : Nat) : Nat → Int := sf_goes n g cold S (sf_pfx n S x)
def sf_pal (n : Nat) (want : Int) (r : Nat) (S : Nat → Int) : Bool := if want = -1 then decide (sf_frz S n = 0) else decide (¬ r = 0 ∨ S 0 = want)
def sf_pco (n : Nat) (x : Nat) : Int := if x = 0 then 99 else ((10 * ((x - 1) / n) + (x - 1) % n : Nat) : Int)
/-- a thing's number in the class's table -/
def sf_pth (n x : Nat) : Int := if x = 0 then -1 else ((10 * ((x - 1) / n) + (x - 1) % n : Nat) : Int)
theorem sf_pth_m1 {n x : Nat} : sf_pth n x = -1 ↔ x = 0 := by
  unfold sf_pth
  by_cases q : x = 0
  · rw [if_pos q]
    exact ⟨fun _ => q, fun _ => rfl⟩
  · rw [if_neg q]
    exact ⟨fun z => by omega, fun z => absurd z q⟩
theorem sf_pth_co {n x : Nat} (h : ¬ x = 0) : sf_pth n x = sf_pco n x := by
  unfold sf_pth sf_pco
  rw [if_neg h, if_neg h]
theorem sf_pth_lt {n : Nat} (hn : 0 < n) (hn5 : n ≤ 5) {x y : Nat} (h : x < y) : sf_pth n x < sf_pth n y := by
  unfold sf_pth
  by_cases q : x = 0
  · rw [if_pos q, if_neg (by omega)]
    omega
  · rw [if_neg q, if_neg (by omega)]
    have d1 := Nat.div_add_mod (x - 1) n
    have d2 := Nat.div_add_mod (y - 1) n
    have m1 := Nat.mod_lt (x - 1) hn
    have m2 := Nat.mod_lt (y - 1) hn
    have le : (x - 1) / n ≤ (y - 1) / n := Nat.div_le_div_right (by omega)
    generalize (x - 1) / n = a at d1 le ⊢
    generalize (y - 1) / n = b at d2 le ⊢
    generalize (x - 1) % n = u at d1 m1 ⊢
    generalize (y - 1) % n = v at d2 m2 ⊢
    by_cases e : a = b
    · rw [e] at d1 ⊢
      omega
    · omega
theorem sf_pth_inj {n : Nat} (hn : 0 < n) (hn5 : n ≤ 5) {x y : Nat} (h : sf_pth n x ≤ sf_pth n y) : x ≤ y := by
  by_cases q : y < x
  · have := sf_pth_lt hn hn5 q
    omega
  · omega
/-- how the class holds its best -/
def sf_RP (L n : Nat) (V : sf_MV) (B : Int × Int × (Nat → Nat)) : Prop := (B.1 = -1 ∧ V (sf_rf 0 10) 8 = 0) ∨ (0 ≤ B.1 ∧ V (sf_rf 0 10) 8 = 1 ∧ V (sf_rf 0 10) 9 = B.1 ∧ V (sf_rf 0 10) 10 = B.2.1 ∧ ∀ j, j < L → V (sf_rf (sf_rf (sf_rf 0 10) 2) 0) j = sf_pco n (B.2.2 j))
def sf_FP (k : Nat) (V V' : sf_MV) : Prop := (∀ a, ¬ a = sf_rf 0 10 → ¬ a = sf_rf (sf_rf (sf_rf 0 10) 1) 0 → ¬ a = sf_rf (sf_rf (sf_rf 0 10) 2) 0 → ¬ a = sf_rf (sf_rf (sf_rf 0 10) 3) 0 → ¬ a = sf_rf (sf_rf (sf_rf 0 10) 4) 0 → (∀ t, k < t → t < 4 → ¬ a = sf_px t ∧ ¬ a = sf_rf (sf_rf (sf_px t) 0) 0 ∧ ¬ a = sf_rf (sf_rf (sf_px t) 1) 0 ∧ ¬ a = sf_rf (sf_rf (sf_px t) 2) 0) → V' a = V a) ∧ (∀ j, ¬ j = 8 → ¬ j = 9 → ¬ j = 10 → V' (sf_rf 0 10) j = V (sf_rf 0 10) j) ∧ (∀ j, j < k → V' (sf_rf (sf_rf (sf_rf 0 10) 1) 0) j = V (sf_rf (sf_rf (sf_rf 0 10) 1) 0) j) ∧ (∀ j, j < 5 * k → V' (sf_rf (sf_rf (sf_rf 0 10) 3) 0) j = V (sf_rf (sf_rf (sf_rf 0 10) 3) 0) j ∧ V' (sf_rf (sf_rf (sf_rf 0 10) 4) 0) j = V (sf_rf (sf_rf (sf_rf 0 10) 4) 0) j)
theorem sf_FP_refl {k : Nat} : sf_FP k V V := ⟨fun _ _ _ _ _ _ _ => rfl, fun _ _ _ _ => rfl, fun _ _ => rfl, fun _ _ => ⟨rfl, rfl⟩⟩
theorem sf_FP_trans {k : Nat} {V1 V2 V3 : sf_MV} (h : sf_FP k V1 V2) (g : sf_FP k V2 V3) : sf_FP k V1 V3 :=
  ⟨fun a q1 q2 q3 q4 q5 q6 => by rw [g.1 a q1 q2 q3 q4 q5 q6, h.1 a q1 q2 q3 q4 q5 q6], fun j q1 q2 q3 => by rw [g.2.1 j q1 q2 q3, h.2.1 j q1 q2 q3], fun j q => by rw [g.2.2.1 j q, h.2.2.1 j q], fun j q => ⟨by rw [(g.2.2.2 j q).1, (h.2.2.2 j q).1], by rw [(g.2.2.2 j q).2, (h.2.2.2 j q).2]⟩⟩
theorem sf_FP_le {k k' : Nat} {V1 V2 : sf_MV} (h : sf_FP k' V1 V2) (hk : k ≤ k') : sf_FP k V1 V2 :=
  ⟨fun a q1 q2 q3 q4 q5 q6 => h.1 a q1 q2 q3 q4 q5 (fun t h1 h2 => q6 t (by omega) h2), h.2.1, fun j q => h.2.2.1 j (by omega), fun j q => h.2.2.2 j (by omega)⟩
theorem sf_FP_row {k j : Nat} {V1 V2 : sf_MV} (h : sf_FP k V1 V2) (hj : j ≤ k) : sf_getS V2 (sf_px j) = sf_getS V1 (sf_px j) := by
  have ne : ∀ t, k < t → ¬ j = t := fun t ht => by omega
  refine sf_getS_congr ?_ ?_ ?_ ?_
  · exact h.1 _ (by simp [sf_px, sf_rf_inj, sf_rf_ne0]) (by simp [sf_px, sf_rf_inj, sf_rf_ne0, sf_rf_self, sf_self_rf]) (by simp [sf_px, sf_rf_inj, sf_rf_ne0, sf_rf_self, sf_self_rf]) (by simp [sf_px, sf_rf_inj, sf_rf_ne0, sf_rf_self, sf_self_rf]) (by simp [sf_px, sf_rf_inj, sf_rf_ne0, sf_rf_self, sf_self_rf]) (fun t h1 _ => by simp [sf_px, sf_rf_inj, ne t h1, sf_self2_rf, sf_rf_self2, sf_self_rf, sf_rf_self])
  · exact h.1 _ (by simp [sf_px, sf_rf_inj, sf_rf_ne0]) (by simp [sf_px, sf_rf_inj, sf_rf_ne0, sf_rf_self2]) (by simp [sf_px, sf_rf_inj, sf_rf_ne0, sf_rf_self2]) (by simp [sf_px, sf_rf_inj, sf_rf_ne0, sf_rf_self2]) (by simp [sf_px, sf_rf_inj, sf_rf_ne0, sf_rf_self2]) (fun t h1 _ => by simp [sf_px, sf_rf_inj, ne t h1, sf_self2_rf, sf_rf_self2, sf_self_rf, sf_rf_self])
  · exact h.1 _ (by simp [sf_px, sf_rf_inj, sf_rf_ne0]) (by simp [sf_px, sf_rf_inj, sf_rf_ne0, sf_rf_self2]) (by simp [sf_px, sf_rf_inj, sf_rf_ne0, sf_rf_self2]) (by simp [sf_px, sf_rf_inj, sf_rf_ne0, sf_rf_self2]) (by simp [sf_px, sf_rf_inj, sf_rf_ne0, sf_rf_self2]) (fun t h1 _ => by simp [sf_px, sf_rf_inj, ne t h1, sf_self2_rf, sf_rf_self2, sf_self_rf, sf_rf_self])
  · exact h.1 _ (by simp [sf_px, sf_rf_inj, sf_rf_ne0]) (by simp [sf_px, sf_rf_inj, sf_rf_ne0, sf_rf_self2]) (by simp [sf_px, sf_rf_inj, sf_rf_ne0, sf_rf_self2]) (by simp [sf_px, sf_rf_inj, sf_rf_ne0, sf_rf_self2]) (by simp [sf_px, sf_rf_inj, sf_rf_ne0, sf_rf_self2]) (fun t h1 _ => by simp [sf_px, sf_rf_inj, ne t h1, sf_self2_rf, sf_rf_self2, sf_self_rf, sf_rf_self])
theorem sf_FP_home {k : Nat} {V1 V2 : sf_MV} (h : sf_FP k V1 V2) : V2 (sf_rf 0 1) = V1 (sf_rf 0 1) ∧ ∀ j, V2 (sf_rf (sf_rf (sf_rf 0 1) j) 0) = V1 (sf_rf (sf_rf (sf_rf 0 1) j) 0) := by
  refine ⟨h.1 _ (by simp [sf_rf_inj]) (by simp [sf_rf_inj, sf_0ne_rf]) (by simp [sf_rf_inj, sf_0ne_rf]) (by simp [sf_rf_inj, sf_0ne_rf]) (by simp [sf_rf_inj, sf_0ne_rf]) (fun t _ _ => by simp [sf_px, sf_rf_inj, sf_0ne_rf]), fun j => h.1 _ (by simp [sf_rf_inj, sf_rf_ne0]) (by simp [sf_rf_inj]) (by simp [sf_rf_inj]) (by simp [sf_rf_inj]) (by simp [sf_rf_inj]) (fun t _ _ => by simp [sf_px, sf_rf_inj, sf_0ne_rf, sf_rf_ne0])⟩
theorem s21 {d L : Nat} {t e : Int} {B : Int × Int × (Nat → Nat)} {K : Option sf_V → sf_M → Prop} (h : sf_RP L n V B) : sf_wp d none 21 0 [some (.inr (.inl (some (sf_rf 0 10)))), some (.inl t), some (.inl e)] [] (sf_E V) K = K (some (.inl (if sf_b3 t e B then 1 else 0))) (sf_E V) := by
  have x10 := sf_c11_10 sf_x
  simp only [q21_0, q21_1, x10]
  rw [q21_4]
  rcases h with ⟨h1, h2⟩ | ⟨h1, h2, h3, h4, _⟩
  · rw [h2, if_pos rfl, if_pos (Or.inl h1)]
    simp (decide := true) only [q21_31, q21_32, q21_36, or_true, true_and]
  · rw [h2, if_neg (by decide)]
    simp only [q21_7, q21_8, q21_9, q21_12, x10, h3]
    by_cases q1 : t < B.1
    · rw [if_pos q1, if_pos (Or.inr (Or.inl q1))]
      simp (decide := true) only [q21_31, q21_32, q21_36, or_true, true_and]
    · rw [if_neg q1]
      simp only [q21_15, q21_16, q21_17, q21_20, x10, h3]
      by_cases q2 : t = B.1
      · rw [if_pos q2]
        simp only [q21_23, q21_24, q21_25, q21_28, x10, h4]
        by_cases q3 : e < B.2.1
        · rw [if_neg (by omega), if_pos (Or.inr (Or.inr ⟨q2, q3⟩))]
          simp (decide := true) only [q21_31, q21_32, q21_36, or_true, true_and]
        · rw [if_pos (by omega), if_neg (by unfold sf_b3; omega)]
          simp (decide := true) only [q21_35, q21_36, true_or, true_and]
      · rw [if_neg q2, if_neg (by unfold sf_b3; omega)]
        simp (decide := true) only [q21_35, q21_36, true_or, true_and]
theorem sf_frz0 {S : Nat → Int} : (sf_frz S n).toInt = 0 ↔ sf_frz S n = 0 := by
  constructor
  · intro h
    exact Int32.toInt_inj.1 h
  · intro h
    rw [h]
    rfl
theorem s22 {d L k r s : Nat} {want : Int} {K : Option sf_V → sf_M → Prop} (hs : sf_cls s = 9) (hn : n ≤ 5) (h4 : V (sf_rf 0 10) 5 = (L : Int)) (h5 : V (sf_rf 0 10) 6 = want) (hk : k + 1 + r = L) (hk5 : k < 1000) : sf_wp (d + 2) none 22 0 [some (.inr (.inl (some (sf_rf 0 10)))), some (.inl (k : Int)), some (.inr (.inl (some s))), some (.inl (n : Int))] [] (sf_E V) K = K (some (.inl (if sf_pal n want r (sf_getS V s) = true then 1 else 0))) (sf_E V) := by
  have x10 := sf_c11_10 sf_x
  simp only [q22_0, q22_1, q22_4, q22_5, x10, h5]
  unfold sf_pal
  by_cases hw : want = -1
  · rw [if_pos hw, if_pos hw]
    simp only [q22_8, q22_9, q22_10, hs]
    rw [s46 hs hn]
    simp only [q22_13, Option.toList_some, Option.toList_none, List.cons_append, List.nil_append]
    by_cases q : sf_frz (sf_getS V s) n = 0
    · rw [if_pos (sf_frz0.2 q), if_pos (decide_eq_true q)]
      simp (decide := true) only [q22_16, q22_17, q22_21, or_true, true_and]
    · rw [if_neg (fun z => q (sf_frz0.1 z)), if_neg (by simp [q])]
      simp (decide := true) only [q22_20, q22_21, true_or, true_and]
  · rw [if_neg hw, if_neg hw]
    simp only [q22_22, q22_23, q22_24, q22_25, q22_26, q22_29, x10, h4]
    rw [sf_wS (by omega)]
    by_cases q1 : r = 0
    · rw [if_neg (by omega)]
      have e3 : V s 3 = sf_getS V s 0 := sf_getS_d.symm
      simp only [q22_32, q22_33, q22_36, q22_37, q22_40, x10, hs, h5, e3]
      by_cases q2 : sf_getS V s 0 = want
      · rw [if_pos q2, if_pos (decide_eq_true (Or.inr q2))]
        simp (decide := true) only [q22_43, q22_44, q22_48, or_true, true_and]
      · rw [if_neg q2, if_neg (by simp [q1, q2])]
        simp (decide := true) only [q22_47, q22_48, true_or, true_and]
    · rw [if_pos (by omega), if_pos (decide_eq_true (Or.inl q1))]
      simp (decide := true) only [q22_43, q22_44, q22_48, or_true, true_and]
end SFP51

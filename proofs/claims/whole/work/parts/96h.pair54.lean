/-! plans: the reference keeps a row -/
section SFP54
variable {V U : sf_MV} {n nx c ce cf cg : Nat}
def sf_dn (pk : Nat → Nat) : Nat → Int
  | 0 => 0
  | m + 1 => sf_dn pk m + sf_pdc (pk m)
theorem sf_dn_in {pk : Nat → Nat} : ∀ m, 0 ≤ sf_dn pk m ∧ sf_dn pk m ≤ m
  | 0 => ⟨Int.le_refl 0, Int.le_refl 0⟩
  | m + 1 => by
    have := sf_dn_in (pk := pk) m
    unfold sf_dn sf_pdc
    split <;> omega
theorem s140_cnt {X : sf_MV} {pk : Nat → Nat} {L : Nat} {want used : Int} {l6 : Option sf_V} {K : Option sf_V → sf_M → Prop} (hL : L ≤ 3) (hp : ∀ j, j < L → X (sf_rf 409 30) j = (pk j : Int)) : ∀ (m j : Nat), L - j = m → j ≤ L →
    sf_wp 17 none 140 20 [some (.inr (.inl (some 409))), some (.inl (L : Int)), some (.inl want), some (.inl used), some (.inl (sf_dn pk j)), some (.inl (j : Int)), l6] [] (sf_E X) K = sf_wp 17 none 140 52 [some (.inr (.inl (some 409))), some (.inl (L : Int)), some (.inl want), some (.inl used), some (.inl (sf_dn pk L)), some (.inl (L : Int)), l6] [] (sf_E X) K := by
  have y30 := sf_c12_30 sf_y
  intro m
  induction m with
  | zero =>
    intro j hm hj
    simp only [q140_20, q140_22, q140_23]
    rw [if_pos (by omega), show j = L by omega]
  | succ m ih =>
    intro j hm hj
    have b : j < 5 := by omega
    have e := hp j (by omega)
    have dn := sf_dn_in (pk := pk) j
    have i1 := ih (j + 1) (by omega) (by omega)
    have es : sf_dn pk (j + 1) = sf_dn pk j + sf_pdc (pk j) := rfl
    rw [es] at i1
    unfold sf_pdc at i1
    simp only [q140_20, q140_22, q140_23]
    rw [if_neg (by omega)]
    simp only [q140_26, q140_28, q140_29, q140_32, q140_34, sf_y, y30, sf_y30, sf_bd, b, true_and, Int.toNat_natCast, e]
    rw [q140_35]
    by_cases q : pk j = 0
    · rw [if_pos q] at i1
      rw [if_pos (by omega)]
      simp only [q140_42, q140_43, q140_44, q140_46]
      rw [q140_49, sf_wS (by omega), sf_w_small (by omega)]
      exact i1
    · rw [if_neg q] at i1
      rw [if_neg (by omega)]
      simp only [q140_38, q140_39, q140_43, q140_44, q140_46]
      rw [q140_49, sf_wS (by omega), sf_w_small (by omega)]
      exact i1
theorem s140_cpy {L : Nat} {want used done l5 : Int} {K : Option sf_V → sf_M → Prop} (hL : L ≤ 3) : ∀ (m j : Nat) (X : sf_MV), L - j = m → j ≤ L →
    sf_wp 17 none 140 126 [some (.inr (.inl (some 409))), some (.inl (L : Int)), some (.inl want), some (.inl used), some (.inl done), some (.inl l5), some (.inl (j : Int))] [] (sf_E X) K = K none (sf_E (sf_put X (sf_rf 409 31) j L (X (sf_rf 409 30)))) := by
  have y30 := sf_c12_30 sf_y
  have y31 := sf_c12_31 sf_y
  intro m
  induction m with
  | zero =>
    intro j X hm hj
    simp only [q140_126, q140_128, q140_129]
    rw [if_pos (by omega), q140_152, sf_put_nil (by omega)]
  | succ m ih =>
    intro j X hm hj
    have b : j < 5 := by omega
    have b4 : j < 4 := by omega
    simp only [q140_126, q140_128, q140_129]
    rw [if_neg (by omega)]
    simp only [q140_132, q140_133, q140_136, q140_138, q140_139, q140_142, q140_144, q140_145, q140_146, sf_y, y30, y31, sf_y30, sf_y31, sf_bd, b, b4, true_and, Int.toNat_natCast]
    rw [q140_149, sf_wS (by omega), ih (j + 1) _ (by omega) (by omega), sf_upd_ne (b := sf_rf 409 30) (by simp [sf_rf_inj]), sf_put_step (by omega)]
/-- how the reference holds its best -/
def sf_RQ (L : Nat) (X : sf_MV) (B : Int × Int × (Nat → Nat)) : Prop := X 409 32 = B.1 ∧ (B.1 = -1 ∨ (0 ≤ B.1 ∧ X 409 33 = B.2.1 ∧ ∀ j, j < L → X (sf_rf 409 31) j = (B.2.2 j : Int)))
theorem s140 {X : sf_MV} {pk : Nat → Nat} {B : Int × Int × (Nat → Nat)} {L : Nat} {want lg t s0 : Int} (hL : L ≤ 3) (hp : ∀ j, j < L → X (sf_rf 409 30) j = (pk j : Int)) (hq : sf_RQ L X B) (h4 : X (sf_rf 409 4) 1 = lg) (h1 : X (sf_rf 409 28) 1 = lg - t) (h0 : X (sf_rf 409 28) 0 = s0) (hlg : 0 ≤ lg ∧ lg ≤ 9999) (ht : 0 ≤ t ∧ t ≤ 100) :
    ∃ X', (∀ a, ¬ a = 409 → ¬ a = sf_rf 409 31 → X' a = X a) ∧ (∀ j, ¬ j = 32 → ¬ j = 33 → X' 409 j = X 409 j) ∧ sf_RQ L X' (if want = -1 ∨ s0 = want then (if sf_b3 t (sf_dn pk L) B then (t, sf_dn pk L, pk) else B) else B) ∧
      ∀ K, sf_wp 17 none 140 0 [some (.inr (.inl (some 409))), some (.inl (L : Int)), some (.inl want), none, none, none, none] [] (sf_E X) K = K none (sf_E X') := by
  have y4 := sf_c12_4 sf_y
  have y28 := sf_c12_28 sf_y
  obtain ⟨q32, qB⟩ := hq
  have head : ∀ K, sf_wp 17 none 140 0 [some (.inr (.inl (some 409))), some (.inl (L : Int)), some (.inl want), none, none, none, none] [] (sf_E X) K = sf_wp 17 none 140 52 [some (.inr (.inl (some 409))), some (.inl (L : Int)), some (.inl want), some (.inl t), some (.inl (sf_dn pk L)), some (.inl (L : Int)), none] [] (sf_E X) K := fun K => by
    simp (decide := true) only [q140_0, q140_1, q140_4, q140_5, q140_6, q140_7, q140_10, q140_11, q140_12, q140_13, q140_14, q140_15, q140_17, q140_18, sf_y, y4, y28, sf_y4, sf_y28, Int.reduceToNat, true_and, h4, h1]
    rw [sf_w_small (by omega), show lg - (lg - t) = t by omega]
    exact s140_cnt hL hp L 0 rfl (by omega)
  have bet : ∀ K, sf_wp 17 none 140 0 [some (.inr (.inl (some 409))), some (.inl (L : Int)), some (.inl want), none, none, none, none] [] (sf_E X) K = sf_wp 17 none 140 90 [some (.inr (.inl (some 409))), some (.inl (L : Int)), some (.inl want), some (.inl t), some (.inl (sf_dn pk L)), some (.inl (L : Int)), none] [.inl (if sf_b3 t (sf_dn pk L) B then 1 else 0)] (sf_E X) K := fun K => by
    rw [head]
    simp only [q140_52, q140_53, q140_56, sf_y, q32]
    rw [q140_57]
    by_cases z1 : B.1 = -1
    · rw [if_pos z1, if_pos (Or.inl z1)]
      simp only [q140_85, q140_86]
    · rw [if_neg z1]
      simp only [q140_60, q140_61, q140_62, sf_y, q32]
      rw [q140_65]
      by_cases z2 : t < B.1
      · rw [if_pos z2, if_pos (Or.inr (Or.inl z2))]
        simp only [q140_85, q140_86]
      · rw [if_neg z2]
        simp only [q140_68, q140_69, q140_70, sf_y, q32]
        rw [q140_73]
        have q33 : X 409 33 = B.2.1 := by
          rcases qB with z | z
          · exact absurd z z1
          · exact z.2.1
        by_cases z3 : t = B.1
        · rw [if_pos z3]
          simp only [q140_76, q140_78, q140_79, sf_y, q33]
          rw [q140_82]
          by_cases z4 : sf_dn pk L < B.2.1
          · rw [if_neg (by omega), if_pos (Or.inr (Or.inr ⟨z3, z4⟩))]
            simp only [q140_85, q140_86]
          · rw [if_pos (by omega), if_neg (by unfold sf_b3; omega)]
            simp only [q140_89]
        · rw [if_neg z3, if_neg (by unfold sf_b3; omega)]
          simp only [q140_89]
  by_cases z : sf_b3 t (sf_dn pk L) B
  · by_cases w : want = -1 ∨ s0 = want
    · rw [if_pos w, if_pos z]
      rw [if_pos z] at bet
      refine ⟨sf_put (sf_upd (sf_upd X 409 32 t) 409 33 (sf_dn pk L)) (sf_rf 409 31) 0 L (X (sf_rf 409 30)), fun a a1 a2 => by rw [sf_put_ne a2, sf_upd_ne a1, sf_upd_ne a1], fun j j1 j2 => by rw [sf_put_ne (by simp [sf_Yne_rf]), sf_upd_ne2 j2, sf_upd_ne2 j1], ⟨by rw [sf_put_ne (by simp [sf_Yne_rf]), sf_upd_ne2 (by decide), sf_upd_eq], Or.inr ⟨ht.1, by rw [sf_put_ne (by simp [sf_Yne_rf]), sf_upd_eq], fun j hj => by rw [sf_put_at hj]; exact hp j hj⟩⟩, fun K => ?_⟩
      have fin : ∀ l5, sf_wp 17 none 140 112 [some (.inr (.inl (some 409))), some (.inl (L : Int)), some (.inl want), some (.inl t), some (.inl (sf_dn pk L)), some (.inl l5), none] [] (sf_E X) K = K none (sf_E (sf_put (sf_upd (sf_upd X 409 32 t) 409 33 (sf_dn pk L)) (sf_rf 409 31) 0 L (X (sf_rf 409 30)))) := fun l5 => by
        simp only [q140_112, q140_113, q140_114, q140_117, q140_118, q140_120, q140_123, q140_124, sf_y]
        refine Eq.trans (s140_cpy hL L 0 _ rfl (by omega)) ?_
        rw [sf_upd_ne (by simp [sf_rf_neY]), sf_upd_ne (by simp [sf_rf_neY])]
      rw [bet]
      simp only [q140_90, q140_92]
      rw [q140_94, if_neg (by decide)]
      simp only [q140_97, q140_98]
      rw [q140_99]
      by_cases w1 : want = -1
      · rw [if_pos w1]
        exact fin 1
      · rw [if_neg w1]
        simp (decide := true) only [q140_102, q140_103, q140_106, q140_107, q140_108, sf_y, y28, sf_y28, Int.reduceToNat, true_and, h0]
        rw [q140_109, if_pos (by omega)]
        exact fin 1
    · rw [if_neg w]
      rw [if_pos z] at bet
      refine ⟨X, fun _ _ _ => rfl, fun _ _ _ => rfl, ⟨q32, qB⟩, fun K => ?_⟩
      rw [bet]
      simp only [q140_90, q140_92]
      rw [q140_94, if_neg (by decide)]
      simp only [q140_97, q140_98]
      rw [q140_99, if_neg (fun y => w (Or.inl y))]
      simp (decide := true) only [q140_102, q140_103, q140_106, q140_107, q140_108, sf_y, y28, sf_y28, Int.reduceToNat, true_and, h0]
      rw [q140_109, if_neg (fun y => w (Or.inr y)), q140_152]
  · rw [if_neg z] at bet
    have e : (if want = -1 ∨ s0 = want then (if sf_b3 t (sf_dn pk L) B then (t, sf_dn pk L, pk) else B) else B) = B := by
      rw [if_neg z, ite_self]
    rw [e]
    refine ⟨X, fun _ _ _ => rfl, fun _ _ _ => rfl, ⟨q32, qB⟩, fun K => ?_⟩
    rw [bet]
    simp only [q140_90, q140_92]
    rw [q140_94, if_pos rfl, q140_152]
end SFP54

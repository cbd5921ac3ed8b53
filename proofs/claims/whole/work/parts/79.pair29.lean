/-! the reference: number, row, end -/
section SFP29
variable {V X U : sf_MV} {n nx c ce cf cg a k m : Nat} {v : Int} {f : Nat → Int} {t : Nat → Int} {L : Nat}
def sf_FRr (U U' : sf_MV) : Prop := (∀ a, ¬ a = 409 → U' a = U a) ∧ ∀ k, k < 24 → U' 409 k = U 409 k
theorem sf_FRr_trans {U1 U2 U3 : sf_MV} (h : sf_FRr U1 U2) (h' : sf_FRr U2 U3) : sf_FRr U1 U3 :=
  ⟨fun a q => by rw [h'.1 a q, h.1 a q], fun k q => by rw [h'.2 k q, h.2 k q]⟩
theorem sf_FRr_u (hk : 24 ≤ k) : sf_FRr U (sf_upd U 409 k v) :=
  ⟨fun a q => sf_upd_ne q, fun j q => sf_upd_ne2 (by omega)⟩
theorem sf_FRr_kr {i j : Nat} : sf_FRr U (sf_kr U i j) := ⟨fun a q => sf_kr_a q, fun k q => sf_kr_k (by omega) (by omega)⟩
theorem sf_TY_FR {U' : sf_MV} (h : sf_TY U t L) (f : sf_FRr U U') : sf_TY U' t L := by
  obtain ⟨h1, h2, h3⟩ := h
  exact ⟨by rw [f.2 14 (by decide)]; exact h1, h2, fun j hj => by rw [f.1 _ (by simp [sf_rf_neY])]; exact h3 j hj⟩
theorem s107 {d : Nat} {q : Int} {Y : sf_MV} {K : Option sf_V → sf_M → Prop} : sf_wp d none 107 0 [some (.inr (.inl (some 409))), some (.inl q)] [] (sf_E (sf_mix Y U)) K = K (some (.inl 0)) (sf_E (sf_mix Y (sf_upd U 409 25 q))) := by
  simp (decide := true) only [q107_0, q107_1, q107_2, q107_5, q107_6, sf_y, sf_mxu, true_or, true_and]
theorem sf_de_end : ∀ m i k, sf_de t m i = k → k < i + m → ¬ (48 ≤ t k ∧ t k ≤ 57)
  | 0, i, k, h, hk => by
    have : i = k := h
    omega
  | m + 1, i, k, h, hk => by
    unfold sf_de at h
    by_cases q : 48 ≤ t i ∧ t i ≤ 57
    · rw [if_pos q] at h
      exact sf_de_end m (i + 1) k h (by omega)
    · rw [if_neg q] at h
      rw [← h]
      exact q
def sf_n2 (U : sf_MV) (i : Nat) (w : Int) : sf_MV := sf_upd (sf_upd U 409 24 (i : Int)) 409 26 w
theorem sf_n2_w {i : Nat} {w w' : Int} : sf_upd (sf_n2 U i w) 409 26 w' = sf_n2 U i w' := by
  unfold sf_n2
  exact sf_upd_upd
theorem sf_n2_i {i i' : Nat} {w : Int} : sf_upd (sf_n2 U i w) 409 24 (i' : Int) = sf_n2 U i' w := by
  unfold sf_n2
  funext b j
  unfold sf_upd
  (repeat' split) <;> first | rfl | omega
theorem sf_FRr_n2 {i : Nat} {w : Int} : sf_FRr U (sf_n2 U i w) := sf_FRr_trans (sf_FRr_u (by decide)) (sf_FRr_u (by decide))
theorem sf_n2_24 {i : Nat} {w : Int} : sf_n2 U i w 409 24 = (i : Int) := by
  unfold sf_n2
  rw [sf_upd_ne2 (by decide), sf_upd_eq]
theorem sf_n2_26 {i : Nat} {w : Int} : sf_n2 U i w 409 26 = w := sf_upd_eq
theorem s108_loop (h : sf_TY U t L) {j : Nat} {lo hi : Int} : ∀ (m i : Nat) (v w : Int), L - i = m → i ≤ L → sf_vb j i v → (i - j ≤ 3 → w = v) → (3 < i - j → w = 1000000) →
    ∃ w', (sf_de t m i - j ≤ 3 → w' = sf_vc t j m i v) ∧ (3 < sf_de t m i - j → w' = 1000000) ∧ ∀ d Y K, sf_wp (d + 1) none 108 38 [some (.inr (.inl (some 409))), some (.inl lo), some (.inl hi), some (.inl (j : Int))] [] (sf_E (sf_mix Y (sf_n2 U i w))) K = sf_wp (d + 1) none 108 101 [some (.inr (.inl (some 409))), some (.inl lo), some (.inl hi), some (.inl (j : Int))] [] (sf_E (sf_mix Y (sf_n2 U (sf_de t m i) w'))) K := by
  have y13 := sf_c12_13 sf_y
  intro m
  induction m with
  | zero =>
    intro i v w hm hL hv h1 h2
    refine ⟨w, h1, h2, fun d Y K => ?_⟩
    simp only [q108_38, q108_39, q108_41, q108_43, sf_y]
    rw [s105 (sf_TY_FR h sf_FRr_n2) sf_n2_24, if_neg (fun z => by omega)]
    simp only [q108_46, Option.toList_some, Option.toList_none, List.cons_append, List.nil_append]
    rw [if_pos trivial]
    rfl
  | succ m ih =>
    intro i v w hm hL hv h1 h2
    have hL2 := h.2.1
    by_cases q : 48 ≤ t i ∧ t i ≤ 57
    · have hvb := sf_vb_step hv q
      have hij := hv.1
      obtain ⟨w', z1, z2, z3⟩ := ih (i + 1) (if i - j < 3 then v * 10 + t i - 48 else v) (if i - j < 3 then 10 * w + t i - 48 else 1000000) (by omega) (by omega) hvb (fun z => by
        by_cases q3 : i - j < 3
        · rw [if_pos q3, if_pos q3, h1 (by omega)]
          omega
        · omega) (fun z => by rw [if_neg (by omega)])
      refine ⟨w', ?_, ?_, fun d Y K => ?_⟩
      · unfold sf_de sf_vc
        rw [if_pos q, if_pos q]
        exact z1
      · unfold sf_de
        rw [if_pos q]
        exact z2
      · have e := (h.2.2 i (by omega)).1
        have b : i < 200 := by omega
        have er : sf_n2 U i w (sf_rf 409 13) = U (sf_rf 409 13) := sf_FRr_n2.1 _ (by simp [sf_rf_neY])
        have hd : sf_de t (m + 1) i = sf_de t m (i + 1) := if_pos q
        rw [hd]
        simp only [q108_38, q108_39, q108_41, q108_43, sf_y]
        rw [s105 (sf_TY_FR h sf_FRr_n2) sf_n2_24, if_pos ⟨by omega, q⟩]
        simp only [q108_46, Option.toList_some, Option.toList_none, List.cons_append, List.nil_append]
        rw [if_neg (by decide)]
        simp only [q108_49, q108_50, q108_51, q108_54, q108_55, q108_56, sf_y, sf_mxy, sf_n2_24]
        rw [sf_w_small (n := (i : Int) - j) (by omega)]
        have hz3 := z3 d Y K
        obtain ⟨v0, v1, v2, v3, _⟩ := hv
        by_cases q3 : i - j < 3
        · rw [if_pos q3] at hz3
          have hw := h1 (by omega)
          have hv99 := v3 (by omega)
          rw [q108_57, if_neg (by omega)]
          simp only [q108_60, q108_62, q108_63, q108_66, q108_67, q108_68, q108_71, q108_72, q108_75, q108_76, q108_77, q108_79, q108_80, q108_83, q108_85, q108_88, q108_89, q108_90, q108_93, q108_94, q108_95, sf_y, y13, sf_y13, sf_mxy, sf_mxr, sf_mxu, er, e, sf_n2_24, sf_n2_26, sf_n2_w, sf_bd, b, true_and, Int.toNat_natCast]
          rw [q108_98, sf_wS (by omega), sf_w_small (n := 10 * w) (by omega), sf_w_small (n := 10 * w + t i) (by omega), sf_w_small (by omega), sf_n2_i]
          exact hz3
        · rw [if_neg q3] at hz3
          rw [q108_57, if_pos (by omega)]
          simp only [q108_83, q108_85, q108_88, q108_89, q108_90, q108_93, q108_94, q108_95, sf_y, sf_mxy, sf_mxu, sf_n2_24, sf_n2_w]
          rw [q108_98, sf_wS (by omega), sf_n2_i]
          exact hz3
    · have hd : sf_de t (m + 1) i = i := if_neg q
      have hc : sf_vc t j (m + 1) i v = v := if_neg q
      rw [hd, hc]
      refine ⟨w, h1, h2, fun d Y K => ?_⟩
      simp only [q108_38, q108_39, q108_41, q108_43, sf_y]
      rw [s105 (sf_TY_FR h sf_FRr_n2) sf_n2_24, if_neg (fun z => q z.2)]
      simp only [q108_46, Option.toList_some, Option.toList_none, List.cons_append, List.nil_append]
      rw [if_pos trivial]
/-- what the reference has read: all well, or a fault -/
def sf_NR (U U' : sf_MV) (nb : Int) (j k : Nat) (v : Int) : Prop := sf_FRr U U' ∧ ((nb = 0 ∧ U' 409 24 = (k : Int) ∧ U' 409 26 = v ∧ U' 409 27 = 1) ∨ (¬ nb = 0 ∧ U' 409 24 = (j : Int) ∧ U' 409 25 = nb))
theorem s108 {i j k : Nat} {v lo hi : Int} (h : sf_TY U t L) (hi4 : U 409 24 = (i : Int)) (hL : i ≤ L) (hcl : U 409 27 = 0 ∨ (i < L → ¬ (48 ≤ t i ∧ t i ≤ 57))) (hj : sf_sk t (L - i) i = j) (hk : sf_de t (L - j) j = k) (hv : sf_vc t j (L - j) j 0 = v) (hlo : 0 ≤ lo) (hhi : hi ≤ 999) :
    ∃ U', sf_NR U U' (sf_nb lo hi j k v) j k v ∧ ∀ d Y K, sf_wp (d + 2) none 108 0 [some (.inr (.inl (some 409))), some (.inl lo), some (.inl hi), none] [] (sf_E (sf_mix Y U)) K = K (some (.inl (if sf_nb lo hi j k v = 0 then 1 else 0))) (sf_E (sf_mix Y U')) := by
  have hL2 := h.2.1
  have js := sf_sk_in (t := t) (L - i) i
  have ks := sf_de_in (t := t) (L - j) j
  rw [hj] at js
  rw [hk] at ks
  have T1 : sf_TY (sf_kr U i j) t L := sf_TY_FR h sf_FRr_kr
  have e24 : sf_kr U i j 409 24 = (j : Int) := sf_kr_24 hi4
  by_cases q : j < L ∧ (48 ≤ t j ∧ t j ≤ 57)
  · have hkj : ¬ k = j := fun z => by
      have e : sf_de t (L - j) j = sf_de t (L - j - 1 + 1) j := by rw [show L - j - 1 + 1 = L - j by omega]
      have e2 : sf_de t (L - j - 1 + 1) j = sf_de t (L - j - 1) (j + 1) := if_pos q.2
      have := sf_de_in (t := t) (L - j - 1) (j + 1)
      omega
    have h27 : sf_kr U i j 409 27 = 0 := by
      unfold sf_kr
      by_cases z : j = i
      · rw [if_pos z]
        rcases hcl with hcl | hcl
        · exact hcl
        · subst z
          exact absurd q.2 (hcl q.1)
      · rw [if_neg z, sf_upd_eq]
    obtain ⟨w, z1, z2, z3⟩ := s108_loop (U := sf_kr U i j) (j := j) (lo := lo) (hi := hi) T1 (L - j) j 0 0 rfl (by omega) ⟨Nat.le_refl _, by omega, by omega, fun _ => by omega, fun _ => by omega, fun _ => rfl⟩ (fun _ => rfl) (fun z => by omega)
    rw [hk] at z1 z2 z3
    rw [hv] at z1
    have en : sf_upd (sf_kr U i j) 409 26 0 = sf_n2 (sf_kr U i j) j 0 := by
      unfold sf_n2
      rw [sf_upd_self e24]
    have hv0 := sf_vc_in (t := t) (j := j) (L - j) j 0 ⟨Nat.le_refl _, by omega, by omega, fun _ => by omega, fun _ => by omega, fun _ => rfl⟩
    rw [hv] at hv0
    have start : ∀ d Y K, sf_wp (d + 2) none 108 0 [some (.inr (.inl (some 409))), some (.inl lo), some (.inl hi), none] [] (sf_E (sf_mix Y U)) K = sf_wp (d + 1 + 1) none 108 118 [some (.inr (.inl (some 409))), some (.inl lo), some (.inl hi), some (.inl (j : Int))] [.inl (sf_inB w lo hi)] (sf_E (sf_mix Y (sf_upd (sf_n2 (sf_kr U i j) k w) 409 27 1))) K := fun d Y K => by
      simp only [q108_0, q108_1, sf_y]
      rw [s106 (L - i) i U h hi4 rfl hL, hj]
      simp only [q108_4, q108_5, q108_7, q108_9, sf_y, Option.toList_some, Option.toList_none, List.cons_append, List.nil_append]
      rw [s105 T1 e24, if_pos q]
      simp only [q108_12, Option.toList_some, Option.toList_none, List.cons_append, List.nil_append]
      rw [if_neg (by decide)]
      simp only [q108_15, q108_16, sf_y, sf_mxy, h27]
      rw [q108_19, if_pos rfl]
      simp only [q108_28, q108_29, q108_32, q108_33, q108_34, q108_35, sf_y, sf_mxy, sf_mxu, e24, en]
      refine Eq.trans (z3 (d + 1) Y K) ?_
      simp (decide := true) only [q108_101, q108_102, q108_103, q108_106, q108_107, q108_110, q108_111, q108_112, q108_113, q108_114, q108_115, sf_y, sf_mxy, sf_mxu, or_true, true_and]
      rw [show sf_upd (sf_n2 (sf_kr U i j) k w) 409 27 1 409 26 = w from by rw [sf_upd_ne2 (by decide), sf_n2_26]]
    unfold sf_nb
    rw [if_neg hkj]
    by_cases qb : 3 < k - j ∨ v < lo ∨ hi < v
    · rw [if_pos qb]
      have hw : ¬ (lo ≤ w ∧ w ≤ hi) := fun z => by
        by_cases q3 : 3 < k - j
        · have := z2 q3
          omega
        · have := z1 (by omega)
          rcases qb with qb | qb | qb <;> omega
      refine ⟨sf_upd (sf_upd (sf_upd (sf_n2 (sf_kr U i j) k w) 409 27 1) 409 24 (j : Int)) 409 25 2, ⟨?_, Or.inr ⟨by decide, ?_, sf_upd_eq⟩⟩, fun d Y K => ?_⟩
      · exact sf_FRr_trans sf_FRr_kr (sf_FRr_trans sf_FRr_n2 (sf_FRr_trans (sf_FRr_u (by decide)) (sf_FRr_trans (sf_FRr_u (by decide)) (sf_FRr_u (by decide)))))
      · rw [sf_upd_ne2 (by decide), sf_upd_eq]
      · rw [start, sf_inB_n hw, q108_118, if_pos rfl]
        simp only [q108_121, q108_122, q108_123, q108_126, q108_127, q108_128, sf_y, sf_mxu]
        rw [s107]
        simp (decide := true) only [q108_131, true_or, true_and, if_false, Option.toList_some, Option.toList_none, List.cons_append, List.nil_append]
    · rw [if_neg qb]
      have hw : w = v := z1 (by omega)
      refine ⟨sf_upd (sf_n2 (sf_kr U i j) k w) 409 27 1, ⟨?_, Or.inl ⟨rfl, ?_, ?_, sf_upd_eq⟩⟩, fun d Y K => ?_⟩
      · exact sf_FRr_trans sf_FRr_kr (sf_FRr_trans sf_FRr_n2 (sf_FRr_u (by decide)))
      · rw [sf_upd_ne2 (by decide), sf_n2_24]
      · rw [sf_upd_ne2 (by decide), sf_n2_26, hw]
      · rw [start, sf_inB_y (by omega), q108_118, if_neg (by decide)]
        simp (decide := true) only [q108_132, q108_133, or_true, true_and, if_true]
  · have hkj : k = j := by
      by_cases q1 : j < L
      · have e : sf_de t (L - j) j = sf_de t (L - j - 1 + 1) j := by rw [show L - j - 1 + 1 = L - j by omega]
        have e2 : sf_de t (L - j - 1 + 1) j = j := if_neg (fun z => q ⟨q1, z⟩)
        omega
      · omega
    have hnb : sf_nb lo hi j k v = 1 := if_pos hkj
    rw [hnb]
    refine ⟨sf_upd (sf_kr U i j) 409 25 1, ⟨sf_FRr_trans sf_FRr_kr (sf_FRr_u (by decide)), Or.inr ⟨by decide, by rw [sf_upd_ne2 (by decide)]; exact e24, sf_upd_eq⟩⟩, fun d Y K => ?_⟩
    simp only [q108_0, q108_1, sf_y]
    rw [s106 (L - i) i U h hi4 rfl hL, hj]
    simp only [q108_4, q108_5, q108_7, q108_9, sf_y, Option.toList_some, Option.toList_none, List.cons_append, List.nil_append]
    rw [s105 T1 e24, if_neg q]
    simp only [q108_12, Option.toList_some, Option.toList_none, List.cons_append, List.nil_append]
    rw [if_pos trivial]
    simp only [q108_22, q108_23, q108_24, sf_y]
    rw [s107]
    simp (decide := true) only [q108_27, true_or, true_and, if_false, Option.toList_some, Option.toList_none, List.cons_append, List.nil_append]
theorem s110 {i j : Nat} (h : sf_TY U t L) (hi4 : U 409 24 = (i : Int)) (hL : i ≤ L) (hj : sf_sk t (L - i) i = j) :
    ∃ U', sf_FRr U U' ∧ U' 409 24 = (sf_ek t L j : Nat) ∧ (sf_eb t L j = 0 ∨ U' 409 25 = sf_eb t L j) ∧ ∀ d Y K, sf_wp (d + 2) none 110 0 [some (.inr (.inl (some 409)))] [] (sf_E (sf_mix Y U)) K = K (some (.inl (if sf_eb t L j = 0 then 1 else 0))) (sf_E (sf_mix Y U')) := by
  have hL2 := h.2.1
  have js := sf_sk_in (t := t) (L - i) i
  rw [hj] at js
  have T1 : sf_TY (sf_upd (sf_kr U i j) 409 27 0) t L := sf_TY_FR h (sf_FRr_trans sf_FRr_kr (sf_FRr_u (by decide)))
  have e24 : sf_upd (sf_kr U i j) 409 27 0 409 24 = (j : Int) := by
    rw [sf_upd_ne2 (by decide)]
    exact sf_kr_24 hi4
  unfold sf_ek sf_eb
  by_cases q : j < L ∧ t j = 59
  · rw [if_pos q, if_pos q]
    refine ⟨sf_upd (sf_upd (sf_kr U i j) 409 27 0) 409 24 ((j + 1 : Nat) : Int), sf_FRr_trans sf_FRr_kr (sf_FRr_trans (sf_FRr_u (by decide)) (sf_FRr_u (by decide))), sf_upd_eq, Or.inl rfl, fun d Y K => ?_⟩
    simp only [q110_0, q110_1, sf_y]
    rw [s106 (L - i) i U h hi4 rfl hL, hj]
    simp (decide := true) only [q110_4, q110_5, q110_6, q110_9, q110_10, q110_12, q110_14, sf_y, sf_mxu, or_true, true_and, Option.toList_some, Option.toList_none, List.cons_append, List.nil_append]
    rw [s105 T1 e24, if_pos ⟨q.1, by omega, by omega⟩]
    simp only [q110_17, Option.toList_some, Option.toList_none, List.cons_append, List.nil_append]
    rw [if_neg (by decide)]
    simp (decide := true) only [q110_26, q110_27, q110_28, q110_31, q110_32, q110_33, q110_36, q110_37, sf_y, sf_mxy, sf_mxu, e24, or_true, true_and, if_true]
    rw [sf_wS (by omega)]
  · rw [if_neg q, if_neg q]
    refine ⟨sf_upd (sf_upd (sf_kr U i j) 409 27 0) 409 25 1, sf_FRr_trans sf_FRr_kr (sf_FRr_trans (sf_FRr_u (by decide)) (sf_FRr_u (by decide))), by rw [sf_upd_ne2 (by decide)]; exact e24, Or.inr sf_upd_eq, fun d Y K => ?_⟩
    simp only [q110_0, q110_1, sf_y]
    rw [s106 (L - i) i U h hi4 rfl hL, hj]
    simp (decide := true) only [q110_4, q110_5, q110_6, q110_9, q110_10, q110_12, q110_14, sf_y, sf_mxu, or_true, true_and, Option.toList_some, Option.toList_none, List.cons_append, List.nil_append]
    rw [s105 T1 e24, if_neg (fun z => q ⟨z.1, by omega⟩)]
    simp only [q110_17, Option.toList_some, Option.toList_none, List.cons_append, List.nil_append]
    rw [if_pos trivial]
    simp only [q110_20, q110_21, q110_22, sf_y]
    rw [s107]
    simp (decide := true) only [q110_25, true_or, true_and, if_false, Option.toList_some, Option.toList_none, List.cons_append, List.nil_append]
end SFP29

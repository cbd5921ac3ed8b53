/-! the text: the class reads blanks, a number, an end -/
theorem sf_txt : sf_cls (sf_rf 0 0) = 10 ∧ sf_cls (sf_rf (sf_rf 0 0) 0) = 7 ∧ sf_cls (sf_rf (sf_rf 0 0) 1) = 2 := ⟨sf_c11_0 sf_x, sf_c10_0 (sf_c11_0 sf_x), sf_c10_1 (sf_c11_0 sf_x)⟩
section SFP27
variable {V X Y : sf_MV} {n nx c ce cf cg a k m : Nat} {v : Int} {f : Nat → Int} {K : Option sf_V → sf_M → Prop} {t : Nat → Int} {L : Nat}
def sf_dg (t : Nat → Int) (i : Nat) : Prop := 48 ≤ t i ∧ t i ≤ 57
def sf_sk (t : Nat → Int) : Nat → Nat → Nat
  | 0, i => i
  | m + 1, i => if t i = 32 then sf_sk t m (i + 1) else i
def sf_de (t : Nat → Int) : Nat → Nat → Nat
  | 0, i => i
  | m + 1, i => if 48 ≤ t i ∧ t i ≤ 57 then sf_de t m (i + 1) else i
def sf_vc (t : Nat → Int) (j : Nat) : Nat → Nat → Int → Int
  | 0, _, v => v
  | m + 1, i, v => if 48 ≤ t i ∧ t i ≤ 57 then sf_vc t j m (i + 1) (if i - j < 3 then v * 10 + t i - 48 else v) else v
theorem sf_sk_in : ∀ m i, i ≤ sf_sk t m i ∧ sf_sk t m i ≤ i + m
  | 0, i => ⟨Nat.le_refl _, Nat.le_refl _⟩
  | m + 1, i => by
    have := sf_sk_in m (i + 1)
    unfold sf_sk
    split <;> omega
theorem sf_de_in : ∀ m i, i ≤ sf_de t m i ∧ sf_de t m i ≤ i + m
  | 0, i => ⟨Nat.le_refl _, Nat.le_refl _⟩
  | m + 1, i => by
    have := sf_de_in m (i + 1)
    unfold sf_de
    split <;> omega
/-- the bounds of a value of i - j figures -/
def sf_vb (j i : Nat) (v : Int) : Prop := j ≤ i ∧ 0 ≤ v ∧ v ≤ 999 ∧ (i - j ≤ 2 → v ≤ 99) ∧ (i - j ≤ 1 → v ≤ 9) ∧ (i - j = 0 → v = 0)
theorem sf_vb_step {j i : Nat} {v x : Int} (h : sf_vb j i v) (hx : 48 ≤ x ∧ x ≤ 57) : sf_vb j (i + 1) (if i - j < 3 then v * 10 + x - 48 else v) := by
  obtain ⟨h0, h1, h2, h3, h4, h5⟩ := h
  unfold sf_vb
  by_cases q : i - j < 3
  · rw [if_pos q]
    have : v ≤ 99 := h3 (by omega)
    refine ⟨by omega, by omega, by omega, fun z => ?_, fun z => ?_, fun z => absurd z (by omega)⟩
    · have := h4 (by omega)
      omega
    · have := h5 (by omega)
      omega
  · rw [if_neg q]
    exact ⟨by omega, h1, h2, fun z => absurd z (by omega), fun z => absurd z (by omega), fun z => absurd z (by omega)⟩
theorem sf_vc_in {j : Nat} : ∀ m i v, sf_vb j i v → 0 ≤ sf_vc t j m i v ∧ sf_vc t j m i v ≤ 999
  | 0, i, v, h => ⟨h.2.1, h.2.2.1⟩
  | m + 1, i, v, h => by
    unfold sf_vc
    by_cases q : 48 ≤ t i ∧ t i ≤ 57
    · rw [if_pos q]
      exact sf_vc_in m (i + 1) _ (sf_vb_step h q)
    · rw [if_neg q]
      exact ⟨h.2.1, h.2.2.1⟩
theorem sf_upd_upd {v w : Int} : sf_upd (sf_upd V a k v) a k w = sf_upd V a k w := by
  funext b j
  unfold sf_upd
  by_cases h : b = a ∧ j = k
  · rw [if_pos h, if_pos h]
  · rw [if_neg h, if_neg h, if_neg h]
theorem sf_upd_self (h : V a k = v) : sf_upd V a k v = V := by
  funext b j
  unfold sf_upd
  by_cases q : b = a ∧ j = k
  · rw [if_pos q, q.1, q.2, h]
  · rw [if_neg q]
/-- the class's text -/
def sf_TX (V : sf_MV) (t : Nat → Int) (L : Nat) : Prop := V (sf_rf 0 0) 2 = (L : Int) ∧ L ≤ 200 ∧ ∀ j, j < L → V (sf_rf (sf_rf (sf_rf 0 0) 0) 0) j = t j ∧ 0 ≤ t j ∧ t j ≤ 255
theorem sf_TX_5 (h : sf_TX V t L) : sf_TX (sf_upd V (sf_rf 0 0) 5 v) t L := by
  obtain ⟨h1, h2, h3⟩ := h
  refine ⟨by rw [sf_upd_ne2 (by decide)]; exact h1, h2, fun j hj => ?_⟩
  rw [sf_upd_ne (by simp [sf_rf_inj, sf_rf_ne0])]
  exact h3 j hj
theorem s56 {d : Nat} : ∀ (m i : Nat) (V : sf_MV), sf_TX V t L → V (sf_rf 0 0) 5 = (i : Int) → L - i = m → i ≤ L →
    sf_wp (d + 1) none 56 0 [some (.inr (.inl (some (sf_rf 0 0))))] [] (sf_E V) K = K none (sf_E (sf_upd V (sf_rf 0 0) 5 (sf_sk t m i : Nat))) := by
  obtain ⟨c0, c1, c2⟩ := sf_txt
  have ll := sf_txLen
  intro m
  induction m with
  | zero =>
    intro i V h hi hm hL
    simp only [q56_0, q56_1, q56_4, q56_5, q56_8, c0, h.1, hi]
    rw [if_pos (by omega), q56_40, show sf_sk t 0 i = i from rfl, sf_upd_self hi]
  | succ m ih =>
    intro i V h hi hm hL
    have rd : sf_rd V (sf_rf (sf_rf (sf_rf 0 0) 0) 0) (i : Int) = t i := by
      rw [sf_rd_nat (by have := h.2.1; omega), (h.2.2 i (by omega)).1]
    have hL2 := h.2.1
    simp only [q56_0, q56_1, q56_4, q56_5, q56_8, c0, h.1, hi]
    rw [if_neg (by omega)]
    simp only [q56_11, q56_12, q56_15, q56_16, q56_19, q56_22, q56_24, c0, c1, hi, s31, rd, Option.toList_some, Option.toList_none, List.cons_append, List.nil_append]
    unfold sf_sk
    by_cases q : t i = 32
    · rw [if_pos q, if_pos q]
      simp only [q56_27, q56_28, q56_29, q56_32, q56_33, q56_34, c0, hi]
      rw [q56_37, sf_wS (by omega), ih (i + 1) _ (sf_TX_5 h) sf_upd_eq (by omega) (by omega), sf_upd_upd]
    · rw [if_neg q, if_neg q, q56_40, sf_upd_self hi]
/-- a blame, if it is the first -/
def sf_bl (V : sf_MV) (q : Int) (w : Nat) : sf_MV := if q = 0 ∨ ¬ V (sf_rf 0 0) 4 = 0 then V else sf_upd (sf_upd V (sf_rf 0 0) 4 q) (sf_rf 0 0) 3 (w : Int)
theorem s58 {d w : Nat} {q : Int} (hq : ¬ q = 0) : sf_wp d none 58 0 [some (.inr (.inl (some (sf_rf 0 0)))), some (.inl q), some (.inl (w : Int))] [] (sf_E V) K = K none (sf_E (sf_bl V q w)) := by
  obtain ⟨c0, c1, c2⟩ := sf_txt
  unfold sf_bl
  simp only [q58_0, q58_1, c0]
  rw [q58_4]
  by_cases h : V (sf_rf 0 0) 4 = 0
  · rw [if_pos h, if_neg (fun z => by rcases z with z | z; exact hq z; exact z h)]
    simp only [q58_7, q58_8, q58_9, q58_12, q58_13, q58_14, q58_17, c0]
  · rw [if_neg h, if_pos (Or.inr h), q58_17]
theorem sf_bl_ne {q : Int} {w : Nat} (h : ¬ a = sf_rf 0 0) : sf_bl V q w a = V a := by
  unfold sf_bl
  split
  · rfl
  · rw [sf_upd_ne h, sf_upd_ne h]
theorem sf_bl_ne2 {q : Int} {w : Nat} (h3 : ¬ k = 3) (h4 : ¬ k = 4) : sf_bl V q w (sf_rf 0 0) k = V (sf_rf 0 0) k := by
  unfold sf_bl
  split
  · rfl
  · rw [sf_upd_ne2 h3, sf_upd_ne2 h4]
theorem sf_bl_0 {w : Nat} : sf_bl V 0 w = V := if_pos (Or.inl rfl)
theorem sf_bl_4 {q : Int} {w : Nat} : sf_bl V q w (sf_rf 0 0) 4 = if V (sf_rf 0 0) 4 = 0 then q else V (sf_rf 0 0) 4 := by
  unfold sf_bl
  by_cases h : V (sf_rf 0 0) 4 = 0
  · rw [if_pos h]
    by_cases q0 : q = 0
    · rw [if_pos (Or.inl q0), h, q0]
    · rw [if_neg (fun z => by rcases z with z | z; exact q0 z; exact z h), sf_upd_ne2 (by decide), sf_upd_eq]
  · rw [if_neg h, if_pos (Or.inr h)]
theorem sf_bl_3 {q : Int} {w : Nat} : sf_bl V q w (sf_rf 0 0) 3 = if V (sf_rf 0 0) 4 = 0 ∧ ¬ q = 0 then (w : Int) else V (sf_rf 0 0) 3 := by
  unfold sf_bl
  by_cases h : V (sf_rf 0 0) 4 = 0 ∧ ¬ q = 0
  · rw [if_pos h, if_neg (fun z => by rcases z with z | z; exact h.2 z; exact z h.1), sf_upd_eq]
  · rw [if_neg h]
    by_cases q0 : q = 0
    · rw [if_pos (Or.inl q0)]
    · rw [if_pos (Or.inr (fun z => h ⟨z, q0⟩))]
theorem sf_TX_bl {q : Int} {w : Nat} (h : sf_TX V t L) : sf_TX (sf_bl V q w) t L := by
  obtain ⟨h1, h2, h3⟩ := h
  refine ⟨by rw [sf_bl_ne2 (by decide) (by decide)]; exact h1, h2, fun j hj => ?_⟩
  rw [sf_bl_ne (by simp [sf_rf_inj, sf_rf_ne0])]
  exact h3 j hj
theorem s57 {d : Nat} {x : Int} {M : sf_M} : sf_wp d none 57 0 [some (.inl x)] [] M K = K (some (.inl (if 48 ≤ x ∧ x ≤ 57 then 1 else 0))) M := by
  simp only [q57_0, q57_1, q57_3]
  by_cases h1 : x < 48
  · rw [if_pos h1, if_neg (by omega)]
    simp (decide := true) only [q57_16, q57_17, true_or, true_and]
  · rw [if_neg h1]
    simp only [q57_6, q57_7, q57_9]
    by_cases h2 : 57 < x
    · rw [if_pos h2, if_neg (by omega)]
      simp (decide := true) only [q57_16, q57_17, true_or, true_and]
    · rw [if_neg h2, if_pos (by omega)]
      simp (decide := true) only [q57_12, q57_13, q57_17, or_true, true_and]
def sf_nb (least most : Int) (j k : Nat) (v : Int) : Int := if k = j then 1 else if 3 < k - j ∨ v < least ∨ most < v then 2 else 0
theorem s54_loop {d j : Nat} {lo hi : Int} : ∀ (m i : Nat) (v : Int) (V : sf_MV), sf_TX V t L → V (sf_rf 0 0) 5 = (i : Int) → L - i = m → i ≤ L → sf_vb j i v →
    sf_wp (d + 1) none 54 12 [some (.inr (.inl (some (sf_rf 0 0)))), some (.inl lo), some (.inl hi), some (.inl (j : Int)), some (.inl v)] [] (sf_E V) K = sf_wp (d + 1) none 54 90 [some (.inr (.inl (some (sf_rf 0 0)))), some (.inl lo), some (.inl hi), some (.inl (j : Int)), some (.inl (sf_vc t j m i v))] [] (sf_E (sf_upd V (sf_rf 0 0) 5 (sf_de t m i : Nat))) K := by
  obtain ⟨c0, c1, c2⟩ := sf_txt
  have ll := sf_txLen
  intro m
  induction m with
  | zero =>
    intro i v V h hi hm hL hv
    simp only [q54_12, q54_13, q54_16, q54_17, q54_20, c0, h.1, hi]
    rw [if_pos (by omega), show sf_de t 0 i = i from rfl, sf_upd_self hi]
    rfl
  | succ m ih =>
    intro i v V h hi hm hL hv
    have hL2 := h.2.1
    have rd : sf_rd V (sf_rf (sf_rf (sf_rf 0 0) 0) 0) (i : Int) = t i := by
      rw [sf_rd_nat (by omega), (h.2.2 i (by omega)).1]
    simp only [q54_12, q54_13, q54_16, q54_17, q54_20, c0, h.1, hi]
    rw [if_neg (by omega)]
    simp only [q54_23, q54_24, q54_27, q54_28, q54_31, q54_34, c0, c1, hi, s31, rd, s57, Option.toList_some, Option.toList_none, List.cons_append, List.nil_append]
    rw [q54_37]
    unfold sf_vc sf_de
    by_cases q : 48 ≤ t i ∧ t i ≤ 57
    · rw [if_pos q, if_pos q, if_pos q, if_neg (by decide)]
      simp only [q54_40, q54_41, q54_44, q54_45, q54_46, q54_47, c0, hi]
      have hj := hv.1
      rw [sf_w_small (n := (i : Int) - j) (by omega)]
      have ih1 := ih (i + 1) (if i - j < 3 then v * 10 + t i - 48 else v) (sf_upd V (sf_rf 0 0) 5 ((i + 1 : Nat) : Int)) (sf_TX_5 h) sf_upd_eq (by omega) (by omega) (sf_vb_step hv q)
      rw [sf_upd_upd] at ih1
      obtain ⟨v0, v1, v2, _⟩ := hv
      by_cases q3 : i - j < 3
      · rw [if_neg (by omega)]
        rw [if_pos q3] at ih1 ⊢
        simp only [q54_50, q54_52, q54_54, q54_55, q54_56, q54_59, q54_60, q54_63, q54_66, q54_67, q54_69, q54_70, q54_73, q54_75, q54_77, q54_78, q54_79, q54_82, q54_83, q54_84, c0, c1, hi, s31, rd, Option.toList_some, Option.toList_none, List.cons_append, List.nil_append]
        rw [q54_87, sf_wS (by omega), sf_w_small (n := v * 10) (by omega), sf_w_small (n := v * 10 + t i) (by omega), sf_w_small (by omega)]
        exact ih1
      · rw [if_pos (by omega)]
        rw [if_neg q3] at ih1 ⊢
        simp only [q54_73, q54_75, q54_77, q54_78, q54_79, q54_82, q54_83, q54_84, c0, hi]
        rw [q54_87, sf_wS (by omega)]
        exact ih1
    · rw [if_neg q, if_neg q, if_neg q, if_pos rfl, sf_upd_self hi]
theorem s54 {d i : Nat} {lo hi : Int} (h : sf_TX V t L) (hi5 : V (sf_rf 0 0) 5 = (i : Int)) (hL : i ≤ L) {j k : Nat} {v : Int} (hj : sf_sk t (L - i) i = j) (hk : sf_de t (L - j) j = k) (hv : sf_vc t j (L - j) j 0 = v) :
    sf_wp (d + 2) none 54 0 [some (.inr (.inl (some (sf_rf 0 0)))), some (.inl lo), some (.inl hi), none, none] [] (sf_E V) K = K (some (.inl v)) (sf_E (sf_bl (sf_upd V (sf_rf 0 0) 5 (k : Int)) (sf_nb lo hi j k v) j)) := by
  obtain ⟨c0, c1, c2⟩ := sf_txt
  have hL2 := h.2.1
  have js := sf_sk_in (t := t) (L - i) i
  have ks := sf_de_in (t := t) (L - j) j
  rw [hj] at js
  rw [hk] at ks
  simp only [q54_0, q54_1, c0]
  rw [s56 (L - i) i V h hi5 rfl hL, hj]
  simp only [q54_4, q54_5, q54_8, q54_9, q54_10, c0, sf_upd_eq, Option.toList_some, Option.toList_none, List.cons_append, List.nil_append]
  refine Eq.trans (s54_loop (L - j) j 0 _ (sf_TX_5 h) sf_upd_eq rfl (by omega) ⟨Nat.le_refl _, by omega, by omega, fun _ => by omega, fun _ => by omega, fun _ => rfl⟩) ?_
  rw [hk, hv, sf_upd_upd]
  unfold sf_nb
  simp only [q54_90, q54_91, q54_94, q54_95, c0, sf_upd_eq]
  by_cases q : k = j
  · rw [if_pos (by omega), if_pos q]
    simp only [q54_98, q54_99, q54_100, q54_101, c0]
    rw [s58 (by decide)]
    simp only [q54_104, q54_135, q54_137, Option.toList_some, Option.toList_none, List.cons_append, List.nil_append]
  · rw [if_neg (by omega), if_neg q]
    simp only [q54_107, q54_108, q54_111, q54_112, q54_113, q54_114, c0, sf_upd_eq]
    rw [sf_w_small (n := (k : Int) - j) (by omega)]
    have bad : 3 < k - j ∨ v < lo ∨ hi < v → sf_wp (d + 1 + 1) none 54 129 [some (.inr (.inl (some (sf_rf 0 0)))), some (.inl lo), some (.inl hi), some (.inl (j : Int)), some (.inl v)] [] (sf_E (sf_upd V (sf_rf 0 0) 5 (k : Int))) K = K (some (.inl v)) (sf_E (sf_bl (sf_upd V (sf_rf 0 0) 5 (k : Int)) (if 3 < k - j ∨ v < lo ∨ hi < v then 2 else 0) j)) := fun z => by
      rw [if_pos z]
      simp only [q54_129, q54_130, q54_131, q54_132, c0]
      rw [s58 (by decide)]
      simp only [q54_135, q54_137, Option.toList_some, Option.toList_none, List.cons_append, List.nil_append]
    by_cases q1 : 3 < k - j
    · rw [if_pos (by omega)]
      exact bad (Or.inl q1)
    · rw [if_neg (by omega)]
      simp only [q54_117, q54_119, q54_120]
      by_cases q2 : v < lo
      · rw [if_pos q2]
        exact bad (Or.inr (Or.inl q2))
      · rw [if_neg q2]
        simp only [q54_123, q54_125, q54_126]
        by_cases q3 : hi < v
        · rw [if_neg (by omega)]
          exact bad (Or.inr (Or.inr q3))
        · rw [if_pos (by omega)]
          rw [if_neg (fun z => by rcases z with z | z | z; exact q1 z; exact q2 z; exact q3 z), sf_bl_0]
          simp only [q54_135, q54_137]
def sf_eb (t : Nat → Int) (L j : Nat) : Int := if j < L ∧ t j = 59 then 0 else 1
def sf_ek (t : Nat → Int) (L j : Nat) : Nat := if j < L ∧ t j = 59 then j + 1 else j
theorem s55 {d i : Nat} (h : sf_TX V t L) (hi5 : V (sf_rf 0 0) 5 = (i : Int)) (hL : i ≤ L) {j : Nat} (hj : sf_sk t (L - i) i = j) :
    sf_wp (d + 2) none 55 0 [some (.inr (.inl (some (sf_rf 0 0))))] [] (sf_E V) K = K none (sf_E (sf_bl (sf_upd V (sf_rf 0 0) 5 (sf_ek t L j : Nat)) (sf_eb t L j) j)) := by
  obtain ⟨c0, c1, c2⟩ := sf_txt
  have ll := sf_txLen
  have hL2 := h.2.1
  have js := sf_sk_in (t := t) (L - i) i
  rw [hj] at js
  simp only [q55_0, q55_1, c0]
  rw [s56 (L - i) i V h hi5 rfl hL, hj]
  have h5 := sf_TX_5 (v := (j : Int)) h
  simp only [q55_4, q55_5, q55_8, q55_9, q55_12, c0, h5.1, sf_upd_eq, Option.toList_some, Option.toList_none, List.cons_append, List.nil_append]
  unfold sf_ek sf_eb
  by_cases q : j < L
  · have rd : sf_rd (sf_upd V (sf_rf 0 0) 5 (j : Int)) (sf_rf (sf_rf (sf_rf 0 0) 0) 0) (j : Int) = t j := by
      rw [sf_rd_nat (by omega), (h5.2.2 j (by omega)).1]
    rw [if_neg (by omega)]
    simp only [q55_15, q55_16, q55_19, q55_20, q55_23, q55_26, q55_28, c0, c1, s31, sf_upd_eq, rd, Option.toList_some, Option.toList_none, List.cons_append, List.nil_append]
    by_cases q2 : t j = 59
    · rw [if_pos q2, if_pos ⟨q, q2⟩, if_pos ⟨q, q2⟩, sf_bl_0]
      simp only [q55_31, q55_32, q55_33, q55_36, q55_37, q55_38, q55_41, q55_53, c0, sf_upd_eq, sf_upd_upd]
      rw [sf_wS (by omega)]
    · rw [if_neg q2, if_neg (fun z => q2 z.2), if_neg (fun z => q2 z.2)]
      simp only [q55_44, q55_45, q55_46, q55_47, q55_50, c0, sf_upd_eq]
      rw [s58 (by decide)]
      simp only [q55_53, Option.toList_some, Option.toList_none, List.cons_append, List.nil_append]
  · rw [if_pos (by omega), if_neg (fun z => q z.1), if_neg (fun z => q z.1)]
    simp only [q55_44, q55_45, q55_46, q55_47, q55_50, c0, sf_upd_eq]
    rw [s58 (by decide)]
    simp only [q55_53, Option.toList_some, Option.toList_none, List.cons_append, List.nil_append]
end SFP27

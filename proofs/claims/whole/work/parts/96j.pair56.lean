/-! plans: the reference tries all rows -/
section SFP56
variable {V U : sf_MV} {n nx c ce cf cg : Nat}
def sf_FQ (k : Nat) (X X' : sf_MV) : Prop := (∀ a, ¬ a = 409 → ¬ a = sf_rf 409 28 → ¬ a = sf_rf 409 29 → ¬ a = sf_rf 409 30 → ¬ a = sf_rf 409 31 → X' a = X a) ∧ (∀ j, ¬ j = 32 → ¬ j = 33 → X' 409 j = X 409 j) ∧ (∀ j, j < 20 * (k + 1) → X' (sf_rf 409 29) j = X (sf_rf 409 29) j) ∧ ∀ j, j < k → X' (sf_rf 409 30) j = X (sf_rf 409 30) j
theorem sf_FQ_trans {k : Nat} {X1 X2 X3 : sf_MV} (h : sf_FQ k X1 X2) (g : sf_FQ k X2 X3) : sf_FQ k X1 X3 :=
  ⟨fun a q0 q1 q2 q3 q4 => by rw [g.1 a q0 q1 q2 q3 q4, h.1 a q0 q1 q2 q3 q4], fun j q q' => by rw [g.2.1 j q q', h.2.1 j q q'], fun j q => by rw [g.2.2.1 j q, h.2.2.1 j q], fun j q => by rw [g.2.2.2 j q, h.2.2.2 j q]⟩
theorem sf_FQ_le {k k' : Nat} {X1 X2 : sf_MV} (h : sf_FQ k' X1 X2) (hk : k ≤ k') : sf_FQ k X1 X2 :=
  ⟨h.1, h.2.1, fun j q => h.2.2.1 j (by omega), fun j q => h.2.2.2 j (by omega)⟩
theorem sf_FQ_30 {k : Nat} {X : sf_MV} {v : Int} : sf_FQ k X (sf_upd X (sf_rf 409 30) k v) :=
  ⟨fun a _ _ _ q _ => sf_upd_ne q, fun j _ _ => by rw [sf_upd_ne (by simp [sf_Yne_rf])], fun j _ => by rw [sf_upd_ne (by simp [sf_rf_inj])], fun j hj => sf_upd_ne2 (by omega)⟩
theorem sf_FQ_28 {k : Nat} {X : sf_MV} {S : Nat → Int} : sf_FQ k X (sf_put X (sf_rf 409 28) 0 20 S) :=
  ⟨fun a _ q _ _ _ => sf_put_ne q, fun j _ _ => by rw [sf_put_ne (by simp [sf_Yne_rf])], fun j _ => by rw [sf_put_ne (by simp [sf_rf_inj])], fun j _ => by rw [sf_put_ne (by simp [sf_rf_inj])]⟩
theorem sf_QH_FQ {k : Nat} {g lg t : Int} {cold cost S T : Nat → Int} {X X' : sf_MV} (h : sf_QH X n k g lg t cold cost S T) (f : sf_FQ k X X') : sf_QH X' n k g lg t cold cost S T := by
  have er : ∀ r, r < 28 → X' (sf_rf 409 r) = X (sf_rf 409 r) := fun r hr => f.1 _ (by simp [sf_rf_neY]) (by simp [sf_rf_inj]; omega) (by simp [sf_rf_inj]; omega) (by simp [sf_rf_inj]; omega) (by simp [sf_rf_inj]; omega)
  exact sf_QH.mk (by rw [f.2.1 0 (by decide) (by decide)]; exact h.pn) (by rw [f.2.1 1 (by decide) (by decide)]; exact h.g) (by rw [er 2 (by decide)]; exact h.pc) (by rw [er 3 (by decide)]; exact h.e) (by rw [er 4 (by decide)]; exact h.l) (fun j hj => by rw [f.2.2.1 _ (by omega)]; exact h.p j hj) h.r h.t1 h.o h.t h.lg h.tl
theorem sf_RQ_same {L : Nat} {X X' : sf_MV} {B : Int × Int × (Nat → Nat)} (h : sf_RQ L X B) (h7 : X' 409 = X 409) (h31 : X' (sf_rf 409 31) = X (sf_rf 409 31)) : sf_RQ L X' B := by
  unfold sf_RQ
  rw [h7, h31]
  exact h
theorem sf_dn_upn {pk : Nat → Nat} {k x : Nat} : sf_dn (sf_upn pk k x) (k + 1) = sf_dn pk k + sf_pdc x := by
  have e : ∀ m, m ≤ k → sf_dn (sf_upn pk k x) m = sf_dn pk m := by
    intro m
    induction m with
    | zero => intro _; rfl
    | succ m ih =>
      intro hm
      unfold sf_dn
      rw [ih (by omega)]
      unfold sf_upn
      rw [if_neg (by omega)]
  show sf_dn (sf_upn pk k x) k + sf_pdc (sf_upn pk k x k) = _
  rw [e k (Nat.le_refl k)]
  unfold sf_upn
  rw [if_pos rfl]
theorem s139_things {L k r : Nat} {g lg t want : Int} {cold cost S T : Nat → Int} {pk : Nat → Nat} (hn : 0 < n) (hn5 : n ≤ 5) (hg : 0 ≤ g ∧ g ≤ 20) (hc : ∀ p, p < 5 → 0 ≤ cold p ∧ cold p ≤ 9) (hs : ∀ e, e < 6 → 0 ≤ cost e ∧ cost e ≤ 9) (hk : k < 3)
    (child : ∀ (x : Nat) (X1 : sf_MV) (C : Nat → Int) (b : Int × Int × (Nat → Nat)), x < 6 * n + 1 → t + sf_pcs n cost x ≤ lg → (∀ j, j < 20 → j ≠ 3 → j ≠ 1 → C j = sf_pch n g cold S x j) → C 1 = lg - (t + sf_pcs n cost x) → sf_QH X1 n k g lg t cold cost S T → (∀ j, j < k + 1 → X1 (sf_rf 409 30) j = (sf_upn pk k x j : Int)) → sf_RQ L X1 b →
      ∃ X', sf_FQ k X1 X' ∧ X' (sf_rf 409 30) k = (x : Int) ∧ sf_RQ L X' (if sf_pal n want r (sf_pch n g cold S x) = true then sf_r3 (6 * n + 1) lg (sf_pcs n cost) sf_pdc (sf_pch n g cold) (sf_pal n want) r (k + 1) (sf_pch n g cold S x) (t + sf_pcs n cost x) (sf_dn pk k + sf_pdc x) (sf_upn pk k x) b else b) ∧
        ∀ l4 K, ∃ l4' l5', sf_wp 18 none 139 174 [some (.inr (.inl (some 409))), some (.inl (L : Int)), some (.inl want), some (.inl (k : Int)), l4, some (.inl (if ¬ want = -1 ∨ sf_frz (sf_pch n g cold S x) n = 0 then 1 else 0))] [] (sf_E (sf_put X1 (sf_rf 409 28) 0 20 C)) K =
          sf_wp 18 none 139 28 [some (.inr (.inl (some 409))), some (.inl (L : Int)), some (.inl want), some (.inl (k : Int)), l4', l5'] [] (sf_E X') K)
    (G : Nat → Int × Int × (Nat → Nat) → Int × Int × (Nat → Nat)) (hG : (fun (x : Nat) (B : Int × Int × (Nat → Nat)) => if t + sf_pcs n cost x ≤ lg ∧ sf_pal n want r (sf_pch n g cold S x) = true then sf_r3 (6 * n + 1) lg (sf_pcs n cost) sf_pdc (sf_pch n g cold) (sf_pal n want) r (k + 1) (sf_pch n g cold S x) (t + sf_pcs n cost x) (sf_dn pk k + sf_pdc x) (sf_upn pk k x) B else B) = G) (B : Int × Int × (Nat → Nat)) :
    ∀ (m x : Nat) (X : sf_MV), 6 * n + 1 - x = m → x ≤ 6 * n + 1 → sf_QH X n k g lg t cold cost S T → (∀ j, j < k → X (sf_rf 409 30) j = (pk j : Int)) → X (sf_rf 409 30) k = (x : Int) - 1 → sf_RQ L X (sf_fld G x B) →
    ∃ X', sf_FQ k X X' ∧ sf_RQ L X' (sf_fld G (6 * n + 1) B) ∧ ∀ l4 l5 K, ∃ l4' l5', sf_wp 18 none 139 28 [some (.inr (.inl (some 409))), some (.inl (L : Int)), some (.inl want), some (.inl (k : Int)), l4, l5] [] (sf_E X) K = sf_wp 18 none 139 28 [some (.inr (.inl (some 409))), some (.inl (L : Int)), some (.inl want), some (.inl ((k : Int) - 1)), l4', l5'] [] (sf_E X') K := by
  have y30 := sf_c12_30 sf_y
  intro m
  induction m with
  | zero =>
    intro x X hm hx h hpk hp hR
    have hx7 : x = 6 * n + 1 := by omega
    subst hx7
    have b5 : k < 5 := by omega
    refine ⟨sf_upd X (sf_rf 409 30) k ((6 * n + 1 : Nat) : Int), sf_FQ_30, sf_RQ_same hR (by rw [sf_upd_ne (by simp [sf_Yne_rf])]) (by rw [sf_upd_ne (by simp [sf_rf_inj])]), fun l4 l5 K => ⟨l4, l5, ?_⟩⟩
    have e30 : sf_upd X (sf_rf 409 30) k ((6 * n + 1 : Nat) : Int) (sf_rf 409 30) k = ((6 * n + 1 : Nat) : Int) := sf_upd_eq
    have e0 : sf_upd X (sf_rf 409 30) k ((6 * n + 1 : Nat) : Int) 409 0 = (n : Int) := by rw [sf_upd_ne (by simp [sf_Yne_rf])]; exact h.pn
    have w6 : sf_w (6 * (n : Int)) = 6 * n := sf_w_small (by omega)
    have lhs : ∀ Q, (sf_wp 18 none 139 58 [some (.inr (.inl (some 409))), some (.inl (L : Int)), some (.inl want), some (.inl (k : Int)), l4, l5] [] (sf_E (sf_upd X (sf_rf 409 30) k ((6 * n + 1 : Nat) : Int))) K = Q) → sf_wp 18 none 139 28 [some (.inr (.inl (some 409))), some (.inl (L : Int)), some (.inl want), some (.inl (k : Int)), l4, l5] [] (sf_E X) K = Q := fun Q hQ => by
      rw [← hQ]
      simp only [q139_28]
      rw [q139_29, if_neg (by omega)]
      simp only [q139_32, q139_33, q139_36, q139_37, q139_38, q139_39, q139_40, q139_41, sf_y, y30, sf_y30, sf_bd, b5, true_and, Int.toNat_natCast, hp]
      rw [sf_w_small (by omega), show ((6 * n + 1 : Nat) : Int) - 1 + 1 = ((6 * n + 1 : Nat) : Int) by omega]
      simp only [q139_42, q139_43, q139_46, q139_47, q139_48, q139_50, q139_51, q139_54, sf_y, y30, sf_y30, sf_bd, b5, true_and, Int.toNat_natCast, e30, e0, w6]
      rw [q139_55, if_neg (by omega)]
    refine lhs _ ?_
    rw [q139_58, q139_61, sf_w_small (by omega)]
    rfl
  | succ m ih =>
    intro x X hm hx h hpk hp hR
    have hx7 : x < 6 * n + 1 := by omega
    have hm1 : 6 * n + 1 - (x + 1) = m := by omega
    have hx1 : x + 1 ≤ 6 * n + 1 := by omega
    have hxi : (x : Int) = ((x + 1 : Nat) : Int) - 1 := by omega
    obtain ⟨mv0, mv1⟩ := s139_move (L := L) (want := want) hn hn5 hg hc hs hk h hx7 hp
    have eG : sf_fld G (x + 1) B = G x (sf_fld G x B) := rfl
    have gx : ∀ b, G x b = if t + sf_pcs n cost x ≤ lg ∧ sf_pal n want r (sf_pch n g cold S x) = true then sf_r3 (6 * n + 1) lg (sf_pcs n cost) sf_pdc (sf_pch n g cold) (sf_pal n want) r (k + 1) (sf_pch n g cold S x) (t + sf_pcs n cost x) (sf_dn pk k + sf_pdc x) (sf_upn pk k x) b else b := fun b => by rw [← hG]
    by_cases z : t + sf_pcs n cost x ≤ lg
    · obtain ⟨C, hC, hC1, mv⟩ := mv1 z
      have F1 : sf_FQ k X (sf_upd X (sf_rf 409 30) k (x : Int)) := sf_FQ_30
      obtain ⟨X', F2, p2, R2, eq⟩ := child x (sf_upd X (sf_rf 409 30) k (x : Int)) C (sf_fld G x B) hx7 z hC hC1 (sf_QH_FQ h F1) (fun j hj => by
        unfold sf_upn
        by_cases q : j = k
        · rw [if_pos q, q, sf_upd_eq]
        · rw [if_neg q, sf_upd_ne2 q]
          exact hpk j (Nat.lt_of_le_of_ne (Nat.le_of_lt_succ hj) q)) (sf_RQ_same hR (by rw [sf_upd_ne (by simp [sf_Yne_rf])]) (by rw [sf_upd_ne (by simp [sf_rf_inj])]))
      have FX := sf_FQ_trans F1 F2
      obtain ⟨X'', F3, R3, fin⟩ := ih (x + 1) X' hm1 hx1 (sf_QH_FQ h FX) (fun j hj => by rw [FX.2.2.2 j hj]; exact hpk j hj) (by rw [p2]; exact hxi) (by
        rw [eG, gx]
        by_cases q : sf_pal n want r (sf_pch n g cold S x) = true
        · rw [if_pos q] at R2
          rw [if_pos ⟨z, q⟩]
          exact R2
        · rw [if_neg q] at R2
          rw [if_neg (fun y => q y.2)]
          exact R2)
      refine ⟨X'', sf_FQ_trans FX F3, R3, fun l4 l5 K => ?_⟩
      obtain ⟨a4, ea⟩ := mv l4 l5 K
      obtain ⟨b4, b5, eb⟩ := eq a4 K
      obtain ⟨c4, c5, ec⟩ := fin b4 b5 K
      exact ⟨c4, c5, by rw [ea, eb, ec]⟩
    · have F1 : sf_FQ k X (sf_put (sf_upd X (sf_rf 409 30) k (x : Int)) (sf_rf 409 28) 0 20 T) := sf_FQ_trans sf_FQ_30 sf_FQ_28
      obtain ⟨X'', F3, R3, fin⟩ := ih (x + 1) _ hm1 hx1 (sf_QH_FQ h F1) (fun j hj => by rw [F1.2.2.2 j hj]; exact hpk j hj) (by rw [sf_put_ne (by simp [sf_rf_inj]), sf_upd_eq]; exact hxi) (by
        rw [eG, gx, if_neg (fun y => z y.1)]
        exact sf_RQ_same hR (by rw [sf_put_ne (by simp [sf_Yne_rf]), sf_upd_ne (by simp [sf_Yne_rf])]) (by rw [sf_put_ne (by simp [sf_rf_inj]), sf_upd_ne (by simp [sf_rf_inj])]))
      refine ⟨X'', sf_FQ_trans F1 F3, R3, fun l4 l5 K => ?_⟩
      obtain ⟨a4, ea⟩ := mv0 z l4 l5 K
      obtain ⟨c4, c5, ec⟩ := fin a4 (some (.inl 0)) K
      refine ⟨c4, c5, ?_⟩
      rw [ea, ← ec]
      simp only [q139_174]
      rw [q139_176, if_pos rfl]
      simp only [q139_195]
      rw [q139_197, if_pos rfl, q139_215]
end SFP56

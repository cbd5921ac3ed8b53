/-! plans: the reference, all depths -/
section SFP57
variable {V U : sf_MV} {n nx c ce cf cg : Nat}
theorem s139_bad {L k : Nat} {want : Int} {l4 : Option sf_V} {X : sf_MV} {K : Option sf_V → sf_M → Prop} : sf_wp 18 none 139 174 [some (.inr (.inl (some 409))), some (.inl (L : Int)), some (.inl want), some (.inl (k : Int)), l4, some (.inl 0)] [] (sf_E X) K = sf_wp 18 none 139 28 [some (.inr (.inl (some 409))), some (.inl (L : Int)), some (.inl want), some (.inl (k : Int)), l4, some (.inl 0)] [] (sf_E X) K := by
  simp only [q139_174]
  rw [q139_176, if_pos rfl]
  simp only [q139_195]
  rw [q139_197, if_pos rfl, q139_215]
theorem s139_node {L : Nat} {g lg want : Int} {cold cost : Nat → Int} (hn : 0 < n) (hn5 : n ≤ 5) (hg : 0 ≤ g ∧ g ≤ 20) (hc : ∀ p, p < 5 → 0 ≤ cold p ∧ cold p ≤ 9) (hs : ∀ e, e < 6 → 0 ≤ cost e ∧ cost e ≤ 9) (hL : L ≤ 3) : ∀ (r k : Nat) (X : sf_MV) (S T : Nat → Int) (t : Int) (pk : Nat → Nat) (B : Int × Int × (Nat → Nat)), k + r + 1 = L → sf_QH X n k g lg t cold cost S T → (∀ j, j < k → X (sf_rf 409 30) j = (pk j : Int)) → X (sf_rf 409 30) k = -1 → sf_RQ L X B →
    ∃ X', sf_FQ k X X' ∧ sf_RQ L X' (sf_r3 (6 * n + 1) lg (sf_pcs n cost) sf_pdc (sf_pch n g cold) (sf_pal n want) (r + 1) k S t (sf_dn pk k) pk B) ∧ ∀ l4 l5 K, ∃ l4' l5', sf_wp 18 none 139 28 [some (.inr (.inl (some 409))), some (.inl (L : Int)), some (.inl want), some (.inl (k : Int)), l4, l5] [] (sf_E X) K = sf_wp 18 none 139 28 [some (.inr (.inl (some 409))), some (.inl (L : Int)), some (.inl want), some (.inl ((k : Int) - 1)), l4', l5'] [] (sf_E X') K := by
  have y30 := sf_c12_30 sf_y
  have cs9 : ∀ x, 0 ≤ sf_pcs n cost x ∧ sf_pcs n cost x ≤ 9 := fun x => by
    unfold sf_pcs
    split
    · decide
    · split
      · exact hs _ (by omega)
      · decide
  have X3p : ∀ (X1 : sf_MV) (C : Nat → Int), sf_put X1 (sf_rf 409 28) 0 20 C 409 = X1 409 ∧ sf_put X1 (sf_rf 409 28) 0 20 C (sf_rf 409 31) = X1 (sf_rf 409 31) ∧ sf_put X1 (sf_rf 409 28) 0 20 C (sf_rf 409 30) = X1 (sf_rf 409 30) ∧ sf_put X1 (sf_rf 409 28) 0 20 C (sf_rf 409 4) = X1 (sf_rf 409 4) := fun X1 C => ⟨sf_so_y, sf_so_k (by decide), sf_so_k (by decide), sf_so_k (by decide)⟩
  intro r
  induction r with
  | zero =>
    intro k X S T t pk B hk h hpk hp hR
    have hh := h.t
    refine s139_things (r := 0) (want := want) (L := L) (pk := pk) hn hn5 hg hc hs (by omega) (fun x X1 C b hx z hC hC1 h1 hpk1 R1 => ?_) _ rfl B (6 * n + 1) 0 X (by omega) (by omega) h hpk (by rw [hp]; rfl) hR
    obtain ⟨q1, q2, q3, q4⟩ := X3p X1 C
    have c9 := cs9 x
    by_cases ok : ¬ want = -1 ∨ sf_frz (sf_pch n g cold S x) n = 0
    · rw [if_pos ok]
      have hlg := h.lg
      obtain ⟨X', f1, f2, f3, f4⟩ := s140 (X := sf_put X1 (sf_rf 409 28) 0 20 C) (pk := sf_upn pk k x) (B := b) (L := L) (want := want) (lg := lg) (t := t + sf_pcs n cost x) (s0 := sf_pch n g cold S x 0) hL (fun j hj => by rw [q3]; exact hpk1 j (by omega)) (sf_RQ_same R1 q1 q2) (by rw [q4]; exact h1.l) (by rw [sf_put_at (by decide)]; exact hC1) (by rw [sf_put_at (by decide)]; exact hC 0 (by decide) (by decide) (by decide)) hlg (by omega)
      have dn : sf_dn (sf_upn pk k x) L = sf_dn pk k + sf_pdc x := by
        rw [show L = k + 1 by omega]
        exact sf_dn_upn
      rw [dn] at f3
      refine ⟨X', ⟨fun a a0 a1 a2 a3 a4 => by rw [f1 a a0 a4, sf_put_ne a1], fun j j1 j2 => by rw [f2 j j1 j2, q1], fun j _ => by rw [f1 _ (by simp [sf_rf_neY]) (by simp [sf_rf_inj]), sf_put_ne (by simp [sf_rf_inj])], fun j _ => by rw [f1 _ (by simp [sf_rf_neY]) (by simp [sf_rf_inj]), q3]⟩, by
        rw [f1 _ (by simp [sf_rf_neY]) (by simp [sf_rf_inj]), q3, hpk1 k (by omega)]
        unfold sf_upn
        rw [if_pos rfl], ?_, fun l4 K => ⟨l4, some (.inl 1), ?_⟩⟩
      · unfold sf_pal sf_r3
        by_cases w : want = -1
        · have fz : sf_frz (sf_pch n g cold S x) n = 0 := by
            rcases ok with y | y
            · exact absurd w y
            · exact y
          rw [if_pos (Or.inl w)] at f3
          rw [if_pos w, if_pos (decide_eq_true fz)]
          exact f3
        · rw [if_neg w]
          by_cases y : sf_pch n g cold S x 0 = want
          · rw [if_pos (Or.inr y)] at f3
            rw [if_pos (decide_eq_true (Or.inr y))]
            exact f3
          · rw [if_neg (fun v => by rcases v with v | v; exact w v; exact y v)] at f3
            rw [if_neg (by simp [y])]
            exact f3
      · simp only [q139_174]
        rw [q139_176, if_neg (by decide)]
        simp only [q139_179, q139_180, q139_181, q139_182]
        rw [sf_wS (by omega), q139_183, if_pos (by omega)]
        simp only [q139_186, q139_187, q139_188, q139_189, sf_y, f4, Option.toList_some, Option.toList_none, List.cons_append, List.nil_append]
        rw [q139_192, q139_215]
    · rw [if_neg ok]
      have pf : ¬ sf_pal n want 0 (sf_pch n g cold S x) = true := by
        unfold sf_pal
        have w : want = -1 := Decidable.byContradiction (fun y => ok (Or.inl y))
        rw [if_pos w]
        intro y
        exact ok (Or.inr (of_decide_eq_true y))
      rw [if_neg pf]
      refine ⟨sf_put X1 (sf_rf 409 28) 0 20 C, sf_FQ_28, by
        rw [q3, hpk1 k (by omega)]
        unfold sf_upn
        rw [if_pos rfl], sf_RQ_same R1 q1 q2, fun l4 K => ⟨l4, some (.inl 0), s139_bad⟩⟩
  | succ r ih =>
    intro k X S T t pk B hk h hpk hp hR
    have hh := h.t
    have hod := h.o.d
    refine s139_things (r := r + 1) (want := want) (L := L) (pk := pk) hn hn5 hg hc hs (by omega) (fun x X1 C b hx z hC hC1 h1 hpk1 R1 => ?_) _ rfl B (6 * n + 1) 0 X (by omega) (by omega) h hpk (by rw [hp]; rfl) hR
    obtain ⟨q1, q2, q3, q4⟩ := X3p X1 C
    have c9 := cs9 x
    have b1 : k + 1 < 5 := by omega
    by_cases ok : ¬ want = -1 ∨ sf_frz (sf_pch n g cold S x) n = 0
    · rw [if_pos ok]
      have pt : sf_pal n want (r + 1) (sf_pch n g cold S x) = true := by
        unfold sf_pal
        by_cases w : want = -1
        · rw [if_pos w]
          rcases ok with y | y
          · exact absurd w y
          · exact decide_eq_true y
        · rw [if_neg w]
          exact decide_eq_true (Or.inl (by omega))
      rw [if_pos pt]
      generalize hX4 : sf_put (sf_put X1 (sf_rf 409 28) 0 20 C) (sf_rf 409 29) (20 * (k + 1)) (20 * (k + 1) + 20) (fun j => sf_put X1 (sf_rf 409 28) 0 20 C (sf_rf 409 28) (j - 20 * (k + 1))) = X4
      generalize hX6 : sf_upd X4 (sf_rf 409 30) (k + 1) (-1) = X6
      have n6 : ∀ y, ¬ y = sf_rf 409 28 → ¬ y = sf_rf 409 29 → ¬ y = sf_rf 409 30 → X6 y = X1 y := fun y q1 q2 q3 => by
        rw [← hX6, sf_upd_ne q3, ← hX4, sf_put_ne q2, sf_put_ne q1]
      have p6 : X6 (sf_rf 409 29) = X4 (sf_rf 409 29) := by rw [← hX6, sf_upd_ne (by simp [sf_rf_inj])]
      have k6 : ∀ j, ¬ j = k + 1 → X6 (sf_rf 409 30) j = X1 (sf_rf 409 30) j := fun j hj => by
        rw [← hX6, sf_upd_ne2 hj, ← hX4, sf_put_ne (by simp [sf_rf_inj]), q3]
      have e7 : X6 409 = X1 409 := n6 _ (by simp [sf_Yne_rf]) (by simp [sf_Yne_rf]) (by simp [sf_Yne_rf])
      have F6 : sf_FQ k X1 X6 := ⟨fun a _ a1 a2 a3 _ => n6 a a1 a2 a3, fun j _ _ => by rw [e7], fun j hj => by
        rw [p6, ← hX4]
        unfold sf_put
        rw [if_neg (by omega), if_neg (by simp [sf_rf_inj])], fun j hj => k6 j (by omega)⟩
      have er : ∀ q, q < 28 → X6 (sf_rf 409 q) = X1 (sf_rf 409 q) := fun q hq => n6 _ (by simp [sf_rf_inj]; omega) (by simp [sf_rf_inj]; omega) (by simp [sf_rf_inj]; omega)
      have fxn : sf_pfx n S x < n := by
        unfold sf_pfx
        by_cases q : x = 0
        · rw [if_pos q]
          omega
        · rw [if_neg q]
          have hm : (x - 1) % n < n := Nat.mod_lt _ hn
          obtain ⟨t, ht, ht5⟩ := sf_likes_in (n := n) (S := S) (k := S ((x - 1) / n + 14)) (p := (((x - 1) % n : Nat) : Int)) hn (by omega) (by omega)
          rw [ht]
          omega
      have oo : sf_rok n (90099 + ((k + 1 : Nat) : Int)) (sf_pch n g cold S x) := by
        rw [show (90099 : Int) + ((k + 1 : Nat) : Int) = 90099 + k + 1 by omega]
        exact sf_rok_goes h.o hn5 fxn hg.1 (fun p hp => (hc p (by omega)).1)
      obtain ⟨X', F7, R7, eq⟩ := ih (k + 1) X6 (sf_pch n g cold S x) C (t + sf_pcs n cost x) (sf_upn pk k x) b (by omega) (sf_QH.mk (by rw [e7]; exact h1.pn) (by rw [e7]; exact h1.g) (by rw [er 2 (by decide)]; exact h1.pc) (by rw [er 3 (by decide)]; exact h1.e) (by rw [er 4 (by decide)]; exact h1.l) (fun j hj => by
        rw [p6, ← hX4]
        unfold sf_put
        rw [if_pos ⟨rfl, by omega, by omega⟩]
        show (if _ then _ else _) = _
        rw [if_pos ⟨rfl, by omega, by omega⟩, Nat.add_sub_cancel_left]) hC hC1 oo (by omega) h.lg z) (fun j hj => by rw [k6 j (by omega)]; exact hpk1 j hj) (by rw [← hX6, sf_upd_eq]) (sf_RQ_same R1 e7 (n6 _ (by simp [sf_rf_inj]) (by simp [sf_rf_inj]) (by simp [sf_rf_inj])))
      rw [sf_dn_upn] at R7
      refine ⟨X', sf_FQ_trans F6 (sf_FQ_le F7 (by omega)), by
        rw [F7.2.2.2 k (by omega), k6 k (by omega), hpk1 k (by omega)]
        unfold sf_upn
        rw [if_pos rfl], R7, fun l4 K => ?_⟩
      obtain ⟨a4, a5, ea⟩ := eq l4 (some (.inl 1)) K
      refine ⟨a4, a5, ?_⟩
      have ek : ((k + 1 : Nat) : Int) - 1 = (k : Int) := by omega
      rw [ek] at ea
      rw [← ea]
      simp only [q139_174]
      rw [q139_176, if_neg (by decide)]
      simp only [q139_179, q139_180, q139_181, q139_182]
      rw [sf_wS (by omega), q139_183, if_neg (by omega)]
      simp only [q139_195]
      rw [q139_197, if_neg (by decide)]
      simp only [q139_200, q139_203, q139_204, q139_205, sf_y]
      rw [sf_wS (by omega), s137 b1, hX4]
      simp only [q139_208, q139_209, q139_212, q139_213, q139_214, sf_y, y30, sf_y30, sf_bd, b1, true_and, Int.toNat_natCast, hX6, Option.toList_some, Option.toList_none, List.cons_append, List.nil_append]
      rw [q139_215]
    · rw [if_neg ok]
      have pf : ¬ sf_pal n want (r + 1) (sf_pch n g cold S x) = true := by
        unfold sf_pal
        have w : want = -1 := Decidable.byContradiction (fun y => ok (Or.inl y))
        rw [if_pos w]
        intro y
        exact ok (Or.inr (of_decide_eq_true y))
      rw [if_neg pf]
      refine ⟨sf_put X1 (sf_rf 409 28) 0 20 C, sf_FQ_28, by
        rw [q3, hpk1 k (by omega)]
        unfold sf_upn
        rw [if_pos rfl], sf_RQ_same R1 q1 q2, fun l4 K => ⟨l4, some (.inl 0), s139_bad⟩⟩
end SFP57

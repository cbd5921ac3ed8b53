/-! duel: the reference, all turns -/
section SFP48
variable {V U : sf_MV} {n nx c ce cf cg : Nat}
theorem s144_over {a b N what fst v : Int} {X : sf_MV} {j : Nat} {l7 l8 l9 : Option sf_V} {K : Option sf_V → sf_M → Prop} (hj : j < 5) (h6 : X (sf_rf 409 30) j = 6) (hv : X (sf_rf 409 34) j = v) :
    sf_wp 19 none 144 79 [some (.inr (.inl (some 409))), some (.inl a), some (.inl b), some (.inl N), some (.inl what), some (.inl (j : Int)), some (.inl fst), l7, l8, l9] [] (sf_E X) K =
      sf_wp 19 none 144 266 [some (.inr (.inl (some 409))), some (.inl a), some (.inl b), some (.inl N), some (.inl what), some (.inl ((j : Int) - 1)), some (.inl fst), some (.inl 1), some (.inl v), l9] [] (sf_E (sf_upd X (sf_rf 409 30) j 7)) K := by
  have y30 := sf_c12_30 sf_y
  have y34 := sf_c12_34 sf_y
  have e7 : sf_upd X (sf_rf 409 30) j 7 (sf_rf 409 30) j = 7 := sf_upd_eq
  have e34 : sf_upd X (sf_rf 409 30) j 7 (sf_rf 409 34) = X (sf_rf 409 34) := sf_upd_ne (by simp [sf_rf_inj])
  have w7 : sf_w (6 + 1) = 7 := rfl
  simp only [q144_79]
  rw [q144_81, if_neg (by omega)]
  simp only [q144_84, q144_85, q144_88, q144_90, q144_91, q144_92, q144_93, q144_94, sf_y, y30, sf_y30, sf_bd, hj, true_and, Int.toNat_natCast, h6, w7]
  simp only [q144_95, q144_96, q144_99, q144_101, q144_102, sf_y, y30, sf_y30, sf_bd, hj, true_and, Int.toNat_natCast, e7]
  rw [q144_104, if_neg (by decide)]
  simp only [q144_107, q144_108, q144_112, q144_114]
  rw [q144_116, if_neg (by decide)]
  simp only [q144_164]
  rw [q144_166, if_neg (by decide)]
  simp only [q144_205]
  rw [q144_207, if_neg (by decide)]
  simp only [q144_210, q144_211, q144_214, q144_216, q144_217, sf_y, y34, sf_y34, e34, sf_bd, hj, true_and, Int.toNat_natCast, hv]
  simp only [q144_249, q144_251, q144_253]
  rw [q144_255, if_neg (by decide)]
  simp only [q144_258, q144_259, q144_263, q144_264]
  rw [sf_w_small (by omega)]
/-- all things of one turn, when each child comes to its value -/
theorem s144_things {g a b what : Int} {cold : Nat → Int} {N k : Nat} {T : Nat → Int} {f : Nat → Int} (hn : 0 < n) (hn5 : n ≤ 5) (ha : 0 ≤ a ∧ a < n) (hb : 0 ≤ b ∧ b < n) (hg : 0 ≤ g ∧ g ≤ 20) (hc : ∀ p, p < 5 → 0 ≤ cold p ∧ cold p ≤ 9) (hk : k < 4) (hr : sf_rk n k T) (hf0 : ∀ x, 0 ≤ f x)
    (child : ∀ (x : Nat) (X1 : sf_MV) (v fst : Int) (C : Nat → Int), x < 7 → C = sf_goes n g cold (sf_ru T 1 v) (sf_ntx n T (sf_who a b k) x) → sf_rk n (k + 1) C → X1 409 0 = (n : Int) → X1 409 1 = g → X1 (sf_rf 409 2) = cold → (∀ e, e < 6 → 0 ≤ X1 (sf_rf 409 3) e ∧ X1 (sf_rf 409 3) e ≤ 9) →
      ∃ X', sf_FD k X1 X' ∧ X' (sf_rf 409 30) k = X1 (sf_rf 409 30) k ∧ X' (sf_rf 409 34) k = X1 (sf_rf 409 34) k ∧
        ∀ l8 l9, ∃ l7' l9', ∀ K, sf_wp 19 none 144 164 [some (.inr (.inl (some 409))), some (.inl a), some (.inl b), some (.inl (N : Int)), some (.inl what), some (.inl (k : Int)), some (.inl fst), some (.inl 0), l8, l9] [] (sf_E (sf_put X1 (sf_rf 409 28) 0 20 C)) K =
          sf_wp 19 none 144 266 [some (.inr (.inl (some 409))), some (.inl a), some (.inl b), some (.inl (N : Int)), some (.inl what), some (.inl (k : Int)), some (.inl fst), some (.inl l7'), some (.inl (f x)), l9'] [] (sf_E X') K) :
    ∀ (m x : Nat) (X : sf_MV) (fst : Int), 7 - x = m → x ≤ 7 → X 409 0 = (n : Int) → X 409 1 = g → X (sf_rf 409 2) = cold → (∀ e, e < 6 → 0 ≤ X (sf_rf 409 3) e ∧ X (sf_rf 409 3) e ≤ 9) → (∀ j, j < 20 → X (sf_rf 409 29) (20 * k + j) = T j) → X (sf_rf 409 30) k = (x : Int) - 1 → X (sf_rf 409 34) k = (sf_vf f (decide (k % 2 = 0)) x).1 → (k = 0 → 0 < x → fst = (sf_vf f (decide (k % 2 = 0)) x).2) →
    ∃ X', sf_FD k X X' ∧ X' (sf_rf 409 30) k = 6 ∧ X' (sf_rf 409 34) k = (sf_vf f (decide (k % 2 = 0)) 7).1 ∧
      ∀ l7 l8 l9, ∃ l7' l8' l9', ∀ K, sf_wp 19 none 144 79 [some (.inr (.inl (some 409))), some (.inl a), some (.inl b), some (.inl (N : Int)), some (.inl what), some (.inl (k : Int)), some (.inl fst), l7, l8, l9] [] (sf_E X) K =
        sf_wp 19 none 144 79 [some (.inr (.inl (some 409))), some (.inl a), some (.inl b), some (.inl (N : Int)), some (.inl what), some (.inl (k : Int)), some (.inl (if k = 0 then (sf_vf f (decide (k % 2 = 0)) 7).2 else fst)), l7', l8', l9'] [] (sf_E X') K := by
  intro m
  induction m with
  | zero =>
    intro x X fst hm hx h0 h1 h2 h3 hT hp hw hfst
    have x7 : x = 7 := by omega
    subst x7
    refine ⟨X, sf_FD_refl, by rw [hp]; rfl, hw, fun l7 l8 l9 => ⟨l7, l8, l9, fun K => ?_⟩⟩
    by_cases k0 : k = 0
    · rw [if_pos k0, hfst k0 (by decide)]
    · rw [if_neg k0]
  | succ m ih =>
    intro x X fst hm hx h0 h1 h2 h3 hT hp hw hfst
    have hx7 : x < 7 := by omega
    obtain ⟨v, hv, mv⟩ := s144_move (N := (N : Int)) (what := what) (fst := fst) (X := X) hn hn5 ha hb hg hc h0 h1 h2 h3 hk hx7 hT hr hp
    have hd := hr.d
    have hwho : 0 ≤ sf_who a b k ∧ sf_who a b k < n := by
      unfold sf_who
      split <;> assumption
    have nt := sf_ntx_in (x := x) hn hwho hd
    have rC : sf_rk n (k + 1) (sf_goes n g cold (sf_ru T 1 v) (sf_ntx n T (sf_who a b k) x)) := sf_rk_goes hr hn5 nt.2 hg.1 (fun p hp => (hc p hp).1) hv
    have FX : sf_FD k X (sf_upd X (sf_rf 409 30) k (x : Int)) := ⟨fun y _ _ q _ => sf_upd_ne q, fun j _ => by rw [sf_upd_ne (by simp [sf_rf_inj])], fun j hj => ⟨sf_upd_ne2 (by omega), by rw [sf_upd_ne (by simp [sf_rf_inj])]⟩⟩
    obtain ⟨X', F', p', w', eq⟩ := child x (sf_upd X (sf_rf 409 30) k (x : Int)) v fst _ hx7 rfl rC (by rw [sf_upd_ne (by simp [sf_Yne_rf])]; exact h0) (by rw [sf_upd_ne (by simp [sf_Yne_rf])]; exact h1) (by rw [sf_upd_ne (by simp [sf_rf_inj])]; exact h2) (by rw [sf_upd_ne (by simp [sf_rf_inj])]; exact h3)
    rw [sf_upd_eq] at p'
    rw [sf_upd_ne (by simp [sf_rf_inj]), hw] at w'
    have FXX := sf_FD_trans FX F'
    have fr : ∀ (X2 : sf_MV), sf_FD k X X2 → X2 409 0 = (n : Int) ∧ X2 409 1 = g ∧ X2 (sf_rf 409 2) = cold ∧ (∀ e, e < 6 → 0 ≤ X2 (sf_rf 409 3) e ∧ X2 (sf_rf 409 3) e ≤ 9) ∧ (∀ j, j < 20 → X2 (sf_rf 409 29) (20 * k + j) = T j) := fun X2 F2 => by
      have e7 : X2 409 = X 409 := F2.1 _ (by simp [sf_Yne_rf]) (by simp [sf_Yne_rf]) (by simp [sf_Yne_rf]) (by simp [sf_Yne_rf])
      have er : ∀ q, q < 28 → X2 (sf_rf 409 q) = X (sf_rf 409 q) := fun q hq => F2.1 _ (by simp [sf_rf_inj]; omega) (by simp [sf_rf_inj]; omega) (by simp [sf_rf_inj]; omega) (by simp [sf_rf_inj]; omega)
      rw [e7, er 2 (by decide), er 3 (by decide)]
      exact ⟨h0, h1, h2, h3, fun j hj => by rw [F2.2.1 _ (by omega)]; exact hT j hj⟩
    have step : sf_vf f (decide (k % 2 = 0)) (x + 1) = if (sf_vf f (decide (k % 2 = 0)) x).1 = -1 ∨ (if decide (k % 2 = 0) = true then (sf_vf f (decide (k % 2 = 0)) x).1 < f x else f x < (sf_vf f (decide (k % 2 = 0)) x).1) then (f x, (x : Int)) else sf_vf f (decide (k % 2 = 0)) x := rfl
    have bi : ((sf_vf f (decide (k % 2 = 0)) x).1 = -1 ∨ (if decide (k % 2 = 0) = true then (sf_vf f (decide (k % 2 = 0)) x).1 < f x else f x < (sf_vf f (decide (k % 2 = 0)) x).1)) ↔ sf_bet k (sf_vf f (decide (k % 2 = 0)) x).1 (f x) := by
      unfold sf_bet
      by_cases hev : k % 2 = 0
      · rw [if_pos (decide_eq_true hev)]
        simp [hev]
      · rw [if_neg (by simp [hev])]
        simp [hev]
    by_cases better : sf_bet k (sf_vf f (decide (k % 2 = 0)) x).1 (f x)
    · rw [if_pos (bi.2 better)] at step
      have F2 : sf_FD k X (sf_upd X' (sf_rf 409 34) k (f x)) := sf_FD_trans FXX ⟨fun y _ _ _ q => sf_upd_ne q, fun j _ => by rw [sf_upd_ne (by simp [sf_rf_inj])], fun j hj => ⟨by rw [sf_upd_ne (by simp [sf_rf_inj])], sf_upd_ne2 (by omega)⟩⟩
      obtain ⟨i0, i1, i2, i3, i4⟩ := fr _ F2
      obtain ⟨X'', F3, q1, q2, q3⟩ := ih (x + 1) (sf_upd X' (sf_rf 409 34) k (f x)) (if k = 0 then (x : Int) else fst) (by omega) (by omega) i0 i1 i2 i3 i4 (by rw [sf_upd_ne (by simp [sf_rf_inj]), p']; omega) (by rw [sf_upd_eq, step]) (fun k0 _ => by rw [if_pos k0, step])
      refine ⟨X'', sf_FD_trans F2 F3, q1, q2, fun l7 l8 l9 => ?_⟩
      obtain ⟨m7, m9, me⟩ := eq l8 l9
      obtain ⟨n7, n8, n9, ne⟩ := q3 (some (.inl m7)) (some (.inl (f x))) (some (.inl 1))
      refine ⟨n7, n8, n9, fun K => ?_⟩
      rw [mv, me, s144_yes (x := (x : Int)) (by omega) w' (by
        by_cases k0 : k = 0
        · left; rw [← k0]; exact p'
        · exact Or.inr k0) better, ne]
      by_cases k0 : k = 0
      · rw [if_pos k0, if_pos k0]
      · rw [if_neg k0, if_neg k0, if_neg k0]
    · rw [if_neg (fun z => better (bi.1 z))] at step
      obtain ⟨i0, i1, i2, i3, i4⟩ := fr _ FXX
      obtain ⟨X'', F3, q1, q2, q3⟩ := ih (x + 1) X' fst (by omega) (by omega) i0 i1 i2 i3 i4 (by rw [p']; omega) (by rw [w', step]) (fun k0 _ => by
        rw [step]
        by_cases x0 : x = 0
        · subst x0
          exact absurd (Or.inl rfl) better
        · exact hfst k0 (by omega))
      refine ⟨X'', sf_FD_trans FXX F3, q1, q2, fun l7 l8 l9 => ?_⟩
      obtain ⟨m7, m9, me⟩ := eq l8 l9
      obtain ⟨n7, n8, n9, ne⟩ := q3 (some (.inl m7)) (some (.inl (f x))) (some (.inl 0))
      exact ⟨n7, n8, n9, fun K => by rw [mv, me, s144_no (by omega) w' better, ne]⟩
theorem s144_node {g a b what : Int} {cold : Nat → Int} {N : Nat} (hn : 0 < n) (hn5 : n ≤ 5) (ha : 0 ≤ a ∧ a < n) (hb : 0 ≤ b ∧ b < n) (hN : N ≤ 4) (hg : 0 ≤ g ∧ g ≤ 20) (hc : ∀ p, p < 5 → 0 ≤ cold p ∧ cold p ≤ 9) : ∀ (r k : Nat) (X : sf_MV) (T : Nat → Int) (fst : Int), k + r + 1 = N → X 409 0 = (n : Int) → X 409 1 = g → X (sf_rf 409 2) = cold → (∀ e, e < 6 → 0 ≤ X (sf_rf 409 3) e ∧ X (sf_rf 409 3) e ≤ 9) → (∀ j, j < 20 → X (sf_rf 409 29) (20 * k + j) = T j) → sf_rk n k T → X (sf_rf 409 30) k = -1 → X (sf_rf 409 34) k = -1 →
    ∃ X', sf_FD k X X' ∧ X' (sf_rf 409 30) k = 6 ∧ X' (sf_rf 409 34) k = (sf_vf (fun x => sf_vl n g cold a b r (k + 1) (sf_goes n g cold T (sf_ntx n T (sf_who a b k) x))) (decide (k % 2 = 0)) 7).1 ∧
      ∀ l7 l8 l9, ∃ l7' l8' l9', ∀ K, sf_wp 19 none 144 79 [some (.inr (.inl (some 409))), some (.inl a), some (.inl b), some (.inl (N : Int)), some (.inl what), some (.inl (k : Int)), some (.inl fst), l7, l8, l9] [] (sf_E X) K =
        sf_wp 19 none 144 79 [some (.inr (.inl (some 409))), some (.inl a), some (.inl b), some (.inl (N : Int)), some (.inl what), some (.inl (k : Int)), some (.inl (if k = 0 then (sf_vf (fun x => sf_vl n g cold a b r (k + 1) (sf_goes n g cold T (sf_ntx n T (sf_who a b k) x))) (decide (k % 2 = 0)) 7).2 else fst)), l7', l8', l9'] [] (sf_E X') K := by
  have y30 := sf_c12_30 sf_y
  have y34 := sf_c12_34 sf_y
  have y28 := sf_c12_28 sf_y
  have vc : ∀ (r k x : Nat) (T C : Nat → Int) (v : Int), sf_rk n k T → C = sf_goes n g cold (sf_ru T 1 v) (sf_ntx n T (sf_who a b k) x) → sf_vl n g cold a b r (k + 1) C = sf_vl n g cold a b r (k + 1) (sf_goes n g cold T (sf_ntx n T (sf_who a b k) x)) := fun r k x T C v hr hC => by
    have hwho : 0 ≤ sf_who a b k ∧ sf_who a b k < n := by
      unfold sf_who
      split <;> assumption
    have nt := sf_ntx_in (x := x) hn hwho hr.d
    refine sf_vl_c (v := 0) hn hn5 ha hb (fun _ _ => rfl) r (k + 1) _ _ (sf_req_self hn5 (fun j _ _ => ?_)) ?_
    · rw [hC, sf_goes_ru1]
      by_cases q : j = 1
      · rw [q, sf_ru_eq, sf_ru_eq]
      · rw [sf_ru_ne q, sf_ru_ne q, sf_ru_ne q]
    · rw [hC, sf_goes_0]
      omega
  intro r
  induction r with
  | zero =>
    intro k X T fst hk h0 h1 h2 h3 hT hr hp hw
    refine s144_things (what := what) (N := N) (f := fun x => sf_vl n g cold a b 0 (k + 1) (sf_goes n g cold T (sf_ntx n T (sf_who a b k) x))) hn hn5 ha hb hg hc (by omega) hr (fun x => sf_vl_0 _ _ _) (fun x X1 v fst C hx hC rC i0 i1 i2 i3 => ?_) 7 0 X fst rfl (by omega) h0 h1 h2 h3 hT (by rw [hp]; rfl) hw (fun _ z => absurd z (by omega))
    refine ⟨sf_put X1 (sf_rf 409 28) 0 20 C, ⟨fun y q _ _ _ => sf_put_ne q, fun j _ => by rw [sf_put_ne (by simp [sf_rf_inj])], fun j _ => ⟨by rw [sf_put_ne (by simp [sf_rf_inj])], by rw [sf_put_ne (by simp [sf_rf_inj])]⟩⟩, by rw [sf_put_ne (by simp [sf_rf_inj])], by rw [sf_put_ne (by simp [sf_rf_inj])], fun l8 l9 => ⟨0, l9, fun K => ?_⟩⟩
    have hv := vc 0 k x T C v hr hC
    have e0 : sf_put X1 (sf_rf 409 28) 0 20 C (sf_rf 409 28) 0 = C 0 := sf_put_at (by decide)
    show _ = sf_wp 19 none 144 266 [_, _, _, _, _, _, _, _, some (.inl (sf_vl n g cold a b 0 (k + 1) (sf_goes n g cold T (sf_ntx n T (sf_who a b k) x)))), _] [] _ K
    rw [← hv]
    unfold sf_vl
    simp only [q144_164]
    rw [q144_166, if_pos rfl]
    simp only [q144_169, q144_171, q144_172, q144_173, q144_174]
    rw [sf_wS (by omega), if_pos (by omega)]
    simp only [q144_205]
    rw [q144_207, if_pos rfl]
    simp (decide := true) only [q144_220, q144_221, q144_224, q144_225, q144_226, q144_227, sf_y, y28, sf_y28, Int.reduceToNat, true_and, e0]
    have tail : ∀ z, sf_wp 19 none 144 249 [some (.inr (.inl (some 409))), some (.inl a), some (.inl b), some (.inl (N : Int)), some (.inl what), some (.inl (k : Int)), some (.inl fst), some (.inl 0), l8, l9] [.inl z] (sf_E (sf_put X1 (sf_rf 409 28) 0 20 C)) K = sf_wp 19 none 144 266 [some (.inr (.inl (some 409))), some (.inl a), some (.inl b), some (.inl (N : Int)), some (.inl what), some (.inl (k : Int)), some (.inl fst), some (.inl 0), some (.inl z), l9] [] (sf_E (sf_put X1 (sf_rf 409 28) 0 20 C)) K := fun z => by
      simp only [q144_249, q144_251, q144_253]
      rw [q144_255, if_pos rfl]
      simp only [q144_262, q144_263, q144_264]
      rw [sf_w_small (by omega), Int.sub_zero]
    by_cases q1 : C 0 = a
    · rw [if_pos q1, if_pos q1]
      simp only [q144_230, q144_231]
      exact tail 2
    · rw [if_neg q1, if_neg q1]
      simp (decide := true) only [q144_234, q144_235, q144_238, q144_239, q144_240, q144_241, sf_y, y28, sf_y28, Int.reduceToNat, true_and, e0]
      by_cases q2 : C 0 = b
      · rw [if_pos q2, if_pos q2]
        simp only [q144_244, q144_245]
        exact tail 0
      · rw [if_neg q2, if_neg q2]
        simp only [q144_248]
        exact tail 1
  | succ r ih =>
    intro k X T fst hk h0 h1 h2 h3 hT hr hp hw
    refine s144_things (what := what) (N := N) (f := fun x => sf_vl n g cold a b (r + 1) (k + 1) (sf_goes n g cold T (sf_ntx n T (sf_who a b k) x))) hn hn5 ha hb hg hc (by omega) hr (fun x => sf_vl_0 _ _ _) (fun x X1 v fst C hx hC rC i0 i1 i2 i3 => ?_) 7 0 X fst rfl (by omega) h0 h1 h2 h3 hT (by rw [hp]; rfl) hw (fun _ z => absurd z (by omega))
    have hv := vc (r + 1) k x T C v hr hC
    have b1 : k + 1 < 5 := by omega
    generalize hX4 : sf_put (sf_put X1 (sf_rf 409 28) 0 20 C) (sf_rf 409 29) (20 * (k + 1)) (20 * (k + 1) + 20) (fun j => sf_put X1 (sf_rf 409 28) 0 20 C (sf_rf 409 28) (j - 20 * (k + 1))) = X4
    generalize hX6 : sf_upd (sf_upd X4 (sf_rf 409 30) (k + 1) (-1)) (sf_rf 409 34) (k + 1) (-1) = X6
    have n6 : ∀ y, ¬ y = sf_rf 409 28 → ¬ y = sf_rf 409 29 → ¬ y = sf_rf 409 30 → ¬ y = sf_rf 409 34 → X6 y = X1 y := fun y q1 q2 q3 q4 => by
      rw [← hX6, sf_upd_ne q4, sf_upd_ne q3, ← hX4, sf_put_ne q2, sf_put_ne q1]
    have p6 : X6 (sf_rf 409 29) = X4 (sf_rf 409 29) := by rw [← hX6, sf_upd_ne (by simp [sf_rf_inj]), sf_upd_ne (by simp [sf_rf_inj])]
    have F6 : sf_FD k X1 X6 := ⟨n6, fun j hj => by
      rw [p6, ← hX4]
      unfold sf_put
      rw [if_neg (by omega), if_neg (by simp [sf_rf_inj])], fun j hj => ⟨by rw [← hX6, sf_upd_ne (by simp [sf_rf_inj]), sf_upd_ne2 (by omega), ← hX4, sf_put_ne (by simp [sf_rf_inj]), sf_put_ne (by simp [sf_rf_inj])], by rw [← hX6, sf_upd_ne2 (by omega), sf_upd_ne (by simp [sf_rf_inj]), ← hX4, sf_put_ne (by simp [sf_rf_inj]), sf_put_ne (by simp [sf_rf_inj])]⟩⟩
    have e7 : X6 409 = X1 409 := n6 _ (by simp [sf_Yne_rf]) (by simp [sf_Yne_rf]) (by simp [sf_Yne_rf]) (by simp [sf_Yne_rf])
    have er : ∀ q, q < 28 → X6 (sf_rf 409 q) = X1 (sf_rf 409 q) := fun q hq => n6 _ (by simp [sf_rf_inj]; omega) (by simp [sf_rf_inj]; omega) (by simp [sf_rf_inj]; omega) (by simp [sf_rf_inj]; omega)
    obtain ⟨X7, F7, p7, w7, eq⟩ := ih (k + 1) X6 C fst (by omega) (by rw [e7]; exact i0) (by rw [e7]; exact i1) (by rw [er 2 (by decide)]; exact i2) (by rw [er 3 (by decide)]; exact i3) (fun j hj => by
      rw [p6, ← hX4]
      unfold sf_put
      rw [if_pos ⟨rfl, by omega, by omega⟩]
      show (if _ then _ else _) = _
      rw [if_pos ⟨rfl, by omega, by omega⟩, Nat.add_sub_cancel_left]) rC (by rw [← hX6, sf_upd_ne (by simp [sf_rf_inj]), sf_upd_eq]) (by rw [← hX6, sf_upd_eq])
    have k6 : X6 (sf_rf 409 30) k = X1 (sf_rf 409 30) k ∧ X6 (sf_rf 409 34) k = X1 (sf_rf 409 34) k := ⟨by rw [← hX6, sf_upd_ne (by simp [sf_rf_inj]), sf_upd_ne2 (by omega), ← hX4, sf_put_ne (by simp [sf_rf_inj]), sf_put_ne (by simp [sf_rf_inj])], by rw [← hX6, sf_upd_ne2 (by omega), sf_upd_ne (by simp [sf_rf_inj]), ← hX4, sf_put_ne (by simp [sf_rf_inj]), sf_put_ne (by simp [sf_rf_inj])]⟩
    have k7 := F7.2.2 k (by omega)
    have F8 : sf_FD k X7 (sf_upd X7 (sf_rf 409 30) (k + 1) 7) := ⟨fun y _ _ q _ => sf_upd_ne q, fun j _ => by rw [sf_upd_ne (by simp [sf_rf_inj])], fun j hj => ⟨sf_upd_ne2 (by omega), by rw [sf_upd_ne (by simp [sf_rf_inj])]⟩⟩
    refine ⟨sf_upd X7 (sf_rf 409 30) (k + 1) 7, sf_FD_trans (sf_FD_trans F6 (sf_FD_le F7 (by omega))) F8, by rw [sf_upd_ne2 (by omega), k7.1, k6.1], by rw [sf_upd_ne (by simp [sf_rf_inj]), k7.2, k6.2], fun l8 l9 => ?_⟩
    obtain ⟨m7, m8, m9, me⟩ := eq (some (.inl 0)) l8 l9
    refine ⟨1, m9, fun K => ?_⟩
    have wv : X7 (sf_rf 409 34) (k + 1) = sf_vl n g cold a b (r + 1) (k + 1) (sf_goes n g cold T (sf_ntx n T (sf_who a b k) x)) := by
      rw [← hv, w7]
      rfl
    have y29 := sf_c12_29 sf_y
    simp only [q144_164]
    rw [q144_166, if_pos rfl]
    simp only [q144_169, q144_171, q144_172, q144_173, q144_174]
    rw [sf_wS (by omega), if_neg (by omega)]
    simp only [q144_177, q144_180, q144_181, q144_183, sf_y]
    rw [sf_wS (by omega), s137 b1, hX4]
    simp only [q144_186, q144_187, q144_190, q144_192, q144_193, q144_194, q144_195, q144_198, q144_200, q144_201, q144_202, sf_y, y30, y34, sf_y30, sf_y34, sf_bd, b1, true_and, Int.toNat_natCast, hX6, Option.toList_some, Option.toList_none, List.cons_append, List.nil_append]
    rw [q144_370, me, s144_over b1 p7 wv, if_neg (show ¬ k + 1 = 0 by omega), show ((k + 1 : Nat) : Int) - 1 = (k : Int) by omega]
end SFP48

/-! plans: the class searches -/
section SFP53
variable {n nx c ce cf cg : Nat}
theorem sf_dm {e p : Nat} (hn : 0 < n) (hp : p < n) : (1 + e * n + p - 1) / n = e ∧ (1 + e * n + p - 1) % n = p := by
  have e1 : 1 + e * n + p - 1 = n * e + p := by
    rw [Nat.mul_comm]
    omega
  rw [e1]
  exact ⟨by rw [Nat.mul_add_div hn, Nat.div_eq_of_lt hp, Nat.add_zero], by rw [Nat.mul_add_mod, Nat.mod_eq_of_lt hp]⟩
theorem s19 {L : Nat} {g lg want : Int} {cold cost : Nat → Int} (hn : 0 < n) (hn5 : n ≤ 5) (hg : 0 ≤ g ∧ g ≤ 20) (hc : ∀ p, p < 5 → 0 ≤ cold p ∧ cold p ≤ 9) (hs : ∀ e, e < 6 → 0 ≤ cost e ∧ cost e ≤ 9) (hL : L ≤ 3) : ∀ r k, k + r = L → sf_SR n L r k g lg want cold cost := by
  have x10 := sf_c11_10 sf_x
  have x1 := sf_c11_1 sf_x
  have p0 := sf_c5_0 x10
  have p1 := sf_c5_1 x10
  have p2 := sf_c5_2 x10
  have p3 := sf_c5_3 x10
  have hl2 := sf_c2_2 x1
  obtain ⟨m1, m2, m3, m4⟩ := sf_pxLen
  intro r
  induction r with
  | zero =>
    intro k hk V S t d pk B h hR hpk hb
    have ht := h.t
    generalize hV1 : sf_upd (sf_upd (sf_upd V (sf_rf 0 10) 7 1) (sf_rf 0 10) 8 t) (sf_rf 0 10) 9 d = V1
    have n1 : ∀ a, ¬ a = sf_rf 0 10 → V1 a = V a := fun a q => by rw [← hV1, sf_upd_ne q, sf_upd_ne q, sf_upd_ne q]
    have e1 : V1 (sf_rf (sf_rf (sf_rf 0 10) 1) 0) = V (sf_rf (sf_rf (sf_rf 0 10) 1) 0) := n1 _ (by simp [sf_rf_self2])
    refine ⟨sf_put V1 (sf_rf (sf_rf (sf_rf 0 10) 2) 0) 0 3 (V1 (sf_rf (sf_rf (sf_rf 0 10) 1) 0)), ⟨fun a a1 a2 a3 a4 a5 => by rw [sf_put_ne a3, n1 a a1], fun j j1 j2 j3 => by rw [sf_put_ne (by simp [sf_self2_rf]), ← hV1, sf_upd_ne2 j3, sf_upd_ne2 j2, sf_upd_ne2 j1], fun j _ => by rw [sf_put_ne (by simp [sf_rf_inj]), e1], fun j _ => by rw [sf_put_ne (by simp [sf_rf_inj]), n1 _ (by simp [sf_rf_self2])]⟩, Or.inr ⟨ht.1, ?_, ?_, ?_, fun j hj => ?_⟩, fun D K hD => ?_⟩
    · rw [sf_put_ne (by simp [sf_self2_rf]), ← hV1, sf_upd_ne2 (by decide), sf_upd_ne2 (by decide), sf_upd_eq]
    · rw [sf_put_ne (by simp [sf_self2_rf]), ← hV1, sf_upd_ne2 (by decide), sf_upd_eq]
      rfl
    · rw [sf_put_ne (by simp [sf_self2_rf]), ← hV1, sf_upd_eq]
      rfl
    · rw [sf_put_at (by omega), e1]
      exact hpk j (by omega)
    · obtain ⟨e, rfl⟩ : ∃ e, D = e + 1 := ⟨D - 1, by omega⟩
      have s34' := fun K => s34 (d := e) (r := sf_rf (sf_rf 0 10) 2) (o := sf_rf (sf_rf 0 10) 1) (V := V1) (K := K) p2 p1 (by rw [m2, m3]) (by simp [sf_rf_inj])
      rw [m3] at s34'
      simp only [q19_0, q19_1, q19_2, q19_5, x10, h.l]
      rw [if_neg (by omega)]
      simp (decide := true) only [q19_8, q19_9, q19_10, q19_13, q19_14, q19_15, q19_18, q19_19, q19_21, q19_24, q19_25, q19_28, q19_29, x10, hV1, or_true, true_and]
      simp only [q19_32, p1, p2, s34', q19_35, Option.toList_some, Option.toList_none, List.cons_append, List.nil_append]
  | succ r ih =>
    intro k hk V S t d pk B h hR hpk hb
    have ht := h.t
    have hd := h.d
    have hSd := h.o.d
    have ck := sf_pxCls (show k < 4 by omega)
    have ee : ∀ t, sf_rf (sf_rf (sf_rf (sf_rf 0 10) 0) 0) t = sf_px t := fun _ => rfl
    generalize hF : (fun (x : Nat) (q : (Nat → Int) × (Int × Int × (Nat → Nat))) => if t + sf_pcs n cost x ≤ lg ∧ sf_b3 (t + sf_pcs n cost x) (d + sf_pdc x) q.2 ∧ sf_pcs n cost x < q.1 (sf_pfx n S x) then (sf_upi q.1 (sf_pfx n S x) (sf_pcs n cost x), if sf_pal n want r (sf_pch n g cold S x) = true then sf_c3 (6 * n + 1) lg (sf_pcs n cost) sf_pdc (sf_pfx n) (sf_pch n g cold) (sf_pal n want) r (k + 1) (sf_pch n g cold S x) (t + sf_pcs n cost x) (d + sf_pdc x) (sf_upn pk k x) q.2 else q.2) else q) = F
    have hgoal : sf_c3 (6 * n + 1) lg (sf_pcs n cost) sf_pdc (sf_pfx n) (sf_pch n g cold) (sf_pal n want) (r + 1) k S t d pk B = (sf_fld F (6 * n + 1) ((fun _ => 10 : Nat → Int), B)).2 := by
      rw [← hF]
      rfl
    rw [hgoal]
    -- one child
    have cs9 : ∀ x, 0 ≤ sf_pcs n cost x ∧ sf_pcs n cost x ≤ 9 := fun x => by
      unfold sf_pcs
      split
      · decide
      · split
        · exact hs _ (by omega)
        · decide
    have dc1 : ∀ x, 0 ≤ sf_pdc x ∧ sf_pdc x ≤ 1 := fun x => by
      unfold sf_pdc
      split <;> decide
    have fxn : ∀ x, sf_pfx n S x < n := fun x => by
      unfold sf_pfx
      by_cases q : x = 0
      · rw [if_pos q]
        omega
      · rw [if_neg q]
        have hm : (x - 1) % n < n := Nat.mod_lt _ hn
        obtain ⟨t, ht, ht5⟩ := sf_likes_in (n := n) (S := S) (k := S ((x - 1) / n + 14)) (p := (((x - 1) % n : Nat) : Int)) hn (by omega) (by omega)
        rw [ht]
        omega
    have child : ∀ (m : Nat) (Vm : sf_MV), sf_FP k V Vm → sf_RP L n Vm (sf_fld F m ((fun _ => 10 : Nat → Int), B)).2 → (∀ u, u < n → Vm (sf_rf (sf_rf (sf_rf 0 10) 3) 0) (5 * k + u) = (sf_fld F m ((fun _ => 10 : Nat → Int), B)).1 u) →
        ∃ V', sf_FP k V V' ∧ sf_RP L n V' (sf_fld F (m + 1) ((fun _ => 10 : Nat → Int), B)).2 ∧ (∀ u, u < n → V' (sf_rf (sf_rf (sf_rf 0 10) 3) 0) (5 * k + u) = (sf_fld F (m + 1) ((fun _ => 10 : Nat → Int), B)).1 u) ∧
          ∀ D K, 2 * r + 7 ≤ D → sf_wp D none 20 0 [some (.inr (.inl (some (sf_rf 0 10)))), some (.inr (.inl (some (sf_rf 0 1)))), some (.inl (k : Int)), some (.inl ((sf_pfx n S m : Nat) : Int)), some (.inl (sf_pcs n cost m)), some (.inl t), some (.inl (d + sf_pdc m)), none, none, none] [] (sf_E (sf_upd Vm (sf_rf (sf_rf (sf_rf 0 10) 1) 0) k (sf_pco n m))) K = K none (sf_E V') := fun m Vm f1 f2 f3 => by
      have eF : sf_fld F (m + 1) ((fun _ => 10 : Nat → Int), B) = F m (sf_fld F m ((fun _ => 10 : Nat → Int), B)) := rfl
      rw [eF]
      generalize sf_fld F m ((fun _ => 10 : Nat → Int), B) = q at f2 f3 ⊢
      have fm : F m q = if t + sf_pcs n cost m ≤ lg ∧ sf_b3 (t + sf_pcs n cost m) (d + sf_pdc m) q.2 ∧ sf_pcs n cost m < q.1 (sf_pfx n S m) then (sf_upi q.1 (sf_pfx n S m) (sf_pcs n cost m), if sf_pal n want r (sf_pch n g cold S m) = true then sf_c3 (6 * n + 1) lg (sf_pcs n cost) sf_pdc (sf_pfx n) (sf_pch n g cold) (sf_pal n want) r (k + 1) (sf_pch n g cold S m) (t + sf_pcs n cost m) (d + sf_pdc m) (sf_upn pk k m) q.2 else q.2) else q := by rw [← hF]
      have nC : ∀ a, ¬ a = sf_rf (sf_rf (sf_rf 0 10) 1) 0 → sf_upd Vm (sf_rf (sf_rf (sf_rf 0 10) 1) 0) k (sf_pco n m) a = Vm a := fun a q => sf_upd_ne q
      have FC : sf_FP k Vm (sf_upd Vm (sf_rf (sf_rf (sf_rf 0 10) 1) 0) k (sf_pco n m)) := ⟨fun a _ q _ _ _ => nC a q, fun j _ _ _ => by rw [nC _ (by simp [sf_self2_rf])], fun j hj => sf_upd_ne2 (by omega), fun j _ => by rw [nC _ (by simp [sf_rf_inj])]⟩
      have RC : sf_RP L n (sf_upd Vm (sf_rf (sf_rf (sf_rf 0 10) 1) 0) k (sf_pco n m)) q.2 := by
        unfold sf_RP
        rw [nC (sf_rf 0 10) (by simp [sf_self2_rf]), nC (sf_rf (sf_rf (sf_rf 0 10) 2) 0) (by simp [sf_rf_inj])]
        exact f2
      obtain ⟨V', z1, z2, z3, z4⟩ := s20 (V := sf_upd Vm (sf_rf (sf_rf (sf_rf 0 10) 1) 0) k (sf_pco n m)) (x := m) (pk := pk) (B := q.2) (l := q.1) hn hn5 hg hc (by omega) hL (ih (k + 1) (by omega)) (sf_PH_FP (sf_PH_FP h f1) FC) RC (fun j hj => by
        unfold sf_upn
        by_cases jk : j = k
        · rw [if_pos jk, jk, sf_upd_eq]
        · rw [if_neg jk, sf_upd_ne2 jk, f1.2.2.1 j (by omega)]
          exact hpk j (by omega)) (fun u hu => by rw [nC _ (by simp [sf_rf_inj])]; exact f3 u hu) rfl (fxn m) rfl (cs9 m) rfl (dc1 m)
      refine ⟨V', sf_FP_trans (sf_FP_trans f1 FC) z1, ?_, fun u hu => ?_, z4⟩
      · rw [fm]
        by_cases run : t + sf_pcs n cost m ≤ lg ∧ sf_b3 (t + sf_pcs n cost m) (d + sf_pdc m) q.2 ∧ sf_pcs n cost m < q.1 (sf_pfx n S m)
        · rw [if_pos run] at z2 ⊢
          exact z2
        · rw [if_neg run] at z2 ⊢
          exact z2
      · rw [z3 u hu, fm]
        by_cases run : t + sf_pcs n cost m ≤ lg ∧ sf_b3 (t + sf_pcs n cost m) (d + sf_pdc m) q.2 ∧ sf_pcs n cost m < q.1 (sf_pfx n S m)
        · rw [if_pos run, if_pos run]
        · rw [if_neg run, if_neg run]
    -- the stove's row at this depth
    have rowS : ∀ Vm, sf_FP k V Vm → ∀ j, j < 20 → j ≠ 3 → sf_getS (sf_upd Vm (sf_rf (sf_rf (sf_rf 0 10) 1) 0) k (sf_pco n 0)) (sf_px k) j = S j := fun Vm f1 j j1 j2 => by
      have e1 : sf_getS (sf_upd Vm (sf_rf (sf_rf (sf_rf 0 10) 1) 0) k (sf_pco n 0)) (sf_px k) = sf_getS Vm (sf_px k) := by
        refine sf_getS_congr ?_ ?_ ?_ ?_ <;> exact sf_upd_ne (by simp [sf_px, sf_rf_inj, sf_rf_ne0, sf_rf_self, sf_self_rf, sf_rf_self2, sf_self2_rf])
      rw [e1, sf_FP_row f1 (Nat.le_refl k)]
      exact h.r j j1 j2
    have rowU : ∀ Vm y, sf_FP k V Vm → ∀ j, j < 20 → j ≠ 3 → sf_getS (sf_upd Vm (sf_rf (sf_rf (sf_rf 0 10) 1) 0) k y) (sf_px k) j = S j := fun Vm y f1 j j1 j2 => by
      have e1 : sf_getS (sf_upd Vm (sf_rf (sf_rf (sf_rf 0 10) 1) 0) k y) (sf_px k) = sf_getS Vm (sf_px k) := by
        refine sf_getS_congr ?_ ?_ ?_ ?_ <;> exact sf_upd_ne (by simp [sf_px, sf_rf_inj, sf_rf_ne0, sf_rf_self, sf_self_rf, sf_rf_self2, sf_self2_rf])
      rw [e1, sf_FP_row f1 (Nat.le_refl k)]
      exact h.r j j1 j2
    have homeU : ∀ Vm y, sf_FP k V Vm → sf_upd Vm (sf_rf (sf_rf (sf_rf 0 10) 1) 0) k y (sf_rf 0 1) = V (sf_rf 0 1) ∧ sf_upd Vm (sf_rf (sf_rf (sf_rf 0 10) 1) 0) k y (sf_rf (sf_rf (sf_rf 0 1) 2) 0) = V (sf_rf (sf_rf (sf_rf 0 1) 2) 0) := fun Vm y f1 => by
      obtain ⟨q1, q2⟩ := sf_FP_home f1
      exact ⟨by rw [sf_upd_ne (by simp [sf_rf_inj, sf_0ne_rf]), q1], by rw [sf_upd_ne (by simp [sf_rf_inj]), q2]⟩
    have inner : ∀ (m p : Nat) (Vp : sf_MV) (e : Nat), n - p = m → p ≤ n → e < 6 → sf_FP k V Vp → sf_RP L n Vp (sf_fld F (1 + e * n + p) ((fun _ => 10 : Nat → Int), B)).2 → (∀ u, u < n → Vp (sf_rf (sf_rf (sf_rf 0 10) 3) 0) (5 * k + u) = (sf_fld F (1 + e * n + p) ((fun _ => 10 : Nat → Int), B)).1 u) →
        ∃ V', sf_FP k V V' ∧ sf_RP L n V' (sf_fld F (1 + e * n + n) ((fun _ => 10 : Nat → Int), B)).2 ∧ (∀ u, u < n → V' (sf_rf (sf_rf (sf_rf 0 10) 3) 0) (5 * k + u) = (sf_fld F (1 + e * n + n) ((fun _ => 10 : Nat → Int), B)).1 u) ∧
          ∀ D K, 2 * r + 8 ≤ D → sf_wp D none 19 117 [some (.inr (.inl (some (sf_rf 0 10)))), some (.inr (.inl (some (sf_rf 0 1)))), some (.inl (k : Int)), some (.inl t), some (.inl d), some (.inr (.inl (some (sf_px k)))), some (.inl (e : Int)), some (.inl (p : Int))] [] (sf_E Vp) K = sf_wp D none 19 181 [some (.inr (.inl (some (sf_rf 0 10)))), some (.inr (.inl (some (sf_rf 0 1)))), some (.inl (k : Int)), some (.inl t), some (.inl d), some (.inr (.inl (some (sf_px k)))), some (.inl (e : Int)), some (.inl (n : Int))] [] (sf_E V') K := by
      intro m
      induction m with
      | zero =>
        intro p Vp e hm hp he f1 f2 f3
        have pn : p = n := by omega
        subst pn
        refine ⟨Vp, f1, f2, f3, fun D K hD => ?_⟩
        obtain ⟨q1, _⟩ := sf_FP_home f1
        have n4 : Vp (sf_rf 0 1) 4 = (p : Int) := by rw [q1]; exact h.pn
        simp only [q19_117, q19_119, q19_120, q19_123, x1, n4]
        rw [if_pos (by omega)]
      | succ m ihm =>
        intro p Vp e hm hp he f1 f2 f3
        have hpn : p < n := by omega
        obtain ⟨dm1, dm2⟩ := sf_dm (e := e) hn hpn
        have x0 : ¬ 1 + e * n + p = 0 := by omega
        have co : sf_pco n (1 + e * n + p) = ((10 * e + p : Nat) : Int) := by
          unfold sf_pco
          rw [if_neg x0, dm1, dm2]
        have cs : sf_pcs n cost (1 + e * n + p) = cost e := by
          unfold sf_pcs
          rw [if_neg x0, dm1, if_pos he]
        have dcx : sf_pdc (1 + e * n + p) = 1 := if_neg x0
        have fx : ((sf_pfx n S (1 + e * n + p) : Nat) : Int) = sf_likes n S (S (e + 14)) (p : Int) := by
          unfold sf_pfx
          rw [if_neg x0, dm1, dm2]
          obtain ⟨t, ht, _⟩ := sf_likes_in (n := n) (S := S) (k := S (e + 14)) (p := (p : Int)) hn (by omega) (by omega)
          rw [ht]
          omega
        obtain ⟨V1, z1, z2, z3, z4⟩ := child (1 + e * n + p) Vp f1 f2 f3
        obtain ⟨V', y1, y2, y3, y4⟩ := ihm (p + 1) V1 e (by omega) (by omega) he z1 z2 z3
        refine ⟨V', y1, y2, y3, fun D K hD => ?_⟩
        obtain ⟨q1, _⟩ := sf_FP_home f1
        have n4 : Vp (sf_rf 0 1) 4 = (n : Int) := by rw [q1]; exact h.pn
        obtain ⟨u1, u2⟩ := homeU Vp ((10 * e + p : Nat) : Int) f1
        have rU := rowU Vp ((10 * e + p : Nat) : Int) f1
        have lik : sf_likes n (sf_getS (sf_upd Vp (sf_rf (sf_rf (sf_rf 0 10) 1) 0) k ((10 * e + p : Nat) : Int)) (sf_px k)) (sf_getS (sf_upd Vp (sf_rf (sf_rf (sf_rf 0 10) 1) 0) k ((10 * e + p : Nat) : Int)) (sf_px k) (e + 14)) (p : Int) = sf_likes n S (S (e + 14)) (p : Int) := by
          rw [rU (e + 14) (by omega) (by omega)]
          exact sf_likes_c (sf_req_self hn5 rU)
        have u4 : sf_upd Vp (sf_rf (sf_rf (sf_rf 0 10) 1) 0) k ((10 * e + p : Nat) : Int) (sf_rf 0 1) 4 = (n : Int) := by rw [u1]; exact h.pn
        have rc : sf_rd (sf_upd Vp (sf_rf (sf_rf (sf_rf 0 10) 1) 0) k ((10 * e + p : Nat) : Int)) (sf_rf (sf_rf (sf_rf 0 1) 2) 0) (e : Int) = cost e := by
          rw [sf_rd_nat (by have := sf_homeLen x1; omega), u2]
          exact h.e e he
        have wr1 : sf_wr Vp (sf_rf (sf_rf (sf_rf 0 10) 1) 0) (k : Int) ((10 * e + p : Nat) : Int) = sf_upd Vp (sf_rf (sf_rf (sf_rf 0 10) 1) 0) k ((10 * e + p : Nat) : Int) := sf_wr_nat (by omega)
        have w1 : sf_w (sf_w (10 * (e : Int)) + (p : Int)) = ((10 * e + p : Nat) : Int) := by
          rw [sf_w_small (n := 10 * (e : Int)) (by omega), sf_w_small (by omega)]
          omega
        rw [co, cs, dcx, fx] at z4
        obtain ⟨D', rfl⟩ : ∃ D', D = D' + 3 := ⟨D - 3, by omega⟩
        have r0 := rU 0 (by decide) (by decide)
        simp only [q19_117, q19_119, q19_120, q19_123, x1, n4]
        rw [if_neg (by omega)]
        simp only [q19_126, q19_127, q19_130, q19_131, q19_133, q19_135, q19_136, q19_138, x10, p1, w1]
        simp only [q19_139, p1, s32, wr1, Option.toList_some, Option.toList_none, List.cons_append, List.nil_append]
        simp only [q19_142, q19_143, q19_144, q19_145, q19_147, q19_149, q19_151, q19_152, x1, u4]
        simp only [q19_155, ck]
        rw [s40g (d := D') ck he hn5 (by omega) (by rw [r0]; omega), lik]
        simp only [q19_158, q19_159, q19_162, x1, Option.toList_some, Option.toList_none, List.cons_append, List.nil_append]
        simp only [q19_164, hl2, s31, rc, Option.toList_some, Option.toList_none, List.cons_append, List.nil_append]
        simp only [q19_167, q19_168, q19_170, q19_171]
        rw [sf_w_small (by omega)]
        simp only [q19_172, x10]
        rw [z4 (D' + 2) _ (by omega)]
        simp only [q19_175, Option.toList_some, Option.toList_none, List.cons_append, List.nil_append]
        rw [q19_178, sf_wS (by omega)]
        exact y4 (D' + 3) K hD
    have outer : ∀ (m e : Nat) (Ve : sf_MV), 6 - e = m → e ≤ 6 → sf_FP k V Ve → sf_RP L n Ve (sf_fld F (1 + e * n) ((fun _ => 10 : Nat → Int), B)).2 → (∀ u, u < n → Ve (sf_rf (sf_rf (sf_rf 0 10) 3) 0) (5 * k + u) = (sf_fld F (1 + e * n) ((fun _ => 10 : Nat → Int), B)).1 u) →
        ∃ V', sf_FP k V V' ∧ sf_RP L n V' (sf_fld F (6 * n + 1) ((fun _ => 10 : Nat → Int), B)).2 ∧
          ∀ D K l7, 2 * r + 8 ≤ D → sf_wp D none 19 107 [some (.inr (.inl (some (sf_rf 0 10)))), some (.inr (.inl (some (sf_rf 0 1)))), some (.inl (k : Int)), some (.inl t), some (.inl d), some (.inr (.inl (some (sf_px k)))), some (.inl (e : Int)), l7] [] (sf_E Ve) K = K none (sf_E V') := by
      intro m
      induction m with
      | zero =>
        intro e Ve hm he f1 f2 f3
        have e6 : e = 6 := by omega
        subst e6
        rw [show 1 + 6 * n = 6 * n + 1 by omega] at f2
        refine ⟨Ve, f1, f2, fun D K l7 hD => ?_⟩
        simp only [q19_107, q19_109, q19_111]
        rw [if_pos (by decide), q19_187]
      | succ m ihm =>
        intro e Ve hm he f1 f2 f3
        obtain ⟨V1, z1, z2, z3, z4⟩ := inner n 0 Ve e (by omega) (by omega) (by omega) f1 f2 f3
        have en : 1 + e * n + n = 1 + (e + 1) * n := by
          rw [Nat.succ_mul]
          omega
        rw [en] at z2 z3
        obtain ⟨V', y1, y2, y3⟩ := ihm (e + 1) V1 (by omega) (by omega) z1 z2 z3
        refine ⟨V', y1, y2, fun D K l7 hD => ?_⟩
        simp only [q19_107, q19_109, q19_111, q19_114, q19_115]
        rw [if_neg (by omega)]
        refine Eq.trans (z4 D K hD) ?_
        simp only [q19_181]
        rw [q19_184, sf_wS (by omega)]
        exact y3 D K _ hD
    -- the table anew
    have reset : ∀ (m p : Nat) (V0 : sf_MV), n - p = m → p ≤ n → V0 (sf_rf 0 1) 4 = (n : Int) → ∀ D K, sf_wp (D + 1) none 19 39 [some (.inr (.inl (some (sf_rf 0 10)))), some (.inr (.inl (some (sf_rf 0 1)))), some (.inl (k : Int)), some (.inl t), some (.inl d), some (.inl (p : Int)), none, none] [] (sf_E V0) K = sf_wp (D + 1) none 19 69 [some (.inr (.inl (some (sf_rf 0 10)))), some (.inr (.inl (some (sf_rf 0 1)))), some (.inl (k : Int)), some (.inl t), some (.inl d), some (.inl (n : Int)), none, none] [] (sf_E (sf_put V0 (sf_rf (sf_rf (sf_rf 0 10) 3) 0) (5 * k + p) (5 * k + n) (fun _ => 10))) K := by
      intro m
      induction m with
      | zero =>
        intro p V0 hm hp h4 D K
        simp only [q19_39, q19_41, q19_42, q19_45, x1, h4]
        rw [if_pos (by omega), sf_put_nil (by omega), show (p : Int) = n by omega]
      | succ m ihm =>
        intro p V0 hm hp h4 D K
        have w1 : sf_w (sf_w ((k : Int) * 5) + (p : Int)) = ((5 * k + p : Nat) : Int) := by
          rw [sf_w_small (n := (k : Int) * 5) (by omega), sf_w_small (by omega)]
          omega
        have wr1 : sf_wr V0 (sf_rf (sf_rf (sf_rf 0 10) 3) 0) ((5 * k + p : Nat) : Int) 10 = sf_upd V0 (sf_rf (sf_rf (sf_rf 0 10) 3) 0) (5 * k + p) 10 := sf_wr_nat (by omega)
        simp only [q19_39, q19_41, q19_42, q19_45, x1, h4]
        rw [if_neg (by omega)]
        simp only [q19_48, q19_49, q19_52, q19_53, q19_54, q19_55, q19_57, q19_58, x10, w1]
        simp only [q19_60, p3, s32, wr1, q19_63, Option.toList_some, Option.toList_none, List.cons_append, List.nil_append]
        rw [q19_66, sf_wS (by omega), ihm (p + 1) _ (by omega) (by omega) (by rw [sf_upd_ne (by simp [sf_rf_inj, sf_0ne_rf])]; exact h4)]
        have e := sf_put_step (V := V0) (a := sf_rf (sf_rf (sf_rf 0 10) 3) 0) (k := 5 * k + p) (n := 5 * k + n) (f := fun _ => 10) (by omega)
        rw [show 5 * k + (p + 1) = 5 * k + p + 1 by omega, e]
    generalize hV0 : sf_put V (sf_rf (sf_rf (sf_rf 0 10) 3) 0) (5 * k) (5 * k + n) (fun _ => 10) = V0
    have nV0 : ∀ a, ¬ a = sf_rf (sf_rf (sf_rf 0 10) 3) 0 → V0 a = V a := fun a q => by rw [← hV0, sf_put_ne q]
    have F0 : sf_FP k V V0 := ⟨fun a _ _ _ q _ => nV0 a q, fun j _ _ _ => by rw [nV0 _ (by simp [sf_self2_rf])], fun j _ => by rw [nV0 _ (by simp [sf_rf_inj])], fun j hj => by
      rw [← hV0]
      unfold sf_put
      rw [if_neg (by omega)]⟩
    have R0 : sf_RP L n V0 B := by
      unfold sf_RP
      rw [nV0 (sf_rf 0 10) (by simp [sf_self2_rf]), nV0 (sf_rf (sf_rf (sf_rf 0 10) 2) 0) (by simp [sf_rf_inj])]
      exact hR
    obtain ⟨V1, z1, z2, z3, z4⟩ := child 0 V0 F0 R0 (fun u hu => by
      rw [← hV0]
      unfold sf_put
      rw [if_pos ⟨rfl, by omega, by omega⟩]
      rfl)
    obtain ⟨V', y1, y2, y3⟩ := outer 6 0 V1 rfl (by omega) z1 (by rw [show 1 + 0 * n = 0 + 1 by omega]; exact z2) (by rw [show 1 + 0 * n = 0 + 1 by omega]; exact z3)
    refine ⟨V', y1, y2, fun D K hD => ?_⟩
    obtain ⟨D', rfl⟩ : ∃ D', D = D' + 1 := ⟨D - 1, by omega⟩
    have z0 : sf_pcs n cost 0 = 0 := rfl
    have d0 : sf_pdc 0 = 0 := rfl
    have c0 : sf_pco n 0 = 99 := rfl
    have f0 : ((sf_pfx n S 0 : Nat) : Int) = S 0 := by
      unfold sf_pfx
      rw [if_pos rfl]
      omega
    rw [z0, d0, c0, f0, Int.add_zero] at z4
    have wr1 : sf_wr V0 (sf_rf (sf_rf (sf_rf 0 10) 1) 0) (k : Int) 99 = sf_upd V0 (sf_rf (sf_rf (sf_rf 0 10) 1) 0) k 99 := sf_wr_nat (by omega)
    have g3 : sf_upd V0 (sf_rf (sf_rf (sf_rf 0 10) 1) 0) k 99 (sf_px k) 3 = S 0 := by
      have := rowU V0 99 F0 0 (by decide) (by decide)
      rw [sf_getS_d] at this
      exact this
    simp only [q19_0, q19_1, q19_2, q19_5, x10, h.l]
    rw [if_pos (by omega)]
    simp only [q19_36, q19_37]
    refine Eq.trans (reset n 0 V (by omega) (by omega) h.pn D' K) ?_
    rw [show 5 * k + 0 = 5 * k from rfl, hV0]
    simp only [q19_69, q19_70, q19_73, x10]
    simp only [q19_74, p0]
    rw [s36 p0 (by omega), ee]
    simp only [q19_77, q19_79, q19_80, q19_83, q19_84, x10, Option.toList_some, Option.toList_none, List.cons_append, List.nil_append]
    simp only [q19_86, p1, s32, wr1, Option.toList_some, Option.toList_none, List.cons_append, List.nil_append]
    simp only [q19_89, q19_90, q19_91, q19_92, q19_94, q19_97, q19_98, q19_99, ck, g3]
    simp only [q19_101, x10]
    rw [z4 D' _ (by omega)]
    simp only [q19_104, q19_105, Option.toList_some, Option.toList_none, List.cons_append, List.nil_append]
    exact y3 (D' + 1) K none hD
end SFP53

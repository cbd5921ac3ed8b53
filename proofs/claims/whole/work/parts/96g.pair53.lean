/-! plans: the class searches -/
section SFP53
variable {n nx c ce cf cg : Nat}
/-- of the five, how many have a thing ahead of y -/
def sf_cb (n : Nat) (C : Nat → Int) (T : Nat → Nat) (y u : Nat) : Nat := if u < n ∧ C u ≤ 9 ∧ T u < y then 1 else 0
def sf_cnt5 (n : Nat) (C : Nat → Int) (T : Nat → Nat) (y : Nat) : Nat := sf_cb n C T y 0 + sf_cb n C T y 1 + sf_cb n C T y 2 + sf_cb n C T y 3 + sf_cb n C T y 4
theorem sf_cb_le {C : Nat → Int} {T : Nat → Nat} (y u : Nat) : sf_cb n C T y u ≤ 1 := by
  unfold sf_cb
  split <;> omega
theorem sf_cb_mono {C : Nat → Int} {T : Nat → Nat} {y z : Nat} (h : y ≤ z) (u : Nat) : sf_cb n C T y u ≤ sf_cb n C T z u := by
  unfold sf_cb
  by_cases q : u < n ∧ C u ≤ 9 ∧ T u < y
  · rw [if_pos q, if_pos ⟨q.1, q.2.1, by omega⟩]
    exact Nat.le_refl _
  · rw [if_neg q]
    exact Nat.zero_le _
theorem sf_cnt5_lt {C : Nat → Int} {T : Nat → Nat} {y v : Nat} (hv : v < 5) (h : y ≤ T v) : sf_cnt5 n C T y ≤ 4 := by
  have e : sf_cb n C T y v = 0 := if_neg (fun z => by omega)
  have b0 := sf_cb_le (n := n) (C := C) (T := T) y 0
  have b1 := sf_cb_le (n := n) (C := C) (T := T) y 1
  have b2 := sf_cb_le (n := n) (C := C) (T := T) y 2
  have b3 := sf_cb_le (n := n) (C := C) (T := T) y 3
  have b4 := sf_cb_le (n := n) (C := C) (T := T) y 4
  unfold sf_cnt5
  have hv' : v = 0 ∨ v = 1 ∨ v = 2 ∨ v = 3 ∨ v = 4 := by omega
  rcases hv' with rfl | rfl | rfl | rfl | rfl <;> omega
theorem sf_cnt5_S {C : Nat → Int} {T : Nat → Nat} {y v : Nat} (hn5 : n ≤ 5) (hv : v < n) (hc : C v ≤ 9) (h : y ≤ T v) : sf_cnt5 n C T y + 1 ≤ sf_cnt5 n C T (T v + 1) := by
  have e : sf_cb n C T y v = 0 := if_neg (fun z => by omega)
  have e1 : sf_cb n C T (T v + 1) v = 1 := if_pos ⟨hv, hc, by omega⟩
  have b := fun u => sf_cb_mono (n := n) (C := C) (T := T) (show y ≤ T v + 1 by omega) u
  have b0 := b 0
  have b1 := b 1
  have b2 := b 2
  have b3 := b 3
  have b4 := b 4
  unfold sf_cnt5
  have hv' : v = 0 ∨ v = 1 ∨ v = 2 ∨ v = 3 ∨ v = 4 := by omega
  rcases hv' with h0 | h0 | h0 | h0 | h0 <;> rw [h0] at e e1 <;> rw [h0] <;> rw [h0] at b0 b1 b2 b3 b4 <;> omega
/-- the next by the things' own order -/
def sf_nx2 (n : Nat) (C : Nat → Int) (T : Nat → Nat) (x0 : Nat) (made : Int) : Prop := (made = -1 ∧ ∀ q, q < n → C q ≤ 9 → T q < x0) ∨ ∃ v : Nat, made = (v : Int) ∧ v < n ∧ C v ≤ 9 ∧ x0 ≤ T v ∧ ∀ q, q < n → C q ≤ 9 → x0 ≤ T q → T v ≤ T q
theorem sf_nxt_nx2 {C t : Nat → Int} {T : Nat → Nat} {thing made : Int} {x0 : Nat} (hn : 0 < n) (hn5 : n ≤ 5) (ht : ∀ u, u < n → C u ≤ 9 → t u = sf_pth n (T u)) (hx : ∀ y, thing < sf_pth n y ↔ x0 ≤ y) (h : sf_nxt n C t thing made) : sf_nx2 n C T x0 made := by
  rcases h with ⟨e, h⟩ | ⟨v, e, hv, h1, h2, h3⟩
  · refine Or.inl ⟨e, fun q hq hc => ?_⟩
    have a := h q hq hc
    rw [ht q hq hc] at a
    by_cases z : x0 ≤ T q
    · have := (hx (T q)).2 z
      omega
    · omega
  · refine Or.inr ⟨v, e, hv, h1, (hx (T v)).1 (by rw [← ht v hv h1]; exact h2), fun q hq hc z => ?_⟩
    have a := h3 q hq hc (by rw [ht q hq hc]; exact (hx (T q)).2 z)
    rw [ht v hv h1, ht q hq hc] at a
    exact sf_pth_inj hn hn5 a
theorem sf_fld_no {β : Type} {F : Nat → β → β} {b : β} {x0 : Nat} : ∀ m, (∀ y, x0 ≤ y → y < x0 + m → ∀ b, F y b = b) → sf_fld F (x0 + m) b = sf_fld F x0 b
  | 0, _ => rfl
  | m + 1, h => by
    have e : sf_fld F (x0 + (m + 1)) b = F (x0 + m) (sf_fld F (x0 + m) b) := rfl
    rw [e, h (x0 + m) (by omega) (by omega), sf_fld_no m (fun y y1 y2 => h y y1 (by omega))]
theorem s19 {L : Nat} {g lg want : Int} {cold cost : Nat → Int} (hn : 0 < n) (hn5 : n ≤ 5) (hg : 0 ≤ g ∧ g ≤ 20) (hc : ∀ p, p < 5 → 0 ≤ cold p ∧ cold p ≤ 9) (hs : ∀ e, e < 6 → 0 ≤ cost e ∧ cost e ≤ 9) (hL : L ≤ 3) : ∀ r k, k + r = L → sf_SR n L r k g lg want cold cost := by
  have x10 := sf_c11_10 sf_x
  have x1 := sf_c11_1 sf_x
  have p0 := sf_c5_0 x10
  have p1 := sf_c5_1 x10
  have p2 := sf_c5_2 x10
  have p3 := sf_c5_3 x10
  have p4 := sf_c5_4 x10
  obtain ⟨m1, m2, m3, m4, m5⟩ := sf_pxLen
  intro r
  induction r with
  | zero =>
    intro k hk V S t d pk B h hR hpk hb
    have ht := h.t
    generalize hV1 : sf_upd (sf_upd (sf_upd V (sf_rf 0 10) 8 1) (sf_rf 0 10) 9 t) (sf_rf 0 10) 10 d = V1
    have n1 : ∀ a, ¬ a = (sf_rf 0 10) → V1 a = V a := fun a q => by rw [← hV1, sf_upd_ne q, sf_upd_ne q, sf_upd_ne q]
    refine ⟨sf_put V1 (sf_rf (sf_rf (sf_rf 0 10) 2) 0) 0 3 (V (sf_rf (sf_rf (sf_rf 0 10) 1) 0)), ⟨fun a a1 a2 a3 a4 a5 a6 => by rw [sf_put_ne a3, n1 a a1], fun j j1 j2 j3 => by rw [sf_put_ne (by simp [sf_self2_rf]), ← hV1, sf_upd_ne2 j3, sf_upd_ne2 j2, sf_upd_ne2 j1], fun j _ => by rw [sf_put_ne (by simp [sf_rf_inj]), n1 _ (by simp [sf_rf_self2])], fun j _ => ⟨by rw [sf_put_ne (by simp [sf_rf_inj]), n1 _ (by simp [sf_rf_self2])], by rw [sf_put_ne (by simp [sf_rf_inj]), n1 _ (by simp [sf_rf_self2])]⟩⟩, Or.inr ⟨ht.1, ?_, ?_, ?_, fun j hj => ?_⟩, fun D K hD => ?_⟩
    · rw [sf_put_ne (by simp [sf_self2_rf]), ← hV1, sf_upd_ne2 (by decide), sf_upd_ne2 (by decide), sf_upd_eq]
    · rw [sf_put_ne (by simp [sf_self2_rf]), ← hV1, sf_upd_ne2 (by decide), sf_upd_eq]
      rfl
    · rw [sf_put_ne (by simp [sf_self2_rf]), ← hV1, sf_upd_eq]
      rfl
    · rw [sf_put_at (by omega)]
      exact hpk j (by omega)
    · obtain ⟨e, rfl⟩ : ∃ e, D = e + 2 := ⟨D - 2, by omega⟩
      simp only [q19_0, q19_1, q19_2, x10, h.l]
      rw [q19_5, if_neg (by omega)]
      simp only [q19_8, q19_9, q19_10]
      simp only [q19_12, x10]
      rw [s166 (d := e), hV1]
      simp only [q19_15, Option.toList_some, Option.toList_none, List.cons_append, List.nil_append]
  | succ r ih =>
    intro k hk V S t d pk B h hR hpk hb
    have ht := h.t
    have hd := h.d
    have hSd := h.o.d
    have cs9 : ∀ x, 0 ≤ sf_pcs n cost x ∧ sf_pcs n cost x ≤ 9 := fun x => by
      unfold sf_pcs
      split
      · decide
      · split
        · exact hs _ (by omega)
        · decide
    have dc1 : ∀ x, 0 ≤ sf_pdc x ∧ sf_pdc x ≤ 1 := fun x => by
      unfold sf_pdc
      split <;> decide
    have fxn : ∀ x, sf_pfx n S x < n := fun x => by
      unfold sf_pfx
      by_cases q : x = 0
      · rw [if_pos q]
        omega
      · rw [if_neg q]
        have hm : (x - 1) % n < n := Nat.mod_lt _ hn
        obtain ⟨t, ht, ht5⟩ := sf_likes_in (n := n) (S := S) (k := S ((x - 1) / n + 14)) (p := (((x - 1) % n : Nat) : Int)) hn (by omega) (by omega)
        rw [ht]
        omega
    generalize hF : (fun (x : Nat) (B : Int × Int × (Nat → Nat)) => if sf_pww n cost S x = true then (if t + sf_pcs n cost x ≤ lg ∧ sf_b3 (t + sf_pcs n cost x) (d + sf_pdc x) B ∧ sf_pal n want r (sf_pch n g cold S x) = true then sf_c4 (6 * n + 1) lg (sf_pcs n cost) sf_pdc (sf_pww n cost) (sf_pch n g cold) (sf_pal n want) r (k + 1) (sf_pch n g cold S x) (t + sf_pcs n cost x) (d + sf_pdc x) (sf_upn pk k x) B else B) else B) = F
    have hgoal : sf_c4 (6 * n + 1) lg (sf_pcs n cost) sf_pdc (sf_pww n cost) (sf_pch n g cold) (sf_pal n want) (r + 1) k S t d pk B = sf_fld F (6 * n + 1) B := by
      rw [← hF]
      rfl
    rw [hgoal]
    obtain ⟨Vg, g1, g2, g3⟩ := s167 (V := V) (cost := cost) (S := S) hn hn5 (show k < 3 by omega) (by omega) h.r h.pn h.e fxn
    have gi := sf_gt_in (cst := sf_pcs n cost) (f := sf_pfx n S) cs9 (6 * n + 1)
    have wnT : ∀ x, sf_pww n cost S x = true ↔ ((sf_gt (sf_pcs n cost) (sf_pfx n S) (6 * n + 1)).1 (sf_pfx n S x) ≤ 9 ∧ (sf_gt (sf_pcs n cost) (sf_pfx n S) (6 * n + 1)).2 (sf_pfx n S x) = x) := fun x => ⟨fun z => of_decide_eq_true z, fun z => decide_eq_true z⟩
    generalize sf_gt (sf_pcs n cost) (sf_pfx n S) (6 * n + 1) = CT at g2 gi wnT
    obtain ⟨C, T⟩ := CT
    dsimp only at gi wnT
    have F0 := sf_FGT_FP g1
    have R0 : sf_RP L n Vg B := by
      unfold sf_RP
      rw [g1.1 (sf_rf 0 10) (by simp [sf_self2_rf]) (by simp [sf_self2_rf]), g1.1 (sf_rf (sf_rf (sf_rf 0 10) 2) 0) (by simp [sf_rf_inj]) (by simp [sf_rf_inj])]
      exact hR
    have tT : ∀ u, u < n → C u ≤ 9 → Vg (sf_rf (sf_rf (sf_rf 0 10) 3) 0) (5 * k + u) = sf_pth n (T u) := fun u hu z => (g2 u hu).2 z
    have tC : ∀ u, u < n → Vg (sf_rf (sf_rf (sf_rf 0 10) 4) 0) (5 * k + u) = C u := fun u hu => (g2 u hu).1
    have loop : ∀ (m kk : Nat) (made : Int) (x0 : Nat) (Vm : sf_MV), 5 - kk = m → kk ≤ 5 → x0 ≤ 6 * n + 1 → sf_FP k V Vm → (∀ j, j < 5 * (k + 1) → Vm (sf_rf (sf_rf (sf_rf 0 10) 3) 0) j = Vg (sf_rf (sf_rf (sf_rf 0 10) 3) 0) j ∧ Vm (sf_rf (sf_rf (sf_rf 0 10) 4) 0) j = Vg (sf_rf (sf_rf (sf_rf 0 10) 4) 0) j) → sf_RP L n Vm (sf_fld F x0 B) → sf_nx2 n C T x0 made → kk ≤ sf_cnt5 n C T x0 →
        ∃ V', sf_FP k V V' ∧ sf_RP L n V' (sf_fld F (6 * n + 1) B) ∧ ∀ D K l7 l8, 2 * r + 8 ≤ D → sf_wp D none 19 38 [some (.inr (.inl (some (sf_rf 0 10)))), some (.inr (.inl (some (sf_rf 0 1)))), some (.inl (k : Int)), some (.inl t), some (.inl d), some (.inl made), some (.inl (kk : Int)), l7, l8] [] (sf_E Vm) K = K none (sf_E V') := by
      intro m
      induction m with
      | zero =>
        intro kk made x0 Vm hm hk5 hx f1 f2 f3 f4 f5
        rcases f4 with ⟨e, f4⟩ | ⟨v, e, hv, f6, f7, f8⟩
        · have eF : sf_fld F (6 * n + 1) B = sf_fld F x0 B := by
            have z := sf_fld_no (F := F) (b := B) (x0 := x0) (6 * n + 1 - x0) (fun y y1 y2 b => by
              rw [← hF]
              exact if_neg (fun w => by
                have w1 := (wnT y).1 w
                have w2 := f4 _ (fxn y) w1.1
                omega))
            rw [show x0 + (6 * n + 1 - x0) = 6 * n + 1 by omega] at z
            exact z
          refine ⟨Vm, f1, by rw [eF]; exact f3, fun D K l7 l8 hD => ?_⟩
          simp only [q19_38, q19_40]
          rw [q19_41, if_pos (by omega), q19_147]
        · have := sf_cnt5_lt (n := n) (C := C) (T := T) (y := x0) (v := v) (by omega) f7
          omega
      | succ m ihm =>
        intro kk made x0 Vm hm hk5 hx f1 f2 f3 f4 f5
        rcases f4 with ⟨e, f4⟩ | ⟨v, e, hv, f6, f7, f8⟩
        · have eF : sf_fld F (6 * n + 1) B = sf_fld F x0 B := by
            have z := sf_fld_no (F := F) (b := B) (x0 := x0) (6 * n + 1 - x0) (fun y y1 y2 b => by
              rw [← hF]
              exact if_neg (fun w => by
                have w1 := (wnT y).1 w
                have w2 := f4 _ (fxn y) w1.1
                omega))
            rw [show x0 + (6 * n + 1 - x0) = 6 * n + 1 by omega] at z
            exact z
          refine ⟨Vm, f1, by rw [eF]; exact f3, fun D K l7 l8 hD => ?_⟩
          simp only [q19_38, q19_40]
          rw [q19_41, if_neg (by omega)]
          simp only [q19_44, q19_46]
          rw [q19_47, if_pos e, q19_147]
        · subst e
          have gv : T v < 6 * n + 1 ∧ sf_pfx n S (T v) = v ∧ C v = sf_pcs n cost (T v) := by
            rcases gi v with ⟨i1, _⟩ | ⟨i1, i2, i3, _⟩
            · omega
            · exact ⟨i1, i2, i3⟩
          obtain ⟨gx, gf, gc⟩ := gv
          have ct1 := sf_cnt5_S hn5 hv f6 f7
          have tTv := tT v hv f6
          have tCv := tC v hv
          have wx : sf_pww n cost S (T v) = true := (wnT (T v)).2 (by rw [gf]; exact ⟨f6, rfl⟩)
          generalize hxv : T v = x at gx gf gc ct1 tTv wx f7
          have eF0 : sf_fld F x B = sf_fld F x0 B := by
            have z := sf_fld_no (F := F) (b := B) (x0 := x0) (x - x0) (fun y y1 y2 b => by
              rw [← hF]
              exact if_neg (fun w => by
                have w1 := (wnT y).1 w
                have w2 := f8 _ (fxn y) w1.1 (by omega)
                omega))
            rw [show x0 + (x - x0) = x by omega] at z
            exact z
          have eF1 : sf_fld F (x + 1) B = F x (sf_fld F x0 B) := by
            have e : sf_fld F (x + 1) B = F x (sf_fld F x B) := rfl
            rw [e, eF0]
          have eFx : F x (sf_fld F x0 B) = if t + sf_pcs n cost x ≤ lg ∧ sf_b3 (t + sf_pcs n cost x) (d + sf_pdc x) (sf_fld F x0 B) ∧ sf_pal n want r (sf_pch n g cold S x) = true then sf_c4 (6 * n + 1) lg (sf_pcs n cost) sf_pdc (sf_pww n cost) (sf_pch n g cold) (sf_pal n want) r (k + 1) (sf_pch n g cold S x) (t + sf_pcs n cost x) (d + sf_pdc x) (sf_upn pk k x) (sf_fld F x0 B) else sf_fld F x0 B := by
            generalize sf_fld F x0 B = b
            rw [← hF]
            exact if_pos wx
          have c9 := cs9 x
          have d1 := dc1 x
          have nC : ∀ a, ¬ a = (sf_rf (sf_rf (sf_rf 0 10) 1) 0) → sf_upd Vm (sf_rf (sf_rf (sf_rf 0 10) 1) 0) k (sf_pco n x) a = Vm a := fun a q => sf_upd_ne q
          have nP := nC (sf_rf 0 10) (by simp [sf_self2_rf])
          have nT := nC (sf_rf (sf_rf (sf_rf 0 10) 3) 0) (by simp [sf_rf_inj])
          have nK := nC (sf_rf (sf_rf (sf_rf 0 10) 4) 0) (by simp [sf_rf_inj])
          have FC : sf_FP k Vm (sf_upd Vm (sf_rf (sf_rf (sf_rf 0 10) 1) 0) k (sf_pco n x)) := ⟨fun a _ q _ _ _ _ => nC a q, fun j _ _ _ => by rw [nP], fun j hj => sf_upd_ne2 (by omega), fun j _ => ⟨by rw [nT], by rw [nK]⟩⟩
          have RC : sf_RP L n (sf_upd Vm (sf_rf (sf_rf (sf_rf 0 10) 1) 0) k (sf_pco n x)) (sf_fld F x0 B) := by
            unfold sf_RP
            rw [nP, nC (sf_rf (sf_rf (sf_rf 0 10) 2) 0) (by simp [sf_rf_inj])]
            exact f3
          obtain ⟨V1, z1, z2, z3, z4⟩ := s20 (V := sf_upd Vm (sf_rf (sf_rf (sf_rf 0 10) 1) 0) k (sf_pco n x)) (x := x) (pk := pk) (B := sf_fld F x0 B) (cx := sf_pcs n cost x) (dx := sf_pdc x) hn hn5 hg hc (by omega) hL (ih (k + 1) (by omega)) (sf_PH_FP (sf_PH_FP h f1) FC) RC (fun j hj => by
            unfold sf_upn
            by_cases jk : j = k
            · rw [if_pos jk, jk, sf_upd_eq]
            · rw [if_neg jk, sf_upd_ne2 jk, f1.2.2.1 j (by omega)]
              exact hpk j (by omega)) gf hv c9 d1
          rw [← eFx, ← eF1] at z3
          have f1' := sf_FP_trans (sf_FP_trans f1 FC) z1
          have f2' : ∀ j, j < 5 * (k + 1) → V1 (sf_rf (sf_rf (sf_rf 0 10) 3) 0) j = Vg (sf_rf (sf_rf (sf_rf 0 10) 3) 0) j ∧ V1 (sf_rf (sf_rf (sf_rf 0 10) 4) 0) j = Vg (sf_rf (sf_rf (sf_rf 0 10) 4) 0) j := fun j hj => ⟨by rw [(z2 j hj).1, nT, (f2 j hj).1], by rw [(z2 j hj).2, nK, (f2 j hj).2]⟩
          obtain ⟨made', w1, w2⟩ := s169 (V := V1) (n := n) (k := k) (thing := sf_pth n x) (c := C) (t := fun u => Vg (sf_rf (sf_rf (sf_rf 0 10) 3) 0) (5 * k + u)) (by omega) hn5 (fun q hq => by rw [(f2' _ (by omega)).2]; exact tC q hq) (fun q hq => (f2' _ (by omega)).1)
          have w3 : sf_nx2 n C T (x + 1) made' := sf_nxt_nx2 hn hn5 tT (fun y => ⟨fun q => by
            by_cases z : y ≤ x
            · rcases Nat.lt_or_ge y x with z' | z'
              · have := sf_pth_lt hn hn5 z'
                omega
              · have : y = x := by omega
                rw [this] at q
                omega
            · omega, fun q => sf_pth_lt hn hn5 (by omega)⟩) w1
          obtain ⟨V', y1, y2, y3⟩ := ihm (kk + 1) made' (x + 1) V1 (by omega) (by omega) (by omega) f1' f2' z3 w3 (by omega)
          refine ⟨V', y1, y2, fun D K l7 l8 hD => ?_⟩
          obtain ⟨D', rfl⟩ : ∃ D', D = D' + 1 := ⟨D - 1, by omega⟩
          have widx : sf_w (sf_w ((k : Int) * 5) + (v : Int)) = ((5 * k + v : Nat) : Int) := by
            rw [sf_w_small (n := (k : Int) * 5) (by omega), sf_w_small (by omega)]
            omega
          have rdT : sf_rd Vm (sf_rf (sf_rf (sf_rf 0 10) 3) 0) ((5 * k + v : Nat) : Int) = sf_pth n x := by
            rw [sf_rd_nat (by omega), (f2 _ (by omega)).1]
            exact tTv
          have rdC : sf_rd Vm (sf_rf (sf_rf (sf_rf 0 10) 4) 0) ((5 * k + v : Nat) : Int) = sf_pcs n cost x := by
            rw [sf_rd_nat (by omega), (f2 _ (by omega)).2, tCv]
            exact gc
          have wr1 : ∀ y, sf_wr Vm (sf_rf (sf_rf (sf_rf 0 10) 1) 0) (k : Int) y = sf_upd Vm (sf_rf (sf_rf (sf_rf 0 10) 1) 0) k y := fun y => sf_wr_nat (by omega)
          have n4 : V1 (sf_rf 0 1) 4 = (n : Int) := by rw [(sf_FP_home f1').1]; exact h.pn
          have to101 : ∀ Q, sf_wp (D' + 1) none 19 80 [some (.inr (.inl (some (sf_rf 0 10)))), some (.inr (.inl (some (sf_rf 0 1)))), some (.inl (k : Int)), some (.inl t), some (.inl d), some (.inl (v : Int)), some (.inl (kk : Int)), some (.inl (sf_pth n x)), some (.inl (sf_pcs n cost x))] [] (sf_E Vm) Q = sf_wp (D' + 1) none 19 101 [some (.inr (.inl (some (sf_rf 0 10)))), some (.inr (.inl (some (sf_rf 0 1)))), some (.inl (k : Int)), some (.inl t), some (.inl d), some (.inl (v : Int)), some (.inl (kk : Int)), some (.inl (sf_pth n x)), some (.inl (sf_pcs n cost x))] [] (sf_E (sf_upd Vm (sf_rf (sf_rf (sf_rf 0 10) 1) 0) k (sf_pco n x))) Q := fun Q => by
            simp only [q19_80, q19_81, q19_84, q19_85, q19_87, x10]
            rw [q19_88]
            by_cases q : x = 0
            · have e99 : sf_pco n x = 99 := if_pos q
              rw [if_pos (sf_pth_m1.2 q), e99]
              simp only [q19_91, q19_93]
              simp only [q19_98, p1, s32, wr1, Option.toList_some, Option.toList_none, List.cons_append, List.nil_append]
            · rw [if_neg (fun z => q (sf_pth_m1.1 z)), sf_pth_co q]
              simp only [q19_96]
              simp only [q19_98, p1, s32, wr1, Option.toList_some, Option.toList_none, List.cons_append, List.nil_append]
          have to125 : ∀ (y : Int) (M : sf_M) Q, sf_wp (D' + 1) none 19 110 [some (.inr (.inl (some (sf_rf 0 10)))), some (.inr (.inl (some (sf_rf 0 1)))), some (.inl (k : Int)), some (.inl t), some (.inl d), some (.inl (v : Int)), some (.inl (kk : Int)), some (.inl (sf_pth n x)), some (.inl (sf_pcs n cost x))] [.inl y, .inl (v : Int), .inl (k : Int), .inr (.inl (some (sf_rf 0 1))), .inr (.inl (some (sf_rf 0 10)))] M Q = sf_wp (D' + 1) none 19 125 [some (.inr (.inl (some (sf_rf 0 10)))), some (.inr (.inl (some (sf_rf 0 1)))), some (.inl (k : Int)), some (.inl t), some (.inl d), some (.inl (v : Int)), some (.inl (kk : Int)), some (.inl (sf_pth n x)), some (.inl (sf_pcs n cost x))] [.inl (d + sf_pdc x), .inl y, .inl (v : Int), .inl (k : Int), .inr (.inl (some (sf_rf 0 1))), .inr (.inl (some (sf_rf 0 10)))] M Q := fun y M Q => by
            simp only [q19_110, q19_112]
            rw [q19_113]
            by_cases q : x = 0
            · have e0 : sf_pdc x = 0 := if_pos q
              rw [if_pos (sf_pth_m1.2 q), e0, Int.add_zero]
              simp only [q19_116, q19_118]
            · have e1 : sf_pdc x = 1 := if_neg q
              rw [if_neg (fun z => q (sf_pth_m1.1 z)), e1]
              simp only [q19_121, q19_123, q19_124]
              rw [sf_w_small (by omega)]
          have wt : sf_w (t + sf_pcs n cost x) = t + sf_pcs n cost x := sf_w_small (by omega)
          simp only [q19_38, q19_40]
          rw [q19_41, if_neg (by omega)]
          simp only [q19_44, q19_46]
          rw [q19_47, if_neg (by omega)]
          simp only [q19_50, q19_51, q19_54, q19_55, q19_56, q19_57, q19_59, x10, widx]
          simp only [q19_60, p3, s31, rdT, Option.toList_some, Option.toList_none, List.cons_append, List.nil_append]
          simp only [q19_63, q19_65, q19_66, q19_69, q19_70, q19_71, q19_72, q19_74, x10, widx]
          simp only [q19_75, p4, s31, rdC, Option.toList_some, Option.toList_none, List.cons_append, List.nil_append]
          simp only [q19_78]
          rw [to101]
          simp only [q19_101, q19_102, q19_103, q19_104, q19_106, q19_107, q19_109]
          rw [wt, to125]
          simp only [q19_125, x10]
          rw [z4 D' _ (by omega)]
          simp only [q19_128, q19_129, q19_130, q19_132, q19_133, x1, n4, Option.toList_some, Option.toList_none, List.cons_append, List.nil_append]
          simp only [q19_136, x10]
          obtain ⟨D'', rfl⟩ : ∃ D'', D' = D'' + 1 := ⟨D' - 1, by omega⟩
          rw [w2 D'']
          simp only [q19_139, q19_141, Option.toList_some, Option.toList_none, List.cons_append, List.nil_append]
          rw [q19_144, sf_wS (by omega)]
          exact y3 _ K _ _ hD
    obtain ⟨made, w1, w2⟩ := s169 (V := Vg) (n := n) (k := k) (thing := -2) (c := C) (t := fun u => Vg (sf_rf (sf_rf (sf_rf 0 10) 3) 0) (5 * k + u)) (by omega) hn5 tC (fun q hq => rfl)
    have w3 : sf_nx2 n C T 0 made := sf_nxt_nx2 hn hn5 tT (fun y => ⟨fun _ => by omega, fun _ => by
      unfold sf_pth
      split <;> omega⟩) w1
    obtain ⟨V', y1, y2, y3⟩ := loop 5 0 made 0 Vg rfl (by omega) (by omega) F0 (fun _ _ => ⟨rfl, rfl⟩) R0 w3 (by omega)
    refine ⟨V', y1, y2, fun D K hD => ?_⟩
    obtain ⟨D', rfl⟩ : ∃ D', D = D' + 5 := ⟨D - 5, by omega⟩
    have n4 : Vg (sf_rf 0 1) 4 = (n : Int) := by rw [(sf_FP_home F0).1]; exact h.pn
    simp only [q19_0, q19_1, q19_2, x10, h.l]
    rw [q19_5, if_pos (by omega)]
    simp only [q19_16, q19_17, q19_18]
    simp only [q19_19, x10]
    rw [g3]
    simp only [q19_22, q19_23, q19_24, q19_26, q19_27, x1, n4, Option.toList_some, Option.toList_none, List.cons_append, List.nil_append]
    simp only [q19_30, x10]
    rw [w2 (D' + 3)]
    simp only [q19_33, q19_35, q19_36, Option.toList_some, Option.toList_none, List.cons_append, List.nil_append]
    exact y3 _ K none none (by omega)
end SFP53

/-! a clause: persons -/
theorem sf_drLen : sf_len (sf_rf (sf_rf (sf_rf (sf_rf 0 0) 1) 0) 0) = 5 ∧ sf_len (sf_rf (sf_rf (sf_rf (sf_rf 0 0) 1) 1) 0) = 5 ∧ sf_len (sf_rf (sf_rf (sf_rf (sf_rf 0 0) 1) 2) 0) = 6 ∧ sf_len (sf_rf (sf_rf (sf_rf (sf_rf 0 0) 1) 3) 0) = 6 := by decide +kernel
section SFP30
variable {V X U : sf_MV} {n nx c ce cf cg a k m : Nat} {v : Int} {f : Nat → Int} {t : Nat → Int} {L : Nat}
/-- the class's text object alone has changed, and only what a letter changes -/
def sf_FT (V V' : sf_MV) : Prop := (∀ a, ¬ a = sf_rf 0 0 → V' a = V a) ∧ ∀ k, ¬ k = 3 → ¬ k = 4 → ¬ k = 5 → V' (sf_rf 0 0) k = V (sf_rf 0 0) k
theorem sf_TX_FT {V' : sf_MV} (h : sf_TX V t L) (g : sf_FT V V') : sf_TX V' t L := by
  obtain ⟨h1, h2, h3⟩ := h
  refine ⟨by rw [g.2 2 (by decide) (by decide) (by decide)]; exact h1, h2, fun j hj => ?_⟩
  rw [g.1 _ (by simp [sf_rf_inj, sf_rf_ne0])]
  exact h3 j hj
theorem sf_FT_trans {V1 V2 V3 : sf_MV} (h : sf_FT V1 V2) (g : sf_FT V2 V3) : sf_FT V1 V3 :=
  ⟨fun a q => by rw [g.1 a q, h.1 a q], fun k q1 q2 q3 => by rw [g.2 k q1 q2 q3, h.2 k q1 q2 q3]⟩
theorem sf_FT_5 : sf_FT V (sf_upd V (sf_rf 0 0) 5 v) := ⟨fun a q => sf_upd_ne q, fun k _ _ q => sf_upd_ne2 q⟩
theorem sf_FT_bl {q : Int} {w : Nat} : sf_FT V (sf_bl V q w) := ⟨fun a q => sf_bl_ne q, fun k q1 q2 _ => sf_bl_ne2 q1 q2⟩
theorem sf_CN {i j k : Nat} {v lo hi : Int} (h : sf_TX V t L) (hi5 : V (sf_rf 0 0) 5 = (i : Int)) (hL : i ≤ L) (hj : sf_sk t (L - i) i = j) (hk : sf_de t (L - j) j = k) (hv : sf_vc t j (L - j) j 0 = v) :
    ∃ V', sf_FT V V' ∧ V' (sf_rf 0 0) 5 = (k : Int) ∧ V' (sf_rf 0 0) 4 = (if V (sf_rf 0 0) 4 = 0 then sf_nb lo hi j k v else V (sf_rf 0 0) 4) ∧ V' (sf_rf 0 0) 3 = (if V (sf_rf 0 0) 4 = 0 ∧ ¬ sf_nb lo hi j k v = 0 then (j : Int) else V (sf_rf 0 0) 3) ∧
      ∀ d K, sf_wp (d + 2) none 54 0 [some (.inr (.inl (some (sf_rf 0 0)))), some (.inl lo), some (.inl hi), none, none] [] (sf_E V) K = K (some (.inl v)) (sf_E V') := by
  refine ⟨sf_bl (sf_upd V (sf_rf 0 0) 5 (k : Int)) (sf_nb lo hi j k v) j, sf_FT_trans sf_FT_5 sf_FT_bl, ?_, ?_, ?_, fun d K => s54 h hi5 hL hj hk hv⟩
  · rw [sf_bl_ne2 (by decide) (by decide), sf_upd_eq]
  · rw [sf_bl_4, sf_upd_ne2 (by decide)]
  · rw [sf_bl_3, sf_upd_ne2 (by decide), sf_upd_ne2 (by decide)]
theorem sf_CE {i j : Nat} (h : sf_TX V t L) (hi5 : V (sf_rf 0 0) 5 = (i : Int)) (hL : i ≤ L) (hj : sf_sk t (L - i) i = j) :
    ∃ V', sf_FT V V' ∧ V' (sf_rf 0 0) 5 = (sf_ek t L j : Nat) ∧ V' (sf_rf 0 0) 4 = (if V (sf_rf 0 0) 4 = 0 then sf_eb t L j else V (sf_rf 0 0) 4) ∧ V' (sf_rf 0 0) 3 = (if V (sf_rf 0 0) 4 = 0 ∧ ¬ sf_eb t L j = 0 then (j : Int) else V (sf_rf 0 0) 3) ∧
      ∀ d K, sf_wp (d + 2) none 55 0 [some (.inr (.inl (some (sf_rf 0 0))))] [] (sf_E V) K = K none (sf_E V') := by
  refine ⟨sf_bl (sf_upd V (sf_rf 0 0) 5 (sf_ek t L j : Nat)) (sf_eb t L j) j, sf_FT_trans sf_FT_5 sf_FT_bl, ?_, ?_, ?_, fun d K => s55 h hi5 hL hj⟩
  · rw [sf_bl_ne2 (by decide) (by decide), sf_upd_eq]
  · rw [sf_bl_4, sf_upd_ne2 (by decide)]
  · rw [sf_bl_3, sf_upd_ne2 (by decide), sf_upd_ne2 (by decide)]
/-- the reference's row -/
theorem s109 {i j k r x : Nat} {v lo hi : Int} (h : sf_TY U t L) (hr : sf_cls (sf_rf 409 r) = 100) (hx : x < sf_len (sf_rf 409 r)) (hi4 : U 409 24 = (i : Int)) (hL : i ≤ L) (hcl : U 409 27 = 0 ∨ (i < L → ¬ (48 ≤ t i ∧ t i ≤ 57))) (hj : sf_sk t (L - i) i = j) (hk : sf_de t (L - j) j = k) (hv : sf_vc t j (L - j) j 0 = v) (hlo : 0 ≤ lo) (hhi : hi ≤ 999) :
    ∃ U', (∀ b, ¬ b = 409 → ¬ b = sf_rf 409 r → U' b = U b) ∧ (∀ k, k < 24 → U' 409 k = U 409 k) ∧ ((sf_nb lo hi j k v = 0 ∧ U' 409 24 = (k : Int) ∧ U' 409 27 = 1 ∧ U' (sf_rf 409 r) = sf_ru (U (sf_rf 409 r)) x v) ∨ (¬ sf_nb lo hi j k v = 0 ∧ U' 409 24 = (j : Int) ∧ U' 409 25 = sf_nb lo hi j k v ∧ U' (sf_rf 409 r) = U (sf_rf 409 r))) ∧
      ∀ d Y K, sf_wp (d + 3) none 109 0 [some (.inr (.inl (some 409))), some (.inr (.inl (some (sf_rf 409 r)))), some (.inl (x : Int)), some (.inl lo), some (.inl hi), none] [] (sf_E (sf_mix Y U)) K = K (some (.inl (if sf_nb lo hi j k v = 0 then 1 else 0))) (sf_E (sf_mix Y U')) := by
  obtain ⟨U1, ⟨f1, f2⟩, hU⟩ := s108 h hi4 hL hcl hj hk hv hlo hhi
  have e1 : U1 (sf_rf 409 r) = U (sf_rf 409 r) := f1.1 _ (by simp [sf_rf_neY])
  rcases f2 with ⟨q, g1, g2, g3⟩ | ⟨q, g1, g2⟩
  · refine ⟨sf_upd U1 (sf_rf 409 r) x v, fun b b1 b2 => by rw [sf_upd_ne b2, f1.1 b b1], fun k hk => by rw [sf_upd_ne (by simp [sf_Yne_rf]), f1.2 k hk], Or.inl ⟨q, by rw [sf_upd_ne (by simp [sf_Yne_rf])]; exact g1, by rw [sf_upd_ne (by simp [sf_Yne_rf])]; exact g3, by rw [sf_upd_ru, e1]⟩, fun d Y K => ?_⟩
    rw [if_pos q]
    have hU1 := hU (d + 0) Y
    rw [if_pos q] at hU1
    simp only [q109_0, q109_1, q109_2, q109_4, sf_y, hU1, Option.toList_some, Option.toList_none, List.cons_append, List.nil_append]
    simp only [q109_7, q109_9, q109_10, q109_11]
    rw [q109_13, if_neg (by decide)]
    simp (decide := true) only [q109_16, q109_17, q109_20, q109_26, q109_27, q109_29, sf_y, hr, sf_mxy, sf_mxv, g2, sf_bd, hx, Int.toNat_natCast, or_true, true_and]
  · refine ⟨U1, fun b b1 b2 => f1.1 b b1, f1.2, Or.inr ⟨q, g1, g2, e1⟩, fun d Y K => ?_⟩
    rw [if_neg q]
    have hU1 := hU (d + 0) Y
    rw [if_neg q] at hU1
    simp only [q109_0, q109_1, q109_2, q109_4, sf_y, hU1, Option.toList_some, Option.toList_none, List.cons_append, List.nil_append]
    simp only [q109_7, q109_9, q109_10, q109_11]
    rw [q109_13, if_pos rfl]
    have eself : sf_upd U1 (sf_rf 409 r) x (U1 (sf_rf 409 r) x) = U1 := sf_upd_self rfl
    simp (decide := true) only [q109_23, q109_24, q109_25, q109_26, q109_27, q109_29, sf_y, hr, sf_mxr, sf_mxv, sf_bd, hx, eself, Int.toNat_natCast, true_or, true_and]
/-- while both read -/
def sf_J (V U : sf_MV) (t : Nat → Int) (L i n : Nat) (told st : Int) : Prop := (sf_TX V t L) ∧ (V (sf_rf 0 0) 4 = 0) ∧ (V (sf_rf 0 0) 3 = -1) ∧ (V (sf_rf 0 0) 5 = (i : Int)) ∧ (V (sf_rf 0 0) 6 = told) ∧ (V (sf_rf 0 0) 7 = st) ∧ (V (sf_rf (sf_rf 0 0) 1) 4 = (n : Int)) ∧ (sf_TY U t L) ∧ (U 409 24 = (i : Int)) ∧ (U 409 17 = told) ∧ (U 409 18 = st) ∧ (U 409 16 = (n : Int)) ∧ (n ≤ 5) ∧ (i ≤ L) ∧ (∀ p, p < n → V (sf_rf (sf_rf (sf_rf (sf_rf 0 0) 1) 0) 0) p = U (sf_rf 409 19) p ∧ V (sf_rf (sf_rf (sf_rf (sf_rf 0 0) 1) 1) 0) p = U (sf_rf 409 20) p) ∧ (∀ p, p < 5 → (0 ≤ V (sf_rf (sf_rf (sf_rf (sf_rf 0 0) 1) 0) 0) p ∧ V (sf_rf (sf_rf (sf_rf (sf_rf 0 0) 1) 0) 0) p ≤ 99) ∧ (0 ≤ V (sf_rf (sf_rf (sf_rf (sf_rf 0 0) 1) 1) 0) p ∧ V (sf_rf (sf_rf (sf_rf (sf_rf 0 0) 1) 1) 0) p ≤ 9)) ∧ (∀ p, p < 5 → (0 ≤ U (sf_rf 409 19) p ∧ U (sf_rf 409 19) p ≤ 99) ∧ (0 ≤ U (sf_rf 409 20) p ∧ U (sf_rf 409 20) p ≤ 9)) ∧ (∀ e, e < 6 → (V (sf_rf (sf_rf (sf_rf (sf_rf 0 0) 1) 2) 0) e = U (sf_rf 409 21) e ∧ 0 ≤ U (sf_rf 409 21) e ∧ U (sf_rf 409 21) e ≤ 9) ∧ (V (sf_rf (sf_rf (sf_rf (sf_rf 0 0) 1) 3) 0) e = U (sf_rf 409 22) e ∧ 0 ≤ U (sf_rf 409 22) e ∧ U (sf_rf 409 22) e ≤ 6)) ∧ ((st = 0 ∧ V (sf_rf (sf_rf 0 0) 1) 5 = 0 ∧ V (sf_rf (sf_rf 0 0) 1) 6 = 5 ∧ V (sf_rf (sf_rf 0 0) 1) 7 = 20) ∨ (st = 1 ∧ (0 ≤ V (sf_rf (sf_rf 0 0) 1) 5 ∧ V (sf_rf (sf_rf 0 0) 1) 5 < n ∧ V (sf_rf (sf_rf 0 0) 1) 5 = U (sf_rf 409 23) 0) ∧ (1 ≤ V (sf_rf (sf_rf 0 0) 1) 6 ∧ V (sf_rf (sf_rf 0 0) 1) 6 ≤ 20 ∧ V (sf_rf (sf_rf 0 0) 1) 6 = U (sf_rf 409 23) 1) ∧ (0 ≤ V (sf_rf (sf_rf 0 0) 1) 7 ∧ V (sf_rf (sf_rf 0 0) 1) 7 ≤ 999 ∧ V (sf_rf (sf_rf 0 0) 1) 7 = U (sf_rf 409 23) 2)))
theorem sf_J.x {V U : sf_MV} {t : Nat → Int} {L i n : Nat} {told st : Int} (h : sf_J V U t L i n told st) : sf_TX V t L := h.1
theorem sf_J.x4 {V U : sf_MV} {t : Nat → Int} {L i n : Nat} {told st : Int} (h : sf_J V U t L i n told st) : V (sf_rf 0 0) 4 = 0 := h.2.1
theorem sf_J.x3 {V U : sf_MV} {t : Nat → Int} {L i n : Nat} {told st : Int} (h : sf_J V U t L i n told st) : V (sf_rf 0 0) 3 = -1 := h.2.2.1
theorem sf_J.x5 {V U : sf_MV} {t : Nat → Int} {L i n : Nat} {told st : Int} (h : sf_J V U t L i n told st) : V (sf_rf 0 0) 5 = (i : Int) := h.2.2.2.1
theorem sf_J.x6 {V U : sf_MV} {t : Nat → Int} {L i n : Nat} {told st : Int} (h : sf_J V U t L i n told st) : V (sf_rf 0 0) 6 = told := h.2.2.2.2.1
theorem sf_J.x7 {V U : sf_MV} {t : Nat → Int} {L i n : Nat} {told st : Int} (h : sf_J V U t L i n told st) : V (sf_rf 0 0) 7 = st := h.2.2.2.2.2.1
theorem sf_J.xn {V U : sf_MV} {t : Nat → Int} {L i n : Nat} {told st : Int} (h : sf_J V U t L i n told st) : V (sf_rf (sf_rf 0 0) 1) 4 = (n : Int) := h.2.2.2.2.2.2.1
theorem sf_J.y {V U : sf_MV} {t : Nat → Int} {L i n : Nat} {told st : Int} (h : sf_J V U t L i n told st) : sf_TY U t L := h.2.2.2.2.2.2.2.1
theorem sf_J.y24 {V U : sf_MV} {t : Nat → Int} {L i n : Nat} {told st : Int} (h : sf_J V U t L i n told st) : U 409 24 = (i : Int) := h.2.2.2.2.2.2.2.2.1
theorem sf_J.y17 {V U : sf_MV} {t : Nat → Int} {L i n : Nat} {told st : Int} (h : sf_J V U t L i n told st) : U 409 17 = told := h.2.2.2.2.2.2.2.2.2.1
theorem sf_J.y18 {V U : sf_MV} {t : Nat → Int} {L i n : Nat} {told st : Int} (h : sf_J V U t L i n told st) : U 409 18 = st := h.2.2.2.2.2.2.2.2.2.2.1
theorem sf_J.y16 {V U : sf_MV} {t : Nat → Int} {L i n : Nat} {told st : Int} (h : sf_J V U t L i n told st) : U 409 16 = (n : Int) := h.2.2.2.2.2.2.2.2.2.2.2.1
theorem sf_J.n5 {V U : sf_MV} {t : Nat → Int} {L i n : Nat} {told st : Int} (h : sf_J V U t L i n told st) : n ≤ 5 := h.2.2.2.2.2.2.2.2.2.2.2.2.1
theorem sf_J.iL {V U : sf_MV} {t : Nat → Int} {L i n : Nat} {told st : Int} (h : sf_J V U t L i n told st) : i ≤ L := h.2.2.2.2.2.2.2.2.2.2.2.2.2.1
theorem sf_J.w {V U : sf_MV} {t : Nat → Int} {L i n : Nat} {told st : Int} (h : sf_J V U t L i n told st) : ∀ p, p < n → V (sf_rf (sf_rf (sf_rf (sf_rf 0 0) 1) 0) 0) p = U (sf_rf 409 19) p ∧ V (sf_rf (sf_rf (sf_rf (sf_rf 0 0) 1) 1) 0) p = U (sf_rf 409 20) p := h.2.2.2.2.2.2.2.2.2.2.2.2.2.2.1
theorem sf_J.wx {V U : sf_MV} {t : Nat → Int} {L i n : Nat} {told st : Int} (h : sf_J V U t L i n told st) : ∀ p, p < 5 → (0 ≤ V (sf_rf (sf_rf (sf_rf (sf_rf 0 0) 1) 0) 0) p ∧ V (sf_rf (sf_rf (sf_rf (sf_rf 0 0) 1) 0) 0) p ≤ 99) ∧ (0 ≤ V (sf_rf (sf_rf (sf_rf (sf_rf 0 0) 1) 1) 0) p ∧ V (sf_rf (sf_rf (sf_rf (sf_rf 0 0) 1) 1) 0) p ≤ 9) := h.2.2.2.2.2.2.2.2.2.2.2.2.2.2.2.1
theorem sf_J.wy {V U : sf_MV} {t : Nat → Int} {L i n : Nat} {told st : Int} (h : sf_J V U t L i n told st) : ∀ p, p < 5 → (0 ≤ U (sf_rf 409 19) p ∧ U (sf_rf 409 19) p ≤ 99) ∧ (0 ≤ U (sf_rf 409 20) p ∧ U (sf_rf 409 20) p ≤ 9) := h.2.2.2.2.2.2.2.2.2.2.2.2.2.2.2.2.1
theorem sf_J.cc {V U : sf_MV} {t : Nat → Int} {L i n : Nat} {told st : Int} (h : sf_J V U t L i n told st) : ∀ e, e < 6 → (V (sf_rf (sf_rf (sf_rf (sf_rf 0 0) 1) 2) 0) e = U (sf_rf 409 21) e ∧ 0 ≤ U (sf_rf 409 21) e ∧ U (sf_rf 409 21) e ≤ 9) ∧ (V (sf_rf (sf_rf (sf_rf (sf_rf 0 0) 1) 3) 0) e = U (sf_rf 409 22) e ∧ 0 ≤ U (sf_rf 409 22) e ∧ U (sf_rf 409 22) e ≤ 6) := h.2.2.2.2.2.2.2.2.2.2.2.2.2.2.2.2.2.1
theorem sf_J.s {V U : sf_MV} {t : Nat → Int} {L i n : Nat} {told st : Int} (h : sf_J V U t L i n told st) : (st = 0 ∧ V (sf_rf (sf_rf 0 0) 1) 5 = 0 ∧ V (sf_rf (sf_rf 0 0) 1) 6 = 5 ∧ V (sf_rf (sf_rf 0 0) 1) 7 = 20) ∨ (st = 1 ∧ (0 ≤ V (sf_rf (sf_rf 0 0) 1) 5 ∧ V (sf_rf (sf_rf 0 0) 1) 5 < n ∧ V (sf_rf (sf_rf 0 0) 1) 5 = U (sf_rf 409 23) 0) ∧ (1 ≤ V (sf_rf (sf_rf 0 0) 1) 6 ∧ V (sf_rf (sf_rf 0 0) 1) 6 ≤ 20 ∧ V (sf_rf (sf_rf 0 0) 1) 6 = U (sf_rf 409 23) 1) ∧ (0 ≤ V (sf_rf (sf_rf 0 0) 1) 7 ∧ V (sf_rf (sf_rf 0 0) 1) 7 ≤ 999 ∧ V (sf_rf (sf_rf 0 0) 1) 7 = U (sf_rf 409 23) 2)) := h.2.2.2.2.2.2.2.2.2.2.2.2.2.2.2.2.2.2
theorem sf_J.mk {V U : sf_MV} {t : Nat → Int} {L i n : Nat} {told st : Int} (h0 : sf_TX V t L) (h1 : V (sf_rf 0 0) 4 = 0) (h2 : V (sf_rf 0 0) 3 = -1) (h3 : V (sf_rf 0 0) 5 = (i : Int)) (h4 : V (sf_rf 0 0) 6 = told) (h5 : V (sf_rf 0 0) 7 = st) (h6 : V (sf_rf (sf_rf 0 0) 1) 4 = (n : Int)) (h7 : sf_TY U t L) (h8 : U 409 24 = (i : Int)) (h9 : U 409 17 = told) (h10 : U 409 18 = st) (h11 : U 409 16 = (n : Int)) (h12 : n ≤ 5) (h13 : i ≤ L) (h14 : ∀ p, p < n → V (sf_rf (sf_rf (sf_rf (sf_rf 0 0) 1) 0) 0) p = U (sf_rf 409 19) p ∧ V (sf_rf (sf_rf (sf_rf (sf_rf 0 0) 1) 1) 0) p = U (sf_rf 409 20) p) (h15 : ∀ p, p < 5 → (0 ≤ V (sf_rf (sf_rf (sf_rf (sf_rf 0 0) 1) 0) 0) p ∧ V (sf_rf (sf_rf (sf_rf (sf_rf 0 0) 1) 0) 0) p ≤ 99) ∧ (0 ≤ V (sf_rf (sf_rf (sf_rf (sf_rf 0 0) 1) 1) 0) p ∧ V (sf_rf (sf_rf (sf_rf (sf_rf 0 0) 1) 1) 0) p ≤ 9)) (h16 : ∀ p, p < 5 → (0 ≤ U (sf_rf 409 19) p ∧ U (sf_rf 409 19) p ≤ 99) ∧ (0 ≤ U (sf_rf 409 20) p ∧ U (sf_rf 409 20) p ≤ 9)) (h17 : ∀ e, e < 6 → (V (sf_rf (sf_rf (sf_rf (sf_rf 0 0) 1) 2) 0) e = U (sf_rf 409 21) e ∧ 0 ≤ U (sf_rf 409 21) e ∧ U (sf_rf 409 21) e ≤ 9) ∧ (V (sf_rf (sf_rf (sf_rf (sf_rf 0 0) 1) 3) 0) e = U (sf_rf 409 22) e ∧ 0 ≤ U (sf_rf 409 22) e ∧ U (sf_rf 409 22) e ≤ 6)) (h18 : (st = 0 ∧ V (sf_rf (sf_rf 0 0) 1) 5 = 0 ∧ V (sf_rf (sf_rf 0 0) 1) 6 = 5 ∧ V (sf_rf (sf_rf 0 0) 1) 7 = 20) ∨ (st = 1 ∧ (0 ≤ V (sf_rf (sf_rf 0 0) 1) 5 ∧ V (sf_rf (sf_rf 0 0) 1) 5 < n ∧ V (sf_rf (sf_rf 0 0) 1) 5 = U (sf_rf 409 23) 0) ∧ (1 ≤ V (sf_rf (sf_rf 0 0) 1) 6 ∧ V (sf_rf (sf_rf 0 0) 1) 6 ≤ 20 ∧ V (sf_rf (sf_rf 0 0) 1) 6 = U (sf_rf 409 23) 1) ∧ (0 ≤ V (sf_rf (sf_rf 0 0) 1) 7 ∧ V (sf_rf (sf_rf 0 0) 1) 7 ≤ 999 ∧ V (sf_rf (sf_rf 0 0) 1) 7 = U (sf_rf 409 23) 2))) : sf_J V U t L i n told st := ⟨h0, h1, h2, h3, h4, h5, h6, h7, h8, h9, h10, h11, h12, h13, h14, h15, h16, h17, h18⟩
/-- what a clause may change -/
def sf_FC (V V' : sf_MV) : Prop := (∀ a, ¬ a = sf_rf 0 0 → ¬ a = (sf_rf (sf_rf 0 0) 1) → ¬ a = sf_rf (sf_rf (sf_rf (sf_rf 0 0) 1) 0) 0 → ¬ a = sf_rf (sf_rf (sf_rf (sf_rf 0 0) 1) 1) 0 → ¬ a = sf_rf (sf_rf (sf_rf (sf_rf 0 0) 1) 2) 0 → ¬ a = sf_rf (sf_rf (sf_rf (sf_rf 0 0) 1) 3) 0 → V' a = V a) ∧ V' (sf_rf 0 0) 2 = V (sf_rf 0 0) 2
def sf_FU (U U' : sf_MV) : Prop := (∀ a, ¬ a = 409 → ¬ a = sf_rf 409 19 → ¬ a = sf_rf 409 20 → ¬ a = sf_rf 409 21 → ¬ a = sf_rf 409 22 → ¬ a = sf_rf 409 23 → U' a = U a) ∧ ∀ k, k < 16 → U' 409 k = U 409 k
theorem sf_FC_trans {V1 V2 V3 : sf_MV} (h : sf_FC V1 V2) (g : sf_FC V2 V3) : sf_FC V1 V3 :=
  ⟨fun a q1 q2 q3 q4 q5 q6 => by rw [g.1 a q1 q2 q3 q4 q5 q6, h.1 a q1 q2 q3 q4 q5 q6], by rw [g.2, h.2]⟩
theorem sf_FU_trans {V1 V2 V3 : sf_MV} (h : sf_FU V1 V2) (g : sf_FU V2 V3) : sf_FU V1 V3 :=
  ⟨fun a q1 q2 q3 q4 q5 q6 => by rw [g.1 a q1 q2 q3 q4 q5 q6, h.1 a q1 q2 q3 q4 q5 q6], fun k hk => by rw [g.2 k hk, h.2 k hk]⟩
theorem sf_FC_FT {V' : sf_MV} (h : sf_FT V V') : sf_FC V V' := ⟨fun a q _ _ _ _ _ => h.1 a q, h.2 2 (by decide) (by decide) (by decide)⟩
theorem sf_FU_FR {U' : sf_MV} (h : sf_FRr U U') : sf_FU U U' := ⟨fun a q _ _ _ _ _ => h.1 a q, fun k hk => h.2 k (by omega)⟩
def sf_WR (U : sf_MV) : Prop := ∀ p, p < 5 → (0 ≤ U (sf_rf 409 19) p ∧ U (sf_rf 409 19) p ≤ 99) ∧ (0 ≤ U (sf_rf 409 20) p ∧ U (sf_rf 409 20) p ≤ 9)
/-- both have blamed the same -/
def sf_BB (V U : sf_MV) : Prop := ¬ V (sf_rf 0 0) 4 = 0 ∧ V (sf_rf 0 0) 4 = U 409 25 ∧ V (sf_rf 0 0) 3 = U 409 24
/-- behind a clause: well, or blamed -/
def sf_CL (V U V' U' : sf_MV) (t : Nat → Int) (L i : Nat) (good : Int) : Prop := sf_FC V V' ∧ sf_FU U U' ∧ sf_WR U' ∧ ((good = 1 ∧ ∃ i' n' told' st', i < i' ∧ sf_J V' U' t L i' n' told' st') ∨ (good = 0 ∧ sf_BB V' U'))
end SFP30

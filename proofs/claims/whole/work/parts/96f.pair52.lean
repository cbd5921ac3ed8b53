/-! plans: the class's table of things, its row, the next thing -/
section SFP52
variable {V X U : sf_MV} {n nx c ce cf cg : Nat}
theorem sf_goes_c {g : Int} {cold S T : Nat → Int} {t : Nat} (hn5 : n ≤ 5) (ht : t < 5) (h : ∀ j, j < 20 → j ≠ 3 → S j = T j) : ∀ j, j < 20 → j ≠ 3 → sf_goes n g cold S t j = sf_goes n g cold T t j := fun j j1 j2 => by
  unfold sf_goes sf_turn
  rw [h 2 (by decide) (by decide)]
  by_cases q : 4 ≤ j ∧ j < 4 + n
  · rw [if_pos q, if_pos q, h j j1 j2]
  · rw [if_neg q, if_neg q]
    unfold sf_ru
    (repeat' split) <;> first | rfl | exact h j j1 j2
/-- what the class knows as it searches -/
def sf_PH (V : sf_MV) (n L k : Nat) (g lg want t d : Int) (cold cost S : Nat → Int) : Prop := (V (sf_rf 0 10) 5 = (L : Int)) ∧ (V (sf_rf 0 10) 6 = want) ∧ (V (sf_rf 0 10) 7 = lg) ∧ (V (sf_rf 0 1) 4 = (n : Int)) ∧ (V (sf_rf 0 1) 6 = g) ∧ (V (sf_si (sf_rf 0 1)) = cold) ∧ (∀ e, e < 6 → V (sf_la (sf_rf 0 1)) e = cost e) ∧ (∀ j, j < 20 → j ≠ 3 → sf_getS V (sf_px k) j = S j) ∧ (sf_rok n (90099 + k) S) ∧ (0 ≤ t ∧ t ≤ 9 * k) ∧ (0 ≤ d ∧ d ≤ k)
theorem sf_PH.l {V : sf_MV} {n L k : Nat} {g lg want t d : Int} {cold cost S : Nat → Int} (h : sf_PH V n L k g lg want t d cold cost S) : V (sf_rf 0 10) 5 = (L : Int) := h.1
theorem sf_PH.a {V : sf_MV} {n L k : Nat} {g lg want t d : Int} {cold cost S : Nat → Int} (h : sf_PH V n L k g lg want t d cold cost S) : V (sf_rf 0 10) 6 = want := h.2.1
theorem sf_PH.b {V : sf_MV} {n L k : Nat} {g lg want t d : Int} {cold cost S : Nat → Int} (h : sf_PH V n L k g lg want t d cold cost S) : V (sf_rf 0 10) 7 = lg := h.2.2.1
theorem sf_PH.pn {V : sf_MV} {n L k : Nat} {g lg want t d : Int} {cold cost S : Nat → Int} (h : sf_PH V n L k g lg want t d cold cost S) : V (sf_rf 0 1) 4 = (n : Int) := h.2.2.2.1
theorem sf_PH.g {V : sf_MV} {n L k : Nat} {g lg want t d : Int} {cold cost S : Nat → Int} (h : sf_PH V n L k g lg want t d cold cost S) : V (sf_rf 0 1) 6 = g := h.2.2.2.2.1
theorem sf_PH.pc {V : sf_MV} {n L k : Nat} {g lg want t d : Int} {cold cost S : Nat → Int} (h : sf_PH V n L k g lg want t d cold cost S) : V (sf_si (sf_rf 0 1)) = cold := h.2.2.2.2.2.1
theorem sf_PH.e {V : sf_MV} {n L k : Nat} {g lg want t d : Int} {cold cost S : Nat → Int} (h : sf_PH V n L k g lg want t d cold cost S) : ∀ e, e < 6 → V (sf_la (sf_rf 0 1)) e = cost e := h.2.2.2.2.2.2.1
theorem sf_PH.r {V : sf_MV} {n L k : Nat} {g lg want t d : Int} {cold cost S : Nat → Int} (h : sf_PH V n L k g lg want t d cold cost S) : ∀ j, j < 20 → j ≠ 3 → sf_getS V (sf_px k) j = S j := h.2.2.2.2.2.2.2.1
theorem sf_PH.o {V : sf_MV} {n L k : Nat} {g lg want t d : Int} {cold cost S : Nat → Int} (h : sf_PH V n L k g lg want t d cold cost S) : sf_rok n (90099 + k) S := h.2.2.2.2.2.2.2.2.1
theorem sf_PH.t {V : sf_MV} {n L k : Nat} {g lg want t d : Int} {cold cost S : Nat → Int} (h : sf_PH V n L k g lg want t d cold cost S) : 0 ≤ t ∧ t ≤ 9 * k := h.2.2.2.2.2.2.2.2.2.1
theorem sf_PH.d {V : sf_MV} {n L k : Nat} {g lg want t d : Int} {cold cost S : Nat → Int} (h : sf_PH V n L k g lg want t d cold cost S) : 0 ≤ d ∧ d ≤ k := h.2.2.2.2.2.2.2.2.2.2
theorem sf_PH.mk {V : sf_MV} {n L k : Nat} {g lg want t d : Int} {cold cost S : Nat → Int} (h0 : V (sf_rf 0 10) 5 = (L : Int)) (h1 : V (sf_rf 0 10) 6 = want) (h2 : V (sf_rf 0 10) 7 = lg) (h3 : V (sf_rf 0 1) 4 = (n : Int)) (h4 : V (sf_rf 0 1) 6 = g) (h5 : V (sf_si (sf_rf 0 1)) = cold) (h6 : ∀ e, e < 6 → V (sf_la (sf_rf 0 1)) e = cost e) (h7 : ∀ j, j < 20 → j ≠ 3 → sf_getS V (sf_px k) j = S j) (h8 : sf_rok n (90099 + k) S) (h9 : 0 ≤ t ∧ t ≤ 9 * k) (h10 : 0 ≤ d ∧ d ≤ k) : sf_PH V n L k g lg want t d cold cost S := ⟨h0, h1, h2, h3, h4, h5, h6, h7, h8, h9, h10⟩
theorem sf_PH_FP {V' : sf_MV} {L k : Nat} {g lg want t d : Int} {cold cost S : Nat → Int} (h : sf_PH V n L k g lg want t d cold cost S) (f : sf_FP k V V') : sf_PH V' n L k g lg want t d cold cost S := by
  obtain ⟨h1, h2⟩ := sf_FP_home f
  exact sf_PH.mk (by rw [f.2.1 5 (by decide) (by decide) (by decide)]; exact h.l) (by rw [f.2.1 6 (by decide) (by decide) (by decide)]; exact h.a) (by rw [f.2.1 7 (by decide) (by decide) (by decide)]; exact h.b) (by rw [h1]; exact h.pn) (by rw [h1]; exact h.g) (by unfold sf_si; rw [h2]; exact h.pc) (by unfold sf_la; rw [h2]; exact h.e) (by rw [sf_FP_row f (Nat.le_refl k)]; exact h.r) h.o h.t h.d
def sf_pww (n : Nat) (cost S : Nat → Int) (x : Nat) : Bool := sf_wn (6 * n + 1) (sf_pcs n cost) (sf_pfx n S) x
def sf_SR (n L r k : Nat) (g lg want : Int) (cold cost : Nat → Int) : Prop := ∀ (V : sf_MV) (S : Nat → Int) (t d : Int) (pk : Nat → Nat) (B : Int × Int × (Nat → Nat)), sf_PH V n L k g lg want t d cold cost S → sf_RP L n V B → (∀ j, j < k → V (sf_rf (sf_rf (sf_rf 0 10) 1) 0) j = sf_pco n (pk j)) → sf_b3 t d B →
  ∃ V', sf_FP k V V' ∧ sf_RP L n V' (sf_c4 (6 * n + 1) lg (sf_pcs n cost) sf_pdc (sf_pww n cost) (sf_pch n g cold) (sf_pal n want) r k S t d pk B) ∧
    ∀ D K, 2 * r + 6 ≤ D → sf_wp D none 19 0 [some (.inr (.inl (some (sf_rf 0 10)))), some (.inr (.inl (some (sf_rf 0 1)))), some (.inl (k : Int)), some (.inl t), some (.inl d), none, none, none, none] [] (sf_E V) K = K none (sf_E V')
theorem s166 {d : Nat} {t e : Int} {K : Option sf_V → sf_M → Prop} : sf_wp (d + 1) none 166 0 [some (.inr (.inl (some (sf_rf 0 10)))), some (.inl t), some (.inl e)] [] (sf_E V) K = K none (sf_E (sf_put (sf_upd (sf_upd (sf_upd V (sf_rf 0 10) 8 1) (sf_rf 0 10) 9 t) (sf_rf 0 10) 10 e) (sf_rf (sf_rf (sf_rf 0 10) 2) 0) 0 3 (V (sf_rf (sf_rf (sf_rf 0 10) 1) 0)))) := by
  have x10 := sf_c11_10 sf_x
  have p1 := sf_c5_1 x10
  have p2 := sf_c5_2 x10
  obtain ⟨m1, m2, m3, m4, m5⟩ := sf_pxLen
  generalize hV1 : sf_upd (sf_upd (sf_upd V (sf_rf 0 10) 8 1) (sf_rf 0 10) 9 t) (sf_rf 0 10) 10 e = V1
  have e1 : V1 (sf_rf (sf_rf (sf_rf 0 10) 1) 0) = V (sf_rf (sf_rf (sf_rf 0 10) 1) 0) := by rw [← hV1, sf_upd_ne (by simp [sf_rf_self2]), sf_upd_ne (by simp [sf_rf_self2]), sf_upd_ne (by simp [sf_rf_self2])]
  have s34' := fun K => s34 (d := d) (r := sf_rf (sf_rf 0 10) 2) (o := sf_rf (sf_rf 0 10) 1) (V := V1) (K := K) p2 p1 (by rw [m2, m3]) (by simp [sf_rf_inj])
  rw [m3] at s34'
  simp (decide := true) only [q166_0, q166_1, q166_2, q166_5, q166_6, q166_7, q166_10, q166_11, q166_12, q166_15, q166_16, q166_19, q166_20, x10, hV1, or_true, true_and]
  simp only [q166_23, p1, p2, s34', q166_26, e1, Option.toList_some, Option.toList_none, List.cons_append, List.nil_append]
/-- one thing offered -/
theorem s168 {d k v : Nat} {thing cost : Int} {K : Option sf_V → sf_M → Prop} (hk : k < 3) (hv : v < 5) : sf_wp (d + 1) none 168 0 [some (.inr (.inl (some (sf_rf 0 10)))), some (.inl (k : Int)), some (.inl (v : Int)), some (.inl thing), some (.inl cost), none] [] (sf_E V) K = K none (sf_E (if cost < V (sf_rf (sf_rf (sf_rf 0 10) 4) 0) (5 * k + v) then sf_upd (sf_upd V (sf_rf (sf_rf (sf_rf 0 10) 4) 0) (5 * k + v) cost) (sf_rf (sf_rf (sf_rf 0 10) 3) 0) (5 * k + v) thing else V)) := by
  have x10 := sf_c11_10 sf_x
  have p3 := sf_c5_3 x10
  have p4 := sf_c5_4 x10
  obtain ⟨m1, m2, m3, m4, m5⟩ := sf_pxLen
  have widx : sf_w (sf_w ((k : Int) * 5) + (v : Int)) = ((5 * k + v : Nat) : Int) := by
    rw [sf_w_small (n := (k : Int) * 5) (by omega), sf_w_small (by omega)]
    omega
  have rdl : sf_rd V (sf_rf (sf_rf (sf_rf 0 10) 4) 0) ((5 * k + v : Nat) : Int) = V (sf_rf (sf_rf (sf_rf 0 10) 4) 0) (5 * k + v) := sf_rd_nat (by omega)
  have wr1 : sf_wr V (sf_rf (sf_rf (sf_rf 0 10) 4) 0) ((5 * k + v : Nat) : Int) cost = sf_upd V (sf_rf (sf_rf (sf_rf 0 10) 4) 0) (5 * k + v) cost := sf_wr_nat (by omega)
  have wr2 : ∀ W, sf_wr W (sf_rf (sf_rf (sf_rf 0 10) 3) 0) ((5 * k + v : Nat) : Int) thing = sf_upd W (sf_rf (sf_rf (sf_rf 0 10) 3) 0) (5 * k + v) thing := fun W => sf_wr_nat (by omega)
  simp only [q168_0, q168_1, q168_2, q168_3, q168_4, q168_5, widx]
  simp only [q168_7, q168_9, q168_10, q168_13, q168_15, x10, p4, s31, rdl, Option.toList_some, Option.toList_none, List.cons_append, List.nil_append]
  rw [q168_18]
  by_cases q : cost < V (sf_rf (sf_rf (sf_rf 0 10) 4) 0) (5 * k + v)
  · rw [if_neg (by omega), if_pos q]
    simp only [q168_21, q168_22, q168_25, q168_27, q168_29, x10, p4, s32, wr1, Option.toList_some, Option.toList_none, List.cons_append, List.nil_append]
    simp only [q168_32, q168_33, q168_36, q168_38, q168_39, x10, p3, s32, wr2, q168_42, Option.toList_some, Option.toList_none, List.cons_append, List.nil_append]
  · rw [if_pos (by omega), if_neg q, q168_42]
/-- whom the first thing behind that one makes the darling -/
def sf_nxt (n : Nat) (c t : Nat → Int) (thing made : Int) : Prop := (made = -1 ∧ ∀ q, q < n → c q ≤ 9 → t q ≤ thing) ∨ ∃ v : Nat, made = (v : Int) ∧ v < n ∧ c v ≤ 9 ∧ thing < t v ∧ ∀ q, q < n → c q ≤ 9 → thing < t q → t v ≤ t q
theorem sf_nxt_keep {p : Nat} {c t : Nat → Int} {thing made : Int} (h : sf_nxt p c t thing made) (hp : c p ≤ 9 → thing < t p → ¬ made = -1 ∧ t made.toNat ≤ t p) : sf_nxt (p + 1) c t thing made := by
  rcases h with ⟨e, h⟩ | ⟨v, e, hv, h1, h2, h3⟩
  · refine Or.inl ⟨e, fun q hq hc => ?_⟩
    by_cases qp : q = p
    · rw [qp] at hc ⊢
      by_cases z : thing < t p
      · exact absurd e (hp hc z).1
      · omega
    · exact h q (by omega) hc
  · refine Or.inr ⟨v, e, by omega, h1, h2, fun q hq hc ht => ?_⟩
    by_cases qp : q = p
    · rw [qp] at hc ht ⊢
      have z := (hp hc ht).2
      rw [e, Int.toNat_natCast] at z
      exact z
    · exact h3 q (by omega) hc ht
theorem sf_nxt_new {p : Nat} {c t : Nat → Int} {thing made : Int} (h : sf_nxt p c t thing made) (hc : c p ≤ 9) (ht : thing < t p) (hp : made = -1 ∨ t p < t made.toNat) : sf_nxt (p + 1) c t thing (p : Int) := by
  refine Or.inr ⟨p, rfl, by omega, hc, ht, fun q hq hcq htq => ?_⟩
  by_cases qp : q = p
  · rw [qp]
    exact Int.le_refl _
  · rcases h with ⟨e, h⟩ | ⟨v, e, hv, h1, h2, h3⟩
    · have := h q (by omega) hcq
      omega
    · have z := h3 q (by omega) hcq htq
      rcases hp with hp | hp
      · omega
      · rw [e, Int.toNat_natCast] at hp
        omega
theorem s169_loop {k : Nat} {thing : Int} {c t : Nat → Int} (hk : k < 3) (hn5 : n ≤ 5) (hc : ∀ q, q < n → V (sf_rf (sf_rf (sf_rf 0 10) 4) 0) (5 * k + q) = c q) (ht : ∀ q, q < n → V (sf_rf (sf_rf (sf_rf 0 10) 3) 0) (5 * k + q) = t q) : ∀ (m p : Nat) (made first : Int), n - p = m → p ≤ n → sf_nxt p c t thing made → (made = -1 ∨ first = t made.toNat) →
    ∃ r, sf_nxt n c t thing r ∧ ∀ d K l7 l8, sf_wp (d + 1) none 169 9 [some (.inr (.inl (some (sf_rf 0 10)))), some (.inl (k : Int)), some (.inl thing), some (.inl (n : Int)), some (.inl made), some (.inl first), some (.inl (p : Int)), l7, l8] [] (sf_E V) K = K (some (.inl r)) (sf_E V) := by
  have x10 := sf_c11_10 sf_x
  have p3 := sf_c5_3 x10
  have p4 := sf_c5_4 x10
  obtain ⟨m1, m2, m3, m4, m5⟩ := sf_pxLen
  intro m
  induction m with
  | zero =>
    intro p made first hm hp h hf
    have pn : p = n := by omega
    subst pn
    refine ⟨made, h, fun d K l7 l8 => ?_⟩
    simp only [q169_9, q169_11]
    rw [q169_12, if_pos (by omega)]
    simp only [q169_81, q169_83]
  | succ m ih =>
    intro p made first hm hp h hf
    have hpn : p < n := by omega
    have widx : sf_w (sf_w ((k : Int) * 5) + (p : Int)) = ((5 * k + p : Nat) : Int) := by
      rw [sf_w_small (n := (k : Int) * 5) (by omega), sf_w_small (by omega)]
      omega
    have rdT : sf_rd V (sf_rf (sf_rf (sf_rf 0 10) 3) 0) ((5 * k + p : Nat) : Int) = t p := by
      rw [sf_rd_nat (by omega)]
      exact ht p hpn
    have rdC : sf_rd V (sf_rf (sf_rf (sf_rf 0 10) 4) 0) ((5 * k + p : Nat) : Int) = c p := by
      rw [sf_rd_nat (by omega)]
      exact hc p hpn
    have go75 : ∀ d K made first, sf_wp (d + 1) none 169 75 [some (.inr (.inl (some (sf_rf 0 10)))), some (.inl (k : Int)), some (.inl thing), some (.inl (n : Int)), some (.inl made), some (.inl first), some (.inl (p : Int)), some (.inl ((5 * k + p : Nat) : Int)), some (.inl (t p))] [] (sf_E V) K = sf_wp (d + 1) none 169 9 [some (.inr (.inl (some (sf_rf 0 10)))), some (.inl (k : Int)), some (.inl thing), some (.inl (n : Int)), some (.inl made), some (.inl first), some (.inl ((p + 1 : Nat) : Int)), some (.inl ((5 * k + p : Nat) : Int)), some (.inl (t p))] [] (sf_E V) K := fun d K made first => by
      simp only [q169_75]
      rw [q169_78, sf_wS (by omega)]
    have head : ∀ d K l7 l8, sf_wp (d + 1) none 169 9 [some (.inr (.inl (some (sf_rf 0 10)))), some (.inl (k : Int)), some (.inl thing), some (.inl (n : Int)), some (.inl made), some (.inl first), some (.inl (p : Int)), l7, l8] [] (sf_E V) K = if 9 < c p ∨ t p ≤ thing ∨ (¬ made = -1 ∧ first ≤ t p) then sf_wp (d + 1) none 169 75 [some (.inr (.inl (some (sf_rf 0 10)))), some (.inl (k : Int)), some (.inl thing), some (.inl (n : Int)), some (.inl made), some (.inl first), some (.inl (p : Int)), some (.inl ((5 * k + p : Nat) : Int)), some (.inl (t p))] [] (sf_E V) K else sf_wp (d + 1) none 169 75 [some (.inr (.inl (some (sf_rf 0 10)))), some (.inl (k : Int)), some (.inl thing), some (.inl (n : Int)), some (.inl (p : Int)), some (.inl (t p)), some (.inl (p : Int)), some (.inl ((5 * k + p : Nat) : Int)), some (.inl (t p))] [] (sf_E V) K := fun d K l7 l8 => by
      simp only [q169_9, q169_11]
      rw [q169_12, if_neg (by omega)]
      simp only [q169_15, q169_16, q169_17, q169_18, q169_20, q169_21, widx]
      simp only [q169_23, q169_24, q169_27, q169_29, x10, p3, s31, rdT, Option.toList_some, Option.toList_none, List.cons_append, List.nil_append]
      simp only [q169_32, q169_34, q169_35, q169_38, q169_40, x10, p4, s31, rdC, Option.toList_some, Option.toList_none, List.cons_append, List.nil_append]
      simp only [q169_43]
      rw [q169_45]
      by_cases q1 : 9 < c p
      · rw [if_pos q1, if_pos (Or.inl q1)]
      · rw [if_neg q1]
        simp only [q169_48, q169_50]
        rw [q169_51]
        by_cases q2 : t p ≤ thing
        · rw [if_pos q2, if_pos (Or.inr (Or.inl q2))]
        · rw [if_neg q2]
          simp only [q169_54, q169_56]
          rw [q169_57]
          by_cases q3 : made = -1
          · rw [if_pos q3, if_neg (by omega)]
            simp only [q169_67, q169_69, q169_71, q169_73]
          · rw [if_neg q3]
            simp only [q169_60, q169_62]
            rw [q169_64]
            by_cases q4 : first ≤ t p
            · rw [if_pos q4, if_pos (Or.inr (Or.inr ⟨q3, q4⟩))]
            · rw [if_neg q4, if_neg (by omega)]
              simp only [q169_67, q169_69, q169_71, q169_73]
    by_cases q : 9 < c p ∨ t p ≤ thing ∨ (¬ made = -1 ∧ first ≤ t p)
    · obtain ⟨r, h1, h2⟩ := ih (p + 1) made first (by omega) (by omega) (sf_nxt_keep h (fun z1 z2 => by
        have z3 : ¬ made = -1 ∧ first ≤ t p := by omega
        refine ⟨z3.1, ?_⟩
        rcases hf with hf | hf
        · exact absurd hf z3.1
        · rw [← hf]
          exact z3.2)) hf
      exact ⟨r, h1, fun d K l7 l8 => by rw [head, if_pos q, go75, h2]⟩
    · obtain ⟨r, h1, h2⟩ := ih (p + 1) (p : Int) (t p) (by omega) (by omega) (sf_nxt_new h (by omega) (by omega) (by
        rcases hf with hf | hf
        · exact Or.inl hf
        · by_cases z : made = -1
          · exact Or.inl z
          · rw [← hf]
            omega)) (Or.inr (by rw [Int.toNat_natCast]))
      exact ⟨r, h1, fun d K l7 l8 => by rw [head, if_neg q, go75, h2]⟩
theorem s169 {k : Nat} {thing : Int} {c t : Nat → Int} (hk : k < 3) (hn5 : n ≤ 5) (hc : ∀ q, q < n → V (sf_rf (sf_rf (sf_rf 0 10) 4) 0) (5 * k + q) = c q) (ht : ∀ q, q < n → V (sf_rf (sf_rf (sf_rf 0 10) 3) 0) (5 * k + q) = t q) :
    ∃ r, sf_nxt n c t thing r ∧ ∀ d K, sf_wp (d + 1) none 169 0 [some (.inr (.inl (some (sf_rf 0 10)))), some (.inl (k : Int)), some (.inl thing), some (.inl (n : Int)), none, none, none, none, none] [] (sf_E V) K = K (some (.inl r)) (sf_E V) := by
  obtain ⟨r, h1, h2⟩ := s169_loop (V := V) (thing := thing) hk hn5 hc ht n 0 (-1) 0 rfl (by omega) (Or.inl ⟨rfl, fun q hq => absurd hq (by omega)⟩) (Or.inl rfl)
  refine ⟨r, h1, fun d K => ?_⟩
  simp only [q169_0, q169_1, q169_3, q169_4, q169_6, q169_7]
  exact h2 d K none none
end SFP52

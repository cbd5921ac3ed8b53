/-! plans: the class considers one thing -/
section SFP52
variable {V X U : sf_MV} {n nx c ce cf cg : Nat}
theorem sf_goes_c {g : Int} {cold S T : Nat → Int} {t : Nat} (hn5 : n ≤ 5) (ht : t < 5) (h : ∀ j, j < 20 → j ≠ 3 → S j = T j) : ∀ j, j < 20 → j ≠ 3 → sf_goes n g cold S t j = sf_goes n g cold T t j := fun j j1 j2 => by
  unfold sf_goes sf_turn
  rw [h 2 (by decide) (by decide)]
  by_cases q : 4 ≤ j ∧ j < 4 + n
  · rw [if_pos q, if_pos q, h j j1 j2]
  · rw [if_neg q, if_neg q]
    unfold sf_ru
    (repeat' split) <;> first | rfl | exact h j j1 j2
/-- what the class knows as it searches -/
def sf_PH (V : sf_MV) (n L k : Nat) (g lg want t d : Int) (cold cost S : Nat → Int) : Prop := (V (sf_rf 0 10) 4 = (L : Int)) ∧ (V (sf_rf 0 10) 5 = want) ∧ (V (sf_rf 0 10) 6 = lg) ∧ (V (sf_rf 0 1) 4 = (n : Int)) ∧ (V (sf_rf 0 1) 6 = g) ∧ (V (sf_si (sf_rf 0 1)) = cold) ∧ (∀ e, e < 6 → V (sf_la (sf_rf 0 1)) e = cost e) ∧ (∀ j, j < 20 → j ≠ 3 → sf_getS V (sf_px k) j = S j) ∧ (sf_rok n (90099 + k) S) ∧ (0 ≤ t ∧ t ≤ 9 * k) ∧ (0 ≤ d ∧ d ≤ k)
theorem sf_PH.l {V : sf_MV} {n L k : Nat} {g lg want t d : Int} {cold cost S : Nat → Int} (h : sf_PH V n L k g lg want t d cold cost S) : V (sf_rf 0 10) 4 = (L : Int) := h.1
theorem sf_PH.a {V : sf_MV} {n L k : Nat} {g lg want t d : Int} {cold cost S : Nat → Int} (h : sf_PH V n L k g lg want t d cold cost S) : V (sf_rf 0 10) 5 = want := h.2.1
theorem sf_PH.b {V : sf_MV} {n L k : Nat} {g lg want t d : Int} {cold cost S : Nat → Int} (h : sf_PH V n L k g lg want t d cold cost S) : V (sf_rf 0 10) 6 = lg := h.2.2.1
theorem sf_PH.pn {V : sf_MV} {n L k : Nat} {g lg want t d : Int} {cold cost S : Nat → Int} (h : sf_PH V n L k g lg want t d cold cost S) : V (sf_rf 0 1) 4 = (n : Int) := h.2.2.2.1
theorem sf_PH.g {V : sf_MV} {n L k : Nat} {g lg want t d : Int} {cold cost S : Nat → Int} (h : sf_PH V n L k g lg want t d cold cost S) : V (sf_rf 0 1) 6 = g := h.2.2.2.2.1
theorem sf_PH.pc {V : sf_MV} {n L k : Nat} {g lg want t d : Int} {cold cost S : Nat → Int} (h : sf_PH V n L k g lg want t d cold cost S) : V (sf_si (sf_rf 0 1)) = cold := h.2.2.2.2.2.1
theorem sf_PH.e {V : sf_MV} {n L k : Nat} {g lg want t d : Int} {cold cost S : Nat → Int} (h : sf_PH V n L k g lg want t d cold cost S) : ∀ e, e < 6 → V (sf_la (sf_rf 0 1)) e = cost e := h.2.2.2.2.2.2.1
theorem sf_PH.r {V : sf_MV} {n L k : Nat} {g lg want t d : Int} {cold cost S : Nat → Int} (h : sf_PH V n L k g lg want t d cold cost S) : ∀ j, j < 20 → j ≠ 3 → sf_getS V (sf_px k) j = S j := h.2.2.2.2.2.2.2.1
theorem sf_PH.o {V : sf_MV} {n L k : Nat} {g lg want t d : Int} {cold cost S : Nat → Int} (h : sf_PH V n L k g lg want t d cold cost S) : sf_rok n (90099 + k) S := h.2.2.2.2.2.2.2.2.1
theorem sf_PH.t {V : sf_MV} {n L k : Nat} {g lg want t d : Int} {cold cost S : Nat → Int} (h : sf_PH V n L k g lg want t d cold cost S) : 0 ≤ t ∧ t ≤ 9 * k := h.2.2.2.2.2.2.2.2.2.1
theorem sf_PH.d {V : sf_MV} {n L k : Nat} {g lg want t d : Int} {cold cost S : Nat → Int} (h : sf_PH V n L k g lg want t d cold cost S) : 0 ≤ d ∧ d ≤ k := h.2.2.2.2.2.2.2.2.2.2
theorem sf_PH.mk {V : sf_MV} {n L k : Nat} {g lg want t d : Int} {cold cost S : Nat → Int} (h0 : V (sf_rf 0 10) 4 = (L : Int)) (h1 : V (sf_rf 0 10) 5 = want) (h2 : V (sf_rf 0 10) 6 = lg) (h3 : V (sf_rf 0 1) 4 = (n : Int)) (h4 : V (sf_rf 0 1) 6 = g) (h5 : V (sf_si (sf_rf 0 1)) = cold) (h6 : ∀ e, e < 6 → V (sf_la (sf_rf 0 1)) e = cost e) (h7 : ∀ j, j < 20 → j ≠ 3 → sf_getS V (sf_px k) j = S j) (h8 : sf_rok n (90099 + k) S) (h9 : 0 ≤ t ∧ t ≤ 9 * k) (h10 : 0 ≤ d ∧ d ≤ k) : sf_PH V n L k g lg want t d cold cost S := ⟨h0, h1, h2, h3, h4, h5, h6, h7, h8, h9, h10⟩
theorem sf_PH_FP {V' : sf_MV} {L k : Nat} {g lg want t d : Int} {cold cost S : Nat → Int} (h : sf_PH V n L k g lg want t d cold cost S) (f : sf_FP k V V') : sf_PH V' n L k g lg want t d cold cost S := by
  obtain ⟨h1, h2⟩ := sf_FP_home f
  exact sf_PH.mk (by rw [f.2.1 4 (by decide) (by decide) (by decide)]; exact h.l) (by rw [f.2.1 5 (by decide) (by decide) (by decide)]; exact h.a) (by rw [f.2.1 6 (by decide) (by decide) (by decide)]; exact h.b) (by rw [h1]; exact h.pn) (by rw [h1]; exact h.g) (by unfold sf_si; rw [h2]; exact h.pc) (by unfold sf_la; rw [h2]; exact h.e) (by rw [sf_FP_row f (Nat.le_refl k)]; exact h.r) h.o h.t h.d
def sf_SR (n L r k : Nat) (g lg want : Int) (cold cost : Nat → Int) : Prop := ∀ (V : sf_MV) (S : Nat → Int) (t d : Int) (pk : Nat → Nat) (B : Int × Int × (Nat → Nat)), sf_PH V n L k g lg want t d cold cost S → sf_RP L n V B → (∀ j, j < k → V (sf_rf (sf_rf (sf_rf 0 10) 1) 0) j = sf_pco n (pk j)) → sf_b3 t d B →
  ∃ V', sf_FP k V V' ∧ sf_RP L n V' (sf_c3 (6 * n + 1) lg (sf_pcs n cost) sf_pdc (sf_pfx n) (sf_pch n g cold) (sf_pal n want) r k S t d pk B) ∧
    ∀ D K, 2 * r + 6 ≤ D → sf_wp D none 19 0 [some (.inr (.inl (some (sf_rf 0 10)))), some (.inr (.inl (some (sf_rf 0 1)))), some (.inl (k : Int)), some (.inl t), some (.inl d), none, none, none] [] (sf_E V) K = K none (sf_E V')
theorem s20 {L r k x : Nat} {g lg want t d cx dx : Int} {cold cost S l : Nat → Int} {pk : Nat → Nat} {B : Int × Int × (Nat → Nat)} {v : Nat} (hn : 0 < n) (hn5 : n ≤ 5) (hg : 0 ≤ g ∧ g ≤ 20) (hc : ∀ p, p < 5 → 0 ≤ cold p ∧ cold p ≤ 9) (hk : k + 1 + r = L) (hL : L ≤ 3) (IH : sf_SR n L r (k + 1) g lg want cold cost)
    (h : sf_PH V n L k g lg want t d cold cost S) (hR : sf_RP L n V B) (hpk : ∀ j, j < k + 1 → V (sf_rf (sf_rf (sf_rf 0 10) 1) 0) j = sf_pco n (sf_upn pk k x j)) (hl : ∀ u, u < n → V (sf_rf (sf_rf (sf_rf 0 10) 3) 0) (5 * k + u) = l u) (hv : sf_pfx n S x = v) (hvn : v < n) (hcx : sf_pcs n cost x = cx) (hc9 : 0 ≤ cx ∧ cx ≤ 9) (hdx : sf_pdc x = dx) (hd1 : 0 ≤ dx ∧ dx ≤ 1) :
    ∃ V', sf_FP k V V' ∧ sf_RP L n V' (if t + cx ≤ lg ∧ sf_b3 (t + cx) (d + dx) B ∧ cx < l v then (if sf_pal n want r (sf_pch n g cold S x) = true then sf_c3 (6 * n + 1) lg (sf_pcs n cost) sf_pdc (sf_pfx n) (sf_pch n g cold) (sf_pal n want) r (k + 1) (sf_pch n g cold S x) (t + cx) (d + dx) (sf_upn pk k x) B else B) else B) ∧
      (∀ u, u < n → V' (sf_rf (sf_rf (sf_rf 0 10) 3) 0) (5 * k + u) = (if t + cx ≤ lg ∧ sf_b3 (t + cx) (d + dx) B ∧ cx < l v then sf_upi l v cx else l) u) ∧
      ∀ D K, 2 * r + 7 ≤ D → sf_wp D none 20 0 [some (.inr (.inl (some (sf_rf 0 10)))), some (.inr (.inl (some (sf_rf 0 1)))), some (.inl (k : Int)), some (.inl (v : Int)), some (.inl cx), some (.inl t), some (.inl (d + dx)), none, none, none] [] (sf_E V) K = K none (sf_E V') := by
  have x10 := sf_c11_10 sf_x
  have x1 := sf_c11_1 sf_x
  have p0 := sf_c5_0 x10
  have p3 := sf_c5_3 x10
  obtain ⟨m1, m2, m3, m4⟩ := sf_pxLen
  have ht := h.t
  have hd := h.d
  have hb := h.b
  have i15 : 5 * k + v < 15 := by omega
  have widx : sf_w (sf_w ((k : Int) * 5) + (v : Int)) = ((5 * k + v : Nat) : Int) := by
    rw [sf_w_small (n := (k : Int) * 5) (by omega), sf_w_small (by omega)]
    omega
  have wt : sf_w (t + cx) = t + cx := sf_w_small (by omega)
  have rdl : sf_rd V (sf_rf (sf_rf (sf_rf 0 10) 3) 0) ((5 * k + v : Nat) : Int) = l v := by
    rw [sf_rd_nat (by omega)]
    exact hl v hvn
  have head : ∀ D K, 2 * r + 7 ≤ D → sf_wp D none 20 0 [some (.inr (.inl (some (sf_rf 0 10)))), some (.inr (.inl (some (sf_rf 0 1)))), some (.inl (k : Int)), some (.inl (v : Int)), some (.inl cx), some (.inl t), some (.inl (d + dx)), none, none, none] [] (sf_E V) K = if t + cx ≤ lg ∧ sf_b3 (t + cx) (d + dx) B ∧ cx < l v then sf_wp D none 20 49 [some (.inr (.inl (some (sf_rf 0 10)))), some (.inr (.inl (some (sf_rf 0 1)))), some (.inl (k : Int)), some (.inl (v : Int)), some (.inl cx), some (.inl t), some (.inl (d + dx)), some (.inl (t + cx)), some (.inl ((5 * k + v : Nat) : Int)), none] [] (sf_E V) K else K none (sf_E V) := fun D K hD => by
    obtain ⟨e, rfl⟩ : ∃ e, D = e + 1 := ⟨D - 1, by omega⟩
    simp only [q20_0, q20_2, q20_4, q20_5, q20_7, q20_8, q20_9, q20_10, q20_11, q20_12, q20_14, q20_16, q20_17, x10, hb]
    rw [wt, widx]
    by_cases q1 : t + cx ≤ lg
    · rw [q20_20, if_neg (by omega)]
      simp only [q20_23, q20_24, q20_26, q20_28, x10]
      rw [s21 hR]
      simp only [q20_31, Option.toList_some, Option.toList_none, List.cons_append, List.nil_append]
      by_cases q2 : sf_b3 (t + cx) (d + dx) B
      · rw [if_pos q2, if_neg (by decide)]
        simp only [q20_34, q20_36, q20_37, q20_40, q20_42, x10, p3, s31, rdl, Option.toList_some, Option.toList_none, List.cons_append, List.nil_append]
        rw [q20_45]
        by_cases q3 : cx < l v
        · rw [if_pos q3, if_pos ⟨q1, q2, q3⟩]
        · rw [if_neg q3, if_neg (fun z => q3 z.2.2), q20_48]
      · rw [if_neg q2, if_pos rfl, if_neg (fun z => q2 z.2.1), q20_48]
    · rw [q20_20, if_pos (by omega), if_neg (fun z => q1 z.1), q20_48]
  by_cases run : t + cx ≤ lg ∧ sf_b3 (t + cx) (d + dx) B ∧ cx < l v
  case neg =>
    simp only [if_neg run] at head ⊢
    exact ⟨V, sf_FP_refl, hR, hl, head⟩
  simp only [if_pos run] at head ⊢
  have ck := sf_pxCls (show k < 4 by omega)
  have ck1 := sf_pxCls (show k + 1 < 4 by omega)
  have ee : ∀ t, sf_rf (sf_rf (sf_rf (sf_rf 0 10) 0) 0) t = sf_px t := fun _ => rfl
  generalize hV1 : sf_upd V (sf_rf (sf_rf (sf_rf 0 10) 3) 0) (5 * k + v) cx = V1
  have nV1 : ∀ a, ¬ a = sf_rf (sf_rf (sf_rf 0 10) 3) 0 → V1 a = V a := fun a q => by rw [← hV1, sf_upd_ne q]
  have F1 : sf_FP k V V1 := ⟨fun a _ _ _ q _ => nV1 a q, fun j _ _ _ => by rw [nV1 _ (by simp [sf_self2_rf, sf_self3_rf])], fun j _ => by rw [nV1 _ (by simp [sf_rf_inj])], fun j hj => by rw [← hV1, sf_upd_ne2 (by omega)]⟩
  have h1 := sf_PH_FP h F1
  generalize hV2 : sf_setS V1 (sf_px (k + 1)) (sf_pch n g cold S x) = V2
  have F2 : sf_FP k V1 V2 := by
    refine ⟨fun a _ _ _ _ q => ?_, fun j _ _ _ => ?_, fun j _ => ?_, fun j _ => ?_⟩
    · obtain ⟨t1, t2, t3, t4⟩ := q (k + 1) (by omega) (by omega)
      rw [← hV2, sf_setS_ne3 t1 t2 t3 t4]
    · rw [← hV2, sf_setS_ne3 (by simp [sf_px, sf_rf_inj, sf_0ne_rf]) (by simp [sf_px, sf_rf_inj, sf_0ne_rf]) (by simp [sf_px, sf_rf_inj, sf_0ne_rf]) (by simp [sf_px, sf_rf_inj, sf_0ne_rf])]
    · rw [← hV2, sf_setS_ne3 (by simp [sf_px, sf_rf_inj, sf_self_rf, sf_0ne_rf]) (by simp [sf_px, sf_rf_inj, sf_self2_rf, sf_0ne_rf]) (by simp [sf_px, sf_rf_inj, sf_self2_rf, sf_0ne_rf]) (by simp [sf_px, sf_rf_inj, sf_self2_rf, sf_0ne_rf])]
    · rw [← hV2, sf_setS_ne3 (by simp [sf_px, sf_rf_inj, sf_self_rf, sf_0ne_rf]) (by simp [sf_px, sf_rf_inj, sf_self2_rf, sf_0ne_rf]) (by simp [sf_px, sf_rf_inj, sf_self2_rf, sf_0ne_rf]) (by simp [sf_px, sf_rf_inj, sf_self2_rf, sf_0ne_rf])]
  have F12 := sf_FP_trans F1 F2
  have row2 : ∀ j, j < 20 → j ≠ 3 → sf_getS V2 (sf_px (k + 1)) j = sf_pch n g cold S x j := fun j j1 j2 => by
    rw [← hV2]
    exact sf_getS_set j1 j2
  have RP2 : sf_RP L n V2 B := by
    have eP : V2 (sf_rf 0 10) = V (sf_rf 0 10) := by
      rw [← hV2, sf_setS_ne3 (by simp [sf_px, sf_rf_inj, sf_0ne_rf]) (by simp [sf_px, sf_rf_inj, sf_0ne_rf]) (by simp [sf_px, sf_rf_inj, sf_0ne_rf]) (by simp [sf_px, sf_rf_inj, sf_0ne_rf]), nV1 _ (by simp [sf_rf_inj, sf_0ne_rf])]
    have eC : V2 (sf_rf (sf_rf (sf_rf 0 10) 2) 0) = V (sf_rf (sf_rf (sf_rf 0 10) 2) 0) := by
      rw [← hV2, sf_setS_ne3 (by simp [sf_px, sf_rf_inj, sf_self_rf, sf_0ne_rf]) (by simp [sf_px, sf_rf_inj, sf_self2_rf, sf_0ne_rf]) (by simp [sf_px, sf_rf_inj, sf_self2_rf, sf_0ne_rf]) (by simp [sf_px, sf_rf_inj, sf_self2_rf, sf_0ne_rf]), nV1 _ (by simp [sf_rf_inj])]
    unfold sf_RP
    rw [eP, eC]
    exact hR
  have l2 : ∀ u, u < n → V2 (sf_rf (sf_rf (sf_rf 0 10) 3) 0) (5 * k + u) = sf_upi l v cx u := fun u hu => by
    rw [← hV2, sf_setS_ne3 (by simp [sf_px, sf_rf_inj, sf_self_rf, sf_0ne_rf]) (by simp [sf_px, sf_rf_inj, sf_self2_rf, sf_0ne_rf]) (by simp [sf_px, sf_rf_inj, sf_self2_rf, sf_0ne_rf]) (by simp [sf_px, sf_rf_inj, sf_self2_rf, sf_0ne_rf]), ← hV1]
    unfold sf_upi
    by_cases q : u = v
    · rw [if_pos q, q, sf_upd_eq]
    · rw [if_neg q, sf_upd_ne2 (by omega)]
      exact hl u hu
  have mid : ∀ D K, 2 * r + 7 ≤ D → sf_wp D none 20 49 [some (.inr (.inl (some (sf_rf 0 10)))), some (.inr (.inl (some (sf_rf 0 1)))), some (.inl (k : Int)), some (.inl (v : Int)), some (.inl cx), some (.inl t), some (.inl (d + dx)), some (.inl (t + cx)), some (.inl ((5 * k + v : Nat) : Int)), none] [] (sf_E V) K = if sf_pal n want r (sf_pch n g cold S x) = true then sf_wp D none 20 106 [some (.inr (.inl (some (sf_rf 0 10)))), some (.inr (.inl (some (sf_rf 0 1)))), some (.inl (k : Int)), some (.inl (v : Int)), some (.inl cx), some (.inl t), some (.inl (d + dx)), some (.inl (t + cx)), some (.inl ((5 * k + v : Nat) : Int)), some (.inr (.inl (some (sf_px (k + 1)))))] [] (sf_E V2) K else K none (sf_E V2) := fun D K hD => by
    obtain ⟨e, rfl⟩ : ∃ e, D = e + 4 := ⟨D - 4, by omega⟩
    have wr1 : sf_wr V (sf_rf (sf_rf (sf_rf 0 10) 3) 0) ((5 * k + v : Nat) : Int) cx = V1 := by
      rw [sf_wr_nat (by omega), hV1]
    simp only [q20_49, q20_50, q20_53, q20_55, q20_57, x10, p3, s32, wr1, Option.toList_some, Option.toList_none, List.cons_append, List.nil_append]
    simp only [q20_60, q20_61, q20_64, q20_65, q20_66, q20_67, x10, p0]
    rw [sf_wS (by omega), s36 p0 (by omega), ee]
    simp only [q20_70, q20_72, q20_74, q20_75, q20_78, q20_79, x10, p0, Option.toList_some, Option.toList_none, List.cons_append, List.nil_append]
    rw [s36 p0 (by omega), ee]
    simp only [q20_82, ck, ck1, Option.toList_some, Option.toList_none, List.cons_append, List.nil_append]
    rw [s39 ck1 ck (by simp [sf_px, sf_rf_inj]), sf_setS_ext h1.r]
    simp only [q20_85, q20_87, q20_88, q20_89, ck1, x1, Option.toList_some, Option.toList_none, List.cons_append, List.nil_append]
    have hrh := h.o.h
    rw [s44 (d := e + 1) (n := n) (t := v) ck1 x1 h1.pn hn5 (by omega) (by rw [h1.g]; exact hg) (by rw [h1.pc]; exact hc) h.o.w (by omega)]
    have ep : sf_goes n (V1 (sf_rf 0 1) 6) (V1 (sf_si (sf_rf 0 1))) S v = sf_pch n g cold S x := by
      unfold sf_pch
      rw [h1.g, h1.pc, hv]
    rw [ep, hV2]
    have h2 := sf_PH_FP h1 F2
    simp only [q20_92, q20_93, q20_94, q20_96, q20_97, x1, h2.pn, Option.toList_some, Option.toList_none, List.cons_append, List.nil_append]
    simp only [q20_100, x10]
    rw [s22 (d := e + 1) (L := L) (r := r) ck1 hn5 h2.l h2.a (by omega) (by omega)]
    simp only [q20_103, Option.toList_some, Option.toList_none, List.cons_append, List.nil_append]
    have ea : sf_pal n want r (sf_getS V2 (sf_px (k + 1))) = sf_pal n want r (sf_pch n g cold S x) := by
      unfold sf_pal
      rw [sf_frz_congr n (fun p hp => row2 (p + 4) (by omega) (by omega)), row2 0 (by decide) (by decide)]
    rw [ea]
    by_cases q : sf_pal n want r (sf_pch n g cold S x) = true
    · rw [if_pos q, if_pos q, if_neg (by decide)]
    · rw [if_neg q, if_neg q, if_pos rfl, q20_118]
  by_cases al : sf_pal n want r (sf_pch n g cold S x) = true
  case neg =>
    simp only [if_neg al] at mid ⊢
    exact ⟨V2, F12, RP2, l2, fun D K hD => by rw [head D K hD, mid D K hD]⟩
  simp only [if_pos al] at mid ⊢
  have ho1 := sf_FP_home F12
  have rg : sf_rok n (90099 + ((k + 1 : Nat) : Int)) (sf_pch n g cold S x) := by
    rw [show (90099 : Int) + ((k + 1 : Nat) : Int) = 90099 + k + 1 by omega]
    unfold sf_pch
    rw [hv]
    exact sf_rok_goes h.o hn5 hvn hg.1 (fun p hp => (hc p (by omega)).1)
  obtain ⟨V3, F3, RP3, z⟩ := IH V2 (sf_pch n g cold S x) (t + cx) (d + dx) (sf_upn pk k x) B (sf_PH.mk (by rw [F12.2.1 4 (by decide) (by decide) (by decide)]; exact h.l) (by rw [F12.2.1 5 (by decide) (by decide) (by decide)]; exact h.a) (by rw [F12.2.1 6 (by decide) (by decide) (by decide)]; exact h.b) (by rw [ho1.1]; exact h.pn) (by rw [ho1.1]; exact h.g) (by unfold sf_si; rw [ho1.2]; exact h.pc) (by unfold sf_la; rw [ho1.2]; exact h.e) row2 rg (by omega) (by omega)) RP2 (fun j hj => by
    rw [← hV2, sf_setS_ne3 (by simp [sf_px, sf_rf_inj, sf_self_rf, sf_0ne_rf]) (by simp [sf_px, sf_rf_inj, sf_self2_rf, sf_0ne_rf]) (by simp [sf_px, sf_rf_inj, sf_self2_rf, sf_0ne_rf]) (by simp [sf_px, sf_rf_inj, sf_self2_rf, sf_0ne_rf]), nV1 _ (by simp [sf_rf_inj])]
    exact hpk j hj) run.2.1
  refine ⟨V3, sf_FP_trans F12 (sf_FP_le F3 (by omega)), RP3, fun u hu => by rw [F3.2.2.2 _ (by omega)]; exact l2 u hu, fun D K hD => ?_⟩
  rw [head D K hD, mid D K hD]
  obtain ⟨e, rfl⟩ : ∃ e, D = e + 1 := ⟨D - 1, by omega⟩
  simp only [q20_106, q20_107, q20_108, q20_109, q20_110, q20_111, q20_113]
  rw [sf_wS (by omega)]
  simp only [q20_115, x10]
  rw [z e _ (by omega)]
  simp only [q20_118, Option.toList_some, Option.toList_none, List.cons_append, List.nil_append]
end SFP52

/-! plans: the class goes on behind one thing -/
section SFP52B
variable {V X U : sf_MV} {n nx c ce cf cg : Nat}
theorem s20 {L r k x : Nat} {g lg want t d cx dx : Int} {cold cost S : Nat → Int} {pk : Nat → Nat} {B : Int × Int × (Nat → Nat)} {v : Nat} (hn : 0 < n) (hn5 : n ≤ 5) (hg : 0 ≤ g ∧ g ≤ 20) (hc : ∀ p, p < 5 → 0 ≤ cold p ∧ cold p ≤ 9) (hk : k + 1 + r = L) (hL : L ≤ 3) (IH : sf_SR n L r (k + 1) g lg want cold cost)
    (h : sf_PH V n L k g lg want t d cold cost S) (hR : sf_RP L n V B) (hpk : ∀ j, j < k + 1 → V (sf_rf (sf_rf (sf_rf 0 10) 1) 0) j = sf_pco n (sf_upn pk k x j)) (hv : sf_pfx n S x = v) (hvn : v < n) (hcx : 0 ≤ cx ∧ cx ≤ 9) (hdx : 0 ≤ dx ∧ dx ≤ 1) :
    ∃ V', sf_FP k V V' ∧ (∀ j, j < 5 * (k + 1) → V' (sf_rf (sf_rf (sf_rf 0 10) 3) 0) j = V (sf_rf (sf_rf (sf_rf 0 10) 3) 0) j ∧ V' (sf_rf (sf_rf (sf_rf 0 10) 4) 0) j = V (sf_rf (sf_rf (sf_rf 0 10) 4) 0) j) ∧ sf_RP L n V' (if t + cx ≤ lg ∧ sf_b3 (t + cx) (d + dx) B ∧ sf_pal n want r (sf_pch n g cold S x) = true then sf_c4 (6 * n + 1) lg (sf_pcs n cost) sf_pdc (sf_pww n cost) (sf_pch n g cold) (sf_pal n want) r (k + 1) (sf_pch n g cold S x) (t + cx) (d + dx) (sf_upn pk k x) B else B) ∧
      ∀ D K, 2 * r + 7 ≤ D → sf_wp D none 20 0 [some (.inr (.inl (some (sf_rf 0 10)))), some (.inr (.inl (some (sf_rf 0 1)))), some (.inl (k : Int)), some (.inl (v : Int)), some (.inl (t + cx)), some (.inl (d + dx)), none] [] (sf_E V) K = K none (sf_E V') := by
  have x10 := sf_c11_10 sf_x
  have x1 := sf_c11_1 sf_x
  have p0 := sf_c5_0 x10
  obtain ⟨m1, m2, m3, m4, m5⟩ := sf_pxLen
  have ht := h.t
  have hd := h.d
  have hb := h.b
  have head : ∀ D K, 2 * r + 7 ≤ D → sf_wp D none 20 0 [some (.inr (.inl (some (sf_rf 0 10)))), some (.inr (.inl (some (sf_rf 0 1)))), some (.inl (k : Int)), some (.inl (v : Int)), some (.inl (t + cx)), some (.inl (d + dx)), none] [] (sf_E V) K = if t + cx ≤ lg ∧ sf_b3 (t + cx) (d + dx) B then sf_wp D none 20 21 [some (.inr (.inl (some (sf_rf 0 10)))), some (.inr (.inl (some (sf_rf 0 1)))), some (.inl (k : Int)), some (.inl (v : Int)), some (.inl (t + cx)), some (.inl (d + dx)), none] [] (sf_E V) K else K none (sf_E V) := fun D K hD => by
    obtain ⟨e, rfl⟩ : ∃ e, D = e + 1 := ⟨D - 1, by omega⟩
    simp only [q20_0, q20_2, q20_3, x10, hb]
    rw [q20_6]
    by_cases q1 : t + cx ≤ lg
    · rw [if_neg (by omega)]
      simp only [q20_9, q20_10, q20_12]
      simp only [q20_14, x10]
      rw [s21 hR]
      simp only [Option.toList_some, Option.toList_none, List.cons_append, List.nil_append]
      rw [q20_17]
      by_cases q2 : sf_b3 (t + cx) (d + dx) B
      · rw [if_pos q2, if_neg (by decide), if_pos ⟨q1, q2⟩]
      · rw [if_neg q2, if_pos rfl, if_neg (fun z => q2 z.2), q20_20]
    · rw [if_pos (by omega), if_neg (fun z => q1 z.1), q20_20]
  by_cases run : t + cx ≤ lg ∧ sf_b3 (t + cx) (d + dx) B
  case neg =>
    simp only [if_neg run] at head
    rw [if_neg (fun z => run ⟨z.1, z.2.1⟩)]
    exact ⟨V, sf_FP_refl, fun _ _ => ⟨rfl, rfl⟩, hR, head⟩
  simp only [if_pos run] at head
  have ck := sf_pxCls (show k < 4 by omega)
  have ck1 := sf_pxCls (show k + 1 < 4 by omega)
  have ee : ∀ t, sf_rf (sf_rf (sf_rf (sf_rf 0 10) 0) 0) t = sf_px t := fun _ => rfl
  generalize hV2 : sf_setS V (sf_px (k + 1)) (sf_pch n g cold S x) = V2
  have nP : V2 (sf_rf 0 10) = V (sf_rf 0 10) := by rw [← hV2, sf_setS_ne3 (by simp [sf_px, sf_rf_inj, sf_0ne_rf]) (by simp [sf_px, sf_rf_inj, sf_0ne_rf]) (by simp [sf_px, sf_rf_inj, sf_0ne_rf]) (by simp [sf_px, sf_rf_inj, sf_0ne_rf])]
  have nR : V2 (sf_rf (sf_rf (sf_rf 0 10) 1) 0) = V (sf_rf (sf_rf (sf_rf 0 10) 1) 0) := by rw [← hV2, sf_setS_ne3 (by simp [sf_px, sf_rf_inj, sf_self_rf, sf_0ne_rf]) (by simp [sf_px, sf_rf_inj, sf_self2_rf, sf_0ne_rf]) (by simp [sf_px, sf_rf_inj, sf_self2_rf, sf_0ne_rf]) (by simp [sf_px, sf_rf_inj, sf_self2_rf, sf_0ne_rf])]
  have nB : V2 (sf_rf (sf_rf (sf_rf 0 10) 2) 0) = V (sf_rf (sf_rf (sf_rf 0 10) 2) 0) := by rw [← hV2, sf_setS_ne3 (by simp [sf_px, sf_rf_inj, sf_self_rf, sf_0ne_rf]) (by simp [sf_px, sf_rf_inj, sf_self2_rf, sf_0ne_rf]) (by simp [sf_px, sf_rf_inj, sf_self2_rf, sf_0ne_rf]) (by simp [sf_px, sf_rf_inj, sf_self2_rf, sf_0ne_rf])]
  have nT : V2 (sf_rf (sf_rf (sf_rf 0 10) 3) 0) = V (sf_rf (sf_rf (sf_rf 0 10) 3) 0) := by rw [← hV2, sf_setS_ne3 (by simp [sf_px, sf_rf_inj, sf_self_rf, sf_0ne_rf]) (by simp [sf_px, sf_rf_inj, sf_self2_rf, sf_0ne_rf]) (by simp [sf_px, sf_rf_inj, sf_self2_rf, sf_0ne_rf]) (by simp [sf_px, sf_rf_inj, sf_self2_rf, sf_0ne_rf])]
  have nC : V2 (sf_rf (sf_rf (sf_rf 0 10) 4) 0) = V (sf_rf (sf_rf (sf_rf 0 10) 4) 0) := by rw [← hV2, sf_setS_ne3 (by simp [sf_px, sf_rf_inj, sf_self_rf, sf_0ne_rf]) (by simp [sf_px, sf_rf_inj, sf_self2_rf, sf_0ne_rf]) (by simp [sf_px, sf_rf_inj, sf_self2_rf, sf_0ne_rf]) (by simp [sf_px, sf_rf_inj, sf_self2_rf, sf_0ne_rf])]
  have F2 : sf_FP k V V2 := by
    refine ⟨fun a _ _ _ _ _ q => ?_, fun j _ _ _ => by rw [nP], fun j _ => by rw [nR], fun j _ => ⟨by rw [nT], by rw [nC]⟩⟩
    obtain ⟨t1, t2, t3, t4⟩ := q (k + 1) (by omega) (by omega)
    rw [← hV2, sf_setS_ne3 t1 t2 t3 t4]
  have row2 : ∀ j, j < 20 → j ≠ 3 → sf_getS V2 (sf_px (k + 1)) j = sf_pch n g cold S x j := fun j j1 j2 => by
    rw [← hV2]
    exact sf_getS_set j1 j2
  have RP2 : sf_RP L n V2 B := by
    unfold sf_RP
    rw [nP, nB]
    exact hR
  have h2 := sf_PH_FP h F2
  have mid : ∀ D K, 2 * r + 7 ≤ D → sf_wp D none 20 21 [some (.inr (.inl (some (sf_rf 0 10)))), some (.inr (.inl (some (sf_rf 0 1)))), some (.inl (k : Int)), some (.inl (v : Int)), some (.inl (t + cx)), some (.inl (d + dx)), none] [] (sf_E V) K = if sf_pal n want r (sf_pch n g cold S x) = true then sf_wp D none 20 67 [some (.inr (.inl (some (sf_rf 0 10)))), some (.inr (.inl (some (sf_rf 0 1)))), some (.inl (k : Int)), some (.inl (v : Int)), some (.inl (t + cx)), some (.inl (d + dx)), some (.inr (.inl (some (sf_px (k + 1)))))] [] (sf_E V2) K else K none (sf_E V2) := fun D K hD => by
    obtain ⟨e, rfl⟩ : ∃ e, D = e + 4 := ⟨D - 4, by omega⟩
    simp only [q20_21, q20_22, q20_25, q20_26, q20_27, x10]
    rw [sf_wS (by omega)]
    simp only [q20_28, p0]
    rw [s36 p0 (by omega), ee]
    simp only [q20_31, q20_33, q20_35, q20_36, q20_39, x10, Option.toList_some, Option.toList_none, List.cons_append, List.nil_append]
    simp only [q20_40, p0]
    rw [s36 p0 (by omega), ee]
    simp only [q20_43, ck1, Option.toList_some, Option.toList_none, List.cons_append, List.nil_append]
    rw [s39 ck1 ck (by simp [sf_px, sf_rf_inj]), sf_setS_ext h.r]
    simp only [q20_46, q20_48, q20_49, q20_50, ck1, Option.toList_some, Option.toList_none, List.cons_append, List.nil_append]
    have hrh := h.o.h
    rw [s44 (d := e + 1) (n := n) (t := v) ck1 x1 h.pn hn5 (by omega) (by rw [h.g]; exact hg) (by rw [h.pc]; exact hc) h.o.w (by omega)]
    have ep : sf_goes n (V (sf_rf 0 1) 6) (V (sf_si (sf_rf 0 1))) S v = sf_pch n g cold S x := by
      unfold sf_pch
      rw [h.g, h.pc, hv]
    rw [ep, hV2]
    simp only [q20_53, q20_54, q20_55, q20_57, q20_58, x1, h2.pn, Option.toList_some, Option.toList_none, List.cons_append, List.nil_append]
    simp only [q20_61, x10]
    rw [s22 (d := e + 1) (L := L) (r := r) ck1 hn5 h2.l h2.a (by omega) (by omega)]
    simp only [Option.toList_some, Option.toList_none, List.cons_append, List.nil_append]
    rw [q20_64]
    have ea : sf_pal n want r (sf_getS V2 (sf_px (k + 1))) = sf_pal n want r (sf_pch n g cold S x) := by
      unfold sf_pal
      rw [sf_frz_congr n (fun p hp => row2 (p + 4) (by omega) (by omega)), row2 0 (by decide) (by decide)]
    rw [ea]
    by_cases q : sf_pal n want r (sf_pch n g cold S x) = true
    · rw [if_pos q, if_pos q, if_neg (by decide)]
    · rw [if_neg q, if_neg q, if_pos rfl, q20_79]
  by_cases al : sf_pal n want r (sf_pch n g cold S x) = true
  case neg =>
    simp only [if_neg al] at mid
    rw [if_neg (fun z => al z.2.2)]
    exact ⟨V2, F2, fun j _ => ⟨by rw [nT], by rw [nC]⟩, RP2, fun D K hD => by rw [head D K hD, mid D K hD]⟩
  simp only [if_pos al] at mid
  rw [if_pos ⟨run.1, run.2, al⟩]
  have rg : sf_rok n (90099 + ((k + 1 : Nat) : Int)) (sf_pch n g cold S x) := by
    rw [show (90099 : Int) + ((k + 1 : Nat) : Int) = 90099 + k + 1 by omega]
    unfold sf_pch
    rw [hv]
    exact sf_rok_goes h.o hn5 hvn hg.1 (fun p hp => (hc p (by omega)).1)
  obtain ⟨V3, F3, RP3, z⟩ := IH V2 (sf_pch n g cold S x) (t + cx) (d + dx) (sf_upn pk k x) B (sf_PH.mk h2.l h2.a h2.b h2.pn h2.g h2.pc h2.e row2 rg (by omega) (by omega)) RP2 (fun j hj => by
    rw [nR]
    exact hpk j hj) run.2
  refine ⟨V3, sf_FP_trans F2 (sf_FP_le F3 (by omega)), fun j hj => ⟨by rw [(F3.2.2.2 j hj).1, nT], by rw [(F3.2.2.2 j hj).2, nC]⟩, RP3, fun D K hD => ?_⟩
  rw [head D K hD, mid D K hD]
  obtain ⟨e, rfl⟩ : ∃ e, D = e + 1 := ⟨D - 1, by omega⟩
  simp only [q20_67, q20_68, q20_69, q20_70, q20_71]
  rw [sf_wS (by omega)]
  simp only [q20_72, q20_74]
  simp only [q20_76, x10]
  rw [z e _ (by omega)]
  simp only [q20_79, Option.toList_some, Option.toList_none, List.cons_append, List.nil_append]
end SFP52B

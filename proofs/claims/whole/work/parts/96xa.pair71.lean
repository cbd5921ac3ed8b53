/-! turns, hoursOf, and both together -/
theorem sf_feMin {Q : Nat → Prop} : ∀ m, Q m → ∃ j, j ≤ m ∧ Q j ∧ ∀ b, b < j → ¬ Q b := by
  intro m
  induction m using Nat.strongRecOn with
  | _ m ih =>
    intro h
    by_cases e : ∃ b, b < m ∧ Q b
    · obtain ⟨b, hb, hq⟩ := e
      obtain ⟨j, h1, h2, h3⟩ := ih b hb hq
      exact ⟨j, by omega, h2, h3⟩
    · exact ⟨m, Nat.le_refl _, h, fun b hb hq => e ⟨b, hb, hq⟩⟩
section SFP71
variable {V : sf_MV} {n nx c ce cf cg : Nat} {S T ra ho : Nat → Int} {ag rn B : Int} {K : Option sf_V → sf_M → Prop}
theorem s147 {d i r : Nat} (R : sf_RR V n nx c ce cf cg) (Z : sf_feZ n cf B (V (sf_rf 409 11)) S) (hB : B ≤ 90099) (Y : sf_feY n cf (V (sf_rf 409 11)) S (cf * 0) (V (sf_rf 409 4))) (hi : i < r) (hr : r ≤ 100)
    (hM : sf_feB n (sf_feDar n cf (V (sf_rf 409 11)) S) (sf_feSin n cf (V (sf_rf 409 11)) S) (cf * i) (cf * r)) (hmin : ∀ b, b < r → ∀ a, a < b → ¬ sf_feB n (sf_feDar n cf (V (sf_rf 409 11)) S) (sf_feSin n cf (V (sf_rf 409 11)) S) (cf * a) (cf * b)) :
    ∃ T' ra' ho', (∀ y, y < r → ∀ p, p < 5 → ho' (5 * y + p) = (sf_feW (sf_feDar n cf (V (sf_rf 409 11)) S) (cf * y) cf p : Int)) ∧ ∀ K, sf_wp (d + 2) none 147 0 [some (.inr (.inl (some 409))), none, none] [] (sf_E V) K
    = K none (sf_E (sf_mq V T' ra' ho' ((r - i : Nat) : Int) (r : Int))) := by
  have ha := R.a
  have n5 := Z.n5
  obtain ⟨T', ra', ho', hho', e⟩ := s147_loop (d := d) R Z hB hi hr hM hmin (r - 1) 0 (V (sf_rf 409 4)) (sf_fera n (V (sf_rf 409 4)) 0 n (V (sf_rf 409 35))) (V (sf_rf 409 36)) none none (by omega) (by omega) Y (sf_feRa_z Y) (fun y hy => absurd hy (by omega))
  refine ⟨T', ra', ho', hho', fun K => ?_⟩
  have e := e K
  generalize K none (sf_E (sf_mq V T' ra' ho' ((r - i : Nat) : Int) (r : Int))) = G at e ⊢
  have f0 : sf_put V (sf_rf 409 28) 0 20 (V (sf_rf 409 4)) = sf_mq V (V (sf_rf 409 4)) (V (sf_rf 409 35)) (V (sf_rf 409 36)) (V 409 37) (V 409 38) := by
    unfold sf_mq
    rw [sf_mqb_self]
  simp only [q147_0, q147_1, sf_y]
  rw [s122, f0]
  simp only [q147_4, q147_5, q147_6, sf_y, Option.toList_some, Option.toList_none, List.cons_append, List.nil_append]
  refine Eq.trans (s145 (d := d + 1) (to := 0) ha.yn n5 (by omega)) ?_
  simp only [q147_9, q147_10, q147_11, q147_14, q147_15, q147_16, sf_y, sf_mq_ua, sf_mq_ur, Option.toList_some, Option.toList_none, List.cons_append, List.nil_append]
  exact e
theorem s148_loop {d i c' p : Nat} {D : Nat → Nat} {L : Nat} (hp : p < 5) (hc : i + c' ≤ 100) (hL : L ≤ 20) (hho : ∀ y, y < i + c' → ho (5 * y + p) = (sf_feW D (L * y) L p : Int)) : ∀ m z, c' - z = m → z ≤ c' →
    sf_wp d none 148 12 [some (.inr (.inl (some 409))), some (.inl (p : Int)), some (.inl (sf_feW D (L * i) (L * z) p : Int)), some (.inl ((i + z : Nat) : Int))] [] (sf_E (sf_mq V T ra ho (c' : Int) ((i + c' : Nat) : Int))) K
    = K (some (.inl (sf_feW D (L * i) (L * c') p : Int))) (sf_E (sf_mq V T ra ho (c' : Int) ((i + c' : Nat) : Int))) := by
  have y36 := sf_c12_36 sf_y
  have r := sf_mq_r (V := V) (T := T) (ra := ra) (ho := ho) (ag := (c' : Int)) (rn := ((i + c' : Nat) : Int))
  intro m
  induction m with
  | zero =>
    intro z hm hz
    have e : z = c' := by omega
    subst e
    simp only [q148_12, q148_13, q148_14, q148_17, sf_y, r]
    rw [if_pos (by omega)]
    simp only [q148_39, q148_40]
  | succ m ih =>
    intro z hm hz
    have ih := ih (z + 1) (by omega) (by omega)
    have b : 5 * (i + z) + p < 500 := by omega
    have w : sf_w (sf_w (5 * ((i + z : Nat) : Int)) + (p : Int)) = ((5 * (i + z) + p : Nat) : Int) := by
      rw [sf_w_small (n := 5 * ((i + z : Nat) : Int)) (by omega), sf_w_small (by omega)]
      omega
    have rh := sf_mq_ho (V := V) (T := T) (ra := ra) (ho := ho) (ag := (c' : Int)) (rn := ((i + c' : Nat) : Int)) b
    rw [hho _ (by omega)] at rh
    have eW : sf_feW D (L * i) (L * (z + 1)) p = sf_feW D (L * i) (L * z) p + sf_feW D (L * (i + z)) L p := by
      rw [Nat.mul_succ, sf_feW_add, Nat.mul_add]
    have b1 : sf_feW D (L * i) (L * z) p ≤ L * z := sf_feC_bd _
    have b2 : sf_feW D (L * (i + z)) L p ≤ L := sf_feC_bd _
    have b3 : L * z ≤ 20 * 100 := Nat.mul_le_mul hL (by omega)
    have wS : sf_w ((sf_feW D (L * i) (L * z) p : Int) + (sf_feW D (L * (i + z)) L p : Int)) = (sf_feW D (L * i) (L * (z + 1)) p : Int) := by
      rw [sf_w_small (by omega), eW]
      omega
    simp only [q148_12, q148_13, q148_14, q148_17, q148_20, q148_21, q148_22, q148_25, q148_26, q148_27, q148_28, q148_29, q148_30, q148_31, q148_32, q148_33, sf_y, y36, sf_y36, r, w, sf_bd, b, true_and, Int.toNat_natCast, rh, wS]
    rw [if_neg (by omega), q148_36, sf_wS (by omega)]
    exact ih
theorem s148 {d i c' p : Nat} {D : Nat → Nat} {L : Nat} (hp : p < 5) (hc : i + c' ≤ 100) (hL : L ≤ 20) (hho : ∀ y, y < i + c' → ho (5 * y + p) = (sf_feW D (L * y) L p : Int)) :
    sf_wp d none 148 0 [some (.inr (.inl (some 409))), some (.inl (p : Int)), none, none] [] (sf_E (sf_mq V T ra ho (c' : Int) ((i + c' : Nat) : Int))) K
    = K (some (.inl (sf_feW D (L * i) (L * c') p : Int))) (sf_E (sf_mq V T ra ho (c' : Int) ((i + c' : Nat) : Int))) := by
  have r := sf_mq_r (V := V) (T := T) (ra := ra) (ho := ho) (ag := (c' : Int)) (rn := ((i + c' : Nat) : Int))
  have g := sf_mq_a (V := V) (T := T) (ra := ra) (ho := ho) (ag := (c' : Int)) (rn := ((i + c' : Nat) : Int))
  have w : sf_w (((i + c' : Nat) : Int) - (c' : Int)) = ((i + 0 : Nat) : Int) := by rw [sf_w_small (by omega)]; omega
  simp only [q148_0, q148_1, q148_2, q148_3, q148_6, q148_7, q148_10, q148_11, sf_y, r, g, w]
  exact s148_loop hp hc hL hho c' 0 (by omega) (by omega)
theorem sf_fe50_k {k : Nat} (h : ¬ (4 ≤ k ∧ k < 9)) : sf_fe50 S k = S k := if_neg h
theorem sf_rok_50 (h : sf_rok n B S) : sf_rok n B (sf_fe50 S) := by
  have h9 : ∀ p, sf_fe50 S (p + 9) = S (p + 9) := fun p => sf_fe50_k (by omega)
  have h14 : ∀ p, sf_fe50 S (p + 14) = S (p + 14) := fun p => sf_fe50_k (by omega)
  have h0 : sf_fe50 S 0 = S 0 := sf_fe50_k (by omega)
  have h1 : sf_fe50 S 1 = S 1 := sf_fe50_k (by omega)
  have h2 : sf_fe50 S 2 = S 2 := sf_fe50_k (by omega)
  refine sf_rok.mk ?_ ?_ ?_ (fun p hp => ?_) ?_ ?_ ?_ ?_
  · rw [h0]; exact h.d
  · rw [h1]; exact h.l
  · rw [h2]; exact h.h
  · unfold sf_fe50
    rw [if_pos (by omega)]
    omega
  · simp only [h9, h2]; exact h.i
  · simp only [h9]; exact h.a
  · simp only [h9, h0]; exact h.m
  · simp only [h14]; exact h.r
theorem sf_RR_mr (R : sf_RR V n nx c ce cf cg) {sa da : Nat → Int} {h l p : Int} : sf_RR (sf_mr V S sa da h l p) n nx c ce cf cg := by
  refine sf_RR_frame R (fun j hj _ => ?_) (fun j i hj _ => ?_) (fun j i k hj _ => ?_) (fun i => ?_) (fun i j => ?_) (fun i => ?_) (fun i j => ?_) (fun j _ => ?_) ?_ (fun j _ => ?_)
  · have : ¬ j = 12 := by omega
    rw [sf_mr_ne] <;> simp [sf_rf_inj, sf_0ne_rf, this]
  · have : ¬ j = 12 := by omega
    rw [sf_mr_ne] <;> simp [sf_rf_inj, sf_0ne_rf, sf_rf_ne0, this]
  · have : ¬ j = 12 := by omega
    rw [sf_mr_ne] <;> simp [sf_rf_inj, sf_0ne_rf, sf_rf_ne0, this]
  · unfold sf_rg
    rw [sf_mr_ne] <;> simp [sf_rf_inj, sf_0ne_rf, sf_rf_ne0]
  · unfold sf_rg
    rw [sf_mr_ne] <;> simp [sf_rf_inj, sf_0ne_rf, sf_rf_ne0]
  · unfold sf_sh
    rw [sf_mr_ne] <;> simp [sf_rf_inj, sf_0ne_rf, sf_rf_ne0]
  · unfold sf_sh
    rw [sf_mr_ne] <;> simp [sf_rf_inj, sf_0ne_rf, sf_rf_ne0]
  · rw [sf_mr_ne] <;> simp [sf_Yne_rf]
  · rw [sf_mr_ne] <;> simp [sf_0ne_rf]
  · rw [sf_mr_ne] <;> simp [sf_rf_inj, sf_Yne_rf]
theorem sf_RR_mq (R : sf_RR V n nx c ce cf cg) : sf_RR (sf_mq V T ra ho ag rn) n nx c ce cf cg := by
  refine sf_RR_ref R (fun a h0 hl => ?_) (fun j hj => sf_mq_y (by omega) (by omega)) (fun j hj => sf_mq_k (by omega) (by omega) (by omega))
  funext i
  unfold sf_mq
  rw [sf_put_ne (hl 28)]
  unfold sf_mqb
  rw [if_neg (fun z => h0 z.1), if_neg (fun z => h0 z.1), if_neg (fun z => hl 35 z.1), if_neg (fun z => hl 36 z.1)]
theorem sf_mr_hi {sa da : Nat → Int} {h l p : Int} {k : Nat} : sf_mr V S sa da h l p (sf_rf 409 k) = V (sf_rf 409 k) := by
  rw [sf_mr_ne] <;> simp [sf_rf_inj, sf_Yne_rf]
theorem sf_mr_hy {sa da : Nat → Int} {h l p : Int} : sf_mr V S sa da h l p 409 = V 409 := by
  rw [sf_mr_ne] <;> simp [sf_Yne_rf]
end SFP71

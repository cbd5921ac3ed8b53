/-! turns: rounds -/
theorem sf_feC_add {f : Nat → Bool} {a : Nat} : ∀ b, sf_feC f (a + b) = sf_feC f a + sf_feC (fun k => f (a + k)) b := by
  intro b
  induction b with
  | zero => rfl
  | succ b ih =>
    show sf_feC f (a + b) + (if f (a + b) = true then 1 else 0) = sf_feC f a + (sf_feC (fun k => f (a + k)) b + (if f (a + b) = true then 1 else 0))
    omega
theorem sf_feW_add {D : Nat → Nat} {a m1 m2 p : Nat} : sf_feW D a (m1 + m2) p = sf_feW D a m1 p + sf_feW D (a + m1) m2 p := by
  unfold sf_feW
  rw [sf_feC_add]
  congr 1
  exact sf_feC_congr _ (fun x _ => by rw [show a + (m1 + x) = a + m1 + x by omega])
section SFP70
variable {V : sf_MV} {n nx c ce cf cg : Nat} {S T ra ho : Nat → Int} {ag rn B : Int} {K : Option sf_V → sf_M → Prop}
theorem s147_lines {d x : Nat} (R : sf_RR V n nx c ce cf cg) (Z : sf_feZ n cf B (V (sf_rf 409 11)) S) (hB : B ≤ 90099) (hx : x < 100) : ∀ m k T (l2 : Option sf_V), cf - k = m → k ≤ cf → sf_feY n cf (V (sf_rf 409 11)) S (cf * x + k) T →
    ∃ T' l2', sf_feY n cf (V (sf_rf 409 11)) S (cf * (x + 1)) T' ∧ ∀ K, sf_wp (d + 2) none 147 59 [some (.inr (.inl (some 409))), some (.inl (k : Int)), l2] [] (sf_E (sf_mq V T ra (sf_feho (sf_feDar n cf (V (sf_rf 409 11)) S) cf x k ho) ag ((x + 1 : Nat) : Int))) K
    = sf_wp (d + 2) none 147 149 [some (.inr (.inl (some 409))), some (.inl (cf : Int)), l2'] [] (sf_E (sf_mq V T' ra (sf_feho (sf_feDar n cf (V (sf_rf 409 11)) S) cf x cf ho) ag ((x + 1 : Nat) : Int))) K := by
  have hf := R.f
  intro m
  induction m with
  | zero =>
    intro k T l2 hm hk Y
    have e : k = cf := by omega
    subst e
    refine ⟨T, l2, by rw [Nat.mul_succ]; exact Y, fun K => ?_⟩
    have y12 : ∀ T ho, sf_mq V T ra ho ag ((x + 1 : Nat) : Int) 409 12 = V 409 12 := fun T ho => sf_mq_y (by omega) (by omega)
    simp only [q147_59, q147_60, q147_61, q147_64, sf_y, y12, hf.y]
    rw [if_pos (by omega)]
  | succ m ih =>
    intro k T l2 hm hk Y
    obtain ⟨T1, Y1, e1⟩ := s147_line (d := d) (ra := ra) (ho := ho) (ag := ag) R Z hB hx (show k < cf by omega) Y (l2 := l2)
    obtain ⟨T', l2', Y', e2⟩ := ih (k + 1) T1 (some (.inl (n : Int))) (by omega) (by omega) Y1
    exact ⟨T', l2', Y', fun K => (e1 K).trans (e2 K)⟩
theorem s147_miss {d x : Nat} {l2 : Option sf_V} (hn : V 409 0 = (n : Int)) (hn5 : n ≤ 5) (hx : x < 100) : ∀ m k, x + 1 - k = m → k ≤ x + 1 → (∀ e, k ≤ e → e < x + 1 → ¬ sf_feAl (fun i => decide (ra (6 * e + i) = ra (6 * (x + 1) + i))) (n + 1) = true) →
    sf_wp (d + 1) none 147 159 [some (.inr (.inl (some 409))), some (.inl (k : Int)), l2] [] (sf_E (sf_mq V T ra ho ag ((x + 1 : Nat) : Int))) K
    = sf_wp (d + 1) none 147 196 [some (.inr (.inl (some 409))), some (.inl ((x + 1 : Nat) : Int)), l2] [] (sf_E (sf_mq V T ra ho ag ((x + 1 : Nat) : Int))) K := by
  have r := sf_mq_r (V := V) (T := T) (ra := ra) (ho := ho) (ag := ag) (rn := ((x + 1 : Nat) : Int))
  intro m
  induction m with
  | zero =>
    intro k hm hk h
    have e : k = x + 1 := by omega
    subst e
    simp only [q147_159, q147_160, q147_161, q147_164, sf_y, r]
    rw [if_pos (by omega)]
  | succ m ih =>
    intro k hm hk h
    simp only [q147_159, q147_160, q147_161, q147_164, q147_167, q147_168, q147_169, q147_170, q147_173, sf_y, r]
    rw [if_neg (by omega), s146 (d := d) hn hn5 (by omega) (by omega), if_neg (h k (Nat.le_refl _) (by omega))]
    simp only [q147_176, Option.toList_some, Option.toList_none, List.cons_append, List.nil_append]
    rw [if_pos trivial]
    simp only [q147_190]
    rw [q147_193, sf_wS (by omega)]
    exact ih (k + 1) (by omega) (by omega) (fun e h1 h2 => h e (by omega) h2)
theorem s147_hit {d x i : Nat} {l2 : Option sf_V} (hn : V 409 0 = (n : Int)) (hn5 : n ≤ 5) (hx : x < 100) (hi : i < x + 1) (hit : sf_feAl (fun k => decide (ra (6 * i + k) = ra (6 * (x + 1) + k))) (n + 1) = true) : ∀ m k, i - k = m → k ≤ i → (∀ e, k ≤ e → e < i → ¬ sf_feAl (fun k => decide (ra (6 * e + k) = ra (6 * (x + 1) + k))) (n + 1) = true) →
    sf_wp (d + 1) none 147 159 [some (.inr (.inl (some 409))), some (.inl (k : Int)), l2] [] (sf_E (sf_mq V T ra ho ag ((x + 1 : Nat) : Int))) K
    = K none (sf_E (sf_mq V T ra ho ((x + 1 - i : Nat) : Int) ((x + 1 : Nat) : Int))) := by
  have r := sf_mq_r (V := V) (T := T) (ra := ra) (ho := ho) (ag := ag) (rn := ((x + 1 : Nat) : Int))
  intro m
  induction m with
  | zero =>
    intro k hm hk h
    have e : k = i := by omega
    subst e
    have w : sf_w (((x + 1 : Nat) : Int) - (k : Int)) = ((x + 1 - k : Nat) : Int) := by rw [sf_w_small (by omega)]; omega
    simp only [q147_159, q147_160, q147_161, q147_164, q147_167, q147_168, q147_169, q147_170, q147_173, sf_y, r]
    rw [if_neg (by omega), s146 (d := d) hn hn5 (by omega) (by omega), if_pos hit]
    simp (decide := true) only [q147_176, q147_179, q147_180, q147_181, q147_184, q147_185, q147_186, q147_189, sf_y, r, w, sf_mq_ua, if_false, Option.toList_some, Option.toList_none, List.cons_append, List.nil_append]
  | succ m ih =>
    intro k hm hk h
    simp only [q147_159, q147_160, q147_161, q147_164, q147_167, q147_168, q147_169, q147_170, q147_173, sf_y, r]
    rw [if_neg (by omega), s146 (d := d) hn hn5 (by omega) (by omega), if_neg (h k (Nat.le_refl _) (by omega))]
    simp only [q147_176, Option.toList_some, Option.toList_none, List.cons_append, List.nil_append]
    rw [if_pos trivial]
    simp only [q147_190]
    rw [q147_193, sf_wS (by omega)]
    exact ih (k + 1) (by omega) (by omega) (fun e h1 h2 => h e (by omega) h2)
/-- what the rows of ranks hold -/
def sf_feRa (n L : Nat) (bo S : Nat → Int) (x : Nat) (ra : Nat → Int) : Prop := ∀ e, e ≤ x → ra (6 * e) = (sf_feDar n L bo S (L * e) : Int) ∧ ∀ p, p < n → ra (6 * e + 1 + p) = (sf_feVr (sf_feSin n L bo S (L * e)) n p : Int)
theorem sf_feRa_al {L x a b : Nat} {bo : Nat → Int} (Z : sf_feZ n L B bo S) (h : sf_feRa n L bo S x ra) (ha : a ≤ x) (hb : b ≤ x) : sf_feAl (fun k => decide (ra (6 * a + k) = ra (6 * b + k))) (n + 1) = true ↔ sf_feB n (sf_feDar n L bo S) (sf_feSin n L bo S) (L * a) (L * b) := by
  obtain ⟨a1, a2⟩ := h a ha
  obtain ⟨b1, b2⟩ := h b hb
  rw [sf_feAl_iff, sf_feB_iff (sf_feg_fe Z)]
  refine ⟨fun h => ⟨?_, fun p hp => ?_⟩, fun h k hk => ?_⟩
  · have := h 0 (by omega)
    rw [decide_eq_true_eq, Nat.add_zero, Nat.add_zero, a1, b1] at this
    omega
  · have := h (1 + p) (by omega)
    rw [decide_eq_true_eq, ← Nat.add_assoc, ← Nat.add_assoc, a2 p hp, b2 p hp] at this
    omega
  · rw [decide_eq_true_eq]
    by_cases e : k = 0
    · rw [e, Nat.add_zero, Nat.add_zero, a1, b1, h.1]
    · obtain ⟨p, rfl⟩ : ∃ p, k = 1 + p := ⟨k - 1, by omega⟩
      rw [← Nat.add_assoc, ← Nat.add_assoc, a2 p (by omega), b2 p (by omega), h.2 p (by omega)]
theorem sf_feRa_s {L x : Nat} {bo : Nat → Int} (hn5 : n ≤ 5) (h : sf_feRa n L bo S x ra) (Y : sf_feY n L bo S (L * (x + 1)) T) : sf_feRa n L bo S (x + 1) (sf_fera n T (x + 1) n ra) := by
  intro e he
  unfold sf_fera
  by_cases q : e = x + 1
  · subst q
    refine ⟨by rw [if_pos rfl, Y.d], fun p hp => ?_⟩
    rw [if_neg (by omega), if_pos (by omega), show 6 * (x + 1) + 1 + p - (6 * (x + 1) + 1) = p by omega, sf_feVr_congr hp (fun p hp => Y.i p hp)]
  · obtain ⟨a1, a2⟩ := h e (by omega)
    refine ⟨by rw [if_neg (by omega), if_neg (by omega), a1], fun p hp => ?_⟩
    rw [if_neg (by omega), if_neg (by omega), a2 p hp]
theorem sf_feRa_z {L : Nat} {bo : Nat → Int} (Y : sf_feY n L bo S (L * 0) T) : sf_feRa n L bo S 0 (sf_fera n T 0 n ra) := by
  intro e he
  have q : e = 0 := by omega
  subst q
  unfold sf_fera
  refine ⟨by rw [if_pos rfl, Y.d], fun p hp => ?_⟩
  rw [if_neg (by omega), if_pos (by omega), show 6 * 0 + 1 + p - (6 * 0 + 1) = p by omega, sf_feVr_congr hp (fun p hp => Y.i p hp)]
theorem s147_loop {d i r : Nat} (R : sf_RR V n nx c ce cf cg) (Z : sf_feZ n cf B (V (sf_rf 409 11)) S) (hB : B ≤ 90099) (hi : i < r) (hr : r ≤ 100)
    (hM : sf_feB n (sf_feDar n cf (V (sf_rf 409 11)) S) (sf_feSin n cf (V (sf_rf 409 11)) S) (cf * i) (cf * r)) (hmin : ∀ b, b < r → ∀ a, a < b → ¬ sf_feB n (sf_feDar n cf (V (sf_rf 409 11)) S) (sf_feSin n cf (V (sf_rf 409 11)) S) (cf * a) (cf * b)) :
    ∀ m x T ra ho (l1 l2 : Option sf_V), r - x = m + 1 → x < r → sf_feY n cf (V (sf_rf 409 11)) S (cf * x) T → sf_feRa n cf (V (sf_rf 409 11)) S x ra → (∀ y, y < x → ∀ p, p < 5 → ho (5 * y + p) = (sf_feW (sf_feDar n cf (V (sf_rf 409 11)) S) (cf * y) cf p : Int)) →
    ∃ T' ra' ho', (∀ y, y < r → ∀ p, p < 5 → ho' (5 * y + p) = (sf_feW (sf_feDar n cf (V (sf_rf 409 11)) S) (cf * y) cf p : Int)) ∧ ∀ K, sf_wp (d + 2) none 147 19 [some (.inr (.inl (some 409))), l1, l2] [] (sf_E (sf_mq V T ra ho (-1) ((x + 1 : Nat) : Int))) K
    = K none (sf_E (sf_mq V T' ra' ho' ((r - i : Nat) : Int) (r : Int))) := by
  have ha := R.a
  have n5 := Z.n5
  intro m
  induction m with
  | zero =>
    intro x T ra ho l1 l2 hm hx Y hra hho
    have er : r = x + 1 := by omega
    subst er
    obtain ⟨T1, l2', Y1, e1⟩ := s147_lines (d := d) (ra := ra) (ho := ho) (ag := -1) R Z hB (show x < 100 by omega) cf 0 T l2 (by omega) (by omega) Y
    have hra1 := sf_feRa_s n5 hra Y1
    refine ⟨T1, sf_fera n T1 (x + 1) n ra, sf_feho (sf_feDar n cf (V (sf_rf 409 11)) S) cf x cf ho, fun y hy p hp => ?_, fun K => ?_⟩
    · by_cases q : y = x
      · rw [q]; exact sf_feho_at hp
      · rw [sf_feho_off (by omega)]; exact hho y (by omega) p hp
    · have r := sf_mq_r (V := V) (T := T) (ra := ra) (ho := ho) (ag := -1) (rn := ((x + 1 : Nat) : Int))
      have r2 := sf_mq_r (V := V) (T := T1) (ra := ra) (ho := sf_feho (sf_feDar n cf (V (sf_rf 409 11)) S) cf x cf ho) (ag := -1) (rn := ((x + 1 : Nat) : Int))
      have fl := s147_fill (d := d + 2) (x := x) (l2 := l2) (V := V) (T := T) (ra := ra) (ho := ho) (ag := -1) (K := K) (by omega) 5 0 (by omega) (by omega)
      rw [sf_fehz_z, sf_feho_z (D := sf_feDar n cf (V (sf_rf 409 11)) S) (L := cf)] at fl
      simp only [q147_19, q147_20, q147_23, q147_25, sf_y, r]
      rw [if_neg (by omega)]
      simp only [q147_28, q147_29]
      refine Eq.trans fl ?_
      simp only [q147_57, q147_58]
      refine Eq.trans (e1 K) ?_
      simp only [q147_149, q147_150, q147_151, q147_154, sf_y, r2]
      rw [s145 (d := d + 1) ha.yn n5 (by omega)]
      simp only [q147_157, q147_158, Option.toList_some, Option.toList_none, List.cons_append, List.nil_append]
      exact s147_hit (d := d + 1) ha.yn n5 (by omega) hi ((sf_feRa_al Z hra1 (by omega) (by omega)).mpr hM) i 0 (by omega) (by omega) (fun e _ he h => by
        have h1 := (sf_feRa_al Z hra1 (by omega) (by omega)).mp h
        refine hmin i hi e he ⟨sf_feA_trans h1.1 (sf_feA_symm hM.1), fun p hp => (h1.2 p hp).trans (hM.2 p hp).symm⟩)
  | succ m ih =>
    intro x T ra ho l1 l2 hm hx Y hra hho
    obtain ⟨T1, l2', Y1, e1⟩ := s147_lines (d := d) (ra := ra) (ho := ho) (ag := -1) R Z hB (show x < 100 by omega) cf 0 T l2 (by omega) (by omega) Y
    have hra1 := sf_feRa_s n5 hra Y1
    obtain ⟨T', ra', ho', hho', e2⟩ := ih (x + 1) T1 (sf_fera n T1 (x + 1) n ra) (sf_feho (sf_feDar n cf (V (sf_rf 409 11)) S) cf x cf ho) (some (.inl ((x + 1 : Nat) : Int))) l2' (by omega) (by omega) Y1 hra1 (fun y hy p hp => by
      by_cases q : y = x
      · rw [q]; exact sf_feho_at hp
      · rw [sf_feho_off (by omega)]; exact hho y (by omega) p hp)
    refine ⟨T', ra', ho', hho', fun K => ?_⟩
    have e2 := e2 K
    generalize K none (sf_E (sf_mq V T' ra' ho' ((r - i : Nat) : Int) (r : Int))) = G at e2 ⊢
    have r := sf_mq_r (V := V) (T := T) (ra := ra) (ho := ho) (ag := -1) (rn := ((x + 1 : Nat) : Int))
    have r2 := sf_mq_r (V := V) (T := T1) (ra := ra) (ho := sf_feho (sf_feDar n cf (V (sf_rf 409 11)) S) cf x cf ho) (ag := -1) (rn := ((x + 1 : Nat) : Int))
    have r3 := sf_mq_r (V := V) (T := T1) (ra := sf_fera n T1 (x + 1) n ra) (ho := sf_feho (sf_feDar n cf (V (sf_rf 409 11)) S) cf x cf ho) (ag := -1) (rn := ((x + 1 : Nat) : Int))
    have fl := s147_fill (d := d + 2) (x := x) (l2 := l2) (V := V) (T := T) (ra := ra) (ho := ho) (ag := -1) (K := K) (by omega) 5 0 (by omega) (by omega)
    rw [sf_fehz_z, sf_feho_z (D := sf_feDar n cf (V (sf_rf 409 11)) S) (L := cf)] at fl
    simp only [q147_19, q147_20, q147_23, q147_25, sf_y, r]
    rw [if_neg (by omega)]
    simp only [q147_28, q147_29]
    refine Eq.trans fl ?_
    simp only [q147_57, q147_58]
    refine Eq.trans (e1 K) ?_
    simp only [q147_149, q147_150, q147_151, q147_154, sf_y, r2]
    rw [s145 (d := d + 1) ha.yn n5 (by omega)]
    simp only [q147_157, q147_158, Option.toList_some, Option.toList_none, List.cons_append, List.nil_append]
    refine Eq.trans (s147_miss (d := d + 1) ha.yn n5 (by omega) (x + 1) 0 (by omega) (by omega) (fun e _ he h => hmin (x + 1) (by omega) e he ((sf_feRa_al Z hra1 (by omega) (by omega)).mp h))) ?_
    simp only [q147_196, q147_197, q147_198, q147_201, q147_202, q147_203, sf_y, r3, sf_mq_ur]
    rw [q147_206, sf_wS (by omega)]
    exact e2
end SFP70

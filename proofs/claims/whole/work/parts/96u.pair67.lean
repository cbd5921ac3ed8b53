/-! for ever: the reference's memory -/
def sf_mqb (V : sf_MV) (ra ho : Nat → Int) (ag rn : Int) : sf_MV := fun a k =>
  if a = 409 ∧ k = 37 then ag else if a = 409 ∧ k = 38 then rn else if a = sf_rf 409 35 ∧ k < 606 then ra k else if a = sf_rf 409 36 ∧ k < 500 then ho k else V a k
def sf_mq (V : sf_MV) (T ra ho : Nat → Int) (ag rn : Int) : sf_MV := sf_put (sf_mqb V ra ho ag rn) (sf_rf 409 28) 0 20 T
section SFP67
variable {V : sf_MV} {T ra ho : Nat → Int} {ag rn v : Int} {K : Option sf_V → sf_M → Prop} {a j n : Nat}
theorem sf_put_up {X : sf_MV} {s k : Nat} (h1 : ¬ a = s) : sf_upd (sf_put X s 0 20 T) a k v = sf_put (sf_upd X a k v) s 0 20 T := by
  funext b i
  by_cases e : b = a
  · subst e
    rw [sf_put_ne h1]
    show (if b = b ∧ i = k then v else sf_put X s 0 20 T b i) = (if b = b ∧ i = k then v else X b i)
    rw [sf_put_ne h1]
  · rw [sf_upd_ne e]
    unfold sf_put
    rw [sf_upd_ne e]
theorem sf_mqb_a : sf_upd (sf_mqb V ra ho ag rn) 409 37 v = sf_mqb V ra ho v rn := by
  funext a k
  unfold sf_upd sf_mqb
  by_cases e : a = 409 ∧ k = 37
  · simp only [if_pos e]
  · simp only [if_neg e]
theorem sf_mqb_r : sf_upd (sf_mqb V ra ho ag rn) 409 38 v = sf_mqb V ra ho ag v := by
  funext a k
  unfold sf_upd sf_mqb
  by_cases e : a = 409 ∧ k = 38
  · simp only [if_pos e, if_neg (show ¬ (a = 409 ∧ k = 37) from fun z => by omega)]
  · simp only [if_neg e]
theorem sf_mqb_ra (hj : j < 606) : sf_upd (sf_mqb V ra ho ag rn) (sf_rf 409 35) j v = sf_mqb V (sf_ru ra j v) ho ag rn := by
  funext a k
  unfold sf_upd sf_mqb
  by_cases e : a = sf_rf 409 35
  · subst e
    have n1 : ¬ sf_rf 409 35 = 409 := by simp [sf_rf_neY]
    simp only [n1, false_and, if_false, true_and]
    by_cases q : k = j
    · subst q
      rw [if_pos rfl, if_pos hj, sf_ru_eq]
    · rw [if_neg q, sf_ru_ne q]
  · simp only [e, false_and, if_false]
theorem sf_mqb_ho (hj : j < 500) : sf_upd (sf_mqb V ra ho ag rn) (sf_rf 409 36) j v = sf_mqb V ra (sf_ru ho j v) ag rn := by
  funext a k
  unfold sf_upd sf_mqb
  by_cases e : a = sf_rf 409 36
  · subst e
    have n1 : ¬ sf_rf 409 36 = 409 := by simp [sf_rf_neY]
    have n2 : ¬ sf_rf 409 36 = sf_rf 409 35 := by simp [sf_rf_inj]
    simp only [n1, n2, false_and, if_false, true_and]
    by_cases q : k = j
    · subst q
      rw [if_pos rfl, if_pos hj, sf_ru_eq]
    · rw [if_neg q, sf_ru_ne q]
  · simp only [e, false_and, if_false]
theorem sf_mqb_self : sf_mqb V (V (sf_rf 409 35)) (V (sf_rf 409 36)) (V 409 37) (V 409 38) = V := by
  funext a k
  unfold sf_mqb
  split
  · rename_i z; rw [z.1, z.2]
  split
  · rename_i z; rw [z.1, z.2]
  split
  · rename_i z; rw [z.1]
  split
  · rename_i z; rw [z.1]
  rfl
theorem sf_mq_ua : sf_upd (sf_mq V T ra ho ag rn) 409 37 v = sf_mq V T ra ho v rn := by
  unfold sf_mq
  rw [sf_put_up (by simp [sf_Yne_rf]), sf_mqb_a]
theorem sf_mq_ur : sf_upd (sf_mq V T ra ho ag rn) 409 38 v = sf_mq V T ra ho ag v := by
  unfold sf_mq
  rw [sf_put_up (by simp [sf_Yne_rf]), sf_mqb_r]
theorem sf_mq_ura (hj : j < 606) : sf_upd (sf_mq V T ra ho ag rn) (sf_rf 409 35) j v = sf_mq V T (sf_ru ra j v) ho ag rn := by
  unfold sf_mq
  rw [sf_put_up (by simp [sf_rf_inj]), sf_mqb_ra hj]
theorem sf_mq_uho (hj : j < 500) : sf_upd (sf_mq V T ra ho ag rn) (sf_rf 409 36) j v = sf_mq V T ra (sf_ru ho j v) ag rn := by
  unfold sf_mq
  rw [sf_put_up (by simp [sf_rf_inj]), sf_mqb_ho hj]
theorem sf_mq_ut (hj : j < 20) : sf_upd (sf_mq V T ra ho ag rn) (sf_rf 409 28) j v = sf_mq V (sf_ru T j v) ra ho ag rn := by
  funext a k
  unfold sf_mq sf_upd sf_put
  by_cases e : a = sf_rf 409 28
  · subst e
    by_cases q : k = j
    · subst q
      rw [if_pos ⟨rfl, rfl⟩, if_pos ⟨rfl, by omega, hj⟩, sf_ru_eq]
    · rw [if_neg (fun z => q z.2), sf_ru_ne q]
  · rw [if_neg (fun z => e z.1), if_neg (fun z => e z.1), if_neg (fun z => e z.1)]
theorem sf_mq_y {k : Nat} (h1 : ¬ k = 37) (h2 : ¬ k = 38) : sf_mq V T ra ho ag rn 409 k = V 409 k := by
  unfold sf_mq
  rw [sf_put_ne (by simp [sf_Yne_rf])]
  unfold sf_mqb
  rw [if_neg (fun z => h1 z.2), if_neg (fun z => h2 z.2), if_neg (fun z => by simp [sf_Yne_rf] at z), if_neg (fun z => by simp [sf_Yne_rf] at z)]
theorem sf_mq_a : sf_mq V T ra ho ag rn 409 37 = ag := by
  unfold sf_mq
  rw [sf_put_ne (by simp [sf_Yne_rf])]
  unfold sf_mqb
  rw [if_pos ⟨rfl, rfl⟩]
theorem sf_mq_r : sf_mq V T ra ho ag rn 409 38 = rn := by
  unfold sf_mq
  rw [sf_put_ne (by simp [sf_Yne_rf])]
  unfold sf_mqb
  rw [if_neg (fun z => by omega), if_pos ⟨rfl, rfl⟩]
theorem sf_mq_t (hj : j < 20) : sf_mq V T ra ho ag rn (sf_rf 409 28) j = T j := sf_put_at hj
theorem sf_mq_ra (hj : j < 606) : sf_mq V T ra ho ag rn (sf_rf 409 35) j = ra j := by
  unfold sf_mq
  rw [sf_put_ne (by simp [sf_rf_inj])]
  unfold sf_mqb
  have n1 : ¬ sf_rf 409 35 = 409 := by simp [sf_rf_neY]
  simp only [n1, false_and, if_false, true_and, hj, if_true]
theorem sf_mq_ho (hj : j < 500) : sf_mq V T ra ho ag rn (sf_rf 409 36) j = ho j := by
  unfold sf_mq
  rw [sf_put_ne (by simp [sf_rf_inj])]
  unfold sf_mqb
  have n1 : ¬ sf_rf 409 36 = 409 := by simp [sf_rf_neY]
  have n2 : ¬ sf_rf 409 36 = sf_rf 409 35 := by simp [sf_rf_inj]
  simp only [n1, n2, false_and, if_false, true_and, hj, if_true]
theorem sf_mq_k {k : Nat} (h1 : ¬ k = 28) (h2 : ¬ k = 35) (h3 : ¬ k = 36) : sf_mq V T ra ho ag rn (sf_rf 409 k) = V (sf_rf 409 k) := by
  funext i
  unfold sf_mq
  rw [sf_put_ne (by simp [sf_rf_inj, h1])]
  unfold sf_mqb
  rw [if_neg (fun z => by simp [sf_rf_neY] at z), if_neg (fun z => by simp [sf_rf_neY] at z), if_neg (fun z => by simp [sf_rf_inj, h2] at z), if_neg (fun z => by simp [sf_rf_inj, h3] at z)]
/-! ranksAt -/
def sf_feVr (s : Nat → Int) (n p : Nat) : Nat := (if s p = -1 then 0 else 1) + sf_feC (fun k => decide (¬ s k = -1 ∧ s k < s p)) n
def sf_fera (n : Nat) (T : Nat → Int) (to p : Nat) (ra : Nat → Int) : Nat → Int := fun k => if k = 6 * to then T 0 else if 6 * to + 1 ≤ k ∧ k < 6 * to + 1 + p then (sf_feVr (fun q => T (q + 9)) n (k - (6 * to + 1)) : Int) else ra k
theorem sf_fera_z {to : Nat} : sf_ru ra (6 * to) (T 0) = sf_fera n T to 0 ra := by
  funext k
  unfold sf_ru sf_fera
  by_cases e : k = 6 * to
  · rw [if_pos e, if_pos e]
  · rw [if_neg e, if_neg e, if_neg (by omega)]
theorem sf_fera_s {to p : Nat} : sf_ru (sf_fera n T to p ra) (6 * to + 1 + p) (sf_feVr (fun q => T (q + 9)) n p : Int) = sf_fera n T to (p + 1) ra := by
  funext k
  unfold sf_ru sf_fera
  by_cases e : k = 6 * to + 1 + p
  · subst e
    rw [if_pos rfl, if_neg (by omega), if_pos (by omega), show 6 * to + 1 + p - (6 * to + 1) = p by omega]
  · rw [if_neg e]
    by_cases q : k = 6 * to
    · rw [if_pos q, if_pos q]
    · rw [if_neg q, if_neg q]
      by_cases r : 6 * to + 1 ≤ k ∧ k < 6 * to + 1 + p
      · rw [if_pos r, if_pos (by omega)]
      · rw [if_neg r, if_neg (by omega)]
theorem s145_in {d to p : Nat} {b : Nat} (hn : V 409 0 = (n : Int)) (hn5 : n ≤ 5) (hp : p < n) (hb : b ≤ 1) : ∀ m k, n - k = m → k ≤ n →
    sf_wp d none 145 47 [some (.inr (.inl (some 409))), some (.inl (to : Int)), some (.inl (p : Int)), some (.inl ((b + sf_feC (fun k => decide (¬ T (k + 9) = -1 ∧ T (k + 9) < T (p + 9))) k : Nat) : Int)), some (.inl (k : Int))] [] (sf_E (sf_mq V T ra ho ag rn)) K
    = sf_wp d none 145 106 [some (.inr (.inl (some 409))), some (.inl (to : Int)), some (.inl (p : Int)), some (.inl ((b + sf_feC (fun k => decide (¬ T (k + 9) = -1 ∧ T (k + 9) < T (p + 9))) n : Nat) : Int)), some (.inl (n : Int))] [] (sf_E (sf_mq V T ra ho ag rn)) K := by
  have y28 := sf_c12_28 sf_y
  have y0 := sf_mq_y (V := V) (T := T) (ra := ra) (ho := ho) (ag := ag) (rn := rn) (k := 0) (by omega) (by omega)
  intro m
  induction m with
  | zero =>
    intro k hm hk
    have e : k = n := by omega
    subst e
    simp only [q145_47, q145_49, q145_50, q145_53, sf_y, y0, hn]
    rw [if_pos (by omega)]
  | succ m ih =>
    intro k hm hk
    have ih := ih (k + 1) (by omega) (by omega)
    have w9 : sf_w (9 + (k : Int)) = ((k + 9 : Nat) : Int) := by rw [sf_w_small (by omega)]; omega
    have wp9 : sf_w (9 + (p : Int)) = ((p + 9 : Nat) : Int) := by rw [sf_w_small (by omega)]; omega
    have b1 : k + 9 < 20 := by omega
    have b2 : p + 9 < 20 := by omega
    have t1 := sf_mq_t (V := V) (T := T) (ra := ra) (ho := ho) (ag := ag) (rn := rn) b1
    have t2 := sf_mq_t (V := V) (T := T) (ra := ra) (ho := ho) (ag := ag) (rn := rn) b2
    have eC : sf_feC (fun k => decide (¬ T (k + 9) = -1 ∧ T (k + 9) < T (p + 9))) (k + 1) = sf_feC (fun k => decide (¬ T (k + 9) = -1 ∧ T (k + 9) < T (p + 9))) k + (if decide (¬ T (k + 9) = -1 ∧ T (k + 9) < T (p + 9)) = true then 1 else 0) := rfl
    have bd := sf_feC_bd (f := fun k => decide (¬ T (k + 9) = -1 ∧ T (k + 9) < T (p + 9))) k
    simp only [q145_47, q145_49, q145_50, q145_53, q145_56, q145_57, q145_58, q145_61, q145_63, q145_65, q145_66, q145_67, q145_68, sf_y, y28, y0, hn, sf_y28, w9, sf_bd, b1, true_and, Int.toNat_natCast, t1]
    rw [if_neg (by omega)]
    by_cases e : T (k + 9) = -1
    · rw [if_neg (by rw [decide_eq_true_eq]; exact fun z => z.1 e), Nat.add_zero] at eC
      rw [eC] at ih
      rw [if_pos e]
      simp only [q145_97, q145_98, q145_99, q145_100]
      rw [q145_103, sf_wS (by omega), sf_w_small (by omega), Int.add_zero]
      exact ih
    · rw [if_neg e]
      simp only [q145_71, q145_72, q145_75, q145_77, q145_79, q145_80, q145_81, q145_82, q145_85, q145_87, q145_88, q145_89, q145_90, sf_y, y28, sf_y28, w9, wp9, sf_bd, b1, b2, true_and, Int.toNat_natCast, t1, t2]
      by_cases g : T (p + 9) ≤ T (k + 9)
      · rw [if_neg (by rw [decide_eq_true_eq]; omega), Nat.add_zero] at eC
        rw [eC] at ih
        rw [if_pos g]
        simp only [q145_97, q145_98, q145_99, q145_100]
        rw [q145_103, sf_wS (by omega), sf_w_small (by omega), Int.add_zero]
        exact ih
      · rw [if_pos (by rw [decide_eq_true_eq]; omega)] at eC
        rw [eC] at ih
        rw [if_neg g]
        simp only [q145_93, q145_94, q145_98, q145_99, q145_100]
        rw [q145_103, sf_wS (by omega), sf_wS (by omega)]
        exact ih
theorem s145_out {d to : Nat} (hn : V 409 0 = (n : Int)) (hn5 : n ≤ 5) (hto : to ≤ 100) : ∀ m p (ra : Nat → Int) (l3 l4 : Option sf_V), n - p = m → p ≤ n →
    sf_wp d none 145 17 [some (.inr (.inl (some 409))), some (.inl (to : Int)), some (.inl (p : Int)), l3, l4] [] (sf_E (sf_mq V T (sf_fera n T to p ra) ho ag rn)) K
    = K none (sf_E (sf_mq V T (sf_fera n T to n ra) ho ag rn)) := by
  have y28 := sf_c12_28 sf_y
  have y35 := sf_c12_35 sf_y
  have y0 : ∀ T ra, sf_mq V T ra ho ag rn 409 0 = V 409 0 := fun T ra => sf_mq_y (by omega) (by omega)
  intro m
  induction m with
  | zero =>
    intro p ra l3 l4 hm hp
    have e : p = n := by omega
    subst e
    simp only [q145_17, q145_18, q145_19, q145_22, sf_y, y0, hn]
    rw [if_pos (by omega)]
    simp only [q145_126]
  | succ m ih =>
    intro p ra l3 l4 hm hp
    have wp9 : sf_w (9 + (p : Int)) = ((p + 9 : Nat) : Int) := by rw [sf_w_small (by omega)]; omega
    have b2 : p + 9 < 20 := by omega
    have t2 := sf_mq_t (V := V) (T := T) (ra := sf_fera n T to p ra) (ho := ho) (ag := ag) (rn := rn) b2
    have w6 : sf_w (sf_w (sf_w (6 * (to : Int)) + 1) + (p : Int)) = ((6 * to + 1 + p : Nat) : Int) := by
      rw [sf_w_small (n := 6 * (to : Int)) (by omega), sf_w_small (n := 6 * (to : Int) + 1) (by omega), sf_w_small (by omega)]
      omega
    have b6 : 6 * to + 1 + p < 606 := by omega
    have u6 : ∀ v, sf_upd (sf_mq V T (sf_fera n T to p ra) ho ag rn) (sf_rf 409 35) (6 * to + 1 + p) v = sf_mq V T (sf_ru (sf_fera n T to p ra) (6 * to + 1 + p) v) ho ag rn := fun v => sf_mq_ura b6
    have fin : ∀ b : Nat, b ≤ 1 → b + sf_feC (fun k => decide (¬ T (k + 9) = -1 ∧ T (k + 9) < T (p + 9))) n = sf_feVr (fun q => T (q + 9)) n p →
        sf_wp d none 145 47 [some (.inr (.inl (some 409))), some (.inl (to : Int)), some (.inl (p : Int)), some (.inl (b : Int)), some (.inl 0)] [] (sf_E (sf_mq V T (sf_fera n T to p ra) ho ag rn)) K = K none (sf_E (sf_mq V T (sf_fera n T to n ra) ho ag rn)) := fun b hb hv => by
      refine Eq.trans (s145_in (d := d) (to := to) (T := T) (K := K) hn hn5 (show p < n by omega) hb n 0 (by omega) (by omega)) ?_
      rw [hv]
      simp only [q145_106, q145_107, q145_110, q145_112, q145_113, q145_114, q145_115, q145_116, q145_117, q145_118, q145_119, q145_120, sf_y, y35, sf_y35, w6, sf_bd, b6, true_and, Int.toNat_natCast, u6]
      rw [q145_123, sf_wS (by omega), sf_fera_s]
      exact ih (p + 1) ra _ _ (by omega) (by omega)
    simp only [q145_17, q145_18, q145_19, q145_22, q145_25, q145_26, q145_29, q145_31, q145_32, q145_33, q145_34, q145_35, sf_y, y28, y0, hn, sf_y28, wp9, sf_bd, b2, true_and, Int.toNat_natCast, t2]
    rw [if_neg (by omega)]
    by_cases e : T (p + 9) = -1
    · rw [if_pos e]
      simp only [q145_38, q145_39, q145_43, q145_44, q145_45]
      exact fin 0 (by omega) (by unfold sf_feVr; rw [if_pos e])
    · rw [if_neg e]
      simp only [q145_42, q145_43, q145_44, q145_45]
      exact fin 1 (by omega) (by unfold sf_feVr; rw [if_neg e])
theorem s145 {d to : Nat} (hn : V 409 0 = (n : Int)) (hn5 : n ≤ 5) (hto : to ≤ 100) :
    sf_wp d none 145 0 [some (.inr (.inl (some 409))), some (.inl (to : Int)), none, none, none] [] (sf_E (sf_mq V T ra ho ag rn)) K
    = K none (sf_E (sf_mq V T (sf_fera n T to n ra) ho ag rn)) := by
  have y28 := sf_c12_28 sf_y
  have y35 := sf_c12_35 sf_y
  have w6 : sf_w (6 * (to : Int)) = ((6 * to : Nat) : Int) := by rw [sf_w_small (by omega)]; omega
  have b6 : 6 * to < 606 := by omega
  have t0 := sf_mq_t (V := V) (T := T) (ra := ra) (ho := ho) (ag := ag) (rn := rn) (j := 0) (by omega)
  have u6 : ∀ v, sf_upd (sf_mq V T ra ho ag rn) (sf_rf 409 35) (6 * to) v = sf_mq V T (sf_ru ra (6 * to) v) ho ag rn := fun v => sf_mq_ura b6
  simp (decide := true) only [q145_0, q145_1, q145_4, q145_6, q145_7, q145_8, q145_9, q145_12, q145_13, q145_14, q145_15, q145_16, sf_y, y28, y35, sf_y28, sf_y35, w6, sf_bd, b6, true_and, Int.toNat_natCast, Int.reduceToNat, t0, u6]
  rw [sf_fera_z (n := n)]
  exact s145_out hn hn5 hto n 0 ra none none (by omega) (by omega)
/-! areAlike -/
def sf_feAl (f : Nat → Bool) : Nat → Bool
  | 0 => true
  | m + 1 => sf_feAl f m && f m
theorem sf_feAl_iff {f : Nat → Bool} : ∀ m, sf_feAl f m = true ↔ ∀ k, k < m → f k = true := by
  intro m
  induction m with
  | zero => exact ⟨fun _ k hk => absurd hk (by omega), fun _ => rfl⟩
  | succ m ih =>
    unfold sf_feAl
    rw [Bool.and_eq_true, ih]
    refine ⟨fun h k hk => ?_, fun h => ⟨fun k hk => h k (by omega), h m (by omega)⟩⟩
    by_cases e : k = m
    · rw [e]; exact h.2
    · exact h.1 k (by omega)
theorem s146_loop {d x y : Nat} (hn : V 409 0 = (n : Int)) (hn5 : n ≤ 5) (hx : x ≤ 100) (hy : y ≤ 100) : ∀ m k, n + 1 - k = m → k ≤ n + 1 →
    sf_wp d none 146 5 [some (.inr (.inl (some 409))), some (.inl (x : Int)), some (.inl (y : Int)), some (.inl (if sf_feAl (fun k => decide (ra (6 * x + k) = ra (6 * y + k))) k = true then 1 else 0)), some (.inl (k : Int))] [] (sf_E (sf_mq V T ra ho ag rn)) K
    = K (some (.inl (if sf_feAl (fun k => decide (ra (6 * x + k) = ra (6 * y + k))) (n + 1) = true then 1 else 0))) (sf_E (sf_mq V T ra ho ag rn)) := by
  have y35 := sf_c12_35 sf_y
  have y0 := sf_mq_y (V := V) (T := T) (ra := ra) (ho := ho) (ag := ag) (rn := rn) (k := 0) (by omega) (by omega)
  intro m
  induction m with
  | zero =>
    intro k hm hk
    have e : k = n + 1 := by omega
    subst e
    simp only [q146_5, q146_7, q146_8, q146_11, sf_y, y0, hn]
    rw [if_pos (by omega)]
    simp only [q146_57, q146_58]
    refine propext ⟨fun z => z.2, fun z => ⟨?_, z⟩⟩
    split
    · exact Or.inr rfl
    · exact Or.inl rfl
  | succ m ih =>
    intro k hm hk
    have ih := ih (k + 1) (by omega) (by omega)
    have eA : sf_feAl (fun k => decide (ra (6 * x + k) = ra (6 * y + k))) (k + 1) = (sf_feAl (fun k => decide (ra (6 * x + k) = ra (6 * y + k))) k && decide (ra (6 * x + k) = ra (6 * y + k))) := rfl
    have wx : sf_w (sf_w (6 * (x : Int)) + (k : Int)) = ((6 * x + k : Nat) : Int) := by
      rw [sf_w_small (n := 6 * (x : Int)) (by omega), sf_w_small (by omega)]
      omega
    have wy : sf_w (sf_w (6 * (y : Int)) + (k : Int)) = ((6 * y + k : Nat) : Int) := by
      rw [sf_w_small (n := 6 * (y : Int)) (by omega), sf_w_small (by omega)]
      omega
    have bx : 6 * x + k < 606 := by omega
    have by' : 6 * y + k < 606 := by omega
    have rx := sf_mq_ra (V := V) (T := T) (ra := ra) (ho := ho) (ag := ag) (rn := rn) bx
    have ry := sf_mq_ra (V := V) (T := T) (ra := ra) (ho := ho) (ag := ag) (rn := rn) by'
    simp only [q146_5, q146_7, q146_8, q146_11, q146_14, q146_15, sf_y, y0, hn]
    rw [if_neg (by omega)]
    by_cases e : sf_feAl (fun k => decide (ra (6 * x + k) = ra (6 * y + k))) k = true
    · rw [e, Bool.true_and] at eA
      rw [if_pos e, if_neg (by omega)]
      simp only [q146_18, q146_19, q146_22, q146_24, q146_25, q146_26, q146_28, q146_29, q146_30, q146_31, q146_34, q146_36, q146_37, q146_38, q146_40, q146_41, q146_42, sf_y, y35, sf_y35, wx, wy, sf_bd, bx, by', true_and, Int.toNat_natCast, rx, ry]
      by_cases g : ra (6 * x + k) = ra (6 * y + k)
      · rw [eA, if_pos (by rw [decide_eq_true_eq]; exact g)] at ih
        rw [if_pos g]
        simp only [q146_45, q146_46, q146_50, q146_51]
        rw [q146_54, sf_wS (by omega)]
        exact ih
      · rw [eA, if_neg (by rw [decide_eq_true_eq]; exact g)] at ih
        rw [if_neg g]
        simp only [q146_49, q146_50, q146_51]
        rw [q146_54, sf_wS (by omega)]
        exact ih
    · rw [eA, if_neg (by rw [Bool.and_eq_true]; exact fun z => e z.1)] at ih
      rw [if_neg e, if_pos rfl]
      simp only [q146_49, q146_50, q146_51]
      rw [q146_54, sf_wS (by omega)]
      exact ih
theorem s146 {d x y : Nat} (hn : V 409 0 = (n : Int)) (hn5 : n ≤ 5) (hx : x ≤ 100) (hy : y ≤ 100) :
    sf_wp d none 146 0 [some (.inr (.inl (some 409))), some (.inl (x : Int)), some (.inl (y : Int)), none, none] [] (sf_E (sf_mq V T ra ho ag rn)) K
    = K (some (.inl (if sf_feAl (fun k => decide (ra (6 * x + k) = ra (6 * y + k))) (n + 1) = true then 1 else 0))) (sf_E (sf_mq V T ra ho ag rn)) := by
  simp only [q146_0, q146_1, q146_2, q146_3]
  exact s146_loop hn hn5 hx hy (n + 1) 0 (by omega) (by omega)
end SFP67

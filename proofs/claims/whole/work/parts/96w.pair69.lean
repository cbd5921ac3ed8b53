/-! turns -/
section SFP69
variable {V : sf_MV} {n nx c ce cf cg : Nat} {S T ra ho : Nat → Int} {ag rn B : Int} {K : Option sf_V → sf_M → Prop}
theorem sf_mqb_y {k : Nat} (h1 : ¬ k = 37) (h2 : ¬ k = 38) : sf_mqb V ra ho ag rn 409 k = V 409 k := by
  unfold sf_mqb
  rw [if_neg (fun z => h1 z.2), if_neg (fun z => h2 z.2), if_neg (fun z => by simp [sf_Yne_rf] at z), if_neg (fun z => by simp [sf_Yne_rf] at z)]
theorem sf_mqb_k {k : Nat} (h2 : ¬ k = 35) (h3 : ¬ k = 36) : sf_mqb V ra ho ag rn (sf_rf 409 k) = V (sf_rf 409 k) := by
  funext i
  unfold sf_mqb
  rw [if_neg (fun z => by simp [sf_rf_neY] at z), if_neg (fun z => by simp [sf_rf_neY] at z), if_neg (fun z => by simp [sf_rf_inj, h2] at z), if_neg (fun z => by simp [sf_rf_inj, h3] at z)]
theorem s124r {d e : Nat} {p : Int} (hn : V 409 0 = (n : Int)) (hn0 : 0 < n) (hn5 : n ≤ 5) (he : e < 6) (hr : 0 ≤ T (e + 14) ∧ T (e + 14) ≤ 6) (hp : 0 ≤ p ∧ p < n) (hd : 0 ≤ T 0 ∧ T 0 < n) (h1 : -100000 ≤ T 1 ∧ T 1 ≤ 100000) (hc : 0 ≤ V (sf_rf 409 3) e ∧ V (sf_rf 409 3) e ≤ 9) :
    sf_wp (d + 1) none 124 0 [some (.inr (.inl (some 409))), some (.inl (e : Int)), some (.inl p)] [] (sf_E (sf_mq V T ra ho ag rn)) K = K none (sf_E (sf_mq V (sf_ru (sf_ru T 1 (T 1 - V (sf_rf 409 3) e)) 0 (sf_likes n T (T (e + 14)) p)) ra ho ag rn)) := by
  have e0 := sf_mqb_y (V := V) (ra := ra) (ho := ho) (ag := ag) (rn := rn) (k := 0) (by omega) (by omega)
  have e3 := sf_mqb_k (V := V) (ra := ra) (ho := ho) (ag := ag) (rn := rn) (k := 3) (by omega) (by omega)
  have s := s124 (d := d) (V := sf_mqb V ra ho ag rn) (S := T) (n := n) (e := e) (p := p) (K := K) (by rw [e0]; exact hn) hn0 hn5 he hr hp hd h1 (by rw [e3]; exact hc)
  rw [e3] at s
  exact s
theorem s125r {d t : Nat} (hn : V 409 0 = (n : Int)) (hn5 : n ≤ 5) (ht : t < 5) (hd : T 0 = (t : Int)) (hg : 0 ≤ V 409 1 ∧ V 409 1 ≤ 20) (hc : ∀ p, p < 5 → 0 ≤ V (sf_rf 409 2) p ∧ V (sf_rf 409 2) p ≤ 9) (hw : ∀ p, p < 5 → 0 ≤ T (p + 4) ∧ T (p + 4) ≤ 99) (h2 : -1000 ≤ T 2 ∧ T 2 ≤ 100000) :
    sf_wp (d + 1) none 125 0 [some (.inr (.inl (some 409))), none, none] [] (sf_E (sf_mq V T ra ho ag rn)) K = K none (sf_E (sf_mq V (sf_goes n (V 409 1) (V (sf_rf 409 2)) T t) ra ho ag rn)) := by
  have e0 := sf_mqb_y (V := V) (ra := ra) (ho := ho) (ag := ag) (rn := rn) (k := 0) (by omega) (by omega)
  have e1 := sf_mqb_y (V := V) (ra := ra) (ho := ho) (ag := ag) (rn := rn) (k := 1) (by omega) (by omega)
  have e2 := sf_mqb_k (V := V) (ra := ra) (ho := ho) (ag := ag) (rn := rn) (k := 2) (by omega) (by omega)
  have s := s125 (d := d) (V := sf_mqb V ra ho ag rn) (S := T) (n := n) (t := t) (K := K) (by rw [e0]; exact hn) hn5 ht hd (by rw [e1]; exact hg) (by rw [e2]; exact hc) hw h2
  rw [e1, e2] at s
  exact s
theorem s147_fill {d x : Nat} {l2 : Option sf_V} (hx : x < 100) : ∀ m p : Nat, 5 - p = m → p ≤ 5 →
    sf_wp d none 147 30 [some (.inr (.inl (some 409))), some (.inl (p : Int)), l2] [] (sf_E (sf_mq V T ra (sf_fehz x p ho) ag ((x + 1 : Nat) : Int))) K
    = sf_wp d none 147 57 [some (.inr (.inl (some 409))), some (.inl 5), l2] [] (sf_E (sf_mq V T ra (sf_fehz x 5 ho) ag ((x + 1 : Nat) : Int))) K := by
  have y36 := sf_c12_36 sf_y
  intro m
  induction m with
  | zero =>
    intro p hm hp
    have e : p = 5 := by omega
    subst e
    simp only [q147_30, q147_31, q147_32]
    rw [if_pos (by omega)]
    rfl
  | succ m ih =>
    intro p hm hp
    have r := sf_mq_r (V := V) (T := T) (ra := ra) (ho := sf_fehz x p ho) (ag := ag) (rn := ((x + 1 : Nat) : Int))
    have b : 5 * x + p < 500 := by omega
    have w : sf_w (sf_w (5 * sf_w (((x + 1 : Nat) : Int) - 1)) + (p : Int)) = ((5 * x + p : Nat) : Int) := by
      rw [sf_w_small (n := ((x + 1 : Nat) : Int) - 1) (by omega), sf_w_small (n := 5 * (((x + 1 : Nat) : Int) - 1)) (by omega), sf_w_small (by omega)]
      omega
    have u : ∀ v, sf_upd (sf_mq V T ra (sf_fehz x p ho) ag ((x + 1 : Nat) : Int)) (sf_rf 409 36) (5 * x + p) v = sf_mq V T ra (sf_ru (sf_fehz x p ho) (5 * x + p) v) ag ((x + 1 : Nat) : Int) := fun v => sf_mq_uho b
    simp only [q147_30, q147_31, q147_32, q147_35, q147_36, q147_39, q147_40, q147_41, q147_44, q147_45, q147_46, q147_47, q147_48, q147_49, q147_50, q147_51, sf_y, y36, sf_y36, r, w, sf_bd, b, true_and, Int.toNat_natCast, u]
    rw [if_neg (by omega), q147_54, sf_wS (by omega), sf_fehz_s]
    exact ih (p + 1) (by omega) (by omega)
theorem s147_warm {d k : Nat} (hn : V 409 0 = (n : Int)) (hn5 : n ≤ 5) : ∀ m p, n - p = m → p ≤ n →
    sf_wp d none 147 69 [some (.inr (.inl (some 409))), some (.inl (k : Int)), some (.inl (p : Int))] [] (sf_E (sf_mq V (sf_feFl p T) ra ho ag rn)) K
    = sf_wp d none 147 93 [some (.inr (.inl (some 409))), some (.inl (k : Int)), some (.inl (n : Int))] [] (sf_E (sf_mq V (sf_feFl n T) ra ho ag rn)) K := by
  have y28 := sf_c12_28 sf_y
  intro m
  induction m with
  | zero =>
    intro p hm hp
    have e : p = n := by omega
    subst e
    have y0 := sf_mq_y (V := V) (T := sf_feFl p T) (ra := ra) (ho := ho) (ag := ag) (rn := rn) (k := 0) (by omega) (by omega)
    simp only [q147_69, q147_70, q147_71, q147_74, sf_y, y0, hn]
    rw [if_pos (by omega)]
  | succ m ih =>
    intro p hm hp
    have y0 := sf_mq_y (V := V) (T := sf_feFl p T) (ra := ra) (ho := ho) (ag := ag) (rn := rn) (k := 0) (by omega) (by omega)
    have b : p + 4 < 20 := by omega
    have w : sf_w (4 + (p : Int)) = ((p + 4 : Nat) : Int) := by rw [sf_w_small (by omega)]; omega
    have u : ∀ v, sf_upd (sf_mq V (sf_feFl p T) ra ho ag rn) (sf_rf 409 28) (p + 4) v = sf_mq V (sf_ru (sf_feFl p T) (p + 4) v) ra ho ag rn := fun v => sf_mq_ut b
    simp only [q147_69, q147_70, q147_71, q147_74, q147_77, q147_78, q147_81, q147_82, q147_83, q147_84, q147_86, q147_87, sf_y, y28, sf_y28, y0, hn, w, sf_bd, b, true_and, Int.toNat_natCast, u]
    rw [if_neg (by omega), q147_90, sf_wS (by omega), sf_feFl_s]
    exact ih (p + 1) (by omega) (by omega)
theorem s147_line {d x k : Nat} (R : sf_RR V n nx c ce cf cg) (Z : sf_feZ n cf B (V (sf_rf 409 11)) S) (hB : B ≤ 90099) (hx : x < 100) (hk : k < cf) (Y : sf_feY n cf (V (sf_rf 409 11)) S (cf * x + k) T) {l2 : Option sf_V} :
    ∃ T', sf_feY n cf (V (sf_rf 409 11)) S (cf * x + k + 1) T' ∧ ∀ K, sf_wp (d + 2) none 147 59 [some (.inr (.inl (some 409))), some (.inl (k : Int)), l2] [] (sf_E (sf_mq V T ra (sf_feho (sf_feDar n cf (V (sf_rf 409 11)) S) cf x k ho) ag ((x + 1 : Nat) : Int))) K
    = sf_wp (d + 2) none 147 59 [some (.inr (.inl (some 409))), some (.inl ((k + 1 : Nat) : Int)), some (.inl (n : Int))] [] (sf_E (sf_mq V T' ra (sf_feho (sf_feDar n cf (V (sf_rf 409 11)) S) cf x (k + 1) ho) ag ((x + 1 : Nat) : Int))) K := by
  have ha := R.a
  have hf := R.f
  have cf20 := hf.c20
  have n5 := Z.n5
  have n0 := Z.n0
  have y28 := sf_c12_28 sf_y
  have y36 := sf_c12_36 sf_y
  have y11 := sf_c12_11 sf_y
  have hb := Z.b k hk
  have hB2 := Z.k.h
  have hcx : cf * x ≤ 20 * 99 := Nat.mul_le_mul cf20 (by omega)
  have hmod : (cf * x + k) % cf = k := by rw [Nat.mul_add_mod, Nat.mod_eq_of_lt hk]
  obtain ⟨e, hee⟩ : ∃ e : Nat, V (sf_rf 409 11) (2 * k) = (e : Int) := ⟨(V (sf_rf 409 11) (2 * k)).toNat, by omega⟩
  obtain ⟨q, hqq⟩ : ∃ q : Nat, V (sf_rf 409 11) (2 * k + 1) = (q : Int) := ⟨(V (sf_rf 409 11) (2 * k + 1)).toNat, by omega⟩
  have P := sf_feg_fe Z
  have hd1 := P.d (cf * x + k + 1)
  have hd0 := P.d (cf * x + k)
  have hlk := sf_feY_likes Z Y (e := e) (q := (q : Int)) (by rw [hmod]; exact hee) (by rw [hmod]; exact hqq)
  have hcs := ha.s0 e (by omega)
  have hY := sf_feY_next Z Y (g := V 409 1) (c := V (sf_rf 409 3) e) (x := (sf_feDar n cf (V (sf_rf 409 11)) S (cf * x + k + 1) : Int)) (cold := V (sf_rf 409 2)) ha.g0 ha.cy hcs
  refine ⟨_, hY, fun K => ?_⟩
  have y0 : ∀ T ho, sf_mq V T ra ho ag ((x + 1 : Nat) : Int) 409 0 = V 409 0 := fun T ho => sf_mq_y (by omega) (by omega)
  have y12 : ∀ T ho, sf_mq V T ra ho ag ((x + 1 : Nat) : Int) 409 12 = V 409 12 := fun T ho => sf_mq_y (by omega) (by omega)
  have k11 : ∀ T ho, sf_mq V T ra ho ag ((x + 1 : Nat) : Int) (sf_rf 409 11) = V (sf_rf 409 11) := fun T ho => sf_mq_k (by omega) (by omega) (by omega)
  have i2 : 2 * k < 40 := by omega
  have i21 : 2 * k + 1 < 40 := by omega
  have w2 : sf_w (2 * (k : Int)) = ((2 * k : Nat) : Int) := by rw [sf_w_small (by omega)]; omega
  have w3 : sf_w (((2 * k : Nat) : Int) + 1) = ((2 * k + 1 : Nat) : Int) := sf_wS (by omega)
  have hwarm := s147_warm (d := d + 2) (k := k) (V := V) (T := T) (ra := ra) (ho := sf_feho (sf_feDar n cf (V (sf_rf 409 11)) S) cf x k ho) (ag := ag) (rn := ((x + 1 : Nat) : Int)) (K := K) ha.yn n5 n 0 (by omega) (by omega)
  rw [sf_feFl_z] at hwarm
  have Yl := Y.l
  have Yt := Y.t
  have Yd := Y.d
  have F0 : sf_feFl n T 0 = T 0 := sf_feFl_k (by omega)
  have F1 : sf_feFl n T 1 = T 1 := sf_feFl_k (by omega)
  have F2 : sf_feFl n T 2 = T 2 := sf_feFl_k (by omega)
  have F14 : sf_feFl n T (e + 14) = T (e + 14) := sf_feFl_k (by omega)
  have F4 : ∀ p, p < 5 → 0 ≤ sf_feFl n T (p + 4) ∧ sf_feFl n T (p + 4) ≤ 99 := fun p hp => by
    unfold sf_feFl
    split
    · omega
    · exact Y.w p hp
  have hr := Z.k.r e (by omega)
  have he14 := Y.e e (by omega)
  have k2 : ∀ j, 2 ≤ j → ∀ a b, sf_ru (sf_ru (sf_feFl n T) 1 a) 0 b j = sf_feFl n T j := fun j hj a b => by rw [sf_ru_ne (by omega), sf_ru_ne (by omega)]
  simp only [q147_59, q147_60, q147_61, q147_64, sf_y, y12, hf.y]
  rw [if_neg (by omega)]
  simp only [q147_67, q147_68]
  refine Eq.trans hwarm ?_
  simp only [q147_93, q147_94, q147_95, q147_98, q147_99, q147_100, q147_101, q147_102, q147_103, q147_106, q147_107, q147_108, q147_109, q147_110, q147_111, sf_y, y11, sf_y11, k11, w2, w3, sf_bd, i2, i21, true_and, Int.toNat_natCast, hee, hqq]
  simp only [q147_112, sf_y]
  rw [s124r (d := d) ha.yn n0 n5 (by omega) (by rw [F14, he14]; exact hr) (by omega) (by rw [F0, Yd]; omega) (by rw [F1]; omega) hcs, hlk]
  simp only [q147_115, q147_116, sf_y, Option.toList_some, Option.toList_none, List.cons_append, List.nil_append]
  rw [s125r (d := d) (t := sf_feDar n cf (V (sf_rf 409 11)) S (cf * x + k + 1)) ha.yn n5 (by omega) (by rw [sf_ru_eq]) ha.g0 ha.cy (fun p hp => by rw [k2 _ (by omega)]; exact F4 p hp) (by rw [k2 _ (by omega), F2, Yt]; omega)]
  have hYd := hY.d
  generalize sf_goes n (V 409 1) (V (sf_rf 409 2)) (sf_ru (sf_ru (sf_feFl n T) 1 (sf_feFl n T 1 - V (sf_rf 409 3) e)) 0 (sf_feDar n cf (V (sf_rf 409 11)) S (cf * x + k + 1) : Int)) (sf_feDar n cf (V (sf_rf 409 11)) S (cf * x + k + 1)) = T2 at hYd ⊢
  have r := sf_mq_r (V := V) (T := T2) (ra := ra) (ho := sf_feho (sf_feDar n cf (V (sf_rf 409 11)) S) cf x k ho) (ag := ag) (rn := ((x + 1 : Nat) : Int))
  have t0 := sf_mq_t (V := V) (T := T2) (ra := ra) (ho := sf_feho (sf_feDar n cf (V (sf_rf 409 11)) S) cf x k ho) (ag := ag) (rn := ((x + 1 : Nat) : Int)) (j := 0) (by omega)
  have b : 5 * x + sf_feDar n cf (V (sf_rf 409 11)) S (cf * x + k + 1) < 500 := by omega
  have w5 : sf_w (sf_w (5 * sf_w (((x + 1 : Nat) : Int) - 1)) + (sf_feDar n cf (V (sf_rf 409 11)) S (cf * x + k + 1) : Int)) = ((5 * x + sf_feDar n cf (V (sf_rf 409 11)) S (cf * x + k + 1) : Nat) : Int) := by
    rw [sf_w_small (n := ((x + 1 : Nat) : Int) - 1) (by omega), sf_w_small (n := 5 * (((x + 1 : Nat) : Int) - 1)) (by omega), sf_w_small (by omega)]
    omega
  have rh := sf_mq_ho (V := V) (T := T2) (ra := ra) (ho := sf_feho (sf_feDar n cf (V (sf_rf 409 11)) S) cf x k ho) (ag := ag) (rn := ((x + 1 : Nat) : Int)) b
  have u : ∀ v, sf_upd (sf_mq V T2 ra (sf_feho (sf_feDar n cf (V (sf_rf 409 11)) S) cf x k ho) ag ((x + 1 : Nat) : Int)) (sf_rf 409 36) (5 * x + sf_feDar n cf (V (sf_rf 409 11)) S (cf * x + k + 1)) v = sf_mq V T2 ra (sf_ru (sf_feho (sf_feDar n cf (V (sf_rf 409 11)) S) cf x k ho) (5 * x + sf_feDar n cf (V (sf_rf 409 11)) S (cf * x + k + 1)) v) ag ((x + 1 : Nat) : Int) := fun v => sf_mq_uho b
  have hv := sf_feho_at (D := sf_feDar n cf (V (sf_rf 409 11)) S) (L := cf) (x := x) (k := k) (ho := ho) (p := sf_feDar n cf (V (sf_rf 409 11)) S (cf * x + k + 1)) (by omega)
  have hvb := sf_feC_bd (f := fun y => decide (sf_feDar n cf (V (sf_rf 409 11)) S (cf * x + y + 1) = sf_feDar n cf (V (sf_rf 409 11)) S (cf * x + k + 1))) k
  have hvb' : sf_feW (sf_feDar n cf (V (sf_rf 409 11)) S) (cf * x) k (sf_feDar n cf (V (sf_rf 409 11)) S (cf * x + k + 1)) ≤ k := hvb
  simp (decide := true) only [q147_119, q147_120, q147_123, q147_124, q147_125, q147_128, q147_129, q147_130, q147_131, q147_132, q147_135, q147_136, q147_137, q147_138, q147_139, q147_140, q147_141, q147_142, q147_143, sf_y, y28, y36, sf_y28, sf_y36, r, t0, hYd, w5, sf_bd, b, true_and, Int.toNat_natCast, Int.reduceToNat, rh, u, Option.toList_some, Option.toList_none, List.cons_append, List.nil_append]
  rw [q147_146, sf_wS (n := k) (by omega), sf_w_small (n := sf_feho (sf_feDar n cf (V (sf_rf 409 11)) S) cf x k ho (5 * x + sf_feDar n cf (V (sf_rf 409 11)) S (cf * x + k + 1)) + 1) (by omega), sf_feho_s (by omega)]
  simp only [q147_59, q147_60, q147_61, q147_64, q147_67, q147_68, sf_y, y12, hf.y]
end SFP69

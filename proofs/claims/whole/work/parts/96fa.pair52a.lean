/-! plans: the class gathers the things of an hour -/
section SFP52A
variable {V X U : sf_MV} {n nx c ce cf cg : Nat}
theorem sf_dm {e p : Nat} (hn : 0 < n) (hp : p < n) : (1 + e * n + p - 1) / n = e ∧ (1 + e * n + p - 1) % n = p := by
  have e1 : 1 + e * n + p - 1 = n * e + p := by
    rw [Nat.mul_comm]
    omega
  rw [e1]
  exact ⟨by rw [Nat.mul_add_div hn, Nat.div_eq_of_lt hp, Nat.add_zero], by rw [Nat.mul_add_mod, Nat.mod_eq_of_lt hp]⟩
/-- only the table from this hour on may have changed -/
def sf_FGT (k : Nat) (V V' : sf_MV) : Prop := (∀ a, ¬ a = (sf_rf (sf_rf (sf_rf 0 10) 3) 0) → ¬ a = (sf_rf (sf_rf (sf_rf 0 10) 4) 0) → V' a = V a) ∧ ∀ j, j < 5 * k → V' (sf_rf (sf_rf (sf_rf 0 10) 3) 0) j = V (sf_rf (sf_rf (sf_rf 0 10) 3) 0) j ∧ V' (sf_rf (sf_rf (sf_rf 0 10) 4) 0) j = V (sf_rf (sf_rf (sf_rf 0 10) 4) 0) j
theorem sf_FGT_refl {k : Nat} : sf_FGT k V V := ⟨fun _ _ _ => rfl, fun _ _ => ⟨rfl, rfl⟩⟩
theorem sf_FGT_trans {k : Nat} {V1 V2 V3 : sf_MV} (h : sf_FGT k V1 V2) (g : sf_FGT k V2 V3) : sf_FGT k V1 V3 := ⟨fun a q1 q2 => by rw [g.1 a q1 q2, h.1 a q1 q2], fun j q => ⟨by rw [(g.2 j q).1, (h.2 j q).1], by rw [(g.2 j q).2, (h.2 j q).2]⟩⟩
theorem sf_FGT_FP {k : Nat} {V1 V2 : sf_MV} (h : sf_FGT k V1 V2) : sf_FP k V1 V2 := ⟨fun a _ _ _ q3 q4 _ => h.1 a q3 q4, fun j _ _ _ => by rw [h.1 (sf_rf 0 10) (by simp [sf_self2_rf]) (by simp [sf_self2_rf])], fun j _ => by rw [h.1 (sf_rf (sf_rf (sf_rf 0 10) 1) 0) (by simp [sf_rf_inj]) (by simp [sf_rf_inj])], h.2⟩
/-- the table stands as q says -/
def sf_TB (n k : Nat) (V : sf_MV) (q : (Nat → Int) × (Nat → Nat)) : Prop := ∀ u, u < n → V (sf_rf (sf_rf (sf_rf 0 10) 4) 0) (5 * k + u) = q.1 u ∧ (q.1 u ≤ 9 → V (sf_rf (sf_rf (sf_rf 0 10) 3) 0) (5 * k + u) = sf_pth n (q.2 u))
def sf_off (n k : Nat) (cst : Nat → Int) (f : Nat → Nat) (x : Nat) (V : sf_MV) : sf_MV := if cst x < V (sf_rf (sf_rf (sf_rf 0 10) 4) 0) (5 * k + f x) then sf_upd (sf_upd V (sf_rf (sf_rf (sf_rf 0 10) 4) 0) (5 * k + f x) (cst x)) (sf_rf (sf_rf (sf_rf 0 10) 3) 0) (5 * k + f x) (sf_pth n x) else V
theorem sf_FGT_off {k : Nat} {V1 V2 : sf_MV} {cst : Nat → Int} {f : Nat → Nat} {x : Nat} (h : sf_FGT k V1 V2) : sf_FGT k V1 (sf_off n k cst f x V2) := by
  unfold sf_off
  by_cases q : cst x < V2 (sf_rf (sf_rf (sf_rf 0 10) 4) 0) (5 * k + f x)
  · rw [if_pos q]
    have ne : ¬ (sf_rf (sf_rf (sf_rf 0 10) 3) 0) = (sf_rf (sf_rf (sf_rf 0 10) 4) 0) := by simp [sf_rf_inj]
    have ne' : ¬ (sf_rf (sf_rf (sf_rf 0 10) 4) 0) = (sf_rf (sf_rf (sf_rf 0 10) 3) 0) := by simp [sf_rf_inj]
    refine sf_FGT_trans h ⟨fun a q1 q2 => by rw [sf_upd_ne q1, sf_upd_ne q2], fun j hj => ⟨?_, ?_⟩⟩
    · rw [sf_upd_ne2 (by omega), sf_upd_ne ne]
    · rw [sf_upd_ne ne', sf_upd_ne2 (by omega)]
  · rw [if_neg q]
    exact h
theorem sf_TB_off {k m : Nat} {cst : Nat → Int} {f : Nat → Nat} (hf : f m < n) (h : sf_TB n k V (sf_gt cst f m)) : sf_TB n k (sf_off n k cst f m V) (sf_gt cst f (m + 1)) := by
  have h1 := (h (f m) hf).1
  unfold sf_off
  rw [sf_gt_S, h1]
  have ne' : ¬ (sf_rf (sf_rf (sf_rf 0 10) 4) 0) = (sf_rf (sf_rf (sf_rf 0 10) 3) 0) := by simp [sf_rf_inj]
  have ne : ¬ (sf_rf (sf_rf (sf_rf 0 10) 3) 0) = (sf_rf (sf_rf (sf_rf 0 10) 4) 0) := by simp [sf_rf_inj]
  by_cases q : cst m < (sf_gt cst f m).1 (f m)
  · rw [if_pos q, if_pos q]
    intro u hu
    show _ = sf_upi (sf_gt cst f m).1 (f m) (cst m) u ∧ (sf_upi (sf_gt cst f m).1 (f m) (cst m) u ≤ 9 → _ = sf_pth n (sf_upn (sf_gt cst f m).2 (f m) m u))
    unfold sf_upi sf_upn
    by_cases z : u = f m
    · rw [if_pos z, if_pos z, z]
      exact ⟨by rw [sf_upd_ne ne', sf_upd_eq], fun _ => sf_upd_eq⟩
    · rw [if_neg z, if_neg z]
      have h2 := h u hu
      exact ⟨by rw [sf_upd_ne ne', sf_upd_ne2 (by omega)]; exact h2.1, fun y => by rw [sf_upd_ne2 (by omega), sf_upd_ne ne]; exact h2.2 y⟩
  · rw [if_neg q, if_neg q]
    exact h
/-- the table anew -/
theorem s167_reset {d k : Nat} {l5 : Option sf_V} {K : Option sf_V → sf_M → Prop} (hk : k < 3) (hn5 : n ≤ 5) : ∀ (m p : Nat) (V0 : sf_MV), n - p = m → p ≤ n → V0 (sf_rf 0 1) 4 = (n : Int) →
    sf_wp (d + 1) none 167 12 [some (.inr (.inl (some (sf_rf 0 10)))), some (.inr (.inl (some (sf_rf 0 1)))), some (.inl (k : Int)), some (.inr (.inl (some (sf_px k)))), some (.inl (p : Int)), l5] [] (sf_E V0) K = sf_wp (d + 1) none 167 42 [some (.inr (.inl (some (sf_rf 0 10)))), some (.inr (.inl (some (sf_rf 0 1)))), some (.inl (k : Int)), some (.inr (.inl (some (sf_px k)))), some (.inl (n : Int)), l5] [] (sf_E (sf_put V0 (sf_rf (sf_rf (sf_rf 0 10) 4) 0) (5 * k + p) (5 * k + n) (fun _ => 10))) K := by
  have x10 := sf_c11_10 sf_x
  have x1 := sf_c11_1 sf_x
  have p4 := sf_c5_4 x10
  obtain ⟨m1, m2, m3, m4, m5⟩ := sf_pxLen
  intro m
  induction m with
  | zero =>
    intro p V0 hm hp h4
    simp only [q167_12, q167_14, q167_15, x1, h4]
    rw [q167_18, if_pos (by omega), sf_put_nil (by omega), show (p : Int) = n by omega]
  | succ m ih =>
    intro p V0 hm hp h4
    have w1 : sf_w (sf_w ((k : Int) * 5) + (p : Int)) = ((5 * k + p : Nat) : Int) := by
      rw [sf_w_small (n := (k : Int) * 5) (by omega), sf_w_small (by omega)]
      omega
    have wr1 : sf_wr V0 (sf_rf (sf_rf (sf_rf 0 10) 4) 0) ((5 * k + p : Nat) : Int) 10 = sf_upd V0 (sf_rf (sf_rf (sf_rf 0 10) 4) 0) (5 * k + p) 10 := sf_wr_nat (by omega)
    simp only [q167_12, q167_14, q167_15, x1, h4]
    rw [q167_18, if_neg (by omega)]
    simp only [q167_21, q167_22, q167_25, q167_26, q167_27, q167_28, q167_30, q167_31, x10, w1]
    simp only [q167_33, p4, s32, wr1, q167_36, Option.toList_some, Option.toList_none, List.cons_append, List.nil_append]
    rw [q167_39, sf_wS (by omega), ih (p + 1) _ (by omega) (by omega) (by rw [sf_upd_ne (by simp [sf_rf_inj, sf_0ne_rf])]; exact h4)]
    have e := sf_put_step (V := V0) (a := (sf_rf (sf_rf (sf_rf 0 10) 4) 0)) (k := 5 * k + p) (n := 5 * k + n) (f := fun _ => 10) (by omega)
    rw [show 5 * k + (p + 1) = 5 * k + p + 1 by omega, e]
theorem s167 {k : Nat} {cost S : Nat → Int} (hn : 0 < n) (hn5 : n ≤ 5) (hk : k < 3) (hd : 0 ≤ S 0 ∧ S 0 < n) (hr : ∀ j, j < 20 → j ≠ 3 → sf_getS V (sf_px k) j = S j) (h4 : V (sf_rf 0 1) 4 = (n : Int)) (he : ∀ e, e < 6 → V (sf_la (sf_rf 0 1)) e = cost e) (fxn : ∀ x, sf_pfx n S x < n) :
    ∃ V', sf_FGT k V V' ∧ sf_TB n k V' (sf_gt (sf_pcs n cost) (sf_pfx n S) (6 * n + 1)) ∧ ∀ D K, sf_wp (D + 4) none 167 0 [some (.inr (.inl (some (sf_rf 0 10)))), some (.inr (.inl (some (sf_rf 0 1)))), some (.inl (k : Int)), none, none, none] [] (sf_E V) K = K none (sf_E V') := by
  have x10 := sf_c11_10 sf_x
  have x1 := sf_c11_1 sf_x
  have p0 := sf_c5_0 x10
  have hl2 := sf_c2_2 x1
  have ck := sf_pxCls (show k < 4 by omega)
  have ee : ∀ t, sf_rf (sf_rf (sf_rf (sf_rf 0 10) 0) 0) t = sf_px t := fun _ => rfl
  obtain ⟨m1, m2, m3, m4, m5⟩ := sf_pxLen
  have home : ∀ Vm, sf_FGT k V Vm → Vm (sf_rf 0 1) 4 = (n : Int) := fun Vm f => by rw [(sf_FP_home (sf_FGT_FP f)).1]; exact h4
  have row : ∀ Vm, sf_FGT k V Vm → ∀ j, j < 20 → j ≠ 3 → sf_getS Vm (sf_px k) j = S j := fun Vm f j j1 j2 => by
    rw [sf_FP_row (sf_FGT_FP f) (Nat.le_refl k)]
    exact hr j j1 j2
  have inner : ∀ (m p : Nat) (Vp : sf_MV) (e : Nat), n - p = m → p ≤ n → e < 6 → sf_FGT k V Vp → sf_TB n k Vp (sf_gt (sf_pcs n cost) (sf_pfx n S) (1 + e * n + p)) →
      ∃ V', sf_FGT k V V' ∧ sf_TB n k V' (sf_gt (sf_pcs n cost) (sf_pfx n S) (1 + e * n + n)) ∧
        ∀ D K, sf_wp (D + 4) none 167 66 [some (.inr (.inl (some (sf_rf 0 10)))), some (.inr (.inl (some (sf_rf 0 1)))), some (.inl (k : Int)), some (.inr (.inl (some (sf_px k)))), some (.inl (e : Int)), some (.inl (p : Int))] [] (sf_E Vp) K = sf_wp (D + 4) none 167 115 [some (.inr (.inl (some (sf_rf 0 10)))), some (.inr (.inl (some (sf_rf 0 1)))), some (.inl (k : Int)), some (.inr (.inl (some (sf_px k)))), some (.inl (e : Int)), some (.inl (n : Int))] [] (sf_E V') K := by
    intro m
    induction m with
    | zero =>
      intro p Vp e hm hp h6 f1 f2
      have pn : p = n := by omega
      subst pn
      refine ⟨Vp, f1, f2, fun D K => ?_⟩
      have n4 := home Vp f1
      simp only [q167_66, q167_68, q167_69, x1, n4]
      rw [q167_72, if_pos (by omega)]
    | succ m ih =>
      intro p Vp e hm hp h6 f1 f2
      have hpn : p < n := by omega
      obtain ⟨dm1, dm2⟩ := sf_dm (e := e) hn hpn
      have x0 : ¬ 1 + e * n + p = 0 := by omega
      have co : sf_pth n (1 + e * n + p) = ((10 * e + p : Nat) : Int) := by
        unfold sf_pth
        rw [if_neg x0, dm1, dm2]
      have cs : sf_pcs n cost (1 + e * n + p) = cost e := by
        unfold sf_pcs
        rw [if_neg x0, dm1, if_pos h6]
      have fx : sf_likes n S (S (e + 14)) (p : Int) = ((sf_pfx n S (1 + e * n + p) : Nat) : Int) := by
        unfold sf_pfx
        rw [if_neg x0, dm1, dm2]
        obtain ⟨t, ht, _⟩ := sf_likes_in (n := n) (S := S) (k := S (e + 14)) (p := (p : Int)) hn (by omega) (by omega)
        rw [ht]
        omega
      have fn := fxn (1 + e * n + p)
      obtain ⟨V', y1, y2, y3⟩ := ih (p + 1) (sf_off n k (sf_pcs n cost) (sf_pfx n S) (1 + e * n + p) Vp) e (by omega) (by omega) h6 (sf_FGT_off f1) (sf_TB_off fn f2)
      refine ⟨V', y1, y2, fun D K => ?_⟩
      have n4 := home Vp f1
      have r0 := row Vp f1 0 (by decide) (by decide)
      have lik : sf_likes n (sf_getS Vp (sf_px k)) (sf_getS Vp (sf_px k) (e + 14)) (p : Int) = sf_likes n S (S (e + 14)) (p : Int) := by
        rw [row Vp f1 (e + 14) (by omega) (by omega)]
        exact sf_likes_c (sf_req_self hn5 (row Vp f1))
      have rc : sf_rd Vp (sf_rf (sf_rf (sf_rf 0 1) 2) 0) (e : Int) = cost e := by
        rw [sf_rd_nat (by have := sf_homeLen x1; omega), (sf_FP_home (sf_FGT_FP f1)).2 2]
        exact he e h6
      have w1 : sf_w (sf_w (10 * (e : Int)) + (p : Int)) = ((10 * e + p : Nat) : Int) := by
        rw [sf_w_small (n := 10 * (e : Int)) (by omega), sf_w_small (by omega)]
        omega
      have off : sf_off n k (sf_pcs n cost) (sf_pfx n S) (1 + e * n + p) Vp = if cost e < Vp (sf_rf (sf_rf (sf_rf 0 10) 4) 0) (5 * k + sf_pfx n S (1 + e * n + p)) then sf_upd (sf_upd Vp (sf_rf (sf_rf (sf_rf 0 10) 4) 0) (5 * k + sf_pfx n S (1 + e * n + p)) (cost e)) (sf_rf (sf_rf (sf_rf 0 10) 3) 0) (5 * k + sf_pfx n S (1 + e * n + p)) ((10 * e + p : Nat) : Int) else Vp := by
        unfold sf_off
        rw [cs, co]
      rw [off] at y3
      simp only [q167_66, q167_68, q167_69, x1, n4]
      rw [q167_72, if_neg (by omega)]
      simp only [q167_75, q167_76, q167_77, q167_78, q167_80, q167_82, q167_83, x1, n4]
      simp only [q167_86, ck]
      rw [s40g (d := D + 1) ck h6 hn5 (by omega) (by rw [r0]; omega), lik, fx]
      simp only [q167_89, q167_91, q167_93, q167_94, q167_96, q167_97, q167_98, q167_101, x1, w1, Option.toList_some, Option.toList_none, List.cons_append, List.nil_append]
      simp only [q167_103, hl2, s31, rc, Option.toList_some, Option.toList_none, List.cons_append, List.nil_append]
      simp only [q167_106, x10]
      rw [s168 (d := D + 2) hk (by omega)]
      simp only [q167_109, Option.toList_some, Option.toList_none, List.cons_append, List.nil_append]
      rw [q167_112, sf_wS (by omega)]
      exact y3 D K
  have outer : ∀ (m e : Nat) (Ve : sf_MV), 6 - e = m → e ≤ 6 → sf_FGT k V Ve → sf_TB n k Ve (sf_gt (sf_pcs n cost) (sf_pfx n S) (1 + e * n)) →
      ∃ V', sf_FGT k V V' ∧ sf_TB n k V' (sf_gt (sf_pcs n cost) (sf_pfx n S) (6 * n + 1)) ∧
        ∀ D K l5, sf_wp (D + 4) none 167 56 [some (.inr (.inl (some (sf_rf 0 10)))), some (.inr (.inl (some (sf_rf 0 1)))), some (.inl (k : Int)), some (.inr (.inl (some (sf_px k)))), some (.inl (e : Int)), l5] [] (sf_E Ve) K = K none (sf_E V') := by
    intro m
    induction m with
    | zero =>
      intro e Ve hm h6 f1 f2
      have e6 : e = 6 := by omega
      subst e6
      rw [show 1 + 6 * n = 6 * n + 1 by omega] at f2
      refine ⟨Ve, f1, f2, fun D K l5 => ?_⟩
      simp only [q167_56, q167_58]
      rw [q167_60, if_pos (by decide), q167_121]
    | succ m ih =>
      intro e Ve hm h6 f1 f2
      obtain ⟨V1, z1, z2, z3⟩ := inner n 0 Ve e (by omega) (by omega) (by omega) f1 f2
      have en : 1 + e * n + n = 1 + (e + 1) * n := by
        rw [Nat.succ_mul]
        omega
      rw [en] at z2
      obtain ⟨V', y1, y2, y3⟩ := ih (e + 1) V1 (by omega) (by omega) z1 z2
      refine ⟨V', y1, y2, fun D K l5 => ?_⟩
      simp only [q167_56, q167_58]
      rw [q167_60, if_neg (by omega)]
      simp only [q167_63, q167_64]
      refine Eq.trans (z3 D K) ?_
      simp only [q167_115]
      rw [q167_118, sf_wS (by omega)]
      exact y3 D K _
  generalize hV0 : sf_put V (sf_rf (sf_rf (sf_rf 0 10) 4) 0) (5 * k) (5 * k + n) (fun _ => 10) = V0
  have nV0 : ∀ a, ¬ a = (sf_rf (sf_rf (sf_rf 0 10) 4) 0) → V0 a = V a := fun a q => by rw [← hV0, sf_put_ne q]
  have F0 : sf_FGT k V V0 := ⟨fun a _ q => nV0 a q, fun j hj => ⟨by rw [nV0 _ (by simp [sf_rf_inj])], by
    rw [← hV0]
    unfold sf_put
    rw [if_neg (by omega)]⟩⟩
  have T0 : sf_TB n k V0 (sf_gt (sf_pcs n cost) (sf_pfx n S) 0) := fun u hu => ⟨by
    rw [← hV0]
    unfold sf_put
    rw [if_pos ⟨rfl, by omega, by omega⟩]
    rfl, fun z => absurd z (by show ¬ (10 : Int) ≤ 9; decide)⟩
  have T1 := sf_TB_off (fxn 0) T0
  have F1 := sf_FGT_off (n := n) (cst := sf_pcs n cost) (f := sf_pfx n S) (x := 0) F0
  obtain ⟨V', y1, y2, y3⟩ := outer 6 0 (sf_off n k (sf_pcs n cost) (sf_pfx n S) 0 V0) rfl (by omega) F1 (by rw [show 1 + 0 * n = 0 + 1 by omega]; exact T1)
  refine ⟨V', y1, y2, fun D K => ?_⟩
  have off : sf_off n k (sf_pcs n cost) (sf_pfx n S) 0 V0 = if 0 < V0 (sf_rf (sf_rf (sf_rf 0 10) 4) 0) (5 * k + sf_pfx n S 0) then sf_upd (sf_upd V0 (sf_rf (sf_rf (sf_rf 0 10) 4) 0) (5 * k + sf_pfx n S 0) 0) (sf_rf (sf_rf (sf_rf 0 10) 3) 0) (5 * k + sf_pfx n S 0) (-1) else V0 := rfl
  have f0 : S 0 = ((sf_pfx n S 0 : Nat) : Int) := by
    unfold sf_pfx
    rw [if_pos rfl]
    omega
  have g3 : V0 (sf_px k) 3 = ((sf_pfx n S 0 : Nat) : Int) := by
    have := row V0 F0 0 (by decide) (by decide)
    rw [sf_getS_d] at this
    rw [this]
    exact f0
  have fn := fxn 0
  rw [off] at y3
  simp only [q167_0, q167_1, q167_4, x10]
  simp only [q167_5, p0]
  rw [s36 p0 (by omega), ee]
  simp only [q167_8, q167_9, q167_10, Option.toList_some, Option.toList_none, List.cons_append, List.nil_append]
  refine Eq.trans (s167_reset (d := D + 3) hk hn5 n 0 V (by omega) (by omega) h4) ?_
  rw [show 5 * k + 0 = 5 * k from rfl, hV0]
  simp only [q167_42, q167_43, q167_44, q167_45, q167_48, q167_49, ck, g3]
  simp only [q167_50, x10]
  rw [s168 (d := D + 2) hk (by omega)]
  simp only [q167_53, q167_54, Option.toList_some, Option.toList_none, List.cons_append, List.nil_append]
  exact y3 D K _
end SFP52A

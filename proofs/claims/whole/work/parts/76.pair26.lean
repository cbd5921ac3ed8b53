/-! tryNext: the reference -/
section SFP26
variable {V X Y : sf_MV} {n nx c ce cf cg a k m : Nat} {v : Int} {f : Nat → Int} {K : Option sf_V → sf_M → Prop}
theorem s157_cnt {F : Nat → Bool} {l0 l1 l5 l6 l7 l8 : Option sf_V} {M : sf_M} : ∀ (m k : Nat), 7 - k = m → k ≤ 7 →
    sf_wp 19 none 157 31 [l0, l1, some (.inl (sf_fmk F 7).toInt), some (.inl (sf_bc F k)), some (.inl (k : Int)), l5, l6, l7, l8] [] M K = sf_wp 19 none 157 53 [l0, l1, some (.inl (sf_fmk F 7).toInt), some (.inl (sf_bc F 7)), some (.inl 7), l5, l6, l7, l8] [] M K := by
  intro m
  induction m with
  | zero =>
    intro k hm hk
    have k7 : k = 7 := by omega
    subst k7
    simp only [q157_31, q157_33, q157_35]
    rw [if_pos (by decide)]
    rfl
  | succ m ih =>
    intro k hm hk
    have i1 := ih (k + 1) (by omega) (by omega)
    have hbc := sf_bc_in (F := F) k
    have e1 : sf_bc F (k + 1) = sf_bc F k + if sf_bt F k = true then 1 else 0 := rfl
    rw [e1] at i1
    simp only [q157_31, q157_33, q157_35]
    rw [if_neg (by omega)]
    simp only [q157_38, q157_39, q157_40, q157_42, q157_43, q157_44, q157_45, q157_46, q157_47]
    rw [q157_50, sf_wS (by omega), sf_i32, sf_i32, sf_fm_bit (by omega), sf_w_small (by split <;> omega)]
    exact i1
theorem s157_zero {l0 l1 l2 l3 l4 l5 l6 l7 : Option sf_V} (h0 : l0 = some (.inr (.inl (some 409)))) : ∀ (m k : Nat) (V : sf_MV), 5 - k = m → k ≤ 5 →
    sf_wp 19 none 157 81 [l0, l1, l2, l3, l4, l5, l6, l7, some (.inl (k : Int))] [] (sf_E V) K = sf_wp 19 none 157 101 [l0, l1, l2, l3, l4, l5, l6, l7, some (.inl 5)] [] (sf_E (sf_put V (sf_rf 409 39) k 5 (fun _ => 0))) K := by
  have c1 := sf_c12_39 sf_y
  subst h0
  intro m
  induction m with
  | zero =>
    intro k V hm hk
    simp only [q157_81, q157_83, q157_84]
    rw [if_pos (by omega), sf_put_nil (by omega), show (k : Int) = 5 by omega]
  | succ m ih =>
    intro k V hm hk
    have b1 : k < 5 := by omega
    simp only [q157_81, q157_83, q157_84, q157_87, q157_88, q157_91, q157_93, q157_94, q157_95, sf_y, c1, sf_y39, sf_bd, b1, true_and, Int.toNat_natCast]
    rw [if_neg (by omega), q157_98, sf_wS (by omega), ih (k + 1) _ (by omega) (by omega)]
    rw [sf_put_step (V := V) (f := fun _ => 0) (by omega)]
def sf_tr (V : sf_MV) (S C : Nat → Int) : sf_MV := sf_put (sf_put V (sf_rf 409 28) 0 20 S) (sf_rf 409 39) 0 5 C
theorem s157_in {F : Nat → Bool} {S : Nat → Int} {e l3 b w : Int} {p : Nat} (hn : V 409 0 = (n : Int)) (hn5 : n ≤ 5) (hp : p < n) (hd : 0 ≤ S 0 ∧ S 0 < n) : ∀ (m k : Nat) (C : Nat → Int) (v : Int), 7 - k = m → k ≤ 7 →
    (∀ t : Nat, t < 5 → C t = sf_ct F (fun l => sf_pln l p (S 0) n) t k) → sf_isx (fun t => sf_ct F (fun l => sf_pln l p (S 0) n) t k) n v →
    ∃ C' v', sf_isx (fun t => sf_ct F (fun l => sf_pln l p (S 0) n) t 7) n v' ∧ ∀ K, sf_wp 19 none 157 104 [some (.inr (.inl (some 409))), some (.inl e), some (.inl (sf_fmk F 7).toInt), some (.inl l3), some (.inl b), some (.inl w), some (.inl (p : Int)), some (.inl v), some (.inl (k : Int))] [] (sf_E (sf_tr V S C)) K = sf_wp 19 none 157 164 [some (.inr (.inl (some 409))), some (.inl e), some (.inl (sf_fmk F 7).toInt), some (.inl l3), some (.inl b), some (.inl w), some (.inl (p : Int)), some (.inl v'), some (.inl 7)] [] (sf_E (sf_tr V S C')) K := by
  have c39 := sf_c12_39 sf_y
  have x407 : ∀ C, sf_tr V S C 409 = V 409 := fun C => by
    unfold sf_tr
    rw [sf_put_ne (by simp [sf_Yne_rf]), sf_so_y]
  have x28 : ∀ C j, j < 20 → sf_tr V S C (sf_rf 409 28) j = S j := fun C j hj => by
    unfold sf_tr
    rw [sf_put_ne (by simp [sf_rf_inj]), sf_put_at hj]
  have x39 : ∀ C j, j < 5 → sf_tr V S C (sf_rf 409 39) j = C j := fun C j hj => by
    unfold sf_tr
    exact sf_put_at hj
  intro m
  induction m with
  | zero =>
    intro k C v hm hk hC hv
    have k7 : k = 7 := by omega
    subst k7
    refine ⟨C, v, hv, fun K => ?_⟩
    simp only [q157_104, q157_106, q157_108]
    rw [if_pos (by decide)]
    rfl
  | succ m ih =>
    intro k C v hm hk hC hv
    by_cases h1 : sf_bt F k = true
    · have hk23 : ¬ (k = 2 ∨ k = 3) := fun z => by
        unfold sf_bt at h1
        simp [z] at h1
      obtain ⟨t, ht, ht5⟩ := sf_likes_in (n := n) (S := S) (k := (k : Int)) (p := (p : Int)) (by omega) (by omega) hd
      have hch : sf_pln k p (S 0) n = (t : Int) := by rw [← ht, sf_likes_pln hk23]
      have hct := sf_ct_in (F := F) (ch := fun l => sf_pln l p (S 0) n) (t := (t : Int)) k
      have hCt := hC t (by omega)
      have step : ∀ u : Nat, sf_ct F (fun l => sf_pln l p (S 0) n) u (k + 1) = if u = t then sf_ct F (fun l => sf_pln l p (S 0) n) u k + 1 else sf_ct F (fun l => sf_pln l p (S 0) n) u k := fun u => by
        show (if sf_bt F k = true ∧ sf_pln k p (S 0) n = (u : Int) then _ else _) = _
        by_cases q : u = t
        · rw [if_pos q, if_pos ⟨h1, by rw [hch, q]⟩]
        · rw [if_neg q, if_neg (fun z => q (by have := z.2; rw [hch] at this; omega))]
      have hv' : sf_isx (fun t => sf_ct F (fun l => sf_pln l p (S 0) n) t (k + 1)) n (if v < C t + 1 then C t + 1 else v) := by
        obtain ⟨v1, v2, v3⟩ := hv
        refine ⟨by split <;> omega, fun u hu => ?_, ?_⟩
        · show sf_ct F (fun l => sf_pln l p (S 0) n) u (k + 1) ≤ _
          rw [step u]
          have h3 : sf_ct F (fun l => sf_pln l p (S 0) n) u k ≤ v := v2 u hu
          by_cases q : u = t
          · subst q
            rw [if_pos rfl, hCt]
            split <;> omega
          · rw [if_neg q]
            split <;> omega
        · by_cases q : v < C t + 1
          · rw [if_pos q]
            refine Or.inr ⟨t, ht5, ?_⟩
            show _ = sf_ct F (fun l => sf_pln l p (S 0) n) t (k + 1)
            rw [step t, if_pos rfl, hCt]
          · rw [if_neg q]
            rcases v3 with v3 | ⟨u, v3, v4⟩
            · exact Or.inl v3
            · have v4' : v = sf_ct F (fun l => sf_pln l p (S 0) n) u k := v4
              refine Or.inr ⟨u, v3, ?_⟩
              show v = sf_ct F (fun l => sf_pln l p (S 0) n) u (k + 1)
              rw [step u]
              by_cases q2 : u = t
              · subst q2
                omega
              · rw [if_neg q2]; exact v4'
      obtain ⟨C', v', z1, z2⟩ := ih (k + 1) (sf_ru C t (C t + 1)) _ (by omega) (by omega) (fun u hu => by
        rw [step u]
        by_cases q : u = t
        · subst q
          rw [sf_ru_eq, if_pos rfl, hCt]
        · rw [sf_ru_ne q, if_neg q]
          exact hC u hu) hv'
      refine ⟨C', v', z1, fun K => ?_⟩
      have lik : ∀ D, sf_likes n (sf_tr V S D (sf_rf 409 28)) (k : Int) (p : Int) = (t : Int) := fun D => by
        rw [sf_likes_c (sf_req_self (T := S) hn5 (fun j hj _ => x28 D j hj)), ht]
      have b5 : t < 5 := by omega
      simp only [q157_104, q157_106, q157_108]
      rw [if_neg (by omega)]
      simp only [q157_111, q157_112, q157_114, q157_115, q157_116, q157_117]
      rw [sf_i32, sf_i32, sf_fm_bit (by omega), if_pos h1, q157_118, if_pos rfl]
      simp only [q157_121, q157_122, q157_125, q157_126, q157_128, q157_130, sf_y]
      rw [s123 (n := n) (by rw [x407]; exact hn) (by omega) hn5 (by omega) (by omega) (by rw [x28 _ _ (by omega)]; exact hd), lik]
      simp only [q157_133, q157_134, q157_135, q157_136, q157_137, q157_138, q157_140, q157_141, q157_144, q157_145, q157_147, q157_149, sf_y, c39, sf_y39, sf_bd, b5, true_and, Int.toNat_natCast, x39, Option.toList_some, Option.toList_none, List.cons_append, List.nil_append]
      have eu : sf_upd (sf_tr V S C) (sf_rf 409 39) t (sf_w (C t + 1)) = sf_tr V S (sf_ru C t (C t + 1)) := by
        rw [sf_w_small (by omega)]
        unfold sf_tr
        exact sf_put_ru b5
      rw [eu]
      rw [s123 (n := n) (by rw [x407]; exact hn) (by omega) hn5 (by omega) (by omega) (by rw [x28 _ _ (by omega)]; exact hd), lik]
      simp only [q157_152, q157_153, s102, c39, sf_y39, sf_bd, b5, true_and, Int.toNat_natCast, x39 _ t b5, sf_ru_eq, Option.toList_some, Option.toList_none, List.cons_append, List.nil_append]
      simp only [q157_156, q157_158]
      rw [q157_161, sf_wS (by omega)]
      have e2 : (if C t + 1 < v then v else C t + 1) = if v < C t + 1 then C t + 1 else v := by
        split <;> split <;> omega
      rw [e2]
      exact z2 K
    · have step : ∀ u : Int, sf_ct F (fun l => sf_pln l p (S 0) n) u (k + 1) = sf_ct F (fun l => sf_pln l p (S 0) n) u k := fun u => if_neg (fun z => h1 z.1)
      obtain ⟨C', v', z1, z2⟩ := ih (k + 1) C v (by omega) (by omega) (fun u hu => by rw [step u]; exact hC u hu) (by
        have e : (fun t : Nat => sf_ct F (fun l => sf_pln l p (S 0) n) t (k + 1)) = fun t : Nat => sf_ct F (fun l => sf_pln l p (S 0) n) t k := by
          funext u
          exact step u
        rw [e]; exact hv)
      refine ⟨C', v', z1, fun K => ?_⟩
      simp only [q157_104, q157_106, q157_108]
      rw [if_neg (by omega)]
      simp only [q157_111, q157_112, q157_114, q157_115, q157_116, q157_117]
      rw [sf_i32, sf_i32, sf_fm_bit (by omega), if_neg h1, q157_118, if_neg (by decide)]
      simp only [q157_158]
      rw [q157_161, sf_wS (by omega)]
      exact z2 K
theorem s157_out {F : Nat → Bool} {S : Nat → Int} {e l3 : Int} {P : Nat → Int} (hn : V 409 0 = (n : Int)) (hn5 : n ≤ 5) (hd : 0 ≤ S 0 ∧ S 0 < n) (hP : ∀ p : Nat, P p = sf_mx (fun t => sf_ct F (fun l => sf_pln l p (S 0) n) t 7) n) : ∀ (m p : Nat) (C : Nat → Int) , n - p = m → p ≤ n →
    ∃ C', ∀ K l7 l8, sf_wp 19 none 157 66 [some (.inr (.inl (some 409))), some (.inl e), some (.inl (sf_fmk F 7).toInt), some (.inl l3), some (.inl (sf_tn P (sf_bc F 7) p).1), some (.inl (sf_tn P (sf_bc F 7) p).2), some (.inl (p : Int)), l7, l8] [] (sf_E (sf_tr V S C)) K = K (some (.inl (sf_tn P (sf_bc F 7) n).2)) (sf_E (sf_tr V S C')) := by
  have x407 : ∀ C, sf_tr V S C 409 = V 409 := fun C => by
    unfold sf_tr
    rw [sf_put_ne (by simp [sf_Yne_rf]), sf_so_y]
  intro m
  induction m with
  | zero =>
    intro p C hm hp
    refine ⟨C, fun K l7 l8 => ?_⟩
    simp only [q157_66, q157_68, q157_69, q157_72, sf_y, x407, hn]
    rw [if_pos (by omega), show p = n by omega]
    simp only [q157_195, q157_197]
  | succ m ih =>
    intro p C hm hp
    have c0 : ∀ t : Int, sf_ct F (fun l => sf_pln l p (S 0) n) t 0 = 0 := fun _ => rfl
    obtain ⟨C1, v, hv, h1⟩ := s157_in (F := F) (S := S) (e := e) (l3 := l3) (b := (sf_tn P (sf_bc F 7) p).1) (w := (sf_tn P (sf_bc F 7) p).2) (p := p) hn hn5 (by omega) hd 7 0 (fun _ => 0) 0 rfl (by omega) (fun t _ => (c0 t).symm) ⟨Int.le_refl 0, fun t _ => by show sf_ct _ _ _ _ ≤ _; rw [c0]; exact Int.le_refl 0, Or.inl rfl⟩
    have hvP : v = P p := by
      rw [hP p]
      exact sf_isx_eq hv (sf_mx_isx n)
    obtain ⟨C', h2⟩ := ih (p + 1) C1 (by omega) (by omega)
    refine ⟨C', fun K l7 l8 => ?_⟩
    have e1 : sf_tn P (sf_bc F 7) (p + 1) = if P p < (sf_tn P (sf_bc F 7) p).1 then (P p, (p : Int)) else sf_tn P (sf_bc F 7) p := rfl
    have h3 := h2 K
    rw [e1] at h3
    simp only [q157_66, q157_68, q157_69, q157_72, sf_y, x407, hn]
    rw [if_neg (by omega)]
    simp only [q157_75, q157_76, q157_78, q157_79]
    refine Eq.trans (s157_zero rfl 5 0 _ rfl (by omega)) ?_
    have e2 : sf_put (sf_tr V S C) (sf_rf 409 39) 0 5 (fun _ => 0) = sf_tr V S (fun _ => 0) := by
      unfold sf_tr
      exact sf_put_put
    rw [e2]
    simp only [q157_101, q157_102]
    refine Eq.trans (h1 K) ?_
    simp only [q157_164, q157_166, q157_168]
    rw [hvP]
    by_cases h : P p < (sf_tn P (sf_bc F 7) p).1
    · rw [if_pos h] at h3
      rw [if_neg (by omega)]
      simp only [q157_171, q157_173, q157_176, q157_178, q157_180, q157_182, q157_184, s101, Option.toList_some, Option.toList_none, List.cons_append, List.nil_append]
      rw [if_neg (by omega)]
      simp only [q157_187, q157_189]
      rw [q157_192, sf_wS (by omega)]
      exact h3 _ _
    · rw [if_neg h] at h3
      rw [if_pos (by omega)]
      simp only [q157_176, q157_178, q157_180, q157_182, q157_184, s101, Option.toList_some, Option.toList_none, List.cons_append, List.nil_append]
      have e4 : (if (sf_tn P (sf_bc F 7) p).1 < P p then (sf_tn P (sf_bc F 7) p).1 else P p) = (sf_tn P (sf_bc F 7) p).1 := by
        split <;> omega
      rw [e4]
      simp only [q157_187, q157_189]
      rw [q157_192, sf_wS (by omega)]
      exact h3 _ _
theorem p_tryNext (R : sf_RR V n nx c ce cf cg) {e : Int} : sf_P2 83 157 [some (.inl e), none, none, none, none, none] [some (.inl e), none, none, none, none, none, none, none] V := by
  have c1 := sf_c11_1 sf_x
  have c8 := sf_c11_8 sf_x
  have ha := R.a
  have hb := R.b
  have hn5 := ha.n5
  by_cases hp : 0 ≤ e ∧ e < 6
  · by_cases hn : n = 0
    · refine ⟨-1000000003, V, V, n, nx, c, ce, cf, cg, ?_, ?_, R⟩
      · intro K
        simp only [q83_0, q83_1, s92, q83_4, Option.toList_some, Option.toList_none, List.cons_append, List.nil_append]
        rw [if_pos hp, if_neg (by decide)]
        simp only [q83_10, q83_11, q83_14, sf_x, c1, ha.xn]
        rw [q83_17, if_pos (by omega)]
        simp only [q83_20, q83_22]
      · intro K
        simp only [q157_0, q157_1, s118, q157_4, Option.toList_some, Option.toList_none, List.cons_append, List.nil_append]
        rw [sf_inB_y (by omega), if_neg (by decide)]
        simp only [q157_10, q157_11, sf_y, ha.yn]
        rw [q157_14, if_pos (by omega)]
        simp only [q157_17, q157_19]
    · obtain ⟨S', h⟩ := s155 R (e := e)
      have hd := hb.y.d
      have hdx : sf_getS V (sf_rf 0 2) 0 = V (sf_rf 409 4) 0 := hb.q.d
      generalize hF : (fun l => sf_alw (sf_ng V n e l) 0 ce) = F at h
      obtain ⟨C', h2⟩ := s157_out (V := V) (F := F) (S := V (sf_rf 409 4)) (e := e) (l3 := sf_bc F 7) (P := sf_pa V n F) ha.yn hn5 (by omega) (fun p => by
        unfold sf_pa sf_pt2
        rw [hdx]) n 0 (V (sf_rf 409 39)) (by omega) (by omega)
      refine ⟨(sf_tn (sf_pa V n F) (sf_bc F 7) n).2, V, sf_tr V (V (sf_rf 409 4)) C', n, nx, c, ce, cf, cg, ?_, ?_, ?_⟩
      · intro K
        simp only [q83_0, q83_1, s92, q83_4, Option.toList_some, Option.toList_none, List.cons_append, List.nil_append]
        rw [if_pos hp, if_neg (by decide)]
        simp only [q83_10, q83_11, q83_14, sf_x, c1, ha.xn]
        rw [q83_17, if_neg (by omega)]
        simp only [q83_23, q83_24, q83_27, q83_28, q83_29, q83_32, q83_35, sf_x, c1, c8, ha.xn]
        rw [s11 (d := 16) R, hF]
        simp only [q83_38, q83_39, q83_40, Option.toList_some, Option.toList_none, List.cons_append, List.nil_append]
        rw [s164]
        simp only [q83_43, q83_44, q83_45, q83_47, q83_48, Option.toList_some, Option.toList_none, List.cons_append, List.nil_append]
        exact s83_loop (F := F) ha.xn hn5 (by omega) n 0 none (by omega) (by omega)
      · intro K
        simp only [q157_0, q157_1, s118, q157_4, Option.toList_some, Option.toList_none, List.cons_append, List.nil_append]
        rw [sf_inB_y (by omega), if_neg (by decide)]
        simp only [q157_10, q157_11, sf_y, ha.yn]
        rw [q157_14, if_neg (by omega)]
        simp only [q157_20, q157_21, q157_22, sf_y, h, Option.toList_some, Option.toList_none, List.cons_append, List.nil_append]
        simp only [q157_25, q157_26, q157_27, q157_28, q157_29]
        refine Eq.trans (s157_cnt (F := F) 7 0 rfl (by omega)) ?_
        simp only [q157_53, q157_54, sf_y]
        have e4 : sf_put V (sf_rf 409 28) 0 20 S' (sf_rf 409 4) = V (sf_rf 409 4) := sf_so_k (by decide)
        rw [s122, e4, sf_put_put]
        simp only [q157_57, q157_58, q157_60, q157_61, q157_63, q157_64, Option.toList_some, Option.toList_none, List.cons_append, List.nil_append]
        have e5 : sf_put V (sf_rf 409 28) 0 20 (V (sf_rf 409 4)) = sf_tr V (V (sf_rf 409 4)) (V (sf_rf 409 39)) := by
          unfold sf_tr
          have := sf_put_self (V := sf_put V (sf_rf 409 28) 0 20 (V (sf_rf 409 4))) (a := sf_rf 409 39) (n := 5)
          rw [sf_so_k (k := 39) (by decide)] at this
          exact this.symm
        rw [e5]
        exact h2 K none none
      · refine sf_RR_ref R (fun a _ h => ?_) (fun j _ => ?_) (fun j hj => ?_) <;> unfold sf_tr
        · rw [sf_put_ne (h 39), sf_put_ne (h 28)]
        · rw [sf_put_ne (by simp [sf_Yne_rf]), sf_so_y]
        · rw [sf_put_ne (by simp [sf_rf_inj]; omega), sf_so_k (by omega)]
  · refine ⟨-1000000001, V, V, n, nx, c, ce, cf, cg, ?_, ?_, R⟩
    · intro K
      simp only [q83_0, q83_1, s92, q83_4, Option.toList_some, Option.toList_none, List.cons_append, List.nil_append]
      rw [if_neg hp, if_pos rfl]
      simp only [q83_7, q83_9]
    · intro K
      simp only [q157_0, q157_1, s118, q157_4, Option.toList_some, Option.toList_none, List.cons_append, List.nil_append]
      rw [sf_inB_n (by omega), if_pos rfl]
      simp only [q157_7, q157_9]
end SFP26

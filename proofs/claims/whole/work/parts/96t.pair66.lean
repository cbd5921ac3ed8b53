/-! run, hoursOf, spread -/
def sf_feX (w : Nat → Int) : Nat → Int
  | 0 => 0
  | m + 1 => if sf_feX w m < w m then w m else sf_feX w m
def sf_feI (w : Nat → Int) : Nat → Int
  | 0 => 1000000
  | m + 1 => if w m < sf_feI w m then w m else sf_feI w m
section SFP66
variable {V : sf_MV} {n nx c ce cf cg : Nat} {S sa da : Nat → Int} {h l p B : Int} {K : Option sf_V → sf_M → Prop}
theorem s24_loop {d i J : Nat} (R : sf_RR V n nx c ce cf cg) (Z : sf_feZ n cf B (V (sf_rf 409 11)) S) (hB : B ≤ 90099) (hi : i < J) (hJ : J ≤ 100)
    (hA : sf_feE (sf_feg n cf (V (sf_rf 409 11)) S (cf * i)) n n = sf_feE (sf_feg n cf (V (sf_rf 409 11)) S (cf * J)) n n)
    (hmin : ∀ b, b < J → ∀ a, a < b → ¬ sf_feE (sf_feg n cf (V (sf_rf 409 11)) S (cf * a)) n n = sf_feE (sf_feg n cf (V (sf_rf 409 11)) S (cf * b)) n n) :
    ∀ m x sa, J - x = m + 1 → x < J → (∀ e, e ≤ x → sa e = sf_feE (sf_feg n cf (V (sf_rf 409 11)) S (cf * e)) n n) →
    ∃ sa', ∀ K, sf_wp (d + 4) none 24 46 [some (.inr (.inl (some (sf_rf 0 12)))), some (.inl (n : Int)), some (.inr (.inl (some (sf_rf 0 2)))), some (.inr (.inl (some (sf_rf 0 9)))), some (.inl ((x + 1 : Nat) : Int))] [] (sf_E (sf_mr V (sf_feg n cf (V (sf_rf 409 11)) S (cf * x)) sa (sf_dak (sf_feDar n cf (V (sf_rf 409 11)) S) da (cf * x)) ((cf * x : Nat) : Int) l (-1))) K
    = K none (sf_E (sf_mr V (sf_feg n cf (V (sf_rf 409 11)) S (cf * J)) sa' (sf_dak (sf_feDar n cf (V (sf_rf 409 11)) S) da (cf * J)) ((cf * J : Nat) : Int) ((cf * (J - i) : Nat) : Int) ((J - i : Nat) : Int))) := by
  have hf := R.f
  have cf20 := hf.c20
  have n5 := Z.n5
  have n0 := Z.n0
  have L0 := Z.L0
  have x9 := sf_c11_9 sf_x
  have x12 := sf_c11_12 sf_x
  have z1 := sf_c6_1 x12
  have hcd : ∀ x, 0 ≤ sf_feg n cf (V (sf_rf 409 11)) S x 0 ∧ sf_feg n cf (V (sf_rf 409 11)) S x 0 < 5 := fun x => by
    have := (sf_feg_ok Z x).1
    omega
  intro m
  induction m with
  | zero =>
    intro x sa hm hx hsa
    have eJ : J = x + 1 := by omega
    subst eJ
    have hne : ∀ e, 0 ≤ e → e < i → ¬ sf_ru sa (x + 1) (sf_feE (sf_feg n cf (V (sf_rf 409 11)) S (cf * (x + 1))) n n) e = sf_ru sa (x + 1) (sf_feE (sf_feg n cf (V (sf_rf 409 11)) S (cf * (x + 1))) n n) (x + 1) := fun e _ he => by
      rw [sf_ru_eq, sf_ru_ne (by omega), hsa e (by omega), ← hA]
      exact hmin i hi e he
    have heq : sf_ru sa (x + 1) (sf_feE (sf_feg n cf (V (sf_rf 409 11)) S (cf * (x + 1))) n n) i = sf_ru sa (x + 1) (sf_feE (sf_feg n cf (V (sf_rf 409 11)) S (cf * (x + 1))) n n) (x + 1) := by
      rw [sf_ru_eq, sf_ru_ne (by omega), hsa i (by omega), hA]
    refine ⟨sf_ru sa (x + 1) (sf_feE (sf_feg n cf (V (sf_rf 409 11)) S (cf * (x + 1))) n n), fun K => ?_⟩
    have m9 := (sf_mr_bk (V := V) (S := sf_feg n cf (V (sf_rf 409 11)) S (cf * x)) (sa := sa) (da := sf_dak (sf_feDar n cf (V (sf_rf 409 11)) S) da (cf * x)) (h := ((cf * x : Nat) : Int)) (l := l) (p := -1)).1
    have l25 := s25_loop (d := d) (x := x) (sa := sa) (da := da) (l := l) (p := -1) (K := fun r M1 => sf_wp (d + 4) none 24 74 [some (.inr (.inl (some (sf_rf 0 12)))), some (.inl (n : Int)), some (.inr (.inl (some (sf_rf 0 2)))), some (.inr (.inl (some (sf_rf 0 9)))), some (.inl ((x + 1 : Nat) : Int))] (r.toList ++ []) M1 K) R Z hB (by omega) cf 0 (by omega) (by omega)
    rw [Nat.add_zero] at l25
    simp only [q24_46, q24_48, q24_50]
    rw [if_neg (by omega)]
    simp only [q24_53, q24_54, q24_57, q24_58, x12, sf_mr_p]
    rw [if_pos trivial]
    simp only [q24_61, q24_62, q24_65, x9, m9, hf.x]
    rw [if_neg (by omega)]
    simp only [q24_68, q24_69, q24_70, q24_71, x12, q25_0, q25_1]
    refine Eq.trans l25 ?_
    simp only [q24_74, q24_75, q24_78, q24_80, q24_81, q24_82, x12, z1, Option.toList_some, Option.toList_none, List.cons_append, List.nil_append]
    rw [s26 (d := d + 2) n5 (hcd _)]
    simp only [q24_85, z1, s32, Option.toList_some, Option.toList_none, List.cons_append, List.nil_append]
    rw [sf_mr_ws (by omega)]
    simp only [q24_88, q24_89, q24_90, q24_92, x12, q27_0, q27_1, Option.toList_some, Option.toList_none, List.cons_append, List.nil_append]
    refine Eq.trans (s27_hit (d := d + 2) (by omega) (by omega) heq i 0 (by omega) (by omega) hne) ?_
    simp only [q24_95, q24_98, x12, sf_mr_up, Option.toList_some, Option.toList_none, List.cons_append, List.nil_append]
    have m9' := (sf_mr_bk (V := V) (S := sf_feg n cf (V (sf_rf 409 11)) S (cf * (x + 1))) (sa := sf_ru sa (x + 1) (sf_feE (sf_feg n cf (V (sf_rf 409 11)) S (cf * (x + 1))) n n)) (da := sf_dak (sf_feDar n cf (V (sf_rf 409 11)) S) da (cf * (x + 1))) (h := ((cf * (x + 1) : Nat) : Int)) (l := l) (p := ((x + 1 - i : Nat) : Int))).1
    have hcx : cf * (x + 1 - i) ≤ 20 * 100 := Nat.mul_le_mul cf20 (by omega)
    have hcast : ((x + 1 - i : Nat) : Int) * (cf : Int) = ((cf * (x + 1 - i) : Nat) : Int) := by rw [Int.natCast_mul, Int.mul_comm]
    have e46 : sf_wp (d + 4) none 24 46 [some (.inr (.inl (some (sf_rf 0 12)))), some (.inl (n : Int)), some (.inr (.inl (some (sf_rf 0 2)))), some (.inr (.inl (some (sf_rf 0 9)))), some (.inl (((x + 1) + 1 : Nat) : Int))] [] (sf_E (sf_mr V (sf_feg n cf (V (sf_rf 409 11)) S (cf * (x + 1))) (sf_ru sa (x + 1) (sf_feE (sf_feg n cf (V (sf_rf 409 11)) S (cf * (x + 1))) n n)) (sf_dak (sf_feDar n cf (V (sf_rf 409 11)) S) da (cf * (x + 1))) ((cf * (x + 1) : Nat) : Int) l ((x + 1 - i : Nat) : Int))) K
        = sf_wp (d + 4) none 24 104 [some (.inr (.inl (some (sf_rf 0 12)))), some (.inl (n : Int)), some (.inr (.inl (some (sf_rf 0 2)))), some (.inr (.inl (some (sf_rf 0 9)))), some (.inl (((x + 1) + 1 : Nat) : Int))] [] (sf_E (sf_mr V (sf_feg n cf (V (sf_rf 409 11)) S (cf * (x + 1))) (sf_ru sa (x + 1) (sf_feE (sf_feg n cf (V (sf_rf 409 11)) S (cf * (x + 1))) n n)) (sf_dak (sf_feDar n cf (V (sf_rf 409 11)) S) da (cf * (x + 1))) ((cf * (x + 1) : Nat) : Int) l ((x + 1 - i : Nat) : Int))) K := by
      simp only [q24_46, q24_48, q24_50]
      by_cases q : (100 : Int) < (((x + 1) + 1 : Nat) : Int)
      · rw [if_pos q]
      · rw [if_neg q]
        simp only [q24_53, q24_54, q24_57, q24_58, x12, sf_mr_p]
        rw [if_neg (by omega)]
    rw [q24_101, sf_wS (by omega), e46]
    simp only [q24_104, q24_105, q24_106, q24_109, q24_110, x12, sf_mr_p]
    rw [if_neg (by omega)]
    simp only [q24_117, q24_118, q24_121, q24_122, q24_125, q24_126, q24_129, x12, x9, sf_mr_p, m9', hf.x, sf_mr_ul]
    rw [hcast, sf_w_small (by omega)]
  | succ m ih =>
    intro x sa hm hx hsa
    have hne : ∀ e, 0 ≤ e → e < x + 1 → ¬ sf_ru sa (x + 1) (sf_feE (sf_feg n cf (V (sf_rf 409 11)) S (cf * (x + 1))) n n) e = sf_ru sa (x + 1) (sf_feE (sf_feg n cf (V (sf_rf 409 11)) S (cf * (x + 1))) n n) (x + 1) := fun e _ he => by
      rw [sf_ru_eq, sf_ru_ne (by omega), hsa e (by omega)]
      exact hmin (x + 1) (by omega) e he
    obtain ⟨sa', ih⟩ := ih (x + 1) (sf_ru sa (x + 1) (sf_feE (sf_feg n cf (V (sf_rf 409 11)) S (cf * (x + 1))) n n)) (by omega) (by omega) (fun e he => by
      by_cases q : e = x + 1
      · rw [q, sf_ru_eq]
      · rw [sf_ru_ne q]; exact hsa e (by omega))
    refine ⟨sa', fun K => ?_⟩
    have m9 := (sf_mr_bk (V := V) (S := sf_feg n cf (V (sf_rf 409 11)) S (cf * x)) (sa := sa) (da := sf_dak (sf_feDar n cf (V (sf_rf 409 11)) S) da (cf * x)) (h := ((cf * x : Nat) : Int)) (l := l) (p := -1)).1
    have l25 := s25_loop (d := d) (x := x) (sa := sa) (da := da) (l := l) (p := -1) (K := fun r M1 => sf_wp (d + 4) none 24 74 [some (.inr (.inl (some (sf_rf 0 12)))), some (.inl (n : Int)), some (.inr (.inl (some (sf_rf 0 2)))), some (.inr (.inl (some (sf_rf 0 9)))), some (.inl ((x + 1 : Nat) : Int))] (r.toList ++ []) M1 K) R Z hB (by omega) cf 0 (by omega) (by omega)
    rw [Nat.add_zero] at l25
    simp only [q24_46, q24_48, q24_50]
    rw [if_neg (by omega)]
    simp only [q24_53, q24_54, q24_57, q24_58, x12, sf_mr_p]
    rw [if_pos trivial]
    simp only [q24_61, q24_62, q24_65, x9, m9, hf.x]
    rw [if_neg (by omega)]
    simp only [q24_68, q24_69, q24_70, q24_71, x12, q25_0, q25_1]
    refine Eq.trans l25 ?_
    simp only [q24_74, q24_75, q24_78, q24_80, q24_81, q24_82, x12, z1, Option.toList_some, Option.toList_none, List.cons_append, List.nil_append]
    rw [s26 (d := d + 2) n5 (hcd _)]
    simp only [q24_85, z1, s32, Option.toList_some, Option.toList_none, List.cons_append, List.nil_append]
    rw [sf_mr_ws (by omega)]
    simp only [q24_88, q24_89, q24_90, q24_92, x12, q27_0, q27_1, Option.toList_some, Option.toList_none, List.cons_append, List.nil_append]
    refine Eq.trans (s27_miss (d := d + 2) (by omega) (x + 1) 0 (by omega) (by omega) hne) ?_
    simp only [q24_95, q24_98, x12, sf_mr_up, Option.toList_some, Option.toList_none, List.cons_append, List.nil_append]
    rw [q24_101, sf_wS (by omega)]
    exact ih K
/-- the row the rounds begin with -/
def sf_fe50 (S : Nat → Int) : Nat → Int := fun k => if 4 ≤ k ∧ k < 9 then 50 else S k
theorem sf_put50 : sf_put (sf_setS V (sf_rf (sf_rf 0 12) 0) S) (sf_rf (sf_rf (sf_rf (sf_rf 0 12) 0) 0) 0) 0 5 (fun _ => 50) = sf_setS V (sf_rf (sf_rf 0 12) 0) (sf_fe50 S) := by
  funext a k
  by_cases e : a = sf_rf (sf_rf (sf_rf (sf_rf 0 12) 0) 0) 0
  · subst e
    by_cases q : k < 5
    · rw [sf_put_at q]
      refine Eq.trans ?_ (sf_setS_w q).symm
      unfold sf_fe50
      rw [if_pos (by omega)]
    · unfold sf_put
      rw [if_neg (by omega)]
      obtain ⟨a1, a2, a3, a4, a5, a6⟩ := sf_apart1 (sf_rf (sf_rf 0 12) 0)
      simp only [sf_wa, sf_si, sf_la] at a1 a4 a5
      unfold sf_setS sf_wa sf_si sf_la
      rw [if_neg (fun z => a1 z.1.symm), if_neg (fun z => q z.2), if_neg (fun z => a4 z.1), if_neg (fun z => a5 z.1), if_neg (fun z => a1 z.1.symm), if_neg (fun z => q z.2), if_neg (fun z => a4 z.1), if_neg (fun z => a5 z.1)]
  · rw [sf_put_ne e]
    apply sf_setS_off
    · intro i h1 h2 h3
      unfold sf_fe50
      rw [if_neg (by omega)]
    · intro i h1 h2 h3
      exact absurd h2 e
    · intro i h1 h2 h3
      unfold sf_fe50
      rw [if_neg (by omega)]
    · intro i h1 h2 h3
      unfold sf_fe50
      rw [if_neg (by omega)]
theorem sf_mrb_self : sf_mrb V (V (sf_rf (sf_rf (sf_rf 0 12) 1) 0)) (V (sf_rf (sf_rf (sf_rf 0 12) 2) 0)) (V (sf_rf 0 12) 3) (V (sf_rf 0 12) 4) (V (sf_rf 0 12) 5) = V := by
  funext a k
  unfold sf_mrb
  split
  · rename_i z; rw [z.1, z.2]
  split
  · rename_i z; rw [z.1, z.2]
  split
  · rename_i z; rw [z.1, z.2]
  split
  · rename_i z; rw [z.1]
  split
  · rename_i z; rw [z.1]
  rfl
theorem s24 {d i J : Nat} (R : sf_RR V n nx c ce cf cg) (Z : sf_feZ n cf B (V (sf_rf 409 11)) (sf_fe50 (sf_getS V (sf_rf 0 2)))) (hB : B ≤ 90099) (hi : i < J) (hJ : J ≤ 100)
    (hA : sf_feE (sf_feg n cf (V (sf_rf 409 11)) (sf_fe50 (sf_getS V (sf_rf 0 2))) (cf * i)) n n = sf_feE (sf_feg n cf (V (sf_rf 409 11)) (sf_fe50 (sf_getS V (sf_rf 0 2))) (cf * J)) n n)
    (hmin : ∀ b, b < J → ∀ a, a < b → ¬ sf_feE (sf_feg n cf (V (sf_rf 409 11)) (sf_fe50 (sf_getS V (sf_rf 0 2))) (cf * a)) n n = sf_feE (sf_feg n cf (V (sf_rf 409 11)) (sf_fe50 (sf_getS V (sf_rf 0 2))) (cf * b)) n n) :
    ∃ S' sa' da', (∀ x, x < cf * J → da' x = (sf_feDar n cf (V (sf_rf 409 11)) (sf_fe50 (sf_getS V (sf_rf 0 2))) (x + 1) : Int)) ∧ ∀ K, sf_wp (d + 4) none 24 0 [some (.inr (.inl (some (sf_rf 0 12)))), some (.inl (n : Int)), some (.inr (.inl (some (sf_rf 0 2)))), some (.inr (.inl (some (sf_rf 0 9)))), none] [] (sf_E V) K
    = K none (sf_E (sf_mr V S' sa' da' ((cf * J : Nat) : Int) ((cf * (J - i) : Nat) : Int) ((J - i : Nat) : Int))) := by
  have x2 := sf_c11_2 sf_x
  have x12 := sf_c11_12 sf_x
  have z1 := sf_c6_1 x12
  have st9 := sf_st9
  have st0 := sf_c9_0 st9
  obtain ⟨l1, l2, l3⟩ := sf_stoveLen st9
  have n5 := Z.n5
  have hd := (sf_feg_ok Z 0).1
  have hd : 0 ≤ sf_fe50 (sf_getS V (sf_rf 0 2)) 0 ∧ sf_fe50 (sf_getS V (sf_rf 0 2)) 0 < n := hd
  obtain ⟨sa', lp⟩ := s24_loop (d := d) (da := V (sf_rf (sf_rf (sf_rf 0 12) 2) 0)) (l := V (sf_rf 0 12) 4) R Z hB hi hJ hA hmin (J - 1) 0 (sf_ru (V (sf_rf (sf_rf (sf_rf 0 12) 1) 0)) 0 (sf_feE (sf_fe50 (sf_getS V (sf_rf 0 2))) n n)) (by omega) (by omega) (fun e he => by
    have : e = 0 := by omega
    subst this
    rw [sf_ru_eq]
    rfl)
  refine ⟨sf_feg n cf (V (sf_rf 409 11)) (sf_fe50 (sf_getS V (sf_rf 0 2))) (cf * J), sa', sf_dak (sf_feDar n cf (V (sf_rf 409 11)) (sf_fe50 (sf_getS V (sf_rf 0 2)))) (V (sf_rf (sf_rf (sf_rf 0 12) 2) 0)) (cf * J), ?_, fun K => ?_⟩
  rotate_left 1
  · have h0 := sf_mr_up (V := V) (S := sf_fe50 (sf_getS V (sf_rf 0 2))) (sa := V (sf_rf (sf_rf (sf_rf 0 12) 1) 0)) (da := V (sf_rf (sf_rf (sf_rf 0 12) 2) 0)) (h := 0) (l := V (sf_rf 0 12) 4) (p := V (sf_rf 0 12) 5) (v := -1)
    have f0 : sf_setS V (sf_rf (sf_rf 0 12) 0) (sf_fe50 (sf_getS V (sf_rf 0 2))) = sf_mr V (sf_fe50 (sf_getS V (sf_rf 0 2))) (V (sf_rf (sf_rf (sf_rf 0 12) 1) 0)) (V (sf_rf (sf_rf (sf_rf 0 12) 2) 0)) (V (sf_rf 0 12) 3) (V (sf_rf 0 12) 4) (V (sf_rf 0 12) 5) := by
      unfold sf_mr
      rw [sf_mrb_self]
    simp only [q24_0, q24_1, q24_4, q24_5, x12, st9]
    rw [s39 (d := d + 2) st9 x2 (by simp [sf_rf_inj])]
    simp only [q24_8, q24_9, q24_12, q24_15, q24_17, x12, st9, st0, s33, l1, sf_put50, f0, Option.toList_some, Option.toList_none, List.cons_append, List.nil_append]
    simp only [q24_20, q24_21, q24_22, q24_25, q24_26, q24_27, q24_30, q24_31, q24_34, q24_35, q24_36, q24_37, x12, z1, sf_mr_uh, sf_mr_up, Option.toList_some, Option.toList_none, List.cons_append, List.nil_append]
    rw [s26 (d := d + 2) n5 (by omega)]
    simp only [q24_40, z1, s32, Option.toList_some, Option.toList_none, List.cons_append, List.nil_append]
    have w0 : sf_wr (sf_mr V (sf_fe50 (sf_getS V (sf_rf 0 2))) (V (sf_rf (sf_rf (sf_rf 0 12) 1) 0)) (V (sf_rf (sf_rf (sf_rf 0 12) 2) 0)) 0 (V (sf_rf 0 12) 4) (-1)) (sf_rf (sf_rf (sf_rf 0 12) 1) 0) 0 (sf_feE (sf_fe50 (sf_getS V (sf_rf 0 2))) n n) = sf_mr V (sf_fe50 (sf_getS V (sf_rf 0 2))) (sf_ru (V (sf_rf (sf_rf (sf_rf 0 12) 1) 0)) 0 (sf_feE (sf_fe50 (sf_getS V (sf_rf 0 2))) n n)) (V (sf_rf (sf_rf (sf_rf 0 12) 2) 0)) 0 (V (sf_rf 0 12) 4) (-1) := sf_mr_ws (j := 0) (by omega)
    have d0 : sf_dak (sf_feDar n cf (V (sf_rf 409 11)) (sf_fe50 (sf_getS V (sf_rf 0 2)))) (V (sf_rf (sf_rf (sf_rf 0 12) 2) 0)) (cf * 0) = V (sf_rf (sf_rf (sf_rf 0 12) 2) 0) := by
      funext k
      unfold sf_dak
      rw [if_neg (by omega)]
    have lp := lp K
    rw [d0] at lp
    rw [w0]
    simp only [q24_43, q24_44, Option.toList_some, Option.toList_none, List.cons_append, List.nil_append]
    exact lp
  · intro x hx
    show sf_dak _ _ _ x = _
    unfold sf_dak
    rw [if_pos hx]
/-! hoursOf -/
theorem s28_loop {d a N : Nat} {q : Int} (ham : a + N ≤ 2000) : ∀ m k, N - k = m → k ≤ N →
    sf_wp (d + 1) none 28 12 [some (.inr (.inl (some (sf_rf 0 12)))), some (.inl q), some (.inl (sf_feC (fun x => decide (da (a + x) = q)) k : Int)), some (.inl ((a + k : Nat) : Int))] [] (sf_E (sf_mr V S sa da ((a + N : Nat) : Int) l p)) K
    = K (some (.inl (sf_feC (fun x => decide (da (a + x) = q)) N : Int))) (sf_E (sf_mr V S sa da ((a + N : Nat) : Int) l p)) := by
  have x12 := sf_c11_12 sf_x
  have z2 := sf_c6_2 x12
  intro m
  induction m with
  | zero =>
    intro k hm hk
    have e : k = N := by omega
    subst e
    simp only [q28_12, q28_13, q28_14, q28_17, x12, sf_mr_h]
    rw [if_pos (by omega)]
    simp only [q28_41, q28_42]
  | succ m ih =>
    intro k hm hk
    have ih := ih (k + 1) (by omega) (by omega)
    have r1 := sf_mr_rd (V := V) (S := S) (sa := sa) (da := da) (h := ((a + N : Nat) : Int)) (l := l) (p := p) (j := a + k) (by omega)
    have eC : sf_feC (fun x => decide (da (a + x) = q)) (k + 1) = sf_feC (fun x => decide (da (a + x) = q)) k + (if decide (da (a + k) = q) = true then 1 else 0) := rfl
    have bd := sf_feC_bd (f := fun x => decide (da (a + x) = q)) k
    simp only [q28_12, q28_13, q28_14, q28_17, q28_20, q28_21, q28_24, q28_25, q28_28, q28_29, x12, z2, sf_mr_h, s31, r1, Option.toList_some, Option.toList_none, List.cons_append, List.nil_append]
    rw [if_neg (by omega)]
    by_cases e : da (a + k) = q
    · rw [if_pos (by rw [decide_eq_true_eq]; exact e)] at eC
      rw [eC] at ih
      rw [if_pos e]
      simp only [q28_32, q28_35]
      rw [q28_38, sf_wS (by omega), sf_wS (by omega)]
      exact ih
    · rw [if_neg (by rw [decide_eq_true_eq]; exact e), Nat.add_zero] at eC
      rw [eC] at ih
      rw [if_neg e]
      simp only [q28_35]
      rw [q28_38, sf_wS (by omega)]
      exact ih
theorem s28 {d a N : Nat} {q : Int} (ham : a + N ≤ 2000) :
    sf_wp (d + 1) none 28 0 [some (.inr (.inl (some (sf_rf 0 12)))), some (.inl q), none, none] [] (sf_E (sf_mr V S sa da ((a + N : Nat) : Int) (N : Int) p)) K
    = K (some (.inl (sf_feC (fun x => decide (da (a + x) = q)) N : Int))) (sf_E (sf_mr V S sa da ((a + N : Nat) : Int) (N : Int) p)) := by
  have x12 := sf_c11_12 sf_x
  have e : sf_w (((a + N : Nat) : Int) - (N : Int)) = ((a + 0 : Nat) : Int) := by rw [sf_w_small (by omega)]; omega
  simp only [q28_0, q28_1, q28_2, q28_3, q28_6, q28_7, q28_10, q28_11, x12, sf_mr_h, sf_mr_l, e]
  exact s28_loop ham N 0 (by omega) (by omega)
/-! spread -/
theorem sf_feXI {w : Nat → Int} (hw : ∀ k, 0 ≤ w k ∧ w k ≤ 2000) : ∀ m, 0 < m → (0 ≤ sf_feX w m ∧ sf_feX w m ≤ 2000) ∧ 0 ≤ sf_feI w m ∧ sf_feI w m ≤ 2000 := by
  intro m
  induction m with
  | zero => intro h; exact absurd h (by omega)
  | succ m ih =>
    intro _
    have := hw m
    unfold sf_feX sf_feI
    by_cases e : m = 0
    · subst e
      unfold sf_feX sf_feI
      refine ⟨?_, ?_⟩
      · split <;> omega
      · split <;> omega
    · have := ih (by omega)
      refine ⟨?_, ?_⟩
      · split <;> omega
      · split <;> omega
theorem s29_loop {d a N : Nat} {w : Nat → Int} (ham : a + N ≤ 2000) (hw : ∀ q, w q = (sf_feC (fun x => decide (da (a + x) = (q : Int))) N : Int)) (hn5 : n ≤ 5) : ∀ m k (l5 : Option sf_V), n - k = m → 0 < k → k ≤ n →
    sf_wp (d + 2) none 29 11 [some (.inr (.inl (some (sf_rf 0 12)))), some (.inl (n : Int)), some (.inl (sf_feI w k)), some (.inl (sf_feX w k)), some (.inl (k : Int)), l5] [] (sf_E (sf_mr V S sa da ((a + N : Nat) : Int) (N : Int) p)) K
    = K (some (.inl (sf_feX w n - sf_feI w n))) (sf_E (sf_mr V S sa da ((a + N : Nat) : Int) (N : Int) p)) := by
  have x12 := sf_c11_12 sf_x
  have wb : ∀ q, 0 ≤ w q ∧ w q ≤ 2000 := fun q => by
    have := sf_feC_bd (f := fun x => decide (da (a + x) = (q : Int))) N
    rw [hw q]
    omega
  intro m
  induction m with
  | zero =>
    intro k l5 hm h0 hk
    have e : k = n := by omega
    subst e
    have b := sf_feXI wb k h0
    simp only [q29_11, q29_13, q29_14]
    rw [if_pos (by omega)]
    simp only [q29_45, q29_46, q29_47, q29_48]
    rw [sf_w_small (by omega)]
  | succ m ih =>
    intro k l5 hm h0 hk
    simp only [q29_11, q29_13, q29_14, q29_17, q29_18, q29_20, x12]
    rw [if_neg (by omega)]
    rw [s28 ham, ← hw k]
    simp only [q29_23, q29_25, q29_26, q29_28, q29_31, q29_32, q29_33, q29_35, q29_38, q29_39, Option.toList_some, Option.toList_none, List.cons_append, List.nil_append]
    rw [q29_42, sf_wS (by omega)]
    exact ih (k + 1) _ (by omega) (by omega) (by omega)
theorem s29 {d a N : Nat} {w : Nat → Int} (ham : a + N ≤ 2000) (hw : ∀ q, w q = (sf_feC (fun x => decide (da (a + x) = (q : Int))) N : Int)) (hn5 : n ≤ 5) (h0 : 0 < n) :
    sf_wp (d + 2) none 29 0 [some (.inr (.inl (some (sf_rf 0 12)))), some (.inl (n : Int)), none, none, none, none] [] (sf_E (sf_mr V S sa da ((a + N : Nat) : Int) (N : Int) p)) K
    = K (some (.inl (sf_feX w n - sf_feI w n))) (sf_E (sf_mr V S sa da ((a + N : Nat) : Int) (N : Int) p)) := by
  have x12 := sf_c11_12 sf_x
  have b := sf_feC_bd (f := fun x => decide (da (a + x) = ((0 : Nat) : Int))) N
  have w0 := hw 0
  have e1 : sf_feX w 1 = w 0 := by
    unfold sf_feX sf_feX
    split <;> omega
  have e2 : sf_feI w 1 = w 0 := by
    unfold sf_feI sf_feI
    rw [if_pos (by omega)]
  have hl := s29_loop (d := d) (V := V) (S := S) (sa := sa) (p := p) (K := K) ham hw hn5 (n - 1) 1 none (by omega) (by omega) (by omega)
  rw [e1, e2] at hl
  simp only [q29_0, q29_1, q29_2, x12]
  rw [s28 (q := 0) ham]
  simp only [q29_5, q29_6, q29_7, q29_8, q29_9, Option.toList_some, Option.toList_none, List.cons_append, List.nil_append]
  have w0' : w 0 = (sf_feC (fun x => decide (da (a + x) = 0)) N : Int) := w0
  rw [← w0']
  exact hl
end SFP66

/-! fair -/
section SFP73
variable {V : sf_MV} {n nx c ce cf cg : Nat}
theorem s150_loop {U : sf_MV} {w : Nat → Nat} {K : Option sf_V → sf_M → Prop} (R : sf_RR U n nx c ce cf cg) (hn : 0 < n) (wb : ∀ q, w q ≤ 2000) (t2 : ∀ K (q : Nat), q < n → sf_wp 18 none 148 0 [some (.inr (.inl (some 409))), some (.inl (q : Int)), none, none] [] (sf_E U) K = K (some (.inl (w q : Int))) (sf_E U)) : ∀ m k, n - k = m → k ≤ n →
    sf_wp 19 none 150 40 [some (.inr (.inl (some 409))), some (.inl (sf_feX (fun q => (w q : Int)) k)), some (.inl (sf_feI (fun q => (w q : Int)) k)), some (.inl (k : Int))] [] (sf_E U) K
    = K (some (.inl (sf_feX (fun q => (w q : Int)) n - sf_feI (fun q => (w q : Int)) n))) (sf_E U) := by
  have ha := R.a
  have n5 := ha.n5
  have wb' : ∀ q, (0 : Int) ≤ (fun q => (w q : Int)) q ∧ (fun q => (w q : Int)) q ≤ 2000 := fun q => by
    have := wb q
    show (0 : Int) ≤ (w q : Int) ∧ (w q : Int) ≤ 2000
    omega
  intro m
  induction m with
  | zero =>
    intro k hm hk
    have e : k = n := by omega
    subst e
    have b := sf_feXI wb' k hn
    simp only [q150_40, q150_41, q150_42, q150_45, sf_y, ha.yn]
    rw [if_pos (by omega)]
    simp only [q150_74, q150_75, q150_76, q150_77]
    rw [sf_w_small (by omega)]
  | succ m ih =>
    intro k hm hk
    have ih := ih (k + 1) (by omega) (by omega)
    have e1 : sf_feX (fun q => (w q : Int)) (k + 1) = if sf_feX (fun q => (w q : Int)) k < (w k : Int) then (w k : Int) else sf_feX (fun q => (w q : Int)) k := rfl
    have e2 : sf_feI (fun q => (w q : Int)) (k + 1) = if (w k : Int) < sf_feI (fun q => (w q : Int)) k then (w k : Int) else sf_feI (fun q => (w q : Int)) k := rfl
    have g1 : (if (w k : Int) < sf_feX (fun q => (w q : Int)) k then sf_feX (fun q => (w q : Int)) k else (w k : Int)) = sf_feX (fun q => (w q : Int)) (k + 1) := by
      rw [e1]
      split <;> split <;> omega
    have g2 : (if sf_feI (fun q => (w q : Int)) k < (w k : Int) then sf_feI (fun q => (w q : Int)) k else (w k : Int)) = sf_feI (fun q => (w q : Int)) (k + 1) := by
      rw [e2]
      split <;> split <;> omega
    simp only [q150_40, q150_41, q150_42, q150_45, q150_48, q150_49, q150_50, q150_51, sf_y, ha.yn]
    rw [if_neg (by omega)]
    refine Eq.trans (t2 _ k (by omega)) ?_
    simp only [q150_54, s102, Option.toList_some, Option.toList_none, List.cons_append, List.nil_append]
    rw [g1]
    simp only [q150_57, q150_58, q150_59, q150_60, q150_61, sf_y, Option.toList_some, Option.toList_none, List.cons_append, List.nil_append]
    refine Eq.trans (t2 _ k (by omega)) ?_
    simp only [q150_64, s101, Option.toList_some, Option.toList_none, List.cons_append, List.nil_append]
    rw [g2]
    simp only [q150_67, q150_68, Option.toList_some, Option.toList_none, List.cons_append, List.nil_append]
    rw [q150_71, sf_wS (by omega)]
    exact ih
theorem p_fair (R : sf_RR V n nx c ce cf cg) : sf_P2 77 150 [] [none, none, none] V := by
  have ha := R.a
  have hf := R.f
  have n5 := ha.n5
  have x1 := sf_c11_1 sf_x
  have x2 := sf_c11_2 sf_x
  have x9 := sf_c11_9 sf_x
  have x12 := sf_c11_12 sf_x
  by_cases hn : 0 < n
  · by_cases hcf : 0 < cf
    · obtain ⟨W, U, lap, wt, RW, RU, wb, hW, hU, c1, c2, c3, t1, t2⟩ := sf_ever R hn hcf
      have haw := RW.a
      have hfw := RW.f
      refine ⟨sf_feX (fun q => (wt q : Int)) n - sf_feI (fun q => (wt q : Int)) n, W, U, n, nx, c, ce, cf, cg, fun K => ?_, fun K => ?_, RU⟩
      · simp only [q77_0, q77_1, q77_4, q77_7, sf_x, x1, ha.xn]
        rw [if_neg (by omega)]
        simp only [q77_13, q77_14, q77_17, q77_18, q77_21, q77_24, q77_25, q77_28, q77_29, q77_32, sf_x, x1, x2, x9, x12, ha.xn]
        refine Eq.trans (c1 _) ?_
        simp only [q77_35, q77_36, q77_39, q77_42, q77_43, sf_x, x12, hW, Option.toList_some, Option.toList_none, List.cons_append, List.nil_append]
        rw [if_neg (by omega)]
        simp only [q77_50, q77_51, q77_54, q77_55, q77_58, q77_61, sf_x, x1, x12, haw.xn]
        refine Eq.trans (c3 _) ?_
        simp only [q77_64, Option.toList_some, Option.toList_none, List.cons_append, List.nil_append]
      · simp only [q150_0, q150_1, q150_4, sf_y, haw.yn]
        rw [if_neg (by omega)]
        simp only [q150_10, q150_11, q150_14, sf_y, hfw.y]
        rw [if_neg (by omega)]
        simp only [q150_19, q150_20, sf_y]
        refine Eq.trans (t1 _) ?_
        simp only [q150_23, q150_24, q150_27, q150_28, sf_y, hU, Option.toList_some, Option.toList_none, List.cons_append, List.nil_append]
        rw [if_neg (by omega)]
        simp only [q150_33, q150_34, q150_35, q150_37, q150_38, q150_39]
        exact s150_loop RU hn wb t2 n 0 (by omega) (by omega)
    · obtain ⟨W, RW, hW, c1⟩ := s24_no R hn (by omega)
      have haw := RW.a
      have hfw := RW.f
      refine ⟨-1, W, W, n, nx, c, ce, cf, cg, fun K => ?_, fun K => ?_, RW⟩
      · simp only [q77_0, q77_1, q77_4, q77_7, sf_x, x1, ha.xn]
        rw [if_neg (by omega)]
        simp only [q77_13, q77_14, q77_17, q77_18, q77_21, q77_24, q77_25, q77_28, q77_29, q77_32, sf_x, x1, x2, x9, x12, ha.xn]
        refine Eq.trans (c1 _) ?_
        simp only [q77_35, q77_36, q77_39, q77_42, q77_43, sf_x, x12, hW, Option.toList_some, Option.toList_none, List.cons_append, List.nil_append]
        rw [if_pos trivial]
        simp only [q77_46, q77_47, q77_64]
      · simp only [q150_0, q150_1, q150_4, sf_y, haw.yn]
        rw [if_neg (by omega)]
        simp only [q150_10, q150_11, q150_14, sf_y, hfw.y]
        rw [if_pos (by omega)]
        simp only [q150_17, q150_18]
  · refine ⟨-1000000003, V, V, n, nx, c, ce, cf, cg, fun K => ?_, fun K => ?_, R⟩
    · simp only [q77_0, q77_1, q77_4, q77_7, sf_x, x1, ha.xn]
      rw [if_pos (by omega)]
      simp only [q77_10, q77_12]
    · simp only [q150_0, q150_1, q150_4, sf_y, ha.yn]
      rw [if_pos (by omega)]
      simp only [q150_7, q150_9]
end SFP73

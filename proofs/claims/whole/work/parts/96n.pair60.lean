/-! favour, allWarm: the pairs -/
section SFP60
variable {V X U : sf_MV} {n nx c ce cf cg : Nat}
theorem p_favour (R : sf_RR V n nx c ce cf cg) {p h i : Int} : sf_P2 73 142 [some (.inl p), some (.inl h), some (.inl i)] [some (.inl p), some (.inl h), some (.inl i)] V := by
  have x1 := sf_c11_1 sf_x
  have x2 := sf_c11_2 sf_x
  have x10 := sf_c11_10 sf_x
  have ha := R.a
  have hn5 := ha.n5
  by_cases hp : 0 ≤ p ∧ p < n
  · by_cases hq : 1 ≤ h ∧ h ≤ 3
    · obtain ⟨r, rfl⟩ : ∃ r : Nat, h = ((r + 1 : Nat) : Int) := ⟨h.toNat - 1, by omega⟩
      obtain ⟨v, V2, X', R2, RX, z1, z2, e7, z3, z4⟩ := sf_plan R (by omega) (r := r) (by omega) (want := p) (i := i)
      refine ⟨v, V2, X', n, nx, c, ce, cf, cg, fun K => ?_, fun K => ?_, RX⟩
      · simp only [q73_0, q73_1, q73_2, s91, q73_5, sf_x, ha.xn, Option.toList_some, Option.toList_none, List.cons_append, List.nil_append]
        rw [if_pos hp, if_neg (by decide)]
        simp only [q73_11, q73_12, q73_13, q73_14, s90, q73_17, Option.toList_some, Option.toList_none, List.cons_append, List.nil_append]
        rw [if_pos hq, if_neg (by decide)]
        simp only [q73_23, q73_24, q73_27, q73_28, q73_31, q73_32, q73_35, q73_36, sf_x, x1, x2, x10]
        simp only [q73_37, x10, z1, Option.toList_some, Option.toList_none, List.cons_append, List.nil_append]
        simp only [q73_40, q73_41, q73_44, sf_x, x10]
        simp only [q73_45, x10, z2, q73_48, Option.toList_some, Option.toList_none, List.cons_append, List.nil_append]
      · simp only [q142_0, q142_1, q142_2, sf_y, Option.toList_some, Option.toList_none, List.cons_append, List.nil_append]
        rw [s117 (by rw [e7, ha.yn]; omega)]
        simp only [q142_5, e7, ha.yn, Option.toList_some, Option.toList_none, List.cons_append, List.nil_append]
        rw [sf_inB_y (by omega), if_neg (by decide)]
        simp only [q142_11, q142_12, q142_13, q142_14, q142_17]
        rw [q142_20, sf_inB_y hq, if_neg (by decide)]
        simp only [q142_26, q142_27, q142_28, q142_29, sf_y, z3, Option.toList_some, Option.toList_none, List.cons_append, List.nil_append]
        simp only [q142_32, q142_33, q142_34, q142_35, sf_y, z4, q142_38, Option.toList_some, Option.toList_none, List.cons_append, List.nil_append]
    · refine ⟨-1000000002, V, V, n, nx, c, ce, cf, cg, fun K => ?_, fun K => ?_, R⟩
      · simp only [q73_0, q73_1, q73_2, s91, q73_5, sf_x, ha.xn, Option.toList_some, Option.toList_none, List.cons_append, List.nil_append]
        rw [if_pos hp, if_neg (by decide)]
        simp only [q73_11, q73_12, q73_13, q73_14, s90, q73_17, Option.toList_some, Option.toList_none, List.cons_append, List.nil_append]
        rw [if_neg hq, if_pos rfl]
        simp only [q73_20, q73_22]
      · simp only [q142_0, q142_1, q142_2, sf_y, Option.toList_some, Option.toList_none, List.cons_append, List.nil_append]
        rw [s117 (by rw [ha.yn]; omega)]
        simp only [q142_5, ha.yn, Option.toList_some, Option.toList_none, List.cons_append, List.nil_append]
        rw [sf_inB_y (by omega), if_neg (by decide)]
        simp only [q142_11, q142_12, q142_13, q142_14, q142_17]
        rw [q142_20, sf_inB_n hq, if_pos rfl]
        simp only [q142_23, q142_25]
  · refine ⟨-1000000001, V, V, n, nx, c, ce, cf, cg, fun K => ?_, fun K => ?_, R⟩
    · simp only [q73_0, q73_1, q73_2, s91, q73_5, sf_x, ha.xn, Option.toList_some, Option.toList_none, List.cons_append, List.nil_append]
      rw [if_neg hp, if_pos rfl]
      simp only [q73_8, q73_10]
    · simp only [q142_0, q142_1, q142_2, sf_y, Option.toList_some, Option.toList_none, List.cons_append, List.nil_append]
      rw [s117 (by rw [ha.yn]; omega)]
      simp only [q142_5, ha.yn, Option.toList_some, Option.toList_none, List.cons_append, List.nil_append]
      rw [sf_inB_n (by omega), if_pos rfl]
      simp only [q142_8, q142_10]
theorem p_allWarm (R : sf_RR V n nx c ce cf cg) {h i : Int} : sf_P2 74 143 [some (.inl h), some (.inl i)] [some (.inl h), some (.inl i)] V := by
  have x1 := sf_c11_1 sf_x
  have x2 := sf_c11_2 sf_x
  have x10 := sf_c11_10 sf_x
  have ha := R.a
  have hn5 := ha.n5
  by_cases hq : 1 ≤ h ∧ h ≤ 3
  · by_cases hn : n = 0
    · refine ⟨-1000000003, V, V, n, nx, c, ce, cf, cg, fun K => ?_, fun K => ?_, R⟩
      · simp only [q74_0, q74_1, q74_2, q74_3, s90, q74_6, Option.toList_some, Option.toList_none, List.cons_append, List.nil_append]
        rw [if_pos hq, if_neg (by decide)]
        simp only [q74_12, q74_13, q74_16, sf_x, x1, ha.xn]
        rw [q74_19, if_pos (by omega)]
        simp only [q74_22, q74_24]
      · simp only [q143_0, q143_1, q143_2, q143_3, q143_6]
        rw [q143_9, sf_inB_y hq, if_neg (by decide)]
        simp only [q143_15, q143_16, sf_y, ha.yn]
        rw [q143_19, if_pos (by omega)]
        simp only [q143_22, q143_24]
    · obtain ⟨r, rfl⟩ : ∃ r : Nat, h = ((r + 1 : Nat) : Int) := ⟨h.toNat - 1, by omega⟩
      obtain ⟨v, V2, X', R2, RX, z1, z2, e7, z3, z4⟩ := sf_plan R (by omega) (r := r) (by omega) (want := -1) (i := i)
      refine ⟨v, V2, X', n, nx, c, ce, cf, cg, fun K => ?_, fun K => ?_, RX⟩
      · simp only [q74_0, q74_1, q74_2, q74_3, s90, q74_6, Option.toList_some, Option.toList_none, List.cons_append, List.nil_append]
        rw [if_pos hq, if_neg (by decide)]
        simp only [q74_12, q74_13, q74_16, sf_x, x1, ha.xn]
        rw [q74_19, if_neg (by omega)]
        simp only [q74_25, q74_26, q74_29, q74_30, q74_33, q74_34, q74_37, q74_38, sf_x, x1, x2, x10]
        simp only [q74_39, x10, z1, Option.toList_some, Option.toList_none, List.cons_append, List.nil_append]
        simp only [q74_42, q74_43, q74_46, sf_x, x10]
        simp only [q74_47, x10, z2, q74_50, Option.toList_some, Option.toList_none, List.cons_append, List.nil_append]
      · simp only [q143_0, q143_1, q143_2, q143_3, q143_6]
        rw [q143_9, sf_inB_y hq, if_neg (by decide)]
        simp only [q143_15, q143_16, sf_y, e7, ha.yn]
        rw [q143_19, if_neg (by omega)]
        simp only [q143_25, q143_26, q143_27, q143_28, sf_y, z3, Option.toList_some, Option.toList_none, List.cons_append, List.nil_append]
        simp only [q143_31, q143_32, q143_33, q143_34, sf_y, z4, q143_37, Option.toList_some, Option.toList_none, List.cons_append, List.nil_append]
  · refine ⟨-1000000002, V, V, n, nx, c, ce, cf, cg, fun K => ?_, fun K => ?_, R⟩
    · simp only [q74_0, q74_1, q74_2, q74_3, s90, q74_6, Option.toList_some, Option.toList_none, List.cons_append, List.nil_append]
      rw [if_neg hq, if_pos rfl]
      simp only [q74_9, q74_11]
    · simp only [q143_0, q143_1, q143_2, q143_3, q143_6]
      rw [q143_9, sf_inB_n hq, if_pos rfl]
      simp only [q143_12, q143_14]
end SFP60

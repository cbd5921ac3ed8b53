/-! duel: the reference -/
section SFP46
variable {V X U : sf_MV} {n nx c ce cf cg : Nat} {K : Option sf_V → sf_M → Prop}
theorem sf_tm2k {k : Nat} : (k : Int).tmod 2 = ((k % 2 : Nat) : Int) := by
  rw [Int.tmod_eq_emod_of_nonneg (by omega)]
  omega
def sf_bet (k : Nat) (w came : Int) : Prop := w = -1 ∨ (k % 2 = 0 ∧ w < came) ∨ (¬ k % 2 = 0 ∧ came < w)
/-- a value found is better than the best -/
theorem s144_yes {a b N what fst over came w x : Int} {k : Nat} {l9 : Option sf_V} (hk : k < 5) (hw : X (sf_rf 409 34) k = w) (hx : X (sf_rf 409 30) 0 = x ∨ ¬ k = 0) (g : sf_bet k w came) :
    sf_wp 19 none 144 266 [some (.inr (.inl (some 409))), some (.inl a), some (.inl b), some (.inl N), some (.inl what), some (.inl (k : Int)), some (.inl fst), some (.inl over), some (.inl came), l9] [] (sf_E X) K =
      sf_wp 19 none 144 79 [some (.inr (.inl (some 409))), some (.inl a), some (.inl b), some (.inl N), some (.inl what), some (.inl (k : Int)), some (.inl (if k = 0 then x else fst)), some (.inl over), some (.inl came), some (.inl 1)] [] (sf_E (sf_upd X (sf_rf 409 34) k came)) K := by
  have y34 := sf_c12_34 sf_y
  have y30 := sf_c12_30 sf_y
  have e2 : (2 : Int) ≠ 0 := by decide
  have good : sf_wp 19 none 144 316 [some (.inr (.inl (some 409))), some (.inl a), some (.inl b), some (.inl N), some (.inl what), some (.inl (k : Int)), some (.inl fst), some (.inl over), some (.inl came), l9] [] (sf_E X) K =
      sf_wp 19 none 144 79 [some (.inr (.inl (some 409))), some (.inl a), some (.inl b), some (.inl N), some (.inl what), some (.inl (k : Int)), some (.inl (if k = 0 then x else fst)), some (.inl over), some (.inl came), some (.inl 1)] [] (sf_E (sf_upd X (sf_rf 409 34) k came)) K := by
    simp only [q144_316, q144_317, q144_321, q144_323]
    rw [q144_325, if_neg (by decide)]
    simp only [q144_328]
    rw [q144_330]
    by_cases k0 : k = 0
    · have hx' : X (sf_rf 409 30) 0 = x := by
        rcases hx with h | h
        · exact h
        · exact absurd k0 h
      rw [if_pos (show (k : Int) = 0 by omega), if_pos k0]
      simp (decide := true) only [q144_333, q144_334, q144_337, q144_338, sf_y, y30, sf_y30, Int.reduceToNat, true_and, hx']
      simp only [q144_339, q144_342, q144_344, q144_346, q144_347, q144_350, q144_352, sf_y, y34]
      rw [q144_354, if_neg (by decide)]
      simp only [q144_357, q144_359, q144_369, y34, sf_y34, sf_bd, hk, true_and, Int.toNat_natCast]
      rw [q144_370]
    · rw [if_neg (show ¬ (k : Int) = 0 by omega), if_neg k0]
      simp only [q144_342, q144_344, q144_346, q144_347, q144_350, q144_352, sf_y, y34]
      rw [q144_354, if_neg (by decide)]
      simp only [q144_357, q144_359, q144_369, y34, sf_y34, sf_bd, hk, true_and, Int.toNat_natCast]
      rw [q144_370]
  rw [← good]
  simp only [q144_266]
  rw [q144_268, if_neg (by omega)]
  simp only [q144_271, q144_272, q144_275, q144_277, q144_278, q144_279, sf_y, y34, sf_y34, sf_bd, hk, true_and, Int.toNat_natCast, hw]
  by_cases q1 : w = -1
  · rw [if_pos q1]
  · rw [if_neg q1]
    simp only [q144_282, q144_284, q144_285, e2, ne_eq, not_false_eq_true, true_and, sf_tm2k]
    rw [q144_286]
    rcases g with g | g | g
    · exact absurd g q1
    · rw [if_pos (by omega)]
      simp only [q144_289, q144_291, q144_292, q144_295, q144_297, q144_298, sf_y, y34, sf_y34, sf_bd, hk, true_and, Int.toNat_natCast, hw]
      rw [if_neg (by omega)]
      simp only [q144_301]
    · rw [if_neg (by omega)]
      simp only [q144_304, q144_306, q144_307, q144_310, q144_312, q144_313, sf_y, y34, sf_y34, sf_bd, hk, true_and, Int.toNat_natCast, hw]
      rw [if_neg (by omega)]
theorem s144_no {a b N what fst over came w : Int} {k : Nat} {l9 : Option sf_V} (hk : k < 5) (hw : X (sf_rf 409 34) k = w) (g : ¬ sf_bet k w came) :
    sf_wp 19 none 144 266 [some (.inr (.inl (some 409))), some (.inl a), some (.inl b), some (.inl N), some (.inl what), some (.inl (k : Int)), some (.inl fst), some (.inl over), some (.inl came), l9] [] (sf_E X) K =
      sf_wp 19 none 144 79 [some (.inr (.inl (some 409))), some (.inl a), some (.inl b), some (.inl N), some (.inl what), some (.inl (k : Int)), some (.inl fst), some (.inl over), some (.inl came), some (.inl 0)] [] (sf_E X) K := by
  have y34 := sf_c12_34 sf_y
  have e2 : (2 : Int) ≠ 0 := by decide
  have bad : sf_wp 19 none 144 320 [some (.inr (.inl (some 409))), some (.inl a), some (.inl b), some (.inl N), some (.inl what), some (.inl (k : Int)), some (.inl fst), some (.inl over), some (.inl came), l9] [] (sf_E X) K =
      sf_wp 19 none 144 79 [some (.inr (.inl (some 409))), some (.inl a), some (.inl b), some (.inl N), some (.inl what), some (.inl (k : Int)), some (.inl fst), some (.inl over), some (.inl came), some (.inl 0)] [] (sf_E X) K := by
    simp only [q144_320, q144_321, q144_323]
    rw [q144_325, if_pos rfl]
    simp only [q144_342, q144_344, q144_346, q144_347, q144_350, q144_352, sf_y, y34]
    rw [q144_354, if_pos rfl]
    simp only [q144_362, q144_363, q144_366, q144_368, q144_369, sf_y, y34, sf_y34, sf_bd, hk, true_and, Int.toNat_natCast]
    rw [q144_370, sf_upd_self rfl]
  rw [← bad]
  simp only [q144_266]
  rw [q144_268, if_neg (by omega)]
  simp only [q144_271, q144_272, q144_275, q144_277, q144_278, q144_279, sf_y, y34, sf_y34, sf_bd, hk, true_and, Int.toNat_natCast, hw]
  rw [if_neg (fun z => g (Or.inl z))]
  simp only [q144_282, q144_284, q144_285, e2, ne_eq, not_false_eq_true, true_and, sf_tm2k]
  rw [q144_286]
  by_cases hev : k % 2 = 0
  · rw [if_pos (by omega)]
    simp only [q144_289, q144_291, q144_292, q144_295, q144_297, q144_298, sf_y, y34, sf_y34, sf_bd, hk, true_and, Int.toNat_natCast, hw]
    rw [if_pos (by
      by_cases z : w < came
      · exact absurd (Or.inr (Or.inl ⟨hev, z⟩)) g
      · omega)]
  · rw [if_neg (by omega)]
    simp only [q144_304, q144_306, q144_307, q144_310, q144_312, q144_313, sf_y, y34, sf_y34, sf_bd, hk, true_and, Int.toNat_natCast, hw]
    rw [if_pos (by
      by_cases z : came < w
      · exact absurd (Or.inr (Or.inr ⟨hev, z⟩)) g
      · omega)]
end SFP46

/-! one call of the script on both -/
section SFSTEP
variable {V : sf_MV} {n nx c ce cf cg : Nat}
theorem sf_getD_oi {xs : List Int} (ho : ∀ x ∈ xs, sf_oi x) {j : Nat} (h : j < xs.length) : sf_oi (xs.getD j 0) := by
  have e : xs.getD j 0 = xs[j] := by simp [List.getD, h]
  rw [e]
  exact ho _ (List.getElem_mem h)
theorem sf_step {xs : List Int} (hE : ∀ (V : sf_MV) (n nx c ce cf cg : Nat) (p : Int), sf_RR V n nx c ce cf cg → sf_P2 76 149 [some (.inl p)] [some (.inl p)] V) (hA : ∀ (V : sf_MV) (n nx c ce cf cg : Nat), sf_RR V n nx c ce cf cg → sf_P2 77 150 [] [none, none, none] V) (R : sf_RR V n nx c ce cf cg) {i : Nat} (hi : i + 5 ≤ xs.length) (hL : xs.length ≤ 2560) (ho : ∀ x ∈ xs, sf_oi x) :
    ∃ (U : sf_MV) (n nx c ce cf cg : Nat), sf_RR U n nx c ce cf cg ∧ ∀ Q, sf_wp 20 (some xs) 165 26 [some svS, some (svR 0), some (svR 409), some (svI (i : Int))] [] (sf_E V) Q = sf_wp 20 (some xs) 165 968 [some svS, some (svR 0), some (svR 409), some (svI (i : Int))] [] (sf_E U) Q := by
  have b0 : i < xs.length := by omega
  have b1 : i + 1 < xs.length := by omega
  have b2 : i + 2 < xs.length := by omega
  have b3 : i + 3 < xs.length := by omega
  have b4 : i + 4 < xs.length := by omega
  have w1 : sf_w ((i : Int) + 1) = ((i + 1 : Nat) : Int) := sf_wS (by omega)
  have w2 : sf_w ((i : Int) + 2) = ((i + 2 : Nat) : Int) := by rw [sf_w_small (by omega)]; omega
  have w3 : sf_w ((i : Int) + 3) = ((i + 3 : Nat) : Int) := by rw [sf_w_small (by omega)]; omega
  have w4 : sf_w ((i : Int) + 4) = ((i + 4 : Nat) : Int) := by rw [sf_w_small (by omega)]; omega
  have head : ∀ Q, sf_wp 20 (some xs) 165 26 [some svS, some (svR 0), some (svR 409), some (svI (i : Int))] [] (sf_E V) Q = sf_wp 20 (some xs) 165 32 [some svS, some (svR 0), some (svR 409), some (svI (i : Int))] [.inl (Int32.ofInt (xs.getD i 0) &&& Int32.ofInt 31).toInt] (sf_E V) Q := fun Q => by
    simp only [q165_26, q165_27, q165_28, q165_29, q165_31, sf_bd, b0, true_and, Int.toNat_natCast]
  generalize (Int32.ofInt (xs.getD i 0) &&& Int32.ofInt 31).toInt = op at head
  by_cases h0 : op = 0
  · obtain ⟨r, W, U, n', nx', c', ce', cf', cg', e1, e2, RU⟩ := p_feed R (b := xs.getD (i + 1) 0)
    refine ⟨U, n', nx', c', ce', cf', cg', RU, fun Q => ?_⟩
    rw [head, q165_32, if_pos h0]
    simp only [q165_168, q165_169, q165_170, q165_171, q165_172, q165_173, q165_174, q165_177, q165_178, q165_179, q165_180, q165_181, q165_182, q165_183, q165_186, sf_x, sf_y, w1, w2, w3, w4, sf_bd, b1, b2, b3, b4, true_and, Int.toNat_natCast, e1, e2, if_true, Option.toList_some, Option.toList_none, List.cons_append, List.nil_append]
  by_cases h1 : op = 1
  · obtain ⟨r, W, U, n', nx', c', ce', cf', cg', e1, e2, RU⟩ := p_house R 
    refine ⟨U, n', nx', c', ce', cf', cg', RU, fun Q => ?_⟩
    rw [head, q165_32, if_neg h0, if_pos h1]
    simp only [q165_191, q165_192, q165_195, q165_196, q165_199, sf_x, sf_y, w1, w2, w3, w4, sf_bd, b1, b2, b3, b4, true_and, Int.toNat_natCast, e1, e2, if_true, Option.toList_some, Option.toList_none, List.cons_append, List.nil_append]
  by_cases h2 : op = 2
  · obtain ⟨r, W, U, n', nx', c', ce', cf', cg', e1, e2, RU⟩ := p_fault R 
    refine ⟨U, n', nx', c', ce', cf', cg', RU, fun Q => ?_⟩
    rw [head, q165_32, if_neg h0, if_neg h1, if_pos h2]
    simp only [q165_204, q165_205, q165_208, q165_209, q165_212, sf_x, sf_y, w1, w2, w3, w4, sf_bd, b1, b2, b3, b4, true_and, Int.toNat_natCast, e1, e2, if_true, Option.toList_some, Option.toList_none, List.cons_append, List.nil_append]
  by_cases h3 : op = 3
  · obtain ⟨r, W, U, n', nx', c', ce', cf', cg', e1, e2, RU⟩ := p_told R (x := xs.getD (i + 1) 0)
    refine ⟨U, n', nx', c', ce', cf', cg', RU, fun Q => ?_⟩
    rw [head, q165_32, if_neg h0, if_neg h1, if_neg h2, if_pos h3]
    simp only [q165_217, q165_218, q165_219, q165_220, q165_221, q165_222, q165_223, q165_226, q165_227, q165_228, q165_229, q165_230, q165_231, q165_232, q165_235, sf_x, sf_y, w1, w2, w3, w4, sf_bd, b1, b2, b3, b4, true_and, Int.toNat_natCast, e1, e2, if_true, Option.toList_some, Option.toList_none, List.cons_append, List.nil_append]
  by_cases h4 : op = 4
  · obtain ⟨r, W, U, n', nx', c', ce', cf', cg', e1, e2, RU⟩ := p_person R (p := xs.getD (i + 1) 0) (w := xs.getD (i + 2) 0)
    refine ⟨U, n', nx', c', ce', cf', cg', RU, fun Q => ?_⟩
    rw [head, q165_32, if_neg h0, if_neg h1, if_neg h2, if_neg h3, if_pos h4]
    simp only [q165_240, q165_241, q165_242, q165_243, q165_244, q165_245, q165_246, q165_247, q165_248, q165_249, q165_250, q165_251, q165_254, q165_255, q165_256, q165_257, q165_258, q165_259, q165_260, q165_261, q165_262, q165_263, q165_264, q165_265, q165_268, sf_x, sf_y, w1, w2, w3, w4, sf_bd, b1, b2, b3, b4, true_and, Int.toNat_natCast, e1, e2, if_true, Option.toList_some, Option.toList_none, List.cons_append, List.nil_append]
  by_cases h5 : op = 5
  · obtain ⟨r, W, U, n', nx', c', ce', cf', cg', e1, e2, RU⟩ := p_doing R (p := xs.getD (i + 1) 0) (w := xs.getD (i + 2) 0)
    refine ⟨U, n', nx', c', ce', cf', cg', RU, fun Q => ?_⟩
    rw [head, q165_32, if_neg h0, if_neg h1, if_neg h2, if_neg h3, if_neg h4, if_pos h5]
    simp only [q165_273, q165_274, q165_275, q165_276, q165_277, q165_278, q165_279, q165_280, q165_281, q165_282, q165_283, q165_284, q165_287, q165_288, q165_289, q165_290, q165_291, q165_292, q165_293, q165_294, q165_295, q165_296, q165_297, q165_298, q165_301, sf_x, sf_y, w1, w2, w3, w4, sf_bd, b1, b2, b3, b4, true_and, Int.toNat_natCast, e1, e2, if_true, Option.toList_some, Option.toList_none, List.cons_append, List.nil_append]
  by_cases h6 : op = 6
  · obtain ⟨r, W, U, n', nx', c', ce', cf', cg', e1, e2, RU⟩ := p_act R (e := xs.getD (i + 1) 0) (p := xs.getD (i + 2) 0)
    refine ⟨U, n', nx', c', ce', cf', cg', RU, fun Q => ?_⟩
    rw [head, q165_32, if_neg h0, if_neg h1, if_neg h2, if_neg h3, if_neg h4, if_neg h5, if_pos h6]
    simp only [q165_306, q165_307, q165_308, q165_309, q165_310, q165_311, q165_312, q165_313, q165_314, q165_315, q165_316, q165_317, q165_320, q165_321, q165_322, q165_323, q165_324, q165_325, q165_326, q165_327, q165_328, q165_329, q165_330, q165_331, q165_334, sf_x, sf_y, w1, w2, w3, w4, sf_bd, b1, b2, b3, b4, true_and, Int.toNat_natCast, e1, e2, if_true, Option.toList_some, Option.toList_none, List.cons_append, List.nil_append]
  by_cases h7 : op = 7
  · obtain ⟨r, W, U, n', nx', c', ce', cf', cg', e1, e2, RU⟩ := p_sit R (x := xs.getD (i + 1) 0)
    refine ⟨U, n', nx', c', ce', cf', cg', RU, fun Q => ?_⟩
    rw [head, q165_32, if_neg h0, if_neg h1, if_neg h2, if_neg h3, if_neg h4, if_neg h5, if_neg h6, if_pos h7]
    simp only [q165_339, q165_340, q165_341, q165_342, q165_343, q165_344, q165_345, q165_348, q165_349, q165_350, q165_351, q165_352, q165_353, q165_354, q165_357, sf_x, sf_y, w1, w2, w3, w4, sf_bd, b1, b2, b3, b4, true_and, Int.toNat_natCast, e1, e2, if_true, Option.toList_some, Option.toList_none, List.cons_append, List.nil_append]
  by_cases h8 : op = 8
  · obtain ⟨r, W, U, n', nx', c', ce', cf', cg', e1, e2, RU⟩ := p_drift R (x := xs.getD (i + 1) 0)
    refine ⟨U, n', nx', c', ce', cf', cg', RU, fun Q => ?_⟩
    rw [head, q165_32, if_neg h0, if_neg h1, if_neg h2, if_neg h3, if_neg h4, if_neg h5, if_neg h6, if_neg h7, if_pos h8]
    simp only [q165_362, q165_363, q165_364, q165_365, q165_366, q165_367, q165_368, q165_371, q165_372, q165_373, q165_374, q165_375, q165_376, q165_377, q165_380, sf_x, sf_y, w1, w2, w3, w4, sf_bd, b1, b2, b3, b4, true_and, Int.toNat_natCast, e1, e2, if_true, Option.toList_some, Option.toList_none, List.cons_append, List.nil_append]
  by_cases h9 : op = 9
  · obtain ⟨r, W, U, n', nx', c', ce', cf', cg', e1, e2, RU⟩ := p_stack R (v := xs.getD (i + 1) 0)
    refine ⟨U, n', nx', c', ce', cf', cg', RU, fun Q => ?_⟩
    rw [head, q165_32, if_neg h0, if_neg h1, if_neg h2, if_neg h3, if_neg h4, if_neg h5, if_neg h6, if_neg h7, if_neg h8, if_pos h9]
    simp only [q165_385, q165_386, q165_387, q165_388, q165_389, q165_390, q165_391, q165_394, q165_395, q165_396, q165_397, q165_398, q165_399, q165_400, q165_403, sf_x, sf_y, w1, w2, w3, w4, sf_bd, b1, b2, b3, b4, true_and, Int.toNat_natCast, e1, e2, if_true, Option.toList_some, Option.toList_none, List.cons_append, List.nil_append]
  by_cases h10 : op = 10
  · obtain ⟨r, W, U, n', nx', c', ce', cf', cg', e1, e2, RU⟩ := p_law R (p := xs.getD (i + 1) 0) (v := xs.getD (i + 2) 0)
    refine ⟨U, n', nx', c', ce', cf', cg', RU, fun Q => ?_⟩
    rw [head, q165_32, if_neg h0, if_neg h1, if_neg h2, if_neg h3, if_neg h4, if_neg h5, if_neg h6, if_neg h7, if_neg h8, if_neg h9, if_pos h10]
    simp only [q165_408, q165_409, q165_410, q165_411, q165_412, q165_413, q165_414, q165_415, q165_416, q165_417, q165_418, q165_419, q165_422, q165_423, q165_424, q165_425, q165_426, q165_427, q165_428, q165_429, q165_430, q165_431, q165_432, q165_433, q165_436, sf_x, sf_y, w1, w2, w3, w4, sf_bd, b1, b2, b3, b4, true_and, Int.toNat_natCast, e1, e2, if_true, Option.toList_some, Option.toList_none, List.cons_append, List.nil_append]
  by_cases h11 : op = 11
  · obtain ⟨r, W, U, n', nx', c', ce', cf', cg', e1, e2, RU⟩ := p_undo R (x := xs.getD (i + 1) 0)
    refine ⟨U, n', nx', c', ce', cf', cg', RU, fun Q => ?_⟩
    rw [head, q165_32, if_neg h0, if_neg h1, if_neg h2, if_neg h3, if_neg h4, if_neg h5, if_neg h6, if_neg h7, if_neg h8, if_neg h9, if_neg h10, if_pos h11]
    simp only [q165_441, q165_442, q165_443, q165_444, q165_445, q165_446, q165_447, q165_450, q165_451, q165_452, q165_453, q165_454, q165_455, q165_456, q165_459, sf_x, sf_y, w1, w2, w3, w4, sf_bd, b1, b2, b3, b4, true_and, Int.toNat_natCast, e1, e2, if_true, Option.toList_some, Option.toList_none, List.cons_append, List.nil_append]
  by_cases h12 : op = 12
  · obtain ⟨r, W, U, n', nx', c', ce', cf', cg', e1, e2, RU⟩ := p_freezes R (w := xs.getD (i + 1) 0)
    refine ⟨U, n', nx', c', ce', cf', cg', RU, fun Q => ?_⟩
    rw [head, q165_32, if_neg h0, if_neg h1, if_neg h2, if_neg h3, if_neg h4, if_neg h5, if_neg h6, if_neg h7, if_neg h8, if_neg h9, if_neg h10, if_neg h11, if_pos h12]
    simp only [q165_464, q165_465, q165_466, q165_467, q165_468, q165_469, q165_470, q165_473, q165_474, q165_475, q165_476, q165_477, q165_478, q165_479, q165_482, sf_x, sf_y, w1, w2, w3, w4, sf_bd, b1, b2, b3, b4, true_and, Int.toNat_natCast, e1, e2, if_true, Option.toList_some, Option.toList_none, List.cons_append, List.nil_append]
  by_cases h13 : op = 13
  · obtain ⟨r, W, U, n', nx', c', ce', cf', cg', e1, e2, RU⟩ := p_favour R (p := xs.getD (i + 1) 0) (h := xs.getD (i + 2) 0) (i := xs.getD (i + 3) 0)
    refine ⟨U, n', nx', c', ce', cf', cg', RU, fun Q => ?_⟩
    rw [head, q165_32, if_neg h0, if_neg h1, if_neg h2, if_neg h3, if_neg h4, if_neg h5, if_neg h6, if_neg h7, if_neg h8, if_neg h9, if_neg h10, if_neg h11, if_neg h12, if_pos h13]
    simp only [q165_487, q165_488, q165_489, q165_490, q165_491, q165_492, q165_493, q165_494, q165_495, q165_496, q165_497, q165_498, q165_499, q165_500, q165_501, q165_502, q165_503, q165_506, q165_507, q165_508, q165_509, q165_510, q165_511, q165_512, q165_513, q165_514, q165_515, q165_516, q165_517, q165_518, q165_519, q165_520, q165_521, q165_522, q165_525, sf_x, sf_y, w1, w2, w3, w4, sf_bd, b1, b2, b3, b4, true_and, Int.toNat_natCast, e1, e2, if_true, Option.toList_some, Option.toList_none, List.cons_append, List.nil_append]
  by_cases h14 : op = 14
  · obtain ⟨r, W, U, n', nx', c', ce', cf', cg', e1, e2, RU⟩ := p_allWarm R (h := xs.getD (i + 1) 0) (i := xs.getD (i + 2) 0)
    refine ⟨U, n', nx', c', ce', cf', cg', RU, fun Q => ?_⟩
    rw [head, q165_32, if_neg h0, if_neg h1, if_neg h2, if_neg h3, if_neg h4, if_neg h5, if_neg h6, if_neg h7, if_neg h8, if_neg h9, if_neg h10, if_neg h11, if_neg h12, if_neg h13, if_pos h14]
    simp only [q165_530, q165_531, q165_532, q165_533, q165_534, q165_535, q165_536, q165_537, q165_538, q165_539, q165_540, q165_541, q165_544, q165_545, q165_546, q165_547, q165_548, q165_549, q165_550, q165_551, q165_552, q165_553, q165_554, q165_555, q165_558, sf_x, sf_y, w1, w2, w3, w4, sf_bd, b1, b2, b3, b4, true_and, Int.toNat_natCast, e1, e2, if_true, Option.toList_some, Option.toList_none, List.cons_append, List.nil_append]
  by_cases h15 : op = 15
  · obtain ⟨r, W, U, n', nx', c', ce', cf', cg', e1, e2, RU⟩ := p_duel R (a := xs.getD (i + 1) 0) (b := xs.getD (i + 2) 0) (h := xs.getD (i + 3) 0) (w := xs.getD (i + 4) 0)
    refine ⟨U, n', nx', c', ce', cf', cg', RU, fun Q => ?_⟩
    rw [head, q165_32, if_neg h0, if_neg h1, if_neg h2, if_neg h3, if_neg h4, if_neg h5, if_neg h6, if_neg h7, if_neg h8, if_neg h9, if_neg h10, if_neg h11, if_neg h12, if_neg h13, if_neg h14, if_pos h15]
    simp only [q165_563, q165_564, q165_565, q165_566, q165_567, q165_568, q165_569, q165_570, q165_571, q165_572, q165_573, q165_574, q165_575, q165_576, q165_577, q165_578, q165_579, q165_580, q165_581, q165_582, q165_583, q165_584, q165_587, q165_588, q165_589, q165_590, q165_591, q165_592, q165_593, q165_594, q165_595, q165_596, q165_597, q165_598, q165_599, q165_600, q165_601, q165_602, q165_603, q165_604, q165_605, q165_606, q165_607, q165_608, q165_611, sf_x, sf_y, w1, w2, w3, w4, sf_bd, b1, b2, b3, b4, true_and, Int.toNat_natCast, e1, e2, if_true, Option.toList_some, Option.toList_none, List.cons_append, List.nil_append]
  by_cases h16 : op = 16
  · obtain ⟨r, W, U, n', nx', c', ce', cf', cg', e1, e2, RU⟩ := hE V n nx c ce cf cg (xs.getD (i + 1) 0) R
    refine ⟨U, n', nx', c', ce', cf', cg', RU, fun Q => ?_⟩
    rw [head, q165_32, if_neg h0, if_neg h1, if_neg h2, if_neg h3, if_neg h4, if_neg h5, if_neg h6, if_neg h7, if_neg h8, if_neg h9, if_neg h10, if_neg h11, if_neg h12, if_neg h13, if_neg h14, if_neg h15, if_pos h16]
    simp only [q165_616, q165_617, q165_618, q165_619, q165_620, q165_621, q165_622, q165_625, q165_626, q165_627, q165_628, q165_629, q165_630, q165_631, q165_634, sf_x, sf_y, w1, w2, w3, w4, sf_bd, b1, b2, b3, b4, true_and, Int.toNat_natCast, e1, e2, if_true, Option.toList_some, Option.toList_none, List.cons_append, List.nil_append]
  by_cases h17 : op = 17
  · obtain ⟨r, W, U, n', nx', c', ce', cf', cg', e1, e2, RU⟩ := hA V n nx c ce cf cg R
    refine ⟨U, n', nx', c', ce', cf', cg', RU, fun Q => ?_⟩
    rw [head, q165_32, if_neg h0, if_neg h1, if_neg h2, if_neg h3, if_neg h4, if_neg h5, if_neg h6, if_neg h7, if_neg h8, if_neg h9, if_neg h10, if_neg h11, if_neg h12, if_neg h13, if_neg h14, if_neg h15, if_neg h16, if_pos h17]
    simp only [q165_639, q165_640, q165_643, q165_644, q165_647, sf_x, sf_y, w1, w2, w3, w4, sf_bd, b1, b2, b3, b4, true_and, Int.toNat_natCast, e1, e2, if_true, Option.toList_some, Option.toList_none, List.cons_append, List.nil_append]
  by_cases h18 : op = 18
  · obtain ⟨r, W, U, n', nx', c', ce', cf', cg', e1, e2, RU⟩ := p_left R (to := xs.getD (i + 1) 0) (which := xs.getD (i + 2) 0)
    refine ⟨U, n', nx', c', ce', cf', cg', RU, fun Q => ?_⟩
    rw [head, q165_32, if_neg h0, if_neg h1, if_neg h2, if_neg h3, if_neg h4, if_neg h5, if_neg h6, if_neg h7, if_neg h8, if_neg h9, if_neg h10, if_neg h11, if_neg h12, if_neg h13, if_neg h14, if_neg h15, if_neg h16, if_neg h17, if_pos h18]
    simp only [q165_652, q165_653, q165_654, q165_655, q165_656, q165_657, q165_658, q165_659, q165_660, q165_661, q165_662, q165_663, q165_666, q165_667, q165_668, q165_669, q165_670, q165_671, q165_672, q165_673, q165_674, q165_675, q165_676, q165_677, q165_680, sf_x, sf_y, w1, w2, w3, w4, sf_bd, b1, b2, b3, b4, true_and, Int.toNat_natCast, e1, e2, if_true, Option.toList_some, Option.toList_none, List.cons_append, List.nil_append]
  by_cases h19 : op = 19
  · obtain ⟨r, W, U, n', nx', c', ce', cf', cg', e1, e2, RU⟩ := p_doers R (to := xs.getD (i + 1) 0)
    refine ⟨U, n', nx', c', ce', cf', cg', RU, fun Q => ?_⟩
    rw [head, q165_32, if_neg h0, if_neg h1, if_neg h2, if_neg h3, if_neg h4, if_neg h5, if_neg h6, if_neg h7, if_neg h8, if_neg h9, if_neg h10, if_neg h11, if_neg h12, if_neg h13, if_neg h14, if_neg h15, if_neg h16, if_neg h17, if_neg h18, if_pos h19]
    simp only [q165_685, q165_686, q165_687, q165_688, q165_689, q165_690, q165_691, q165_694, q165_695, q165_696, q165_697, q165_698, q165_699, q165_700, q165_703, sf_x, sf_y, w1, w2, w3, w4, sf_bd, b1, b2, b3, b4, true_and, Int.toNat_natCast, e1, e2, if_true, Option.toList_some, Option.toList_none, List.cons_append, List.nil_append]
  by_cases h20 : op = 20
  · obtain ⟨r, W, U, n', nx', c', ce', cf', cg', e1, e2, RU⟩ := p_chair R (p := xs.getD (i + 1) 0)
    refine ⟨U, n', nx', c', ce', cf', cg', RU, fun Q => ?_⟩
    rw [head, q165_32, if_neg h0, if_neg h1, if_neg h2, if_neg h3, if_neg h4, if_neg h5, if_neg h6, if_neg h7, if_neg h8, if_neg h9, if_neg h10, if_neg h11, if_neg h12, if_neg h13, if_neg h14, if_neg h15, if_neg h16, if_neg h17, if_neg h18, if_neg h19, if_pos h20]
    simp only [q165_708, q165_709, q165_710, q165_711, q165_712, q165_713, q165_714, q165_717, q165_718, q165_719, q165_720, q165_721, q165_722, q165_723, q165_726, sf_x, sf_y, w1, w2, w3, w4, sf_bd, b1, b2, b3, b4, true_and, Int.toNat_natCast, e1, e2, if_true, Option.toList_some, Option.toList_none, List.cons_append, List.nil_append]
  by_cases h21 : op = 21
  · obtain ⟨r, W, U, n', nx', c', ce', cf', cg', e1, e2, RU⟩ := p_note R (e := xs.getD (i + 1) 0) (p := xs.getD (i + 2) 0) (a := xs.getD (i + 3) 0) (b := xs.getD (i + 4) 0)
    refine ⟨U, n', nx', c', ce', cf', cg', RU, fun Q => ?_⟩
    rw [head, q165_32, if_neg h0, if_neg h1, if_neg h2, if_neg h3, if_neg h4, if_neg h5, if_neg h6, if_neg h7, if_neg h8, if_neg h9, if_neg h10, if_neg h11, if_neg h12, if_neg h13, if_neg h14, if_neg h15, if_neg h16, if_neg h17, if_neg h18, if_neg h19, if_neg h20, if_pos h21]
    simp only [q165_731, q165_732, q165_733, q165_734, q165_735, q165_736, q165_737, q165_738, q165_739, q165_740, q165_741, q165_742, q165_743, q165_744, q165_745, q165_746, q165_747, q165_748, q165_749, q165_750, q165_751, q165_752, q165_755, q165_756, q165_757, q165_758, q165_759, q165_760, q165_761, q165_762, q165_763, q165_764, q165_765, q165_766, q165_767, q165_768, q165_769, q165_770, q165_771, q165_772, q165_773, q165_774, q165_775, q165_776, q165_779, sf_x, sf_y, w1, w2, w3, w4, sf_bd, b1, b2, b3, b4, true_and, Int.toNat_natCast, e1, e2, if_true, Option.toList_some, Option.toList_none, List.cons_append, List.nil_append]
  by_cases h22 : op = 22
  · obtain ⟨r, W, U, n', nx', c', ce', cf', cg', e1, e2, RU⟩ := p_laws R (e := xs.getD (i + 1) 0)
    refine ⟨U, n', nx', c', ce', cf', cg', RU, fun Q => ?_⟩
    rw [head, q165_32, if_neg h0, if_neg h1, if_neg h2, if_neg h3, if_neg h4, if_neg h5, if_neg h6, if_neg h7, if_neg h8, if_neg h9, if_neg h10, if_neg h11, if_neg h12, if_neg h13, if_neg h14, if_neg h15, if_neg h16, if_neg h17, if_neg h18, if_neg h19, if_neg h20, if_neg h21, if_pos h22]
    simp only [q165_784, q165_785, q165_786, q165_787, q165_788, q165_789, q165_790, q165_793, q165_794, q165_795, q165_796, q165_797, q165_798, q165_799, q165_802, sf_x, sf_y, w1, w2, w3, w4, sf_bd, b1, b2, b3, b4, true_and, Int.toNat_natCast, e1, e2, if_true, Option.toList_some, Option.toList_none, List.cons_append, List.nil_append]
  by_cases h23 : op = 23
  · obtain ⟨r, W, U, n', nx', c', ce', cf', cg', e1, e2, RU⟩ := p_tryNext R (e := xs.getD (i + 1) 0)
    refine ⟨U, n', nx', c', ce', cf', cg', RU, fun Q => ?_⟩
    rw [head, q165_32, if_neg h0, if_neg h1, if_neg h2, if_neg h3, if_neg h4, if_neg h5, if_neg h6, if_neg h7, if_neg h8, if_neg h9, if_neg h10, if_neg h11, if_neg h12, if_neg h13, if_neg h14, if_neg h15, if_neg h16, if_neg h17, if_neg h18, if_neg h19, if_neg h20, if_neg h21, if_neg h22, if_pos h23]
    simp only [q165_807, q165_808, q165_809, q165_810, q165_811, q165_812, q165_813, q165_816, q165_817, q165_818, q165_819, q165_820, q165_821, q165_822, q165_825, sf_x, sf_y, w1, w2, w3, w4, sf_bd, b1, b2, b3, b4, true_and, Int.toNat_natCast, e1, e2, if_true, Option.toList_some, Option.toList_none, List.cons_append, List.nil_append]
  by_cases h24 : op = 24
  · obtain ⟨r, W, U, n', nx', c', ce', cf', cg', e1, e2, RU⟩ := p_write R (e := xs.getD (i + 1) 0) (p := xs.getD (i + 2) 0)
    refine ⟨U, n', nx', c', ce', cf', cg', RU, fun Q => ?_⟩
    rw [head, q165_32, if_neg h0, if_neg h1, if_neg h2, if_neg h3, if_neg h4, if_neg h5, if_neg h6, if_neg h7, if_neg h8, if_neg h9, if_neg h10, if_neg h11, if_neg h12, if_neg h13, if_neg h14, if_neg h15, if_neg h16, if_neg h17, if_neg h18, if_neg h19, if_neg h20, if_neg h21, if_neg h22, if_neg h23, if_pos h24]
    simp only [q165_830, q165_831, q165_832, q165_833, q165_834, q165_835, q165_836, q165_837, q165_838, q165_839, q165_840, q165_841, q165_844, q165_845, q165_846, q165_847, q165_848, q165_849, q165_850, q165_851, q165_852, q165_853, q165_854, q165_855, q165_858, sf_x, sf_y, w1, w2, w3, w4, sf_bd, b1, b2, b3, b4, true_and, Int.toNat_natCast, e1, e2, if_true, Option.toList_some, Option.toList_none, List.cons_append, List.nil_append]
  by_cases h25 : op = 25
  · obtain ⟨r, W, U, n', nx', c', ce', cf', cg', e1, e2, RU⟩ := p_judge R (w := xs.getD (i + 1) 0)
    refine ⟨U, n', nx', c', ce', cf', cg', RU, fun Q => ?_⟩
    rw [head, q165_32, if_neg h0, if_neg h1, if_neg h2, if_neg h3, if_neg h4, if_neg h5, if_neg h6, if_neg h7, if_neg h8, if_neg h9, if_neg h10, if_neg h11, if_neg h12, if_neg h13, if_neg h14, if_neg h15, if_neg h16, if_neg h17, if_neg h18, if_neg h19, if_neg h20, if_neg h21, if_neg h22, if_neg h23, if_neg h24, if_pos h25]
    simp only [q165_863, q165_864, q165_865, q165_866, q165_867, q165_868, q165_869, q165_872, q165_873, q165_874, q165_875, q165_876, q165_877, q165_878, q165_881, sf_x, sf_y, w1, w2, w3, w4, sf_bd, b1, b2, b3, b4, true_and, Int.toNat_natCast, e1, e2, if_true, Option.toList_some, Option.toList_none, List.cons_append, List.nil_append]
  by_cases h26 : op = 26
  · obtain ⟨r, W, U, n', nx', c', ce', cf', cg', e1, e2, RU⟩ := p_tear R 
    refine ⟨U, n', nx', c', ce', cf', cg', RU, fun Q => ?_⟩
    rw [head, q165_32, if_neg h0, if_neg h1, if_neg h2, if_neg h3, if_neg h4, if_neg h5, if_neg h6, if_neg h7, if_neg h8, if_neg h9, if_neg h10, if_neg h11, if_neg h12, if_neg h13, if_neg h14, if_neg h15, if_neg h16, if_neg h17, if_neg h18, if_neg h19, if_neg h20, if_neg h21, if_neg h22, if_neg h23, if_neg h24, if_neg h25, if_pos h26]
    simp only [q165_886, q165_887, q165_890, q165_891, q165_894, sf_x, sf_y, w1, w2, w3, w4, sf_bd, b1, b2, b3, b4, true_and, Int.toNat_natCast, e1, e2, if_true, Option.toList_some, Option.toList_none, List.cons_append, List.nil_append]
  by_cases h27 : op = 27
  · obtain ⟨r, W, U, n', nx', c', ce', cf', cg', e1, e2, RU⟩ := p_seed R (v := xs.getD (i + 1) 0) (sf_getD_oi ho b1)
    refine ⟨U, n', nx', c', ce', cf', cg', RU, fun Q => ?_⟩
    rw [head, q165_32, if_neg h0, if_neg h1, if_neg h2, if_neg h3, if_neg h4, if_neg h5, if_neg h6, if_neg h7, if_neg h8, if_neg h9, if_neg h10, if_neg h11, if_neg h12, if_neg h13, if_neg h14, if_neg h15, if_neg h16, if_neg h17, if_neg h18, if_neg h19, if_neg h20, if_neg h21, if_neg h22, if_neg h23, if_neg h24, if_neg h25, if_neg h26, if_pos h27]
    simp only [q165_899, q165_900, q165_901, q165_902, q165_903, q165_904, q165_905, q165_908, q165_909, q165_910, q165_911, q165_912, q165_913, q165_914, q165_917, sf_x, sf_y, w1, w2, w3, w4, sf_bd, b1, b2, b3, b4, true_and, Int.toNat_natCast, e1, e2, if_true, Option.toList_some, Option.toList_none, List.cons_append, List.nil_append]
  by_cases h28 : op = 28
  · obtain ⟨r, W, U, n', nx', c', ce', cf', cg', e1, e2, RU⟩ := p_keep R (x := xs.getD (i + 1) 0)
    refine ⟨U, n', nx', c', ce', cf', cg', RU, fun Q => ?_⟩
    rw [head, q165_32, if_neg h0, if_neg h1, if_neg h2, if_neg h3, if_neg h4, if_neg h5, if_neg h6, if_neg h7, if_neg h8, if_neg h9, if_neg h10, if_neg h11, if_neg h12, if_neg h13, if_neg h14, if_neg h15, if_neg h16, if_neg h17, if_neg h18, if_neg h19, if_neg h20, if_neg h21, if_neg h22, if_neg h23, if_neg h24, if_neg h25, if_neg h26, if_neg h27, if_pos h28]
    simp only [q165_922, q165_923, q165_924, q165_925, q165_926, q165_927, q165_928, q165_931, q165_932, q165_933, q165_934, q165_935, q165_936, q165_937, q165_940, sf_x, sf_y, w1, w2, w3, w4, sf_bd, b1, b2, b3, b4, true_and, Int.toNat_natCast, e1, e2, if_true, Option.toList_some, Option.toList_none, List.cons_append, List.nil_append]
  by_cases h29 : op = 29
  · obtain ⟨r, W, U, n', nx', c', ce', cf', cg', e1, e2, RU⟩ := p_goBack R (x := xs.getD (i + 1) 0)
    refine ⟨U, n', nx', c', ce', cf', cg', RU, fun Q => ?_⟩
    rw [head, q165_32, if_neg h0, if_neg h1, if_neg h2, if_neg h3, if_neg h4, if_neg h5, if_neg h6, if_neg h7, if_neg h8, if_neg h9, if_neg h10, if_neg h11, if_neg h12, if_neg h13, if_neg h14, if_neg h15, if_neg h16, if_neg h17, if_neg h18, if_neg h19, if_neg h20, if_neg h21, if_neg h22, if_neg h23, if_neg h24, if_neg h25, if_neg h26, if_neg h27, if_neg h28, if_pos h29]
    simp only [q165_945, q165_946, q165_947, q165_948, q165_949, q165_950, q165_951, q165_954, q165_955, q165_956, q165_957, q165_958, q165_959, q165_960, q165_963, sf_x, sf_y, w1, w2, w3, w4, sf_bd, b1, b2, b3, b4, true_and, Int.toNat_natCast, e1, e2, if_true, Option.toList_some, Option.toList_none, List.cons_append, List.nil_append]
  refine ⟨V, n, nx, c, ce, cf, cg, R, fun Q => ?_⟩
  rw [head, q165_32, if_neg h0, if_neg h1, if_neg h2, if_neg h3, if_neg h4, if_neg h5, if_neg h6, if_neg h7, if_neg h8, if_neg h9, if_neg h10, if_neg h11, if_neg h12, if_neg h13, if_neg h14, if_neg h15, if_neg h16, if_neg h17, if_neg h18, if_neg h19, if_neg h20, if_neg h21, if_neg h22, if_neg h23, if_neg h24, if_neg h25, if_neg h26, if_neg h27, if_neg h28, if_neg h29]
end SFSTEP

/-! each method: its name, code, locals, answer -/
abbrev sf_i_X0_init : sf_I := (yX0_init, cX0_init, 1, none)
abbrev sf_i_X0_add : sf_I := (yX0_add, cX0_add, 3, some .int)
abbrev sf_i_X1_init : sf_I := (yX1_init, cX1_init, 1, none)
abbrev sf_i_X1_fight : sf_I := (yX1_fight, cX1_fight, 6, none)
abbrev sf_i_X1_playedOut : sf_I := (yX1_playedOut, cX1_playedOut, 10, some .int)
abbrev sf_i_X1_endOf : sf_I := (yX1_endOf, cX1_endOf, 5, some .int)
abbrev sf_i_X2_init : sf_I := (yX2_init, cX2_init, 1, none)
abbrev sf_i_X2_makeUntold : sf_I := (yX2_makeUntold, cX2_makeUntold, 1, none)
abbrev sf_i_X2_copyFrom : sf_I := (yX2_copyFrom, cX2_copyFrom, 2, none)
abbrev sf_i_X3_init : sf_I := (yX3_init, cX3_init, 1, none)
abbrev sf_i_X3_add : sf_I := (yX3_add, cX3_add, 5, some .int)
abbrev sf_i_X3_fitting : sf_I := (yX3_fitting, cX3_fitting, 5, some .int)
abbrev sf_i_X3_fits : sf_I := (yX3_fits, cX3_fits, 5, some .boolean)
abbrev sf_i_X4_init : sf_I := (yX4_init, cX4_init, 1, none)
abbrev sf_i_X4_take : sf_I := (yX4_take, cX4_take, 2, none)
abbrev sf_i_X4_takeBack : sf_I := (yX4_takeBack, cX4_takeBack, 2, some (.object "StoveFavours$Stove"))
abbrev sf_i_X5_init : sf_I := (yX5_init, cX5_init, 1, none)
abbrev sf_i_X5_plan : sf_I := (yX5_plan, cX5_plan, 5, none)
abbrev sf_i_X5_answer : sf_I := (yX5_answer, cX5_answer, 2, some .int)
abbrev sf_i_X5_search : sf_I := (yX5_search, cX5_search, 9, none)
abbrev sf_i_X5_goOn : sf_I := (yX5_goOn, cX5_goOn, 7, none)
abbrev sf_i_X5_isBetter : sf_I := (yX5_isBetter, cX5_isBetter, 3, some .boolean)
abbrev sf_i_X5_isAllowed : sf_I := (yX5_isAllowed, cX5_isAllowed, 4, some .boolean)
abbrev sf_i_X6_init : sf_I := (yX6_init, cX6_init, 1, none)
abbrev sf_i_X6_run : sf_I := (yX6_run, cX6_run, 5, none)
abbrev sf_i_X6_goRound : sf_I := (yX6_goRound, cX6_goRound, 4, none)
abbrev sf_i_X6_standing : sf_I := (yX6_standing, cX6_standing, 6, some .int)
abbrev sf_i_X6_roundsSinceLike : sf_I := (yX6_roundsSinceLike, cX6_roundsSinceLike, 3, some .int)
abbrev sf_i_X6_hoursOf : sf_I := (yX6_hoursOf, cX6_hoursOf, 4, some .int)
abbrev sf_i_X6_spread : sf_I := (yX6_spread, cX6_spread, 6, some .int)
abbrev sf_i_X7_init : sf_I := (yX7_init, cX7_init, 2, none)
abbrev sf_i_X7_at : sf_I := (yX7_at, cX7_at, 2, some .int)
abbrev sf_i_X7_put : sf_I := (yX7_put, cX7_put, 3, none)
abbrev sf_i_X7_fill : sf_I := (yX7_fill, cX7_fill, 3, none)
abbrev sf_i_X7_copyFrom : sf_I := (yX7_copyFrom, cX7_copyFrom, 3, none)
abbrev sf_i_X8_init : sf_I := (yX8_init, cX8_init, 3, none)
abbrev sf_i_X8_at : sf_I := (yX8_at, cX8_at, 3, some (.object "StoveFavours$Stove"))
abbrev sf_i_X9_init : sf_I := (yX9_init, cX9_init, 1, none)
abbrev sf_i_X9_moveInto : sf_I := (yX9_moveInto, cX9_moveInto, 2, none)
abbrev sf_i_X9_copyFrom : sf_I := (yX9_copyFrom, cX9_copyFrom, 2, none)
abbrev sf_i_X9_chosenBy : sf_I := (yX9_chosenBy, cX9_chosenBy, 5, some .int)
abbrev sf_i_X9_plainlyChosen : sf_I := (yX9_plainlyChosen, cX9_plainlyChosen, 4, some .int)
abbrev sf_i_X9_leastOf : sf_I := (yX9_leastOf, cX9_leastOf, 4, some .int)
abbrev sf_i_X9_live : sf_I := (yX9_live, cX9_live, 5, none)
abbrev sf_i_X9_warmOnly : sf_I := (yX9_warmOnly, cX9_warmOnly, 6, none)
abbrev sf_i_X9_turnTo : sf_I := (yX9_turnTo, cX9_turnTo, 2, none)
abbrev sf_i_X9_frozen : sf_I := (yX9_frozen, cX9_frozen, 4, some .int)
abbrev sf_i_X10_init : sf_I := (yX10_init, cX10_init, 1, none)
abbrev sf_i_X10_append : sf_I := (yX10_append, cX10_append, 2, some .int)
abbrev sf_i_X10_read : sf_I := (yX10_read, cX10_read, 2, some .int)
abbrev sf_i_X10_readClause : sf_I := (yX10_readClause, cX10_readClause, 2, none)
abbrev sf_i_X10_readPerson : sf_I := (yX10_readPerson, cX10_readPerson, 3, none)
abbrev sf_i_X10_readDoing : sf_I := (yX10_readDoing, cX10_readDoing, 5, none)
abbrev sf_i_X10_readStove : sf_I := (yX10_readStove, cX10_readStove, 1, none)
abbrev sf_i_X10_readNumber : sf_I := (yX10_readNumber, cX10_readNumber, 5, some .int)
abbrev sf_i_X10_readEnd : sf_I := (yX10_readEnd, cX10_readEnd, 1, none)
abbrev sf_i_X10_skipBlanks : sf_I := (yX10_skipBlanks, cX10_skipBlanks, 1, none)
abbrev sf_i_X10_isFigure : sf_I := (yX10_isFigure, cX10_isFigure, 1, some .boolean)
abbrev sf_i_X10_blame : sf_I := (yX10_blame, cX10_blame, 3, none)
abbrev sf_i_X11_init : sf_I := (yX11_init, cX11_init, 1, none)
abbrev sf_i_X11_feed : sf_I := (yX11_feed, cX11_feed, 2, some .int)
abbrev sf_i_X11_house : sf_I := (yX11_house, cX11_house, 2, some .int)
abbrev sf_i_X11_fault : sf_I := (yX11_fault, cX11_fault, 1, some .int)
abbrev sf_i_X11_told : sf_I := (yX11_told, cX11_told, 2, some .int)
abbrev sf_i_X11_person : sf_I := (yX11_person, cX11_person, 3, some .int)
abbrev sf_i_X11_doing : sf_I := (yX11_doing, cX11_doing, 3, some .int)
abbrev sf_i_X11_act : sf_I := (yX11_act, cX11_act, 3, some .int)
abbrev sf_i_X11_sit : sf_I := (yX11_sit, cX11_sit, 4, some .int)
abbrev sf_i_X11_drift : sf_I := (yX11_drift, cX11_drift, 4, some .int)
abbrev sf_i_X11_stack : sf_I := (yX11_stack, cX11_stack, 2, some .int)
abbrev sf_i_X11_law : sf_I := (yX11_law, cX11_law, 4, some .int)
abbrev sf_i_X11_undo : sf_I := (yX11_undo, cX11_undo, 2, some .int)
abbrev sf_i_X11_freezes : sf_I := (yX11_freezes, cX11_freezes, 6, some .int)
abbrev sf_i_X11_favour : sf_I := (yX11_favour, cX11_favour, 4, some .int)
abbrev sf_i_X11_allWarm : sf_I := (yX11_allWarm, cX11_allWarm, 3, some .int)
abbrev sf_i_X11_duel : sf_I := (yX11_duel, cX11_duel, 5, some .int)
abbrev sf_i_X11_forEver : sf_I := (yX11_forEver, cX11_forEver, 2, some .int)
abbrev sf_i_X11_fair : sf_I := (yX11_fair, cX11_fair, 1, some .int)
abbrev sf_i_X11_left : sf_I := (yX11_left, cX11_left, 6, some .int)
abbrev sf_i_X11_doers : sf_I := (yX11_doers, cX11_doers, 5, some .int)
abbrev sf_i_X11_chair : sf_I := (yX11_chair, cX11_chair, 2, some .int)
abbrev sf_i_X11_note : sf_I := (yX11_note, cX11_note, 5, some .int)
abbrev sf_i_X11_laws : sf_I := (yX11_laws, cX11_laws, 2, some .int)
abbrev sf_i_X11_tryNext : sf_I := (yX11_tryNext, cX11_tryNext, 7, some .int)
abbrev sf_i_X11_write : sf_I := (yX11_write, cX11_write, 3, some .int)
abbrev sf_i_X11_judge : sf_I := (yX11_judge, cX11_judge, 3, some .int)
abbrev sf_i_X11_tear : sf_I := (yX11_tear, cX11_tear, 2, some .int)
abbrev sf_i_X11_seed : sf_I := (yX11_seed, cX11_seed, 3, some .int)
abbrev sf_i_X11_keep : sf_I := (yX11_keep, cX11_keep, 2, some .int)
abbrev sf_i_X11_goBack : sf_I := (yX11_goBack, cX11_goBack, 2, some .int)
abbrev sf_i_X11_within : sf_I := (yX11_within, cX11_within, 3, some .boolean)
abbrev sf_i_X11_isPerson : sf_I := (yX11_isPerson, cX11_isPerson, 2, some .boolean)
abbrev sf_i_X11_isDoing : sf_I := (yX11_isDoing, cX11_isDoing, 1, some .boolean)
abbrev sf_i_X11_refusalOfHours : sf_I := (yX11_refusalOfHours, cX11_refusalOfHours, 2, some .int)
abbrev sf_i_X11_spendHour : sf_I := (yX11_spendHour, cX11_spendHour, 3, some .int)
abbrev sf_i_X11_driftHour : sf_I := (yX11_driftHour, cX11_driftHour, 3, none)
abbrev sf_i_X11_draw : sf_I := (yX11_draw, cX11_draw, 2, some .int)
abbrev sf_i_X11_hoursInDraught : sf_I := (yX11_hoursInDraught, cX11_hoursInDraught, 4, some .int)
abbrev sf_i_X11_hoursUndisturbed : sf_I := (yX11_hoursUndisturbed, cX11_hoursUndisturbed, 2, some .int)
abbrev sf_i_X11_greatestPart : sf_I := (yX11_greatestPart, cX11_greatestPart, 7, some .int)
abbrev sf_i_X11_firstUnpaid : sf_I := (yX11_firstUnpaid, cX11_firstUnpaid, 3, some .int)
abbrev sf_i_X12_lesser : sf_I := (yX12_lesser, cX12_lesser, 2, some .int)
abbrev sf_i_X12_greater : sf_I := (yX12_greater, cX12_greater, 2, some .int)
abbrev sf_i_X12_init : sf_I := (yX12_init, cX12_init, 2, none)
abbrev sf_i_X12_feed : sf_I := (yX12_feed, cX12_feed, 2, some .int)
abbrev sf_i_X12_isAt : sf_I := (yX12_isAt, cX12_isAt, 3, some .boolean)
abbrev sf_i_X12_skips : sf_I := (yX12_skips, cX12_skips, 1, none)
abbrev sf_i_X12_fails : sf_I := (yX12_fails, cX12_fails, 2, some .boolean)
abbrev sf_i_X12_number : sf_I := (yX12_number, cX12_number, 4, some .boolean)
abbrev sf_i_X12_row : sf_I := (yX12_row, cX12_row, 6, some .boolean)
abbrev sf_i_X12_sign : sf_I := (yX12_sign, cX12_sign, 1, some .boolean)
abbrev sf_i_X12_readsPerson : sf_I := (yX12_readsPerson, cX12_readsPerson, 2, some .boolean)
abbrev sf_i_X12_readsDoing : sf_I := (yX12_readsDoing, cX12_readsDoing, 3, some .boolean)
abbrev sf_i_X12_readsStove : sf_I := (yX12_readsStove, cX12_readsStove, 1, some .boolean)
abbrev sf_i_X12_reads : sf_I := (yX12_reads, cX12_reads, 3, some .boolean)
abbrev sf_i_X12_house : sf_I := (yX12_house, cX12_house, 3, some .int)
abbrev sf_i_X12_fault : sf_I := (yX12_fault, cX12_fault, 1, some .int)
abbrev sf_i_X12_isPerson : sf_I := (yX12_isPerson, cX12_isPerson, 2, some .boolean)
abbrev sf_i_X12_isDoing : sf_I := (yX12_isDoing, cX12_isDoing, 1, some .boolean)
abbrev sf_i_X12_told : sf_I := (yX12_told, cX12_told, 5, some .int)
abbrev sf_i_X12_person : sf_I := (yX12_person, cX12_person, 3, some .int)
abbrev sf_i_X12_doing : sf_I := (yX12_doing, cX12_doing, 3, some .int)
abbrev sf_i_X12_take : sf_I := (yX12_take, cX12_take, 2, none)
abbrev sf_i_X12_likes : sf_I := (yX12_likes, cX12_likes, 7, some .int)
abbrev sf_i_X12_doesIt : sf_I := (yX12_doesIt, cX12_doesIt, 3, none)
abbrev sf_i_X12_goesBy : sf_I := (yX12_goesBy, cX12_goesBy, 3, none)
abbrev sf_i_X12_keepsHour : sf_I := (yX12_keepsHour, cX12_keepsHour, 2, none)
abbrev sf_i_X12_does : sf_I := (yX12_does, cX12_does, 4, none)
abbrev sf_i_X12_act : sf_I := (yX12_act, cX12_act, 3, some .int)
abbrev sf_i_X12_sit : sf_I := (yX12_sit, cX12_sit, 3, some .int)
abbrev sf_i_X12_draws : sf_I := (yX12_draws, cX12_draws, 2, some .int)
abbrev sf_i_X12_drift : sf_I := (yX12_drift, cX12_drift, 5, some .int)
abbrev sf_i_X12_stack : sf_I := (yX12_stack, cX12_stack, 2, some .int)
abbrev sf_i_X12_law : sf_I := (yX12_law, cX12_law, 4, some .int)
abbrev sf_i_X12_undo : sf_I := (yX12_undo, cX12_undo, 3, some .int)
abbrev sf_i_X12_frozenOne : sf_I := (yX12_frozenOne, cX12_frozenOne, 2, some .int)
abbrev sf_i_X12_freezes : sf_I := (yX12_freezes, cX12_freezes, 4, some .int)
abbrev sf_i_X12_lies : sf_I := (yX12_lies, cX12_lies, 3, none)
abbrev sf_i_X12_stands : sf_I := (yX12_stands, cX12_stands, 3, none)
abbrev sf_i_X12_rows : sf_I := (yX12_rows, cX12_rows, 6, none)
abbrev sf_i_X12_keepsRow : sf_I := (yX12_keepsRow, cX12_keepsRow, 7, none)
abbrev sf_i_X12_tells : sf_I := (yX12_tells, cX12_tells, 4, some .int)
abbrev sf_i_X12_favour : sf_I := (yX12_favour, cX12_favour, 4, some .int)
abbrev sf_i_X12_allWarm : sf_I := (yX12_allWarm, cX12_allWarm, 3, some .int)
abbrev sf_i_X12_duel : sf_I := (yX12_duel, cX12_duel, 10, some .int)
abbrev sf_i_X12_ranksAt : sf_I := (yX12_ranksAt, cX12_ranksAt, 5, none)
abbrev sf_i_X12_areAlike : sf_I := (yX12_areAlike, cX12_areAlike, 5, some .boolean)
abbrev sf_i_X12_turns : sf_I := (yX12_turns, cX12_turns, 3, none)
abbrev sf_i_X12_hoursOf : sf_I := (yX12_hoursOf, cX12_hoursOf, 4, some .int)
abbrev sf_i_X12_forEver : sf_I := (yX12_forEver, cX12_forEver, 2, some .int)
abbrev sf_i_X12_fair : sf_I := (yX12_fair, cX12_fair, 4, some .int)
abbrev sf_i_X12_left : sf_I := (yX12_left, cX12_left, 7, some .int)
abbrev sf_i_X12_doers : sf_I := (yX12_doers, cX12_doers, 5, some .int)
abbrev sf_i_X12_chair : sf_I := (yX12_chair, cX12_chair, 3, some .int)
abbrev sf_i_X12_note : sf_I := (yX12_note, cX12_note, 6, some .int)
abbrev sf_i_X12_lawsOf : sf_I := (yX12_lawsOf, cX12_lawsOf, 6, some .int)
abbrev sf_i_X12_laws : sf_I := (yX12_laws, cX12_laws, 2, some .int)
abbrev sf_i_X12_tryNext : sf_I := (yX12_tryNext, cX12_tryNext, 9, some .int)
abbrev sf_i_X12_write : sf_I := (yX12_write, cX12_write, 3, some .int)
abbrev sf_i_X12_judge : sf_I := (yX12_judge, cX12_judge, 4, some .int)
abbrev sf_i_X12_tear : sf_I := (yX12_tear, cX12_tear, 2, some .int)
abbrev sf_i_X12_seed : sf_I := (yX12_seed, cX12_seed, 3, some .int)
abbrev sf_i_X12_keep : sf_I := (yX12_keep, cX12_keep, 3, some .int)
abbrev sf_i_X12_goBack : sf_I := (yX12_goBack, cX12_goBack, 3, some .int)
abbrev sf_i_J6_bitCount_0f7a4 : sf_I := (yJ6_bitCount_0f7a4, cJ6_bitCount_0f7a4, 1, some .int)
abbrev sf_i_L_law : sf_I := (x, code, 4, some .boolean)
abbrev sf_i_X5_takeRow : sf_I := (yX5_takeRow, cX5_takeRow, 3, none)
abbrev sf_i_X5_gatherThings : sf_I := (yX5_gatherThings, cX5_gatherThings, 6, none)
abbrev sf_i_X5_offer : sf_I := (yX5_offer, cX5_offer, 6, none)
abbrev sf_i_X5_madeBehind : sf_I := (yX5_madeBehind, cX5_madeBehind, 9, some .int)
abbrev sf_dfX0 : List sf_V := [.inr (.inl none), .inr (.inl none), .inl 0]
theorem sf_dgX0 : ∀ g : sf_G, ∀ j, j < 3 → defaultValue (tyX0 j) = vp_V (sf_dfX0.map (sf_cv g)) j := fun g j hj => match j, hj with
  | 0, _ => rfl
  | 1, _ => rfl
  | 2, _ => rfl
  | n + 3, h => absurd h (by omega)
theorem sf_doX0 : ∀ v ∈ sf_dfX0, sf_ok v := by
  intro v hv
  simp only [sf_dfX0, List.mem_cons, List.not_mem_nil, or_false] at hv
  rcases hv with rfl | rfl | rfl <;> first | exact trivial | exact sf_oi0
abbrev sf_dfX1 : List sf_V := [.inr (.inl none), .inl 0, .inl 0, .inl 0, .inl 0, .inl 0]
theorem sf_dgX1 : ∀ g : sf_G, ∀ j, j < 6 → defaultValue (tyX1 j) = vp_V (sf_dfX1.map (sf_cv g)) j := fun g j hj => match j, hj with
  | 0, _ => rfl
  | 1, _ => rfl
  | 2, _ => rfl
  | 3, _ => rfl
  | 4, _ => rfl
  | 5, _ => rfl
  | n + 6, h => absurd h (by omega)
theorem sf_doX1 : ∀ v ∈ sf_dfX1, sf_ok v := by
  intro v hv
  simp only [sf_dfX1, List.mem_cons, List.not_mem_nil, or_false] at hv
  rcases hv with rfl | rfl | rfl | rfl | rfl | rfl <;> first | exact trivial | exact sf_oi0
abbrev sf_dfX2 : List sf_V := [.inr (.inl none), .inr (.inl none), .inr (.inl none), .inr (.inl none), .inl 0, .inl 0, .inl 0, .inl 0]
theorem sf_dgX2 : ∀ g : sf_G, ∀ j, j < 8 → defaultValue (tyX2 j) = vp_V (sf_dfX2.map (sf_cv g)) j := fun g j hj => match j, hj with
  | 0, _ => rfl
  | 1, _ => rfl
  | 2, _ => rfl
  | 3, _ => rfl
  | 4, _ => rfl
  | 5, _ => rfl
  | 6, _ => rfl
  | 7, _ => rfl
  | n + 8, h => absurd h (by omega)
theorem sf_doX2 : ∀ v ∈ sf_dfX2, sf_ok v := by
  intro v hv
  simp only [sf_dfX2, List.mem_cons, List.not_mem_nil, or_false] at hv
  rcases hv with rfl | rfl | rfl | rfl | rfl | rfl | rfl | rfl <;> first | exact trivial | exact sf_oi0
abbrev sf_dfX3 : List sf_V := [.inr (.inl none), .inr (.inl none), .inr (.inl none), .inr (.inl none), .inl 0]
theorem sf_dgX3 : ∀ g : sf_G, ∀ j, j < 5 → defaultValue (tyX3 j) = vp_V (sf_dfX3.map (sf_cv g)) j := fun g j hj => match j, hj with
  | 0, _ => rfl
  | 1, _ => rfl
  | 2, _ => rfl
  | 3, _ => rfl
  | 4, _ => rfl
  | n + 5, h => absurd h (by omega)
theorem sf_doX3 : ∀ v ∈ sf_dfX3, sf_ok v := by
  intro v hv
  simp only [sf_dfX3, List.mem_cons, List.not_mem_nil, or_false] at hv
  rcases hv with rfl | rfl | rfl | rfl | rfl <;> first | exact trivial | exact sf_oi0
abbrev sf_dfX4 : List sf_V := [.inr (.inl none), .inl 0, .inl 0]
theorem sf_dgX4 : ∀ g : sf_G, ∀ j, j < 3 → defaultValue (tyX4 j) = vp_V (sf_dfX4.map (sf_cv g)) j := fun g j hj => match j, hj with
  | 0, _ => rfl
  | 1, _ => rfl
  | 2, _ => rfl
  | n + 3, h => absurd h (by omega)
theorem sf_doX4 : ∀ v ∈ sf_dfX4, sf_ok v := by
  intro v hv
  simp only [sf_dfX4, List.mem_cons, List.not_mem_nil, or_false] at hv
  rcases hv with rfl | rfl | rfl <;> first | exact trivial | exact sf_oi0
abbrev sf_dfX5 : List sf_V := [.inr (.inl none), .inr (.inl none), .inr (.inl none), .inr (.inl none), .inr (.inl none), .inl 0, .inl 0, .inl 0, .inl 0, .inl 0, .inl 0]
theorem sf_dgX5 : ∀ g : sf_G, ∀ j, j < 11 → defaultValue (tyX5 j) = vp_V (sf_dfX5.map (sf_cv g)) j := fun g j hj => match j, hj with
  | 0, _ => rfl
  | 1, _ => rfl
  | 2, _ => rfl
  | 3, _ => rfl
  | 4, _ => rfl
  | 5, _ => rfl
  | 6, _ => rfl
  | 7, _ => rfl
  | 8, _ => rfl
  | 9, _ => rfl
  | 10, _ => rfl
  | n + 11, h => absurd h (by omega)
theorem sf_doX5 : ∀ v ∈ sf_dfX5, sf_ok v := by
  intro v hv
  simp only [sf_dfX5, List.mem_cons, List.not_mem_nil, or_false] at hv
  rcases hv with rfl | rfl | rfl | rfl | rfl | rfl | rfl | rfl | rfl | rfl | rfl <;> first | exact trivial | exact sf_oi0
abbrev sf_dfX6 : List sf_V := [.inr (.inl none), .inr (.inl none), .inr (.inl none), .inl 0, .inl 0, .inl 0]
theorem sf_dgX6 : ∀ g : sf_G, ∀ j, j < 6 → defaultValue (tyX6 j) = vp_V (sf_dfX6.map (sf_cv g)) j := fun g j hj => match j, hj with
  | 0, _ => rfl
  | 1, _ => rfl
  | 2, _ => rfl
  | 3, _ => rfl
  | 4, _ => rfl
  | 5, _ => rfl
  | n + 6, h => absurd h (by omega)
theorem sf_doX6 : ∀ v ∈ sf_dfX6, sf_ok v := by
  intro v hv
  simp only [sf_dfX6, List.mem_cons, List.not_mem_nil, or_false] at hv
  rcases hv with rfl | rfl | rfl | rfl | rfl | rfl <;> first | exact trivial | exact sf_oi0
abbrev sf_dfX7 : List sf_V := [.inr (.inl none)]
theorem sf_dgX7 : ∀ g : sf_G, ∀ j, j < 1 → defaultValue (tyX7 j) = vp_V (sf_dfX7.map (sf_cv g)) j := fun g j hj => match j, hj with
  | 0, _ => rfl
  | n + 1, h => absurd h (by omega)
theorem sf_doX7 : ∀ v ∈ sf_dfX7, sf_ok v := by
  intro v hv
  simp only [sf_dfX7, List.mem_cons, List.not_mem_nil, or_false] at hv
  subst hv
  first | exact trivial | exact sf_oi0
abbrev sf_dfX8 : List sf_V := [.inr (.inl none), .inr (.inl none)]
theorem sf_dgX8 : ∀ g : sf_G, ∀ j, j < 2 → defaultValue (tyX8 j) = vp_V (sf_dfX8.map (sf_cv g)) j := fun g j hj => match j, hj with
  | 0, _ => rfl
  | 1, _ => rfl
  | n + 2, h => absurd h (by omega)
theorem sf_doX8 : ∀ v ∈ sf_dfX8, sf_ok v := by
  intro v hv
  simp only [sf_dfX8, List.mem_cons, List.not_mem_nil, or_false] at hv
  rcases hv with rfl | rfl <;> first | exact trivial | exact sf_oi0
abbrev sf_dfX9 : List sf_V := [.inr (.inl none), .inr (.inl none), .inr (.inl none), .inl 0, .inl 0, .inl 0]
theorem sf_dgX9 : ∀ g : sf_G, ∀ j, j < 6 → defaultValue (tyX9 j) = vp_V (sf_dfX9.map (sf_cv g)) j := fun g j hj => match j, hj with
  | 0, _ => rfl
  | 1, _ => rfl
  | 2, _ => rfl
  | 3, _ => rfl
  | 4, _ => rfl
  | 5, _ => rfl
  | n + 6, h => absurd h (by omega)
theorem sf_doX9 : ∀ v ∈ sf_dfX9, sf_ok v := by
  intro v hv
  simp only [sf_dfX9, List.mem_cons, List.not_mem_nil, or_false] at hv
  rcases hv with rfl | rfl | rfl | rfl | rfl | rfl <;> first | exact trivial | exact sf_oi0
abbrev sf_dfX10 : List sf_V := [.inr (.inl none), .inr (.inl none), .inl 0, .inl 0, .inl 0, .inl 0, .inl 0, .inl 0]
theorem sf_dgX10 : ∀ g : sf_G, ∀ j, j < 8 → defaultValue (tyX10 j) = vp_V (sf_dfX10.map (sf_cv g)) j := fun g j hj => match j, hj with
  | 0, _ => rfl
  | 1, _ => rfl
  | 2, _ => rfl
  | 3, _ => rfl
  | 4, _ => rfl
  | 5, _ => rfl
  | 6, _ => rfl
  | 7, _ => rfl
  | n + 8, h => absurd h (by omega)
theorem sf_doX10 : ∀ v ∈ sf_dfX10, sf_ok v := by
  intro v hv
  simp only [sf_dfX10, List.mem_cons, List.not_mem_nil, or_false] at hv
  rcases hv with rfl | rfl | rfl | rfl | rfl | rfl | rfl | rfl <;> first | exact trivial | exact sf_oi0
abbrev sf_dfX11 : List sf_V := [.inr (.inl none), .inr (.inl none), .inr (.inl none), .inr (.inl none), .inr (.inl none), .inr (.inl none), .inr (.inl none), .inr (.inl none), .inr (.inl none), .inr (.inl none), .inr (.inl none), .inr (.inl none), .inr (.inl none), .inl 0]
theorem sf_dgX11 : ∀ g : sf_G, ∀ j, j < 14 → defaultValue (tyX11 j) = vp_V (sf_dfX11.map (sf_cv g)) j := fun g j hj => match j, hj with
  | 0, _ => rfl
  | 1, _ => rfl
  | 2, _ => rfl
  | 3, _ => rfl
  | 4, _ => rfl
  | 5, _ => rfl
  | 6, _ => rfl
  | 7, _ => rfl
  | 8, _ => rfl
  | 9, _ => rfl
  | 10, _ => rfl
  | 11, _ => rfl
  | 12, _ => rfl
  | 13, _ => rfl
  | n + 14, h => absurd h (by omega)
theorem sf_doX11 : ∀ v ∈ sf_dfX11, sf_ok v := by
  intro v hv
  simp only [sf_dfX11, List.mem_cons, List.not_mem_nil, or_false] at hv
  rcases hv with rfl | rfl | rfl | rfl | rfl | rfl | rfl | rfl | rfl | rfl | rfl | rfl | rfl | rfl <;> first | exact trivial | exact sf_oi0
abbrev sf_dfX12 : List sf_V := [.inl 0, .inl 0, .inr (.inl none), .inr (.inl none), .inr (.inl none), .inr (.inl none), .inl 0, .inr (.inl none), .inr (.inl none), .inr (.inl none), .inl 0, .inr (.inl none), .inl 0, .inr (.inl none), .inl 0, .inl 0, .inl 0, .inl 0, .inl 0, .inr (.inl none), .inr (.inl none), .inr (.inl none), .inr (.inl none), .inr (.inl none), .inl 0, .inl 0, .inl 0, .inl 0, .inr (.inl none), .inr (.inl none), .inr (.inl none), .inr (.inl none), .inl 0, .inl 0, .inr (.inl none), .inr (.inl none), .inr (.inl none), .inl 0, .inl 0, .inr (.inl none)]
theorem sf_dgX12 : ∀ g : sf_G, ∀ j, j < 40 → defaultValue (tyX12 j) = vp_V (sf_dfX12.map (sf_cv g)) j := fun g j hj => match j, hj with
  | 0, _ => rfl
  | 1, _ => rfl
  | 2, _ => rfl
  | 3, _ => rfl
  | 4, _ => rfl
  | 5, _ => rfl
  | 6, _ => rfl
  | 7, _ => rfl
  | 8, _ => rfl
  | 9, _ => rfl
  | 10, _ => rfl
  | 11, _ => rfl
  | 12, _ => rfl
  | 13, _ => rfl
  | 14, _ => rfl
  | 15, _ => rfl
  | 16, _ => rfl
  | 17, _ => rfl
  | 18, _ => rfl
  | 19, _ => rfl
  | 20, _ => rfl
  | 21, _ => rfl
  | 22, _ => rfl
  | 23, _ => rfl
  | 24, _ => rfl
  | 25, _ => rfl
  | 26, _ => rfl
  | 27, _ => rfl
  | 28, _ => rfl
  | 29, _ => rfl
  | 30, _ => rfl
  | 31, _ => rfl
  | 32, _ => rfl
  | 33, _ => rfl
  | 34, _ => rfl
  | 35, _ => rfl
  | 36, _ => rfl
  | 37, _ => rfl
  | 38, _ => rfl
  | 39, _ => rfl
  | n + 40, h => absurd h (by omega)
theorem sf_doX12 : ∀ v ∈ sf_dfX12, sf_ok v := by
  intro v hv
  simp only [sf_dfX12, List.mem_cons, List.not_mem_nil, or_false] at hv
  rcases hv with rfl | rfl | rfl | rfl | rfl | rfl | rfl | rfl | rfl | rfl | rfl | rfl | rfl | rfl | rfl | rfl | rfl | rfl | rfl | rfl | rfl | rfl | rfl | rfl | rfl | rfl | rfl | rfl | rfl | rfl | rfl | rfl | rfl | rfl | rfl | rfl | rfl | rfl | rfl | rfl <;> first | exact trivial | exact sf_oi0
def sf_infs : List sf_I := [sf_i_X0_init, sf_i_X0_add, sf_i_X1_init, sf_i_X1_fight, sf_i_X1_playedOut, sf_i_X1_endOf, sf_i_X2_init, sf_i_X2_makeUntold, sf_i_X2_copyFrom, sf_i_X3_init, sf_i_X3_add, sf_i_X3_fitting, sf_i_X3_fits, sf_i_X4_init, sf_i_X4_take, sf_i_X4_takeBack, sf_i_X5_init, sf_i_X5_plan, sf_i_X5_answer, sf_i_X5_search, sf_i_X5_goOn, sf_i_X5_isBetter, sf_i_X5_isAllowed, sf_i_X6_init, sf_i_X6_run, sf_i_X6_goRound, sf_i_X6_standing, sf_i_X6_roundsSinceLike, sf_i_X6_hoursOf, sf_i_X6_spread, sf_i_X7_init, sf_i_X7_at, sf_i_X7_put, sf_i_X7_fill, sf_i_X7_copyFrom, sf_i_X8_init, sf_i_X8_at, sf_i_X9_init, sf_i_X9_moveInto, sf_i_X9_copyFrom, sf_i_X9_chosenBy, sf_i_X9_plainlyChosen, sf_i_X9_leastOf, sf_i_X9_live, sf_i_X9_warmOnly, sf_i_X9_turnTo, sf_i_X9_frozen, sf_i_X10_init, sf_i_X10_append, sf_i_X10_read, sf_i_X10_readClause, sf_i_X10_readPerson, sf_i_X10_readDoing, sf_i_X10_readStove, sf_i_X10_readNumber, sf_i_X10_readEnd, sf_i_X10_skipBlanks, sf_i_X10_isFigure, sf_i_X10_blame, sf_i_X11_init, sf_i_X11_feed, sf_i_X11_house, sf_i_X11_fault, sf_i_X11_told, sf_i_X11_person, sf_i_X11_doing, sf_i_X11_act, sf_i_X11_sit, sf_i_X11_drift, sf_i_X11_stack, sf_i_X11_law, sf_i_X11_undo, sf_i_X11_freezes, sf_i_X11_favour, sf_i_X11_allWarm, sf_i_X11_duel, sf_i_X11_forEver, sf_i_X11_fair, sf_i_X11_left, sf_i_X11_doers, sf_i_X11_chair, sf_i_X11_note, sf_i_X11_laws, sf_i_X11_tryNext, sf_i_X11_write, sf_i_X11_judge, sf_i_X11_tear, sf_i_X11_seed, sf_i_X11_keep, sf_i_X11_goBack, sf_i_X11_within, sf_i_X11_isPerson, sf_i_X11_isDoing, sf_i_X11_refusalOfHours, sf_i_X11_spendHour, sf_i_X11_driftHour, sf_i_X11_draw, sf_i_X11_hoursInDraught, sf_i_X11_hoursUndisturbed, sf_i_X11_greatestPart, sf_i_X11_firstUnpaid, sf_i_X12_lesser, sf_i_X12_greater, sf_i_X12_init, sf_i_X12_feed, sf_i_X12_isAt, sf_i_X12_skips, sf_i_X12_fails, sf_i_X12_number, sf_i_X12_row, sf_i_X12_sign, sf_i_X12_readsPerson, sf_i_X12_readsDoing, sf_i_X12_readsStove, sf_i_X12_reads, sf_i_X12_house, sf_i_X12_fault, sf_i_X12_isPerson, sf_i_X12_isDoing, sf_i_X12_told, sf_i_X12_person, sf_i_X12_doing, sf_i_X12_take, sf_i_X12_likes, sf_i_X12_doesIt, sf_i_X12_goesBy, sf_i_X12_keepsHour, sf_i_X12_does, sf_i_X12_act, sf_i_X12_sit, sf_i_X12_draws, sf_i_X12_drift, sf_i_X12_stack, sf_i_X12_law, sf_i_X12_undo, sf_i_X12_frozenOne, sf_i_X12_freezes, sf_i_X12_lies, sf_i_X12_stands, sf_i_X12_rows, sf_i_X12_keepsRow, sf_i_X12_tells, sf_i_X12_favour, sf_i_X12_allWarm, sf_i_X12_duel, sf_i_X12_ranksAt, sf_i_X12_areAlike, sf_i_X12_turns, sf_i_X12_hoursOf, sf_i_X12_forEver, sf_i_X12_fair, sf_i_X12_left, sf_i_X12_doers, sf_i_X12_chair, sf_i_X12_note, sf_i_X12_lawsOf, sf_i_X12_laws, sf_i_X12_tryNext, sf_i_X12_write, sf_i_X12_judge, sf_i_X12_tear, sf_i_X12_seed, sf_i_X12_keep, sf_i_X12_goBack, sf_i_J6_bitCount_0f7a4, sf_i_L_law, sf_i_X5_takeRow, sf_i_X5_gatherThings, sf_i_X5_offer, sf_i_X5_madeBehind]
def sf_inf (y : Nat) : Option sf_I := sf_infs[y]?
set_option maxRecDepth 100000 in
theorem sf_jw_X0_init : sf_JW sf_i_X0_init 0 := ⟨sf_mem (List.mem_of_getElem? (i := 304) (by rfl)) rfl, sf_m70, ⟨by decide +kernel, by decide +kernel, by decide +kernel⟩, by decide⟩
set_option maxRecDepth 100000 in
theorem sf_jw_X0_add : sf_JW sf_i_X0_add 2 := ⟨sf_mem (List.mem_of_getElem? (i := 861) (by rfl)) rfl, sf_m70, ⟨by decide +kernel, by decide +kernel, by decide +kernel⟩, by decide⟩
set_option maxRecDepth 100000 in
theorem sf_jw_X1_init : sf_JW sf_i_X1_init 0 := ⟨sf_mem (List.mem_of_getElem? (i := 372) (by rfl)) rfl, sf_m72, ⟨by decide +kernel, by decide +kernel, by decide +kernel⟩, by decide⟩
set_option maxRecDepth 100000 in
theorem sf_jw_X1_fight : sf_JW sf_i_X1_fight 5 := ⟨sf_mem (List.mem_of_getElem? (i := 748) (by rfl)) rfl, sf_m72, ⟨by decide +kernel, by decide +kernel, by decide +kernel⟩, by decide⟩
set_option maxRecDepth 100000 in
theorem sf_jw_X1_playedOut : sf_JW sf_i_X1_playedOut 2 := ⟨sf_mem (List.mem_of_getElem? (i := 754) (by rfl)) rfl, sf_m72, ⟨by decide +kernel, by decide +kernel, by decide +kernel⟩, by decide⟩
set_option maxRecDepth 100000 in
theorem sf_jw_X1_endOf : sf_JW sf_i_X1_endOf 3 := ⟨sf_mem (List.mem_of_getElem? (i := 759) (by rfl)) rfl, sf_m72, ⟨by decide +kernel, by decide +kernel, by decide +kernel⟩, by decide⟩
set_option maxRecDepth 100000 in
theorem sf_jw_X2_init : sf_JW sf_i_X2_init 0 := ⟨sf_mem (List.mem_of_getElem? (i := 108) (by rfl)) rfl, sf_m65, ⟨by decide +kernel, by decide +kernel, by decide +kernel⟩, by decide⟩
set_option maxRecDepth 100000 in
theorem sf_jw_X2_makeUntold : sf_JW sf_i_X2_makeUntold 0 := ⟨sf_mem (List.mem_of_getElem? (i := 115) (by rfl)) rfl, sf_m65, ⟨by decide +kernel, by decide +kernel, by decide +kernel⟩, by decide⟩
set_option maxRecDepth 100000 in
theorem sf_jw_X2_copyFrom : sf_JW sf_i_X2_copyFrom 1 := ⟨sf_mem (List.mem_of_getElem? (i := 547) (by rfl)) rfl, sf_m65, ⟨by decide +kernel, by decide +kernel, by decide +kernel⟩, by decide⟩
set_option maxRecDepth 100000 in
theorem sf_jw_X3_init : sf_JW sf_i_X3_init 0 := ⟨sf_mem (List.mem_of_getElem? (i := 279) (by rfl)) rfl, sf_m69, ⟨by decide +kernel, by decide +kernel, by decide +kernel⟩, by decide⟩
set_option maxRecDepth 100000 in
theorem sf_jw_X3_add : sf_JW sf_i_X3_add 4 := ⟨sf_mem (List.mem_of_getElem? (i := 822) (by rfl)) rfl, sf_m69, ⟨by decide +kernel, by decide +kernel, by decide +kernel⟩, by decide⟩
set_option maxRecDepth 100000 in
theorem sf_jw_X3_fitting : sf_JW sf_i_X3_fitting 2 := ⟨sf_mem (List.mem_of_getElem? (i := 831) (by rfl)) rfl, sf_m69, ⟨by decide +kernel, by decide +kernel, by decide +kernel⟩, by decide⟩
set_option maxRecDepth 100000 in
theorem sf_jw_X3_fits : sf_JW sf_i_X3_fits 3 := ⟨sf_mem (List.mem_of_getElem? (i := 835) (by rfl)) rfl, sf_m69, ⟨by decide +kernel, by decide +kernel, by decide +kernel⟩, by decide⟩
set_option maxRecDepth 100000 in
theorem sf_jw_X4_init : sf_JW sf_i_X4_init 0 := ⟨sf_mem (List.mem_of_getElem? (i := 241) (by rfl)) rfl, sf_m67, ⟨by decide +kernel, by decide +kernel, by decide +kernel⟩, by decide⟩
set_option maxRecDepth 100000 in
theorem sf_jw_X4_take : sf_JW sf_i_X4_take 1 := ⟨sf_mem (List.mem_of_getElem? (i := 593) (by rfl)) rfl, sf_m67, ⟨by decide +kernel, by decide +kernel, by decide +kernel⟩, by decide⟩
set_option maxRecDepth 100000 in
theorem sf_jw_X4_takeBack : sf_JW sf_i_X4_takeBack 1 := ⟨sf_mem (List.mem_of_getElem? (i := 671) (by rfl)) rfl, sf_m67, ⟨by decide +kernel, by decide +kernel, by decide +kernel⟩, by decide⟩
set_option maxRecDepth 100000 in
theorem sf_jw_X5_init : sf_JW sf_i_X5_init 0 := ⟨sf_mem (List.mem_of_getElem? (i := 328) (by rfl)) rfl, sf_m71, ⟨by decide +kernel, by decide +kernel, by decide +kernel⟩, by decide⟩
set_option maxRecDepth 100000 in
theorem sf_jw_X5_plan : sf_JW sf_i_X5_plan 4 := ⟨sf_mem (List.mem_of_getElem? (i := 692) (by rfl)) rfl, sf_m71, ⟨by decide +kernel, by decide +kernel, by decide +kernel⟩, by decide⟩
set_option maxRecDepth 100000 in
theorem sf_jw_X5_answer : sf_JW sf_i_X5_answer 1 := ⟨sf_mem (List.mem_of_getElem? (i := 736) (by rfl)) rfl, sf_m71, ⟨by decide +kernel, by decide +kernel, by decide +kernel⟩, by decide⟩
set_option maxRecDepth 100000 in
theorem sf_jw_X5_search : sf_JW sf_i_X5_search 4 := ⟨sf_mem (List.mem_of_getElem? (i := 698) (by rfl)) rfl, sf_m71, ⟨by decide +kernel, by decide +kernel, by decide +kernel⟩, by decide⟩
set_option maxRecDepth 100000 in
theorem sf_jw_X5_goOn : sf_JW sf_i_X5_goOn 5 := ⟨sf_mem (List.mem_of_getElem? (i := 722) (by rfl)) rfl, sf_m71, ⟨by decide +kernel, by decide +kernel, by decide +kernel⟩, by decide⟩
set_option maxRecDepth 100000 in
theorem sf_jw_X5_isBetter : sf_JW sf_i_X5_isBetter 2 := ⟨sf_mem (List.mem_of_getElem? (i := 726) (by rfl)) rfl, sf_m71, ⟨by decide +kernel, by decide +kernel, by decide +kernel⟩, by decide⟩
set_option maxRecDepth 100000 in
theorem sf_jw_X5_isAllowed : sf_JW sf_i_X5_isAllowed 3 := ⟨sf_mem (List.mem_of_getElem? (i := 731) (by rfl)) rfl, sf_m71, ⟨by decide +kernel, by decide +kernel, by decide +kernel⟩, by decide⟩
set_option maxRecDepth 100000 in
theorem sf_jw_X6_init : sf_JW sf_i_X6_init 0 := ⟨sf_mem (List.mem_of_getElem? (i := 401) (by rfl)) rfl, sf_m73, ⟨by decide +kernel, by decide +kernel, by decide +kernel⟩, by decide⟩
set_option maxRecDepth 100000 in
theorem sf_jw_X6_run : sf_JW sf_i_X6_run 3 := ⟨sf_mem (List.mem_of_getElem? (i := 768) (by rfl)) rfl, sf_m73, ⟨by decide +kernel, by decide +kernel, by decide +kernel⟩, by decide⟩
set_option maxRecDepth 100000 in
theorem sf_jw_X6_goRound : sf_JW sf_i_X6_goRound 2 := ⟨sf_mem (List.mem_of_getElem? (i := 780) (by rfl)) rfl, sf_m73, ⟨by decide +kernel, by decide +kernel, by decide +kernel⟩, by decide⟩
set_option maxRecDepth 100000 in
theorem sf_jw_X6_standing : sf_JW sf_i_X6_standing 1 := ⟨sf_mem (List.mem_of_getElem? (i := 774) (by rfl)) rfl, sf_m73, ⟨by decide +kernel, by decide +kernel, by decide +kernel⟩, by decide⟩
set_option maxRecDepth 100000 in
theorem sf_jw_X6_roundsSinceLike : sf_JW sf_i_X6_roundsSinceLike 1 := ⟨sf_mem (List.mem_of_getElem? (i := 786) (by rfl)) rfl, sf_m73, ⟨by decide +kernel, by decide +kernel, by decide +kernel⟩, by decide⟩
set_option maxRecDepth 100000 in
theorem sf_jw_X6_hoursOf : sf_JW sf_i_X6_hoursOf 1 := ⟨sf_mem (List.mem_of_getElem? (i := 790) (by rfl)) rfl, sf_m73, ⟨by decide +kernel, by decide +kernel, by decide +kernel⟩, by decide⟩
set_option maxRecDepth 100000 in
theorem sf_jw_X6_spread : sf_JW sf_i_X6_spread 1 := ⟨sf_mem (List.mem_of_getElem? (i := 798) (by rfl)) rfl, sf_m73, ⟨by decide +kernel, by decide +kernel, by decide +kernel⟩, by decide⟩
set_option maxRecDepth 100000 in
theorem sf_jw_X7_init : sf_JW sf_i_X7_init 1 := ⟨sf_mem (List.mem_of_getElem? (i := 94) (by rfl)) rfl, sf_m63, ⟨by decide +kernel, by decide +kernel, by decide +kernel⟩, by decide⟩
set_option maxRecDepth 100000 in
theorem sf_jw_X7_at : sf_JW sf_i_X7_at 1 := ⟨sf_mem (List.mem_of_getElem? (i := 512) (by rfl)) rfl, sf_m63, ⟨by decide +kernel, by decide +kernel, by decide +kernel⟩, by decide⟩
set_option maxRecDepth 100000 in
theorem sf_jw_X7_put : sf_JW sf_i_X7_put 2 := ⟨sf_mem (List.mem_of_getElem? (i := 495) (by rfl)) rfl, sf_m63, ⟨by decide +kernel, by decide +kernel, by decide +kernel⟩, by decide⟩
set_option maxRecDepth 100000 in
theorem sf_jw_X7_fill : sf_JW sf_i_X7_fill 1 := ⟨sf_mem (List.mem_of_getElem? (i := 119) (by rfl)) rfl, sf_m63, ⟨by decide +kernel, by decide +kernel, by decide +kernel⟩, by decide⟩
set_option maxRecDepth 100000 in
theorem sf_jw_X7_copyFrom : sf_JW sf_i_X7_copyFrom 1 := ⟨sf_mem (List.mem_of_getElem? (i := 434) (by rfl)) rfl, sf_m63, ⟨by decide +kernel, by decide +kernel, by decide +kernel⟩, by decide⟩
set_option maxRecDepth 100000 in
theorem sf_jw_X8_init : sf_JW sf_i_X8_init 1 := ⟨sf_mem (List.mem_of_getElem? (i := 247) (by rfl)) rfl, sf_m68, ⟨by decide +kernel, by decide +kernel, by decide +kernel⟩, by decide⟩
set_option maxRecDepth 100000 in
theorem sf_jw_X8_at : sf_JW sf_i_X8_at 1 := ⟨sf_mem (List.mem_of_getElem? (i := 597) (by rfl)) rfl, sf_m68, ⟨by decide +kernel, by decide +kernel, by decide +kernel⟩, by decide⟩
set_option maxRecDepth 100000 in
theorem sf_jw_X9_init : sf_JW sf_i_X9_init 0 := ⟨sf_mem (List.mem_of_getElem? (i := 202) (by rfl)) rfl, sf_m66, ⟨by decide +kernel, by decide +kernel, by decide +kernel⟩, by decide⟩
set_option maxRecDepth 100000 in
theorem sf_jw_X9_moveInto : sf_JW sf_i_X9_moveInto 1 := ⟨sf_mem (List.mem_of_getElem? (i := 430) (by rfl)) rfl, sf_m66, ⟨by decide +kernel, by decide +kernel, by decide +kernel⟩, by decide⟩
set_option maxRecDepth 100000 in
theorem sf_jw_X9_copyFrom : sf_JW sf_i_X9_copyFrom 1 := ⟨sf_mem (List.mem_of_getElem? (i := 601) (by rfl)) rfl, sf_m66, ⟨by decide +kernel, by decide +kernel, by decide +kernel⟩, by decide⟩
set_option maxRecDepth 100000 in
theorem sf_jw_X9_chosenBy : sf_JW sf_i_X9_chosenBy 3 := ⟨sf_mem (List.mem_of_getElem? (i := 612) (by rfl)) rfl, sf_m66, ⟨by decide +kernel, by decide +kernel, by decide +kernel⟩, by decide⟩
set_option maxRecDepth 100000 in
theorem sf_jw_X9_plainlyChosen : sf_JW sf_i_X9_plainlyChosen 4 := ⟨sf_mem (List.mem_of_getElem? (i := 618) (by rfl)) rfl, sf_m66, ⟨by decide +kernel, by decide +kernel, by decide +kernel⟩, by decide⟩
set_option maxRecDepth 100000 in
theorem sf_jw_X9_leastOf : sf_JW sf_i_X9_leastOf 2 := ⟨sf_mem (List.mem_of_getElem? (i := 615) (by rfl)) rfl, sf_m66, ⟨by decide +kernel, by decide +kernel, by decide +kernel⟩, by decide⟩
set_option maxRecDepth 100000 in
theorem sf_jw_X9_live : sf_JW sf_i_X9_live 3 := ⟨sf_mem (List.mem_of_getElem? (i := 608) (by rfl)) rfl, sf_m66, ⟨by decide +kernel, by decide +kernel, by decide +kernel⟩, by decide⟩
set_option maxRecDepth 100000 in
theorem sf_jw_X9_warmOnly : sf_JW sf_i_X9_warmOnly 2 := ⟨sf_mem (List.mem_of_getElem? (i := 622) (by rfl)) rfl, sf_m66, ⟨by decide +kernel, by decide +kernel, by decide +kernel⟩, by decide⟩
set_option maxRecDepth 100000 in
theorem sf_jw_X9_turnTo : sf_JW sf_i_X9_turnTo 1 := ⟨sf_mem (List.mem_of_getElem? (i := 626) (by rfl)) rfl, sf_m66, ⟨by decide +kernel, by decide +kernel, by decide +kernel⟩, by decide⟩
set_option maxRecDepth 100000 in
theorem sf_jw_X9_frozen : sf_JW sf_i_X9_frozen 1 := ⟨sf_mem (List.mem_of_getElem? (i := 561) (by rfl)) rfl, sf_m66, ⟨by decide +kernel, by decide +kernel, by decide +kernel⟩, by decide⟩
set_option maxRecDepth 100000 in
theorem sf_jw_X10_init : sf_JW sf_i_X10_init 0 := ⟨sf_mem (List.mem_of_getElem? (i := 88) (by rfl)) rfl, sf_m62, ⟨by decide +kernel, by decide +kernel, by decide +kernel⟩, by decide⟩
set_option maxRecDepth 100000 in
theorem sf_jw_X10_append : sf_JW sf_i_X10_append 1 := ⟨sf_mem (List.mem_of_getElem? (i := 491) (by rfl)) rfl, sf_m62, ⟨by decide +kernel, by decide +kernel, by decide +kernel⟩, by decide⟩
set_option maxRecDepth 100000 in
theorem sf_jw_X10_read : sf_JW sf_i_X10_read 0 := ⟨sf_mem (List.mem_of_getElem? (i := 503) (by rfl)) rfl, sf_m62, ⟨by decide +kernel, by decide +kernel, by decide +kernel⟩, by decide⟩
set_option maxRecDepth 100000 in
theorem sf_jw_X10_readClause : sf_JW sf_i_X10_readClause 0 := ⟨sf_mem (List.mem_of_getElem? (i := 516) (by rfl)) rfl, sf_m62, ⟨by decide +kernel, by decide +kernel, by decide +kernel⟩, by decide⟩
set_option maxRecDepth 100000 in
theorem sf_jw_X10_readPerson : sf_JW sf_i_X10_readPerson 0 := ⟨sf_mem (List.mem_of_getElem? (i := 520) (by rfl)) rfl, sf_m62, ⟨by decide +kernel, by decide +kernel, by decide +kernel⟩, by decide⟩
set_option maxRecDepth 100000 in
theorem sf_jw_X10_readDoing : sf_JW sf_i_X10_readDoing 0 := ⟨sf_mem (List.mem_of_getElem? (i := 539) (by rfl)) rfl, sf_m62, ⟨by decide +kernel, by decide +kernel, by decide +kernel⟩, by decide⟩
set_option maxRecDepth 100000 in
theorem sf_jw_X10_readStove : sf_JW sf_i_X10_readStove 0 := ⟨sf_mem (List.mem_of_getElem? (i := 543) (by rfl)) rfl, sf_m62, ⟨by decide +kernel, by decide +kernel, by decide +kernel⟩, by decide⟩
set_option maxRecDepth 100000 in
theorem sf_jw_X10_readNumber : sf_JW sf_i_X10_readNumber 2 := ⟨sf_mem (List.mem_of_getElem? (i := 528) (by rfl)) rfl, sf_m62, ⟨by decide +kernel, by decide +kernel, by decide +kernel⟩, by decide⟩
set_option maxRecDepth 100000 in
theorem sf_jw_X10_readEnd : sf_JW sf_i_X10_readEnd 0 := ⟨sf_mem (List.mem_of_getElem? (i := 535) (by rfl)) rfl, sf_m62, ⟨by decide +kernel, by decide +kernel, by decide +kernel⟩, by decide⟩
set_option maxRecDepth 100000 in
theorem sf_jw_X10_skipBlanks : sf_JW sf_i_X10_skipBlanks 0 := ⟨sf_mem (List.mem_of_getElem? (i := 508) (by rfl)) rfl, sf_m62, ⟨by decide +kernel, by decide +kernel, by decide +kernel⟩, by decide⟩
set_option maxRecDepth 100000 in
theorem sf_jw_X10_isFigure : sf_JW sf_i_X10_isFigure 1 := ⟨sf_mem (List.mem_of_getElem? (i := 531) (by rfl)) rfl, sf_m62, ⟨by decide +kernel, by decide +kernel, by decide +kernel⟩, by decide⟩
set_option maxRecDepth 100000 in
theorem sf_jw_X10_blame : sf_JW sf_i_X10_blame 2 := ⟨sf_mem (List.mem_of_getElem? (i := 524) (by rfl)) rfl, sf_m62, ⟨by decide +kernel, by decide +kernel, by decide +kernel⟩, by decide⟩
set_option maxRecDepth 100000 in
theorem sf_jw_X11_init : sf_JW sf_i_X11_init 0 := ⟨sf_mem (List.mem_of_getElem? (i := 80) (by rfl)) rfl, sf_m61, ⟨by decide +kernel, by decide +kernel, by decide +kernel⟩, by decide⟩
set_option maxRecDepth 100000 in
theorem sf_jw_X11_feed : sf_JW sf_i_X11_feed 1 := ⟨sf_mem (List.mem_of_getElem? (i := 482) (by rfl)) rfl, sf_m61, ⟨by decide +kernel, by decide +kernel, by decide +kernel⟩, by decide⟩
set_option maxRecDepth 100000 in
theorem sf_jw_X11_house : sf_JW sf_i_X11_house 0 := ⟨sf_mem (List.mem_of_getElem? (i := 499) (by rfl)) rfl, sf_m61, ⟨by decide +kernel, by decide +kernel, by decide +kernel⟩, by decide⟩
set_option maxRecDepth 100000 in
theorem sf_jw_X11_fault : sf_JW sf_i_X11_fault 0 := ⟨sf_mem (List.mem_of_getElem? (i := 553) (by rfl)) rfl, sf_m61, ⟨by decide +kernel, by decide +kernel, by decide +kernel⟩, by decide⟩
set_option maxRecDepth 100000 in
theorem sf_jw_X11_told : sf_JW sf_i_X11_told 1 := ⟨sf_mem (List.mem_of_getElem? (i := 557) (by rfl)) rfl, sf_m61, ⟨by decide +kernel, by decide +kernel, by decide +kernel⟩, by decide⟩
set_option maxRecDepth 100000 in
theorem sf_jw_X11_person : sf_JW sf_i_X11_person 2 := ⟨sf_mem (List.mem_of_getElem? (i := 566) (by rfl)) rfl, sf_m61, ⟨by decide +kernel, by decide +kernel, by decide +kernel⟩, by decide⟩
set_option maxRecDepth 100000 in
theorem sf_jw_X11_doing : sf_JW sf_i_X11_doing 2 := ⟨sf_mem (List.mem_of_getElem? (i := 576) (by rfl)) rfl, sf_m61, ⟨by decide +kernel, by decide +kernel, by decide +kernel⟩, by decide⟩
set_option maxRecDepth 100000 in
theorem sf_jw_X11_act : sf_JW sf_i_X11_act 2 := ⟨sf_mem (List.mem_of_getElem? (i := 583) (by rfl)) rfl, sf_m61, ⟨by decide +kernel, by decide +kernel, by decide +kernel⟩, by decide⟩
set_option maxRecDepth 100000 in
theorem sf_jw_X11_sit : sf_JW sf_i_X11_sit 1 := ⟨sf_mem (List.mem_of_getElem? (i := 633) (by rfl)) rfl, sf_m61, ⟨by decide +kernel, by decide +kernel, by decide +kernel⟩, by decide⟩
set_option maxRecDepth 100000 in
theorem sf_jw_X11_drift : sf_JW sf_i_X11_drift 1 := ⟨sf_mem (List.mem_of_getElem? (i := 641) (by rfl)) rfl, sf_m61, ⟨by decide +kernel, by decide +kernel, by decide +kernel⟩, by decide⟩
set_option maxRecDepth 100000 in
theorem sf_jw_X11_stack : sf_JW sf_i_X11_stack 1 := ⟨sf_mem (List.mem_of_getElem? (i := 657) (by rfl)) rfl, sf_m61, ⟨by decide +kernel, by decide +kernel, by decide +kernel⟩, by decide⟩
set_option maxRecDepth 100000 in
theorem sf_jw_X11_law : sf_JW sf_i_X11_law 2 := ⟨sf_mem (List.mem_of_getElem? (i := 662) (by rfl)) rfl, sf_m61, ⟨by decide +kernel, by decide +kernel, by decide +kernel⟩, by decide⟩
set_option maxRecDepth 100000 in
theorem sf_jw_X11_undo : sf_JW sf_i_X11_undo 1 := ⟨sf_mem (List.mem_of_getElem? (i := 667) (by rfl)) rfl, sf_m61, ⟨by decide +kernel, by decide +kernel, by decide +kernel⟩, by decide⟩
set_option maxRecDepth 100000 in
theorem sf_jw_X11_freezes : sf_JW sf_i_X11_freezes 1 := ⟨sf_mem (List.mem_of_getElem? (i := 676) (by rfl)) rfl, sf_m61, ⟨by decide +kernel, by decide +kernel, by decide +kernel⟩, by decide⟩
set_option maxRecDepth 100000 in
theorem sf_jw_X11_favour : sf_JW sf_i_X11_favour 3 := ⟨sf_mem (List.mem_of_getElem? (i := 688) (by rfl)) rfl, sf_m61, ⟨by decide +kernel, by decide +kernel, by decide +kernel⟩, by decide⟩
set_option maxRecDepth 100000 in
theorem sf_jw_X11_allWarm : sf_JW sf_i_X11_allWarm 2 := ⟨sf_mem (List.mem_of_getElem? (i := 740) (by rfl)) rfl, sf_m61, ⟨by decide +kernel, by decide +kernel, by decide +kernel⟩, by decide⟩
set_option maxRecDepth 100000 in
theorem sf_jw_X11_duel : sf_JW sf_i_X11_duel 4 := ⟨sf_mem (List.mem_of_getElem? (i := 744) (by rfl)) rfl, sf_m61, ⟨by decide +kernel, by decide +kernel, by decide +kernel⟩, by decide⟩
set_option maxRecDepth 100000 in
theorem sf_jw_X11_forEver : sf_JW sf_i_X11_forEver 1 := ⟨sf_mem (List.mem_of_getElem? (i := 764) (by rfl)) rfl, sf_m61, ⟨by decide +kernel, by decide +kernel, by decide +kernel⟩, by decide⟩
set_option maxRecDepth 100000 in
theorem sf_jw_X11_fair : sf_JW sf_i_X11_fair 0 := ⟨sf_mem (List.mem_of_getElem? (i := 794) (by rfl)) rfl, sf_m61, ⟨by decide +kernel, by decide +kernel, by decide +kernel⟩, by decide⟩
set_option maxRecDepth 100000 in
theorem sf_jw_X11_left : sf_JW sf_i_X11_left 2 := ⟨sf_mem (List.mem_of_getElem? (i := 805) (by rfl)) rfl, sf_m61, ⟨by decide +kernel, by decide +kernel, by decide +kernel⟩, by decide⟩
set_option maxRecDepth 100000 in
theorem sf_jw_X11_doers : sf_JW sf_i_X11_doers 1 := ⟨sf_mem (List.mem_of_getElem? (i := 810) (by rfl)) rfl, sf_m61, ⟨by decide +kernel, by decide +kernel, by decide +kernel⟩, by decide⟩
set_option maxRecDepth 100000 in
theorem sf_jw_X11_chair : sf_JW sf_i_X11_chair 1 := ⟨sf_mem (List.mem_of_getElem? (i := 814) (by rfl)) rfl, sf_m61, ⟨by decide +kernel, by decide +kernel, by decide +kernel⟩, by decide⟩
set_option maxRecDepth 100000 in
theorem sf_jw_X11_note : sf_JW sf_i_X11_note 4 := ⟨sf_mem (List.mem_of_getElem? (i := 818) (by rfl)) rfl, sf_m61, ⟨by decide +kernel, by decide +kernel, by decide +kernel⟩, by decide⟩
set_option maxRecDepth 100000 in
theorem sf_jw_X11_laws : sf_JW sf_i_X11_laws 1 := ⟨sf_mem (List.mem_of_getElem? (i := 827) (by rfl)) rfl, sf_m61, ⟨by decide +kernel, by decide +kernel, by decide +kernel⟩, by decide⟩
set_option maxRecDepth 100000 in
theorem sf_jw_X11_tryNext : sf_JW sf_i_X11_tryNext 1 := ⟨sf_mem (List.mem_of_getElem? (i := 841) (by rfl)) rfl, sf_m61, ⟨by decide +kernel, by decide +kernel, by decide +kernel⟩, by decide⟩
set_option maxRecDepth 100000 in
theorem sf_jw_X11_write : sf_JW sf_i_X11_write 2 := ⟨sf_mem (List.mem_of_getElem? (i := 857) (by rfl)) rfl, sf_m61, ⟨by decide +kernel, by decide +kernel, by decide +kernel⟩, by decide⟩
set_option maxRecDepth 100000 in
theorem sf_jw_X11_judge : sf_JW sf_i_X11_judge 1 := ⟨sf_mem (List.mem_of_getElem? (i := 866) (by rfl)) rfl, sf_m61, ⟨by decide +kernel, by decide +kernel, by decide +kernel⟩, by decide⟩
set_option maxRecDepth 100000 in
theorem sf_jw_X11_tear : sf_JW sf_i_X11_tear 0 := ⟨sf_mem (List.mem_of_getElem? (i := 874) (by rfl)) rfl, sf_m61, ⟨by decide +kernel, by decide +kernel, by decide +kernel⟩, by decide⟩
set_option maxRecDepth 100000 in
theorem sf_jw_X11_seed : sf_JW sf_i_X11_seed 1 := ⟨sf_mem (List.mem_of_getElem? (i := 878) (by rfl)) rfl, sf_m61, ⟨by decide +kernel, by decide +kernel, by decide +kernel⟩, by decide⟩
set_option maxRecDepth 100000 in
theorem sf_jw_X11_keep : sf_JW sf_i_X11_keep 1 := ⟨sf_mem (List.mem_of_getElem? (i := 882) (by rfl)) rfl, sf_m61, ⟨by decide +kernel, by decide +kernel, by decide +kernel⟩, by decide⟩
set_option maxRecDepth 100000 in
theorem sf_jw_X11_goBack : sf_JW sf_i_X11_goBack 1 := ⟨sf_mem (List.mem_of_getElem? (i := 887) (by rfl)) rfl, sf_m61, ⟨by decide +kernel, by decide +kernel, by decide +kernel⟩, by decide⟩
set_option maxRecDepth 100000 in
theorem sf_jw_X11_within : sf_JW sf_i_X11_within 3 := ⟨sf_mem (List.mem_of_getElem? (i := 485) (by rfl)) rfl, sf_m61, ⟨by decide +kernel, by decide +kernel, by decide +kernel⟩, by decide⟩
set_option maxRecDepth 100000 in
theorem sf_jw_X11_isPerson : sf_JW sf_i_X11_isPerson 1 := ⟨sf_mem (List.mem_of_getElem? (i := 570) (by rfl)) rfl, sf_m61, ⟨by decide +kernel, by decide +kernel, by decide +kernel⟩, by decide⟩
set_option maxRecDepth 100000 in
theorem sf_jw_X11_isDoing : sf_JW sf_i_X11_isDoing 1 := ⟨sf_mem (List.mem_of_getElem? (i := 579) (by rfl)) rfl, sf_m61, ⟨by decide +kernel, by decide +kernel, by decide +kernel⟩, by decide⟩
set_option maxRecDepth 100000 in
theorem sf_jw_X11_refusalOfHours : sf_JW sf_i_X11_refusalOfHours 1 := ⟨sf_mem (List.mem_of_getElem? (i := 637) (by rfl)) rfl, sf_m61, ⟨by decide +kernel, by decide +kernel, by decide +kernel⟩, by decide⟩
set_option maxRecDepth 100000 in
theorem sf_jw_X11_spendHour : sf_JW sf_i_X11_spendHour 2 := ⟨sf_mem (List.mem_of_getElem? (i := 589) (by rfl)) rfl, sf_m61, ⟨by decide +kernel, by decide +kernel, by decide +kernel⟩, by decide⟩
set_option maxRecDepth 100000 in
theorem sf_jw_X11_driftHour : sf_JW sf_i_X11_driftHour 0 := ⟨sf_mem (List.mem_of_getElem? (i := 645) (by rfl)) rfl, sf_m61, ⟨by decide +kernel, by decide +kernel, by decide +kernel⟩, by decide⟩
set_option maxRecDepth 100000 in
theorem sf_jw_X11_draw : sf_JW sf_i_X11_draw 1 := ⟨sf_mem (List.mem_of_getElem? (i := 649) (by rfl)) rfl, sf_m61, ⟨by decide +kernel, by decide +kernel, by decide +kernel⟩, by decide⟩
set_option maxRecDepth 100000 in
theorem sf_jw_X11_hoursInDraught : sf_JW sf_i_X11_hoursInDraught 1 := ⟨sf_mem (List.mem_of_getElem? (i := 684) (by rfl)) rfl, sf_m61, ⟨by decide +kernel, by decide +kernel, by decide +kernel⟩, by decide⟩
set_option maxRecDepth 100000 in
theorem sf_jw_X11_hoursUndisturbed : sf_JW sf_i_X11_hoursUndisturbed 1 := ⟨sf_mem (List.mem_of_getElem? (i := 680) (by rfl)) rfl, sf_m61, ⟨by decide +kernel, by decide +kernel, by decide +kernel⟩, by decide⟩
set_option maxRecDepth 100000 in
theorem sf_jw_X11_greatestPart : sf_JW sf_i_X11_greatestPart 2 := ⟨sf_mem (List.mem_of_getElem? (i := 851) (by rfl)) rfl, sf_m61, ⟨by decide +kernel, by decide +kernel, by decide +kernel⟩, by decide⟩
set_option maxRecDepth 100000 in
theorem sf_jw_X11_firstUnpaid : sf_JW sf_i_X11_firstUnpaid 0 := ⟨sf_mem (List.mem_of_getElem? (i := 870) (by rfl)) rfl, sf_m61, ⟨by decide +kernel, by decide +kernel, by decide +kernel⟩, by decide⟩
set_option maxRecDepth 100000 in
theorem sf_jw_X12_lesser : sf_JW sf_i_X12_lesser 2 := ⟨sf_mem (List.mem_of_getElem? (i := 1130) (by rfl)) rfl, sf_m74, ⟨by decide +kernel, by decide +kernel, by decide +kernel⟩, by decide⟩
set_option maxRecDepth 100000 in
theorem sf_jw_X12_greater : sf_JW sf_i_X12_greater 2 := ⟨sf_mem (List.mem_of_getElem? (i := 1133) (by rfl)) rfl, sf_m74, ⟨by decide +kernel, by decide +kernel, by decide +kernel⟩, by decide⟩
set_option maxRecDepth 100000 in
theorem sf_jw_X12_init : sf_JW sf_i_X12_init 0 := ⟨sf_mem (List.mem_of_getElem? (i := 892) (by rfl)) rfl, sf_m74, ⟨by decide +kernel, by decide +kernel, by decide +kernel⟩, by decide⟩
set_option maxRecDepth 100000 in
theorem sf_jw_X12_feed : sf_JW sf_i_X12_feed 1 := ⟨sf_mem (List.mem_of_getElem? (i := 1019) (by rfl)) rfl, sf_m74, ⟨by decide +kernel, by decide +kernel, by decide +kernel⟩, by decide⟩
set_option maxRecDepth 100000 in
theorem sf_jw_X12_isAt : sf_JW sf_i_X12_isAt 2 := ⟨sf_mem (List.mem_of_getElem? (i := 1041) (by rfl)) rfl, sf_m74, ⟨by decide +kernel, by decide +kernel, by decide +kernel⟩, by decide⟩
set_option maxRecDepth 100000 in
theorem sf_jw_X12_skips : sf_JW sf_i_X12_skips 0 := ⟨sf_mem (List.mem_of_getElem? (i := 1037) (by rfl)) rfl, sf_m74, ⟨by decide +kernel, by decide +kernel, by decide +kernel⟩, by decide⟩
set_option maxRecDepth 100000 in
theorem sf_jw_X12_fails : sf_JW sf_i_X12_fails 1 := ⟨sf_mem (List.mem_of_getElem? (i := 1049) (by rfl)) rfl, sf_m74, ⟨by decide +kernel, by decide +kernel, by decide +kernel⟩, by decide⟩
set_option maxRecDepth 100000 in
theorem sf_jw_X12_number : sf_JW sf_i_X12_number 2 := ⟨sf_mem (List.mem_of_getElem? (i := 1057) (by rfl)) rfl, sf_m74, ⟨by decide +kernel, by decide +kernel, by decide +kernel⟩, by decide⟩
set_option maxRecDepth 100000 in
theorem sf_jw_X12_row : sf_JW sf_i_X12_row 4 := ⟨sf_mem (List.mem_of_getElem? (i := 1053) (by rfl)) rfl, sf_m74, ⟨by decide +kernel, by decide +kernel, by decide +kernel⟩, by decide⟩
set_option maxRecDepth 100000 in
theorem sf_jw_X12_sign : sf_JW sf_i_X12_sign 0 := ⟨sf_mem (List.mem_of_getElem? (i := 1062) (by rfl)) rfl, sf_m74, ⟨by decide +kernel, by decide +kernel, by decide +kernel⟩, by decide⟩
set_option maxRecDepth 100000 in
theorem sf_jw_X12_readsPerson : sf_JW sf_i_X12_readsPerson 0 := ⟨sf_mem (List.mem_of_getElem? (i := 1045) (by rfl)) rfl, sf_m74, ⟨by decide +kernel, by decide +kernel, by decide +kernel⟩, by decide⟩
set_option maxRecDepth 100000 in
theorem sf_jw_X12_readsDoing : sf_JW sf_i_X12_readsDoing 0 := ⟨sf_mem (List.mem_of_getElem? (i := 1066) (by rfl)) rfl, sf_m74, ⟨by decide +kernel, by decide +kernel, by decide +kernel⟩, by decide⟩
set_option maxRecDepth 100000 in
theorem sf_jw_X12_readsStove : sf_JW sf_i_X12_readsStove 0 := ⟨sf_mem (List.mem_of_getElem? (i := 1070) (by rfl)) rfl, sf_m74, ⟨by decide +kernel, by decide +kernel, by decide +kernel⟩, by decide⟩
set_option maxRecDepth 100000 in
theorem sf_jw_X12_reads : sf_JW sf_i_X12_reads 0 := ⟨sf_mem (List.mem_of_getElem? (i := 1033) (by rfl)) rfl, sf_m74, ⟨by decide +kernel, by decide +kernel, by decide +kernel⟩, by decide⟩
set_option maxRecDepth 100000 in
theorem sf_jw_X12_house : sf_JW sf_i_X12_house 0 := ⟨sf_mem (List.mem_of_getElem? (i := 1029) (by rfl)) rfl, sf_m74, ⟨by decide +kernel, by decide +kernel, by decide +kernel⟩, by decide⟩
set_option maxRecDepth 100000 in
theorem sf_jw_X12_fault : sf_JW sf_i_X12_fault 0 := ⟨sf_mem (List.mem_of_getElem? (i := 1074) (by rfl)) rfl, sf_m74, ⟨by decide +kernel, by decide +kernel, by decide +kernel⟩, by decide⟩
set_option maxRecDepth 100000 in
theorem sf_jw_X12_isPerson : sf_JW sf_i_X12_isPerson 1 := ⟨sf_mem (List.mem_of_getElem? (i := 1087) (by rfl)) rfl, sf_m74, ⟨by decide +kernel, by decide +kernel, by decide +kernel⟩, by decide⟩
set_option maxRecDepth 100000 in
theorem sf_jw_X12_isDoing : sf_JW sf_i_X12_isDoing 1 := ⟨sf_mem (List.mem_of_getElem? (i := 1096) (by rfl)) rfl, sf_m74, ⟨by decide +kernel, by decide +kernel, by decide +kernel⟩, by decide⟩
set_option maxRecDepth 100000 in
theorem sf_jw_X12_told : sf_JW sf_i_X12_told 1 := ⟨sf_mem (List.mem_of_getElem? (i := 1078) (by rfl)) rfl, sf_m74, ⟨by decide +kernel, by decide +kernel, by decide +kernel⟩, by decide⟩
set_option maxRecDepth 100000 in
theorem sf_jw_X12_person : sf_JW sf_i_X12_person 2 := ⟨sf_mem (List.mem_of_getElem? (i := 1083) (by rfl)) rfl, sf_m74, ⟨by decide +kernel, by decide +kernel, by decide +kernel⟩, by decide⟩
set_option maxRecDepth 100000 in
theorem sf_jw_X12_doing : sf_JW sf_i_X12_doing 2 := ⟨sf_mem (List.mem_of_getElem? (i := 1093) (by rfl)) rfl, sf_m74, ⟨by decide +kernel, by decide +kernel, by decide +kernel⟩, by decide⟩
set_option maxRecDepth 100000 in
theorem sf_jw_X12_take : sf_JW sf_i_X12_take 0 := ⟨sf_mem (List.mem_of_getElem? (i := 1115) (by rfl)) rfl, sf_m74, ⟨by decide +kernel, by decide +kernel, by decide +kernel⟩, by decide⟩
set_option maxRecDepth 100000 in
theorem sf_jw_X12_likes : sf_JW sf_i_X12_likes 2 := ⟨sf_mem (List.mem_of_getElem? (i := 1123) (by rfl)) rfl, sf_m74, ⟨by decide +kernel, by decide +kernel, by decide +kernel⟩, by decide⟩
set_option maxRecDepth 100000 in
theorem sf_jw_X12_doesIt : sf_JW sf_i_X12_doesIt 2 := ⟨sf_mem (List.mem_of_getElem? (i := 1119) (by rfl)) rfl, sf_m74, ⟨by decide +kernel, by decide +kernel, by decide +kernel⟩, by decide⟩
set_option maxRecDepth 100000 in
theorem sf_jw_X12_goesBy : sf_JW sf_i_X12_goesBy 0 := ⟨sf_mem (List.mem_of_getElem? (i := 1127) (by rfl)) rfl, sf_m74, ⟨by decide +kernel, by decide +kernel, by decide +kernel⟩, by decide⟩
set_option maxRecDepth 100000 in
theorem sf_jw_X12_keepsHour : sf_JW sf_i_X12_keepsHour 0 := ⟨sf_mem (List.mem_of_getElem? (i := 1111) (by rfl)) rfl, sf_m74, ⟨by decide +kernel, by decide +kernel, by decide +kernel⟩, by decide⟩
set_option maxRecDepth 100000 in
theorem sf_jw_X12_does : sf_JW sf_i_X12_does 2 := ⟨sf_mem (List.mem_of_getElem? (i := 1107) (by rfl)) rfl, sf_m74, ⟨by decide +kernel, by decide +kernel, by decide +kernel⟩, by decide⟩
set_option maxRecDepth 100000 in
theorem sf_jw_X12_act : sf_JW sf_i_X12_act 2 := ⟨sf_mem (List.mem_of_getElem? (i := 1101) (by rfl)) rfl, sf_m74, ⟨by decide +kernel, by decide +kernel, by decide +kernel⟩, by decide⟩
set_option maxRecDepth 100000 in
theorem sf_jw_X12_sit : sf_JW sf_i_X12_sit 1 := ⟨sf_mem (List.mem_of_getElem? (i := 1137) (by rfl)) rfl, sf_m74, ⟨by decide +kernel, by decide +kernel, by decide +kernel⟩, by decide⟩
set_option maxRecDepth 100000 in
theorem sf_jw_X12_draws : sf_JW sf_i_X12_draws 1 := ⟨sf_mem (List.mem_of_getElem? (i := 1146) (by rfl)) rfl, sf_m74, ⟨by decide +kernel, by decide +kernel, by decide +kernel⟩, by decide⟩
set_option maxRecDepth 100000 in
theorem sf_jw_X12_drift : sf_JW sf_i_X12_drift 1 := ⟨sf_mem (List.mem_of_getElem? (i := 1142) (by rfl)) rfl, sf_m74, ⟨by decide +kernel, by decide +kernel, by decide +kernel⟩, by decide⟩
set_option maxRecDepth 100000 in
theorem sf_jw_X12_stack : sf_JW sf_i_X12_stack 1 := ⟨sf_mem (List.mem_of_getElem? (i := 1154) (by rfl)) rfl, sf_m74, ⟨by decide +kernel, by decide +kernel, by decide +kernel⟩, by decide⟩
set_option maxRecDepth 100000 in
theorem sf_jw_X12_law : sf_JW sf_i_X12_law 2 := ⟨sf_mem (List.mem_of_getElem? (i := 1159) (by rfl)) rfl, sf_m74, ⟨by decide +kernel, by decide +kernel, by decide +kernel⟩, by decide⟩
set_option maxRecDepth 100000 in
theorem sf_jw_X12_undo : sf_JW sf_i_X12_undo 1 := ⟨sf_mem (List.mem_of_getElem? (i := 1164) (by rfl)) rfl, sf_m74, ⟨by decide +kernel, by decide +kernel, by decide +kernel⟩, by decide⟩
set_option maxRecDepth 100000 in
theorem sf_jw_X12_frozenOne : sf_JW sf_i_X12_frozenOne 0 := ⟨sf_mem (List.mem_of_getElem? (i := 1173) (by rfl)) rfl, sf_m74, ⟨by decide +kernel, by decide +kernel, by decide +kernel⟩, by decide⟩
set_option maxRecDepth 100000 in
theorem sf_jw_X12_freezes : sf_JW sf_i_X12_freezes 1 := ⟨sf_mem (List.mem_of_getElem? (i := 1169) (by rfl)) rfl, sf_m74, ⟨by decide +kernel, by decide +kernel, by decide +kernel⟩, by decide⟩
set_option maxRecDepth 100000 in
theorem sf_jw_X12_lies : sf_JW sf_i_X12_lies 1 := ⟨sf_mem (List.mem_of_getElem? (i := 1186) (by rfl)) rfl, sf_m74, ⟨by decide +kernel, by decide +kernel, by decide +kernel⟩, by decide⟩
set_option maxRecDepth 100000 in
theorem sf_jw_X12_stands : sf_JW sf_i_X12_stands 1 := ⟨sf_mem (List.mem_of_getElem? (i := 1190) (by rfl)) rfl, sf_m74, ⟨by decide +kernel, by decide +kernel, by decide +kernel⟩, by decide⟩
set_option maxRecDepth 100000 in
theorem sf_jw_X12_rows : sf_JW sf_i_X12_rows 2 := ⟨sf_mem (List.mem_of_getElem? (i := 1182) (by rfl)) rfl, sf_m74, ⟨by decide +kernel, by decide +kernel, by decide +kernel⟩, by decide⟩
set_option maxRecDepth 100000 in
theorem sf_jw_X12_keepsRow : sf_JW sf_i_X12_keepsRow 2 := ⟨sf_mem (List.mem_of_getElem? (i := 1194) (by rfl)) rfl, sf_m74, ⟨by decide +kernel, by decide +kernel, by decide +kernel⟩, by decide⟩
set_option maxRecDepth 100000 in
theorem sf_jw_X12_tells : sf_JW sf_i_X12_tells 2 := ⟨sf_mem (List.mem_of_getElem? (i := 1198) (by rfl)) rfl, sf_m74, ⟨by decide +kernel, by decide +kernel, by decide +kernel⟩, by decide⟩
set_option maxRecDepth 100000 in
theorem sf_jw_X12_favour : sf_JW sf_i_X12_favour 3 := ⟨sf_mem (List.mem_of_getElem? (i := 1177) (by rfl)) rfl, sf_m74, ⟨by decide +kernel, by decide +kernel, by decide +kernel⟩, by decide⟩
set_option maxRecDepth 100000 in
theorem sf_jw_X12_allWarm : sf_JW sf_i_X12_allWarm 2 := ⟨sf_mem (List.mem_of_getElem? (i := 1202) (by rfl)) rfl, sf_m74, ⟨by decide +kernel, by decide +kernel, by decide +kernel⟩, by decide⟩
set_option maxRecDepth 100000 in
theorem sf_jw_X12_duel : sf_JW sf_i_X12_duel 4 := ⟨sf_mem (List.mem_of_getElem? (i := 1206) (by rfl)) rfl, sf_m74, ⟨by decide +kernel, by decide +kernel, by decide +kernel⟩, by decide⟩
set_option maxRecDepth 100000 in
theorem sf_jw_X12_ranksAt : sf_JW sf_i_X12_ranksAt 1 := ⟨sf_mem (List.mem_of_getElem? (i := 1219) (by rfl)) rfl, sf_m74, ⟨by decide +kernel, by decide +kernel, by decide +kernel⟩, by decide⟩
set_option maxRecDepth 100000 in
theorem sf_jw_X12_areAlike : sf_JW sf_i_X12_areAlike 2 := ⟨sf_mem (List.mem_of_getElem? (i := 1223) (by rfl)) rfl, sf_m74, ⟨by decide +kernel, by decide +kernel, by decide +kernel⟩, by decide⟩
set_option maxRecDepth 100000 in
theorem sf_jw_X12_turns : sf_JW sf_i_X12_turns 0 := ⟨sf_mem (List.mem_of_getElem? (i := 1215) (by rfl)) rfl, sf_m74, ⟨by decide +kernel, by decide +kernel, by decide +kernel⟩, by decide⟩
set_option maxRecDepth 100000 in
theorem sf_jw_X12_hoursOf : sf_JW sf_i_X12_hoursOf 1 := ⟨sf_mem (List.mem_of_getElem? (i := 1227) (by rfl)) rfl, sf_m74, ⟨by decide +kernel, by decide +kernel, by decide +kernel⟩, by decide⟩
set_option maxRecDepth 100000 in
theorem sf_jw_X12_forEver : sf_JW sf_i_X12_forEver 1 := ⟨sf_mem (List.mem_of_getElem? (i := 1211) (by rfl)) rfl, sf_m74, ⟨by decide +kernel, by decide +kernel, by decide +kernel⟩, by decide⟩
set_option maxRecDepth 100000 in
theorem sf_jw_X12_fair : sf_JW sf_i_X12_fair 0 := ⟨sf_mem (List.mem_of_getElem? (i := 1231) (by rfl)) rfl, sf_m74, ⟨by decide +kernel, by decide +kernel, by decide +kernel⟩, by decide⟩
set_option maxRecDepth 100000 in
theorem sf_jw_X12_left : sf_JW sf_i_X12_left 2 := ⟨sf_mem (List.mem_of_getElem? (i := 1235) (by rfl)) rfl, sf_m74, ⟨by decide +kernel, by decide +kernel, by decide +kernel⟩, by decide⟩
set_option maxRecDepth 100000 in
theorem sf_jw_X12_doers : sf_JW sf_i_X12_doers 1 := ⟨sf_mem (List.mem_of_getElem? (i := 1239) (by rfl)) rfl, sf_m74, ⟨by decide +kernel, by decide +kernel, by decide +kernel⟩, by decide⟩
set_option maxRecDepth 100000 in
theorem sf_jw_X12_chair : sf_JW sf_i_X12_chair 1 := ⟨sf_mem (List.mem_of_getElem? (i := 1243) (by rfl)) rfl, sf_m74, ⟨by decide +kernel, by decide +kernel, by decide +kernel⟩, by decide⟩
set_option maxRecDepth 100000 in
theorem sf_jw_X12_note : sf_JW sf_i_X12_note 4 := ⟨sf_mem (List.mem_of_getElem? (i := 1247) (by rfl)) rfl, sf_m74, ⟨by decide +kernel, by decide +kernel, by decide +kernel⟩, by decide⟩
set_option maxRecDepth 100000 in
theorem sf_jw_X12_lawsOf : sf_JW sf_i_X12_lawsOf 1 := ⟨sf_mem (List.mem_of_getElem? (i := 1255) (by rfl)) rfl, sf_m74, ⟨by decide +kernel, by decide +kernel, by decide +kernel⟩, by decide⟩
set_option maxRecDepth 100000 in
theorem sf_jw_X12_laws : sf_JW sf_i_X12_laws 1 := ⟨sf_mem (List.mem_of_getElem? (i := 1251) (by rfl)) rfl, sf_m74, ⟨by decide +kernel, by decide +kernel, by decide +kernel⟩, by decide⟩
set_option maxRecDepth 100000 in
theorem sf_jw_X12_tryNext : sf_JW sf_i_X12_tryNext 1 := ⟨sf_mem (List.mem_of_getElem? (i := 1259) (by rfl)) rfl, sf_m74, ⟨by decide +kernel, by decide +kernel, by decide +kernel⟩, by decide⟩
set_option maxRecDepth 100000 in
theorem sf_jw_X12_write : sf_JW sf_i_X12_write 2 := ⟨sf_mem (List.mem_of_getElem? (i := 1263) (by rfl)) rfl, sf_m74, ⟨by decide +kernel, by decide +kernel, by decide +kernel⟩, by decide⟩
set_option maxRecDepth 100000 in
theorem sf_jw_X12_judge : sf_JW sf_i_X12_judge 1 := ⟨sf_mem (List.mem_of_getElem? (i := 1267) (by rfl)) rfl, sf_m74, ⟨by decide +kernel, by decide +kernel, by decide +kernel⟩, by decide⟩
set_option maxRecDepth 100000 in
theorem sf_jw_X12_tear : sf_JW sf_i_X12_tear 0 := ⟨sf_mem (List.mem_of_getElem? (i := 1271) (by rfl)) rfl, sf_m74, ⟨by decide +kernel, by decide +kernel, by decide +kernel⟩, by decide⟩
set_option maxRecDepth 100000 in
theorem sf_jw_X12_seed : sf_JW sf_i_X12_seed 1 := ⟨sf_mem (List.mem_of_getElem? (i := 1275) (by rfl)) rfl, sf_m74, ⟨by decide +kernel, by decide +kernel, by decide +kernel⟩, by decide⟩
set_option maxRecDepth 100000 in
theorem sf_jw_X12_keep : sf_JW sf_i_X12_keep 1 := ⟨sf_mem (List.mem_of_getElem? (i := 1279) (by rfl)) rfl, sf_m74, ⟨by decide +kernel, by decide +kernel, by decide +kernel⟩, by decide⟩
set_option maxRecDepth 100000 in
theorem sf_jw_X12_goBack : sf_JW sf_i_X12_goBack 1 := ⟨sf_mem (List.mem_of_getElem? (i := 1283) (by rfl)) rfl, sf_m74, ⟨by decide +kernel, by decide +kernel, by decide +kernel⟩, by decide⟩
set_option maxRecDepth 100000 in
theorem sf_jw_J6_bitCount_0f7a4 : sf_JW sf_i_J6_bitCount_0f7a4 1 := ⟨sf_mem (List.mem_of_getElem? (i := 844) (by rfl)) rfl, sf_m75, ⟨by decide +kernel, by decide +kernel, by decide +kernel⟩, by decide⟩
set_option maxRecDepth 100000 in
theorem sf_jw_X5_takeRow : sf_JW sf_i_X5_takeRow 2 := ⟨sf_mem (List.mem_of_getElem? (i := 702) (by rfl)) rfl, sf_m71, ⟨by decide +kernel, by decide +kernel, by decide +kernel⟩, by decide⟩
set_option maxRecDepth 100000 in
theorem sf_jw_X5_gatherThings : sf_JW sf_i_X5_gatherThings 2 := ⟨sf_mem (List.mem_of_getElem? (i := 707) (by rfl)) rfl, sf_m71, ⟨by decide +kernel, by decide +kernel, by decide +kernel⟩, by decide⟩
set_option maxRecDepth 100000 in
theorem sf_jw_X5_offer : sf_JW sf_i_X5_offer 4 := ⟨sf_mem (List.mem_of_getElem? (i := 712) (by rfl)) rfl, sf_m71, ⟨by decide +kernel, by decide +kernel, by decide +kernel⟩, by decide⟩
set_option maxRecDepth 100000 in
theorem sf_jw_X5_madeBehind : sf_JW sf_i_X5_madeBehind 3 := ⟨sf_mem (List.mem_of_getElem? (i := 718) (by rfl)) rfl, sf_m71, ⟨by decide +kernel, by decide +kernel, by decide +kernel⟩, by decide⟩
set_option maxRecDepth 100000 in
theorem sf_jw_X12_in : sf_JW sf_inI 3 := ⟨sf_mem (List.mem_of_getElem? (i := 1023) (by rfl)) rfl, sf_m74, ⟨by decide +kernel, by decide +kernel, by decide +kernel⟩, by decide⟩
theorem sf_lk_X11_doing_11 : ∀ x : Int, 0 ≤ ((11 : Nat) : Int) + Op.lookupswitch.offset [(0, 25), (1, 37)] (49) x := by
  intro x
  simp only [Op.lookupswitch.offset]
  repeat (first | omega | split)

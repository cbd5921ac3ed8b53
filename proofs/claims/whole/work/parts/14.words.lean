/-! the words of the tables that are used, by their places; what each method is -/
-- by their places
theorem sf_m0 : Cond.selects "StoveFavours$Text" (⟨"StoveFavours$Text", "skipBlanks", "()V"⟩ : MethodName) (⟨"StoveFavours$Text", "skipBlanks", "()V"⟩ : MethodName) ∈ sf_tb := sf_mem (List.mem_of_getElem? (i := 0) (by decide +kernel)) rfl
theorem sf_m1 : Cond.selects "StoveFavours$Text" (⟨"StoveFavours$Text", "readClause", "()V"⟩ : MethodName) (⟨"StoveFavours$Text", "readClause", "()V"⟩ : MethodName) ∈ sf_tb := sf_mem (List.mem_of_getElem? (i := 1) (by decide +kernel)) rfl
theorem sf_m2 : Cond.selects "StoveFavours$Text" (⟨"StoveFavours$Text", "readPerson", "()V"⟩ : MethodName) (⟨"StoveFavours$Text", "readPerson", "()V"⟩ : MethodName) ∈ sf_tb := sf_mem (List.mem_of_getElem? (i := 2) (by decide +kernel)) rfl
theorem sf_m3 : Cond.selects "StoveFavours$Text" (⟨"StoveFavours$Text", "blame", "(II)V"⟩ : MethodName) (⟨"StoveFavours$Text", "blame", "(II)V"⟩ : MethodName) ∈ sf_tb := sf_mem (List.mem_of_getElem? (i := 3) (by decide +kernel)) rfl
theorem sf_m4 : Cond.selects "StoveFavours$Text" (⟨"StoveFavours$Text", "readNumber", "(II)I"⟩ : MethodName) (⟨"StoveFavours$Text", "readNumber", "(II)I"⟩ : MethodName) ∈ sf_tb := sf_mem (List.mem_of_getElem? (i := 4) (by decide +kernel)) rfl
theorem sf_m5 : Cond.selects "StoveFavours$Text" (⟨"StoveFavours$Text", "readEnd", "()V"⟩ : MethodName) (⟨"StoveFavours$Text", "readEnd", "()V"⟩ : MethodName) ∈ sf_tb := sf_mem (List.mem_of_getElem? (i := 5) (by decide +kernel)) rfl
theorem sf_m6 : Cond.selects "StoveFavours$Text" (⟨"StoveFavours$Text", "readDoing", "()V"⟩ : MethodName) (⟨"StoveFavours$Text", "readDoing", "()V"⟩ : MethodName) ∈ sf_tb := sf_mem (List.mem_of_getElem? (i := 6) (by decide +kernel)) rfl
theorem sf_m7 : Cond.selects "StoveFavours$Text" (⟨"StoveFavours$Text", "readStove", "()V"⟩ : MethodName) (⟨"StoveFavours$Text", "readStove", "()V"⟩ : MethodName) ∈ sf_tb := sf_mem (List.mem_of_getElem? (i := 7) (by decide +kernel)) rfl
theorem sf_m8 : Cond.selects "StoveFavours" (⟨"StoveFavours", "isPerson", "(I)Z"⟩ : MethodName) (⟨"StoveFavours", "isPerson", "(I)Z"⟩ : MethodName) ∈ sf_tb := sf_mem (List.mem_of_getElem? (i := 8) (by decide +kernel)) rfl
theorem sf_m9 : Cond.selects "StoveFavours" (⟨"StoveFavours", "spendHour", "(II)I"⟩ : MethodName) (⟨"StoveFavours", "spendHour", "(II)I"⟩ : MethodName) ∈ sf_tb := sf_mem (List.mem_of_getElem? (i := 9) (by decide +kernel)) rfl
theorem sf_m10 : Cond.selects "StoveFavours" (⟨"StoveFavours", "refusalOfHours", "(I)I"⟩ : MethodName) (⟨"StoveFavours", "refusalOfHours", "(I)I"⟩ : MethodName) ∈ sf_tb := sf_mem (List.mem_of_getElem? (i := 10) (by decide +kernel)) rfl
theorem sf_m11 : Cond.selects "StoveFavours" (⟨"StoveFavours", "driftHour", "()V"⟩ : MethodName) (⟨"StoveFavours", "driftHour", "()V"⟩ : MethodName) ∈ sf_tb := sf_mem (List.mem_of_getElem? (i := 11) (by decide +kernel)) rfl
theorem sf_m12 : Cond.selects "StoveFavours" (⟨"StoveFavours", "draw", "(I)I"⟩ : MethodName) (⟨"StoveFavours", "draw", "(I)I"⟩ : MethodName) ∈ sf_tb := sf_mem (List.mem_of_getElem? (i := 12) (by decide +kernel)) rfl
theorem sf_m13 : Cond.selects "StoveFavours" (⟨"StoveFavours", "hoursUndisturbed", "(I)I"⟩ : MethodName) (⟨"StoveFavours", "hoursUndisturbed", "(I)I"⟩ : MethodName) ∈ sf_tb := sf_mem (List.mem_of_getElem? (i := 13) (by decide +kernel)) rfl
theorem sf_m14 : Cond.selects "StoveFavours" (⟨"StoveFavours", "hoursInDraught", "(I)I"⟩ : MethodName) (⟨"StoveFavours", "hoursInDraught", "(I)I"⟩ : MethodName) ∈ sf_tb := sf_mem (List.mem_of_getElem? (i := 14) (by decide +kernel)) rfl
theorem sf_m15 : Cond.selects "StoveFavours$Planner" (⟨"StoveFavours$Planner", "search", "(LStoveFavours$Home;III)V"⟩ : MethodName) (⟨"StoveFavours$Planner", "search", "(LStoveFavours$Home;III)V"⟩ : MethodName) ∈ sf_tb := sf_mem (List.mem_of_getElem? (i := 15) (by decide +kernel)) rfl
theorem sf_m16 : Cond.selects "StoveFavours$Planner" (⟨"StoveFavours$Planner", "takeRow", "(II)V"⟩ : MethodName) (⟨"StoveFavours$Planner", "takeRow", "(II)V"⟩ : MethodName) ∈ sf_tb := sf_mem (List.mem_of_getElem? (i := 16) (by decide +kernel)) rfl
theorem sf_m17 : Cond.selects "StoveFavours$Planner" (⟨"StoveFavours$Planner", "gatherThings", "(LStoveFavours$Home;I)V"⟩ : MethodName) (⟨"StoveFavours$Planner", "gatherThings", "(LStoveFavours$Home;I)V"⟩ : MethodName) ∈ sf_tb := sf_mem (List.mem_of_getElem? (i := 17) (by decide +kernel)) rfl
theorem sf_m18 : Cond.selects "StoveFavours$Planner" (⟨"StoveFavours$Planner", "offer", "(IIII)V"⟩ : MethodName) (⟨"StoveFavours$Planner", "offer", "(IIII)V"⟩ : MethodName) ∈ sf_tb := sf_mem (List.mem_of_getElem? (i := 18) (by decide +kernel)) rfl
theorem sf_m19 : Cond.selects "StoveFavours$Planner" (⟨"StoveFavours$Planner", "madeBehind", "(III)I"⟩ : MethodName) (⟨"StoveFavours$Planner", "madeBehind", "(III)I"⟩ : MethodName) ∈ sf_tb := sf_mem (List.mem_of_getElem? (i := 19) (by decide +kernel)) rfl
theorem sf_m20 : Cond.selects "StoveFavours$Planner" (⟨"StoveFavours$Planner", "goOn", "(LStoveFavours$Home;IIII)V"⟩ : MethodName) (⟨"StoveFavours$Planner", "goOn", "(LStoveFavours$Home;IIII)V"⟩ : MethodName) ∈ sf_tb := sf_mem (List.mem_of_getElem? (i := 20) (by decide +kernel)) rfl
theorem sf_m21 : Cond.selects "StoveFavours$Planner" (⟨"StoveFavours$Planner", "isBetter", "(II)Z"⟩ : MethodName) (⟨"StoveFavours$Planner", "isBetter", "(II)Z"⟩ : MethodName) ∈ sf_tb := sf_mem (List.mem_of_getElem? (i := 21) (by decide +kernel)) rfl
theorem sf_m22 : Cond.selects "StoveFavours$Planner" (⟨"StoveFavours$Planner", "isAllowed", "(ILStoveFavours$Stove;I)Z"⟩ : MethodName) (⟨"StoveFavours$Planner", "isAllowed", "(ILStoveFavours$Stove;I)Z"⟩ : MethodName) ∈ sf_tb := sf_mem (List.mem_of_getElem? (i := 22) (by decide +kernel)) rfl
theorem sf_m23 : Cond.selects "StoveFavours$Contest" (⟨"StoveFavours$Contest", "playedOut", "(LStoveFavours$Home;I)I"⟩ : MethodName) (⟨"StoveFavours$Contest", "playedOut", "(LStoveFavours$Home;I)I"⟩ : MethodName) ∈ sf_tb := sf_mem (List.mem_of_getElem? (i := 23) (by decide +kernel)) rfl
theorem sf_m24 : Cond.selects "StoveFavours$Contest" (⟨"StoveFavours$Contest", "endOf", "(LStoveFavours$Home;II)I"⟩ : MethodName) (⟨"StoveFavours$Contest", "endOf", "(LStoveFavours$Home;II)I"⟩ : MethodName) ∈ sf_tb := sf_mem (List.mem_of_getElem? (i := 24) (by decide +kernel)) rfl
theorem sf_m25 : Cond.selects "StoveFavours$Rounds" (⟨"StoveFavours$Rounds", "standing", "(I)I"⟩ : MethodName) (⟨"StoveFavours$Rounds", "standing", "(I)I"⟩ : MethodName) ∈ sf_tb := sf_mem (List.mem_of_getElem? (i := 25) (by decide +kernel)) rfl
theorem sf_m26 : Cond.selects "StoveFavours$Rounds" (⟨"StoveFavours$Rounds", "goRound", "(ILStoveFavours$Book;)V"⟩ : MethodName) (⟨"StoveFavours$Rounds", "goRound", "(ILStoveFavours$Book;)V"⟩ : MethodName) ∈ sf_tb := sf_mem (List.mem_of_getElem? (i := 26) (by decide +kernel)) rfl
theorem sf_m27 : Cond.selects "StoveFavours$Rounds" (⟨"StoveFavours$Rounds", "roundsSinceLike", "(I)I"⟩ : MethodName) (⟨"StoveFavours$Rounds", "roundsSinceLike", "(I)I"⟩ : MethodName) ∈ sf_tb := sf_mem (List.mem_of_getElem? (i := 27) (by decide +kernel)) rfl
theorem sf_m28 : Cond.selects "StoveFavours$Notes" (⟨"StoveFavours$Notes", "fits", "(III)Z"⟩ : MethodName) (⟨"StoveFavours$Notes", "fits", "(III)Z"⟩ : MethodName) ∈ sf_tb := sf_mem (List.mem_of_getElem? (i := 28) (by decide +kernel)) rfl
theorem sf_m29 : Cond.selects "StoveFavours" (⟨"StoveFavours", "greatestPart", "(II)I"⟩ : MethodName) (⟨"StoveFavours", "greatestPart", "(II)I"⟩ : MethodName) ∈ sf_tb := sf_mem (List.mem_of_getElem? (i := 29) (by decide +kernel)) rfl
theorem sf_m30 : Cond.selects "StoveFavours" (⟨"StoveFavours", "firstUnpaid", "()I"⟩ : MethodName) (⟨"StoveFavours", "firstUnpaid", "()I"⟩ : MethodName) ∈ sf_tb := sf_mem (List.mem_of_getElem? (i := 30) (by decide +kernel)) rfl
theorem sf_m31 : Cond.selects "StoveFavoursModel" (⟨"StoveFavoursModel", "reads", "()Z"⟩ : MethodName) (⟨"StoveFavoursModel", "reads", "()Z"⟩ : MethodName) ∈ sf_tb := sf_mem (List.mem_of_getElem? (i := 31) (by decide +kernel)) rfl
theorem sf_m32 : Cond.selects "StoveFavoursModel" (⟨"StoveFavoursModel", "skips", "()V"⟩ : MethodName) (⟨"StoveFavoursModel", "skips", "()V"⟩ : MethodName) ∈ sf_tb := sf_mem (List.mem_of_getElem? (i := 32) (by decide +kernel)) rfl
theorem sf_m33 : Cond.selects "StoveFavoursModel" (⟨"StoveFavoursModel", "isAt", "(II)Z"⟩ : MethodName) (⟨"StoveFavoursModel", "isAt", "(II)Z"⟩ : MethodName) ∈ sf_tb := sf_mem (List.mem_of_getElem? (i := 33) (by decide +kernel)) rfl
theorem sf_m34 : Cond.selects "StoveFavoursModel" (⟨"StoveFavoursModel", "readsPerson", "()Z"⟩ : MethodName) (⟨"StoveFavoursModel", "readsPerson", "()Z"⟩ : MethodName) ∈ sf_tb := sf_mem (List.mem_of_getElem? (i := 34) (by decide +kernel)) rfl
theorem sf_m35 : Cond.selects "StoveFavoursModel" (⟨"StoveFavoursModel", "fails", "(I)Z"⟩ : MethodName) (⟨"StoveFavoursModel", "fails", "(I)Z"⟩ : MethodName) ∈ sf_tb := sf_mem (List.mem_of_getElem? (i := 35) (by decide +kernel)) rfl
theorem sf_m36 : Cond.selects "StoveFavoursModel" (⟨"StoveFavoursModel", "row", "([IIII)Z"⟩ : MethodName) (⟨"StoveFavoursModel", "row", "([IIII)Z"⟩ : MethodName) ∈ sf_tb := sf_mem (List.mem_of_getElem? (i := 36) (by decide +kernel)) rfl
theorem sf_m37 : Cond.selects "StoveFavoursModel" (⟨"StoveFavoursModel", "number", "(II)Z"⟩ : MethodName) (⟨"StoveFavoursModel", "number", "(II)Z"⟩ : MethodName) ∈ sf_tb := sf_mem (List.mem_of_getElem? (i := 37) (by decide +kernel)) rfl
theorem sf_m38 : Cond.selects "StoveFavoursModel" (⟨"StoveFavoursModel", "sign", "()Z"⟩ : MethodName) (⟨"StoveFavoursModel", "sign", "()Z"⟩ : MethodName) ∈ sf_tb := sf_mem (List.mem_of_getElem? (i := 38) (by decide +kernel)) rfl
theorem sf_m39 : Cond.selects "StoveFavoursModel" (⟨"StoveFavoursModel", "readsDoing", "()Z"⟩ : MethodName) (⟨"StoveFavoursModel", "readsDoing", "()Z"⟩ : MethodName) ∈ sf_tb := sf_mem (List.mem_of_getElem? (i := 39) (by decide +kernel)) rfl
theorem sf_m40 : Cond.selects "StoveFavoursModel" (⟨"StoveFavoursModel", "readsStove", "()Z"⟩ : MethodName) (⟨"StoveFavoursModel", "readsStove", "()Z"⟩ : MethodName) ∈ sf_tb := sf_mem (List.mem_of_getElem? (i := 40) (by decide +kernel)) rfl
theorem sf_m41 : Cond.selects "StoveFavoursModel" (⟨"StoveFavoursModel", "isPerson", "(I)Z"⟩ : MethodName) (⟨"StoveFavoursModel", "isPerson", "(I)Z"⟩ : MethodName) ∈ sf_tb := sf_mem (List.mem_of_getElem? (i := 41) (by decide +kernel)) rfl
theorem sf_m42 : Cond.selects "StoveFavoursModel" (⟨"StoveFavoursModel", "does", "(II)V"⟩ : MethodName) (⟨"StoveFavoursModel", "does", "(II)V"⟩ : MethodName) ∈ sf_tb := sf_mem (List.mem_of_getElem? (i := 42) (by decide +kernel)) rfl
theorem sf_m43 : Cond.selects "StoveFavoursModel" (⟨"StoveFavoursModel", "keepsHour", "()V"⟩ : MethodName) (⟨"StoveFavoursModel", "keepsHour", "()V"⟩ : MethodName) ∈ sf_tb := sf_mem (List.mem_of_getElem? (i := 43) (by decide +kernel)) rfl
theorem sf_m44 : Cond.selects "StoveFavoursModel" (⟨"StoveFavoursModel", "take", "()V"⟩ : MethodName) (⟨"StoveFavoursModel", "take", "()V"⟩ : MethodName) ∈ sf_tb := sf_mem (List.mem_of_getElem? (i := 44) (by decide +kernel)) rfl
theorem sf_m45 : Cond.selects "StoveFavoursModel" (⟨"StoveFavoursModel", "doesIt", "(II)V"⟩ : MethodName) (⟨"StoveFavoursModel", "doesIt", "(II)V"⟩ : MethodName) ∈ sf_tb := sf_mem (List.mem_of_getElem? (i := 45) (by decide +kernel)) rfl
theorem sf_m46 : Cond.selects "StoveFavoursModel" (⟨"StoveFavoursModel", "likes", "(II)I"⟩ : MethodName) (⟨"StoveFavoursModel", "likes", "(II)I"⟩ : MethodName) ∈ sf_tb := sf_mem (List.mem_of_getElem? (i := 46) (by decide +kernel)) rfl
theorem sf_m47 : Cond.selects "StoveFavoursModel" (⟨"StoveFavoursModel", "goesBy", "()V"⟩ : MethodName) (⟨"StoveFavoursModel", "goesBy", "()V"⟩ : MethodName) ∈ sf_tb := sf_mem (List.mem_of_getElem? (i := 47) (by decide +kernel)) rfl
theorem sf_m48 : Cond.selects "StoveFavoursModel" (⟨"StoveFavoursModel", "draws", "(I)I"⟩ : MethodName) (⟨"StoveFavoursModel", "draws", "(I)I"⟩ : MethodName) ∈ sf_tb := sf_mem (List.mem_of_getElem? (i := 48) (by decide +kernel)) rfl
theorem sf_m49 : Cond.selects "StoveFavoursModel" (⟨"StoveFavoursModel", "frozenOne", "()I"⟩ : MethodName) (⟨"StoveFavoursModel", "frozenOne", "()I"⟩ : MethodName) ∈ sf_tb := sf_mem (List.mem_of_getElem? (i := 49) (by decide +kernel)) rfl
theorem sf_m50 : Cond.selects "StoveFavoursModel" (⟨"StoveFavoursModel", "rows", "(II)V"⟩ : MethodName) (⟨"StoveFavoursModel", "rows", "(II)V"⟩ : MethodName) ∈ sf_tb := sf_mem (List.mem_of_getElem? (i := 50) (by decide +kernel)) rfl
theorem sf_m51 : Cond.selects "StoveFavoursModel" (⟨"StoveFavoursModel", "lies", "(I)V"⟩ : MethodName) (⟨"StoveFavoursModel", "lies", "(I)V"⟩ : MethodName) ∈ sf_tb := sf_mem (List.mem_of_getElem? (i := 51) (by decide +kernel)) rfl
theorem sf_m52 : Cond.selects "StoveFavoursModel" (⟨"StoveFavoursModel", "stands", "(I)V"⟩ : MethodName) (⟨"StoveFavoursModel", "stands", "(I)V"⟩ : MethodName) ∈ sf_tb := sf_mem (List.mem_of_getElem? (i := 52) (by decide +kernel)) rfl
theorem sf_m53 : Cond.selects "StoveFavoursModel" (⟨"StoveFavoursModel", "keepsRow", "(II)V"⟩ : MethodName) (⟨"StoveFavoursModel", "keepsRow", "(II)V"⟩ : MethodName) ∈ sf_tb := sf_mem (List.mem_of_getElem? (i := 53) (by decide +kernel)) rfl
theorem sf_m54 : Cond.selects "StoveFavoursModel" (⟨"StoveFavoursModel", "tells", "(II)I"⟩ : MethodName) (⟨"StoveFavoursModel", "tells", "(II)I"⟩ : MethodName) ∈ sf_tb := sf_mem (List.mem_of_getElem? (i := 54) (by decide +kernel)) rfl
theorem sf_m55 : Cond.selects "StoveFavoursModel" (⟨"StoveFavoursModel", "turns", "()V"⟩ : MethodName) (⟨"StoveFavoursModel", "turns", "()V"⟩ : MethodName) ∈ sf_tb := sf_mem (List.mem_of_getElem? (i := 55) (by decide +kernel)) rfl
theorem sf_m56 : Cond.selects "StoveFavoursModel" (⟨"StoveFavoursModel", "ranksAt", "(I)V"⟩ : MethodName) (⟨"StoveFavoursModel", "ranksAt", "(I)V"⟩ : MethodName) ∈ sf_tb := sf_mem (List.mem_of_getElem? (i := 56) (by decide +kernel)) rfl
theorem sf_m57 : Cond.selects "StoveFavoursModel" (⟨"StoveFavoursModel", "areAlike", "(II)Z"⟩ : MethodName) (⟨"StoveFavoursModel", "areAlike", "(II)Z"⟩ : MethodName) ∈ sf_tb := sf_mem (List.mem_of_getElem? (i := 57) (by decide +kernel)) rfl
theorem sf_m58 : Cond.selects "StoveFavoursModel" (⟨"StoveFavoursModel", "hoursOf", "(I)I"⟩ : MethodName) (⟨"StoveFavoursModel", "hoursOf", "(I)I"⟩ : MethodName) ∈ sf_tb := sf_mem (List.mem_of_getElem? (i := 58) (by decide +kernel)) rfl
theorem sf_m59 : Cond.selects "StoveFavoursModel" (⟨"StoveFavoursModel", "lawsOf", "(I)I"⟩ : MethodName) (⟨"StoveFavoursModel", "lawsOf", "(I)I"⟩ : MethodName) ∈ sf_tb := sf_mem (List.mem_of_getElem? (i := 59) (by decide +kernel)) rfl
theorem sf_m61 : Cond.initialized "StoveFavours" ∈ sf_tb := sf_mem (List.mem_of_getElem? (i := 61) (by decide +kernel)) rfl
theorem sf_m62 : Cond.initialized "StoveFavours$Text" ∈ sf_tb := sf_mem (List.mem_of_getElem? (i := 62) (by decide +kernel)) rfl
theorem sf_m63 : Cond.initialized "StoveFavours$Row" ∈ sf_tb := sf_mem (List.mem_of_getElem? (i := 63) (by decide +kernel)) rfl
theorem sf_m64 : Cond.initialized "java/lang/Math" ∈ sf_tb := sf_mem (List.mem_of_getElem? (i := 64) (by decide +kernel)) rfl
theorem sf_m65 : Cond.initialized "StoveFavours$Home" ∈ sf_tb := sf_mem (List.mem_of_getElem? (i := 65) (by decide +kernel)) rfl
theorem sf_m66 : Cond.initialized "StoveFavours$Stove" ∈ sf_tb := sf_mem (List.mem_of_getElem? (i := 66) (by decide +kernel)) rfl
theorem sf_m67 : Cond.initialized "StoveFavours$Past" ∈ sf_tb := sf_mem (List.mem_of_getElem? (i := 67) (by decide +kernel)) rfl
theorem sf_m68 : Cond.initialized "StoveFavours$Shelf" ∈ sf_tb := sf_mem (List.mem_of_getElem? (i := 68) (by decide +kernel)) rfl
theorem sf_m69 : Cond.initialized "StoveFavours$Notes" ∈ sf_tb := sf_mem (List.mem_of_getElem? (i := 69) (by decide +kernel)) rfl
theorem sf_m70 : Cond.initialized "StoveFavours$Book" ∈ sf_tb := sf_mem (List.mem_of_getElem? (i := 70) (by decide +kernel)) rfl
theorem sf_m71 : Cond.initialized "StoveFavours$Planner" ∈ sf_tb := sf_mem (List.mem_of_getElem? (i := 71) (by decide +kernel)) rfl
theorem sf_m72 : Cond.initialized "StoveFavours$Contest" ∈ sf_tb := sf_mem (List.mem_of_getElem? (i := 72) (by decide +kernel)) rfl
theorem sf_m73 : Cond.initialized "StoveFavours$Rounds" ∈ sf_tb := sf_mem (List.mem_of_getElem? (i := 73) (by decide +kernel)) rfl
theorem sf_m74 : Cond.initialized "StoveFavoursModel" ∈ sf_tb := sf_mem (List.mem_of_getElem? (i := 74) (by decide +kernel)) rfl
theorem sf_m75 : Cond.initialized "java/lang/Integer" ∈ sf_tb := sf_mem (List.mem_of_getElem? (i := 75) (by decide +kernel)) rfl
theorem sf_m76 : Cond.classLink "StoveFavoursLaw" 7 "StoveFavours" ∈ sf_tb := sf_mem (List.mem_of_getElem? (i := 76) (by decide +kernel)) rfl
theorem sf_m77 : Cond.instantiable "StoveFavours" 14 ∈ sf_tb := sf_mem (List.mem_of_getElem? (i := 77) (by decide +kernel)) rfl
theorem sf_m78 : Cond.methodLink "StoveFavoursLaw" 9 (⟨"StoveFavours", "<init>", "()V"⟩ : MethodName) ∈ sf_tb := sf_mem (List.mem_of_getElem? (i := 78) (by decide +kernel)) rfl
theorem sf_m79 : Cond.instanceMethod (⟨"StoveFavours", "<init>", "()V"⟩ : MethodName) ∈ sf_tb := sf_mem (List.mem_of_getElem? (i := 79) (by decide +kernel)) rfl
theorem sf_m81 : Cond.methodLink "StoveFavours" 1 (⟨"java/lang/Object", "<init>", "()V"⟩ : MethodName) ∈ sf_tb := sf_mem (List.mem_of_getElem? (i := 81) (by decide +kernel)) rfl
theorem sf_m82 : Cond.instanceMethod (⟨"java/lang/Object", "<init>", "()V"⟩ : MethodName) ∈ sf_tb := sf_mem (List.mem_of_getElem? (i := 82) (by decide +kernel)) rfl
theorem sf_m83 : Cond.code (⟨"java/lang/Object", "<init>", "()V"⟩ : MethodName) object_method_1_code 1 (Option.none : Option FieldType) ∈ sf_tb := sf_mem (List.mem_of_getElem? (i := 83) (by decide +kernel)) rfl
theorem sf_m84 : Cond.classLink "StoveFavours" 7 "StoveFavours$Text" ∈ sf_tb := sf_mem (List.mem_of_getElem? (i := 84) (by decide +kernel)) rfl
theorem sf_m85 : Cond.instantiable "StoveFavours$Text" 8 ∈ sf_tb := sf_mem (List.mem_of_getElem? (i := 85) (by decide +kernel)) rfl
theorem sf_m87 : Cond.instanceMethod (⟨"StoveFavours$Text", "<init>", "()V"⟩ : MethodName) ∈ sf_tb := sf_mem (List.mem_of_getElem? (i := 87) (by decide +kernel)) rfl
theorem sf_m89 : Cond.methodLink "StoveFavours$Text" 3 (⟨"java/lang/Object", "<init>", "()V"⟩ : MethodName) ∈ sf_tb := sf_mem (List.mem_of_getElem? (i := 89) (by decide +kernel)) rfl
theorem sf_m90 : Cond.classLink "StoveFavours$Text" 9 "StoveFavours$Row" ∈ sf_tb := sf_mem (List.mem_of_getElem? (i := 90) (by decide +kernel)) rfl
theorem sf_m91 : Cond.instantiable "StoveFavours$Row" 1 ∈ sf_tb := sf_mem (List.mem_of_getElem? (i := 91) (by decide +kernel)) rfl
theorem sf_m92 : Cond.methodLink "StoveFavours$Text" 11 (⟨"StoveFavours$Row", "<init>", "(I)V"⟩ : MethodName) ∈ sf_tb := sf_mem (List.mem_of_getElem? (i := 92) (by decide +kernel)) rfl
theorem sf_m93 : Cond.instanceMethod (⟨"StoveFavours$Row", "<init>", "(I)V"⟩ : MethodName) ∈ sf_tb := sf_mem (List.mem_of_getElem? (i := 93) (by decide +kernel)) rfl
theorem sf_m95 : Cond.methodLink "StoveFavours$Row" 1 (⟨"java/lang/Object", "<init>", "()V"⟩ : MethodName) ∈ sf_tb := sf_mem (List.mem_of_getElem? (i := 95) (by decide +kernel)) rfl
theorem sf_m96 : Cond.methodLink "StoveFavours$Row" 7 (⟨"java/lang/Math", "max", "(II)I"⟩ : MethodName) ∈ sf_tb := sf_mem (List.mem_of_getElem? (i := 96) (by decide +kernel)) rfl
theorem sf_m97 : Cond.static (⟨"java/lang/Math", "max", "(II)I"⟩ : MethodName) ∈ sf_tb := sf_mem (List.mem_of_getElem? (i := 97) (by decide +kernel)) rfl
theorem sf_m98 : Cond.code (⟨"java/lang/Math", "max", "(II)I"⟩ : MethodName) prog_16_method_65_code 2 (Option.some FieldType.int) ∈ sf_tb := sf_mem (List.mem_of_getElem? (i := 98) (by decide +kernel)) rfl
theorem sf_m99 : Cond.fieldLink "StoveFavours$Row" 13 "StoveFavours$Row" "cells" "[I" ∈ sf_tb := sf_mem (List.mem_of_getElem? (i := 99) (by decide +kernel)) rfl
theorem sf_m103 : Cond.arrayClass FieldType.int ∈ sf_tb := sf_mem (List.mem_of_getElem? (i := 103) (by decide +kernel)) rfl
theorem sf_m104 : Cond.classLink "StoveFavours$Text" 20 "StoveFavours$Home" ∈ sf_tb := sf_mem (List.mem_of_getElem? (i := 104) (by decide +kernel)) rfl
theorem sf_m105 : Cond.instantiable "StoveFavours$Home" 8 ∈ sf_tb := sf_mem (List.mem_of_getElem? (i := 105) (by decide +kernel)) rfl
theorem sf_m106 : Cond.methodLink "StoveFavours$Text" 22 (⟨"StoveFavours$Home", "<init>", "()V"⟩ : MethodName) ∈ sf_tb := sf_mem (List.mem_of_getElem? (i := 106) (by decide +kernel)) rfl
theorem sf_m107 : Cond.instanceMethod (⟨"StoveFavours$Home", "<init>", "()V"⟩ : MethodName) ∈ sf_tb := sf_mem (List.mem_of_getElem? (i := 107) (by decide +kernel)) rfl
theorem sf_m109 : Cond.methodLink "StoveFavours$Home" 3 (⟨"java/lang/Object", "<init>", "()V"⟩ : MethodName) ∈ sf_tb := sf_mem (List.mem_of_getElem? (i := 109) (by decide +kernel)) rfl
theorem sf_m110 : Cond.classLink "StoveFavours$Home" 9 "StoveFavours$Row" ∈ sf_tb := sf_mem (List.mem_of_getElem? (i := 110) (by decide +kernel)) rfl
theorem sf_m111 : Cond.methodLink "StoveFavours$Home" 11 (⟨"StoveFavours$Row", "<init>", "(I)V"⟩ : MethodName) ∈ sf_tb := sf_mem (List.mem_of_getElem? (i := 111) (by decide +kernel)) rfl
theorem sf_m112 : Cond.methodLink "StoveFavours$Home" 29 (⟨"StoveFavours$Home", "makeUntold", "()V"⟩ : MethodName) ∈ sf_tb := sf_mem (List.mem_of_getElem? (i := 112) (by decide +kernel)) rfl
theorem sf_m113 : Cond.instanceMethod (⟨"StoveFavours$Home", "makeUntold", "()V"⟩ : MethodName) ∈ sf_tb := sf_mem (List.mem_of_getElem? (i := 113) (by decide +kernel)) rfl
theorem sf_m114 : Cond.selects "StoveFavours$Home" (⟨"StoveFavours$Home", "makeUntold", "()V"⟩ : MethodName) (⟨"StoveFavours$Home", "makeUntold", "()V"⟩ : MethodName) ∈ sf_tb := sf_mem (List.mem_of_getElem? (i := 114) (by decide +kernel)) rfl
theorem sf_m116 : Cond.methodLink "StoveFavours$Home" 45 (⟨"StoveFavours$Row", "fill", "(I)V"⟩ : MethodName) ∈ sf_tb := sf_mem (List.mem_of_getElem? (i := 116) (by decide +kernel)) rfl
theorem sf_m117 : Cond.instanceMethod (⟨"StoveFavours$Row", "fill", "(I)V"⟩ : MethodName) ∈ sf_tb := sf_mem (List.mem_of_getElem? (i := 117) (by decide +kernel)) rfl
theorem sf_m118 : Cond.selects "StoveFavours$Row" (⟨"StoveFavours$Row", "fill", "(I)V"⟩ : MethodName) (⟨"StoveFavours$Row", "fill", "(I)V"⟩ : MethodName) ∈ sf_tb := sf_mem (List.mem_of_getElem? (i := 118) (by decide +kernel)) rfl
theorem sf_m120 : Cond.fieldLink "StoveFavours$Home" 14 "StoveFavours$Home" "warmth" "LStoveFavours$Row;" ∈ sf_tb := sf_mem (List.mem_of_getElem? (i := 120) (by decide +kernel)) rfl
theorem sf_m121 : Cond.fieldLink "StoveFavours$Stove" 36 "StoveFavours$Home" "warmth" "LStoveFavours$Row;" ∈ sf_tb := sf_mem (List.mem_of_getElem? (i := 121) (by decide +kernel)) rfl
theorem sf_m122 : Cond.fieldLink "StoveFavours$Text" 86 "StoveFavours$Home" "warmth" "LStoveFavours$Row;" ∈ sf_tb := sf_mem (List.mem_of_getElem? (i := 122) (by decide +kernel)) rfl
theorem sf_m123 : Cond.fieldLink "StoveFavours$Home" 20 "StoveFavours$Home" "colder" "LStoveFavours$Row;" ∈ sf_tb := sf_mem (List.mem_of_getElem? (i := 123) (by decide +kernel)) rfl
theorem sf_m124 : Cond.fieldLink "StoveFavours$Text" 89 "StoveFavours$Home" "colder" "LStoveFavours$Row;" ∈ sf_tb := sf_mem (List.mem_of_getElem? (i := 124) (by decide +kernel)) rfl
theorem sf_m125 : Cond.fieldLink "StoveFavours" 167 "StoveFavours$Home" "colder" "LStoveFavours$Row;" ∈ sf_tb := sf_mem (List.mem_of_getElem? (i := 125) (by decide +kernel)) rfl
theorem sf_m126 : Cond.fieldLink "StoveFavours$Stove" 89 "StoveFavours$Home" "colder" "LStoveFavours$Row;" ∈ sf_tb := sf_mem (List.mem_of_getElem? (i := 126) (by decide +kernel)) rfl
theorem sf_m127 : Cond.fieldLink "StoveFavours$Home" 23 "StoveFavours$Home" "costs" "LStoveFavours$Row;" ∈ sf_tb := sf_mem (List.mem_of_getElem? (i := 127) (by decide +kernel)) rfl
theorem sf_m128 : Cond.fieldLink "StoveFavours$Text" 92 "StoveFavours$Home" "costs" "LStoveFavours$Row;" ∈ sf_tb := sf_mem (List.mem_of_getElem? (i := 128) (by decide +kernel)) rfl
theorem sf_m129 : Cond.fieldLink "StoveFavours$Planner" 113 "StoveFavours$Home" "costs" "LStoveFavours$Row;" ∈ sf_tb := sf_mem (List.mem_of_getElem? (i := 129) (by decide +kernel)) rfl
theorem sf_m130 : Cond.fieldLink "StoveFavours$Stove" 70 "StoveFavours$Home" "costs" "LStoveFavours$Row;" ∈ sf_tb := sf_mem (List.mem_of_getElem? (i := 130) (by decide +kernel)) rfl
theorem sf_m131 : Cond.fieldLink "StoveFavours" 176 "StoveFavours$Home" "costs" "LStoveFavours$Row;" ∈ sf_tb := sf_mem (List.mem_of_getElem? (i := 131) (by decide +kernel)) rfl
theorem sf_m132 : Cond.fieldLink "StoveFavours$Home" 26 "StoveFavours$Home" "lawOf" "LStoveFavours$Row;" ∈ sf_tb := sf_mem (List.mem_of_getElem? (i := 132) (by decide +kernel)) rfl
theorem sf_m133 : Cond.fieldLink "StoveFavours$Stove" 46 "StoveFavours$Home" "lawOf" "LStoveFavours$Row;" ∈ sf_tb := sf_mem (List.mem_of_getElem? (i := 133) (by decide +kernel)) rfl
theorem sf_m134 : Cond.fieldLink "StoveFavours$Text" 95 "StoveFavours$Home" "lawOf" "LStoveFavours$Row;" ∈ sf_tb := sf_mem (List.mem_of_getElem? (i := 134) (by decide +kernel)) rfl
theorem sf_m135 : Cond.fieldLink "StoveFavours$Home" 32 "StoveFavours$Home" "people" "I" ∈ sf_tb := sf_mem (List.mem_of_getElem? (i := 135) (by decide +kernel)) rfl
theorem sf_m136 : Cond.fieldLink "StoveFavours$Stove" 47 "StoveFavours$Home" "people" "I" ∈ sf_tb := sf_mem (List.mem_of_getElem? (i := 136) (by decide +kernel)) rfl
theorem sf_m137 : Cond.fieldLink "StoveFavours" 135 "StoveFavours$Home" "people" "I" ∈ sf_tb := sf_mem (List.mem_of_getElem? (i := 137) (by decide +kernel)) rfl
theorem sf_m138 : Cond.fieldLink "StoveFavours$Contest" 53 "StoveFavours$Home" "people" "I" ∈ sf_tb := sf_mem (List.mem_of_getElem? (i := 138) (by decide +kernel)) rfl
theorem sf_m139 : Cond.fieldLink "StoveFavours$Planner" 84 "StoveFavours$Home" "people" "I" ∈ sf_tb := sf_mem (List.mem_of_getElem? (i := 139) (by decide +kernel)) rfl
theorem sf_m140 : Cond.fieldLink "StoveFavours$Text" 76 "StoveFavours$Home" "people" "I" ∈ sf_tb := sf_mem (List.mem_of_getElem? (i := 140) (by decide +kernel)) rfl
theorem sf_m141 : Cond.fieldLink "StoveFavours$Home" 36 "StoveFavours$Home" "liked" "I" ∈ sf_tb := sf_mem (List.mem_of_getElem? (i := 141) (by decide +kernel)) rfl
theorem sf_m142 : Cond.fieldLink "StoveFavours$Stove" 50 "StoveFavours$Home" "liked" "I" ∈ sf_tb := sf_mem (List.mem_of_getElem? (i := 142) (by decide +kernel)) rfl
theorem sf_m143 : Cond.fieldLink "StoveFavours$Text" 98 "StoveFavours$Home" "liked" "I" ∈ sf_tb := sf_mem (List.mem_of_getElem? (i := 143) (by decide +kernel)) rfl
theorem sf_m144 : Cond.fieldLink "StoveFavours$Home" 39 "StoveFavours$Home" "gain" "I" ∈ sf_tb := sf_mem (List.mem_of_getElem? (i := 144) (by decide +kernel)) rfl
theorem sf_m145 : Cond.fieldLink "StoveFavours" 150 "StoveFavours$Home" "gain" "I" ∈ sf_tb := sf_mem (List.mem_of_getElem? (i := 145) (by decide +kernel)) rfl
theorem sf_m146 : Cond.fieldLink "StoveFavours$Text" 101 "StoveFavours$Home" "gain" "I" ∈ sf_tb := sf_mem (List.mem_of_getElem? (i := 146) (by decide +kernel)) rfl
theorem sf_m147 : Cond.fieldLink "StoveFavours$Stove" 80 "StoveFavours$Home" "gain" "I" ∈ sf_tb := sf_mem (List.mem_of_getElem? (i := 147) (by decide +kernel)) rfl
theorem sf_m148 : Cond.fieldLink "StoveFavours$Home" 42 "StoveFavours$Home" "logs" "I" ∈ sf_tb := sf_mem (List.mem_of_getElem? (i := 148) (by decide +kernel)) rfl
theorem sf_m149 : Cond.fieldLink "StoveFavours$Stove" 53 "StoveFavours$Home" "logs" "I" ∈ sf_tb := sf_mem (List.mem_of_getElem? (i := 149) (by decide +kernel)) rfl
theorem sf_m150 : Cond.fieldLink "StoveFavours$Text" 104 "StoveFavours$Home" "logs" "I" ∈ sf_tb := sf_mem (List.mem_of_getElem? (i := 150) (by decide +kernel)) rfl
theorem sf_m168 : Cond.fieldLink "StoveFavours$Text" 14 "StoveFavours$Text" "letters" "LStoveFavours$Row;" ∈ sf_tb := sf_mem (List.mem_of_getElem? (i := 168) (by decide +kernel)) rfl
theorem sf_m169 : Cond.fieldLink "StoveFavours$Text" 23 "StoveFavours$Text" "draft" "LStoveFavours$Home;" ∈ sf_tb := sf_mem (List.mem_of_getElem? (i := 169) (by decide +kernel)) rfl
theorem sf_m170 : Cond.fieldLink "StoveFavours" 119 "StoveFavours$Text" "draft" "LStoveFavours$Home;" ∈ sf_tb := sf_mem (List.mem_of_getElem? (i := 170) (by decide +kernel)) rfl
theorem sf_m171 : Cond.fieldLink "StoveFavours$Text" 27 "StoveFavours$Text" "length" "I" ∈ sf_tb := sf_mem (List.mem_of_getElem? (i := 171) (by decide +kernel)) rfl
theorem sf_m172 : Cond.fieldLink "StoveFavours" 107 "StoveFavours$Text" "length" "I" ∈ sf_tb := sf_mem (List.mem_of_getElem? (i := 172) (by decide +kernel)) rfl
theorem sf_m173 : Cond.fieldLink "StoveFavours$Text" 31 "StoveFavours$Text" "faultPlace" "I" ∈ sf_tb := sf_mem (List.mem_of_getElem? (i := 173) (by decide +kernel)) rfl
theorem sf_m174 : Cond.fieldLink "StoveFavours" 138 "StoveFavours$Text" "faultPlace" "I" ∈ sf_tb := sf_mem (List.mem_of_getElem? (i := 174) (by decide +kernel)) rfl
theorem sf_m175 : Cond.fieldLink "StoveFavours$Text" 34 "StoveFavours$Text" "faultNumber" "I" ∈ sf_tb := sf_mem (List.mem_of_getElem? (i := 175) (by decide +kernel)) rfl
theorem sf_m176 : Cond.fieldLink "StoveFavours$Text" 37 "StoveFavours$Text" "place" "I" ∈ sf_tb := sf_mem (List.mem_of_getElem? (i := 176) (by decide +kernel)) rfl
theorem sf_m177 : Cond.fieldLink "StoveFavours$Text" 40 "StoveFavours$Text" "doingsTold" "I" ∈ sf_tb := sf_mem (List.mem_of_getElem? (i := 177) (by decide +kernel)) rfl
theorem sf_m178 : Cond.fieldLink "StoveFavours$Text" 43 "StoveFavours$Text" "stoveTold" "Z" ∈ sf_tb := sf_mem (List.mem_of_getElem? (i := 178) (by decide +kernel)) rfl
theorem sf_m196 : Cond.classLink "StoveFavours" 16 "StoveFavours$Home" ∈ sf_tb := sf_mem (List.mem_of_getElem? (i := 196) (by decide +kernel)) rfl
theorem sf_m197 : Cond.methodLink "StoveFavours" 18 (⟨"StoveFavours$Home", "<init>", "()V"⟩ : MethodName) ∈ sf_tb := sf_mem (List.mem_of_getElem? (i := 197) (by decide +kernel)) rfl
theorem sf_m198 : Cond.classLink "StoveFavours" 23 "StoveFavours$Stove" ∈ sf_tb := sf_mem (List.mem_of_getElem? (i := 198) (by decide +kernel)) rfl
theorem sf_m199 : Cond.instantiable "StoveFavours$Stove" 6 ∈ sf_tb := sf_mem (List.mem_of_getElem? (i := 199) (by decide +kernel)) rfl
theorem sf_m201 : Cond.instanceMethod (⟨"StoveFavours$Stove", "<init>", "()V"⟩ : MethodName) ∈ sf_tb := sf_mem (List.mem_of_getElem? (i := 201) (by decide +kernel)) rfl
theorem sf_m203 : Cond.methodLink "StoveFavours$Stove" 3 (⟨"java/lang/Object", "<init>", "()V"⟩ : MethodName) ∈ sf_tb := sf_mem (List.mem_of_getElem? (i := 203) (by decide +kernel)) rfl
theorem sf_m204 : Cond.classLink "StoveFavours$Stove" 9 "StoveFavours$Row" ∈ sf_tb := sf_mem (List.mem_of_getElem? (i := 204) (by decide +kernel)) rfl
theorem sf_m205 : Cond.methodLink "StoveFavours$Stove" 11 (⟨"StoveFavours$Row", "<init>", "(I)V"⟩ : MethodName) ∈ sf_tb := sf_mem (List.mem_of_getElem? (i := 205) (by decide +kernel)) rfl
theorem sf_m206 : Cond.fieldLink "StoveFavours$Stove" 14 "StoveFavours$Stove" "warmth" "LStoveFavours$Row;" ∈ sf_tb := sf_mem (List.mem_of_getElem? (i := 206) (by decide +kernel)) rfl
theorem sf_m207 : Cond.fieldLink "StoveFavours$Rounds" 44 "StoveFavours$Stove" "warmth" "LStoveFavours$Row;" ∈ sf_tb := sf_mem (List.mem_of_getElem? (i := 207) (by decide +kernel)) rfl
theorem sf_m208 : Cond.fieldLink "StoveFavours" 161 "StoveFavours$Stove" "warmth" "LStoveFavours$Row;" ∈ sf_tb := sf_mem (List.mem_of_getElem? (i := 208) (by decide +kernel)) rfl
theorem sf_m209 : Cond.fieldLink "StoveFavours$Stove" 20 "StoveFavours$Stove" "since" "LStoveFavours$Row;" ∈ sf_tb := sf_mem (List.mem_of_getElem? (i := 209) (by decide +kernel)) rfl
theorem sf_m210 : Cond.fieldLink "StoveFavours$Rounds" 89 "StoveFavours$Stove" "since" "LStoveFavours$Row;" ∈ sf_tb := sf_mem (List.mem_of_getElem? (i := 210) (by decide +kernel)) rfl
theorem sf_m211 : Cond.fieldLink "StoveFavours" 170 "StoveFavours$Stove" "since" "LStoveFavours$Row;" ∈ sf_tb := sf_mem (List.mem_of_getElem? (i := 211) (by decide +kernel)) rfl
theorem sf_m212 : Cond.fieldLink "StoveFavours$Stove" 23 "StoveFavours$Stove" "lawOf" "LStoveFavours$Row;" ∈ sf_tb := sf_mem (List.mem_of_getElem? (i := 212) (by decide +kernel)) rfl
theorem sf_m213 : Cond.fieldLink "StoveFavours" 179 "StoveFavours$Stove" "lawOf" "LStoveFavours$Row;" ∈ sf_tb := sf_mem (List.mem_of_getElem? (i := 213) (by decide +kernel)) rfl
theorem sf_m214 : Cond.fieldLink "StoveFavours$Stove" 26 "StoveFavours$Stove" "darling" "I" ∈ sf_tb := sf_mem (List.mem_of_getElem? (i := 214) (by decide +kernel)) rfl
theorem sf_m215 : Cond.fieldLink "StoveFavours$Contest" 50 "StoveFavours$Stove" "darling" "I" ∈ sf_tb := sf_mem (List.mem_of_getElem? (i := 215) (by decide +kernel)) rfl
theorem sf_m216 : Cond.fieldLink "StoveFavours$Rounds" 86 "StoveFavours$Stove" "darling" "I" ∈ sf_tb := sf_mem (List.mem_of_getElem? (i := 216) (by decide +kernel)) rfl
theorem sf_m217 : Cond.fieldLink "StoveFavours" 144 "StoveFavours$Stove" "darling" "I" ∈ sf_tb := sf_mem (List.mem_of_getElem? (i := 217) (by decide +kernel)) rfl
theorem sf_m218 : Cond.fieldLink "StoveFavours$Planner" 103 "StoveFavours$Stove" "darling" "I" ∈ sf_tb := sf_mem (List.mem_of_getElem? (i := 218) (by decide +kernel)) rfl
theorem sf_m219 : Cond.fieldLink "StoveFavours$Stove" 30 "StoveFavours$Stove" "logs" "I" ∈ sf_tb := sf_mem (List.mem_of_getElem? (i := 219) (by decide +kernel)) rfl
theorem sf_m220 : Cond.fieldLink "StoveFavours$Planner" 66 "StoveFavours$Stove" "logs" "I" ∈ sf_tb := sf_mem (List.mem_of_getElem? (i := 220) (by decide +kernel)) rfl
theorem sf_m221 : Cond.fieldLink "StoveFavours" 147 "StoveFavours$Stove" "logs" "I" ∈ sf_tb := sf_mem (List.mem_of_getElem? (i := 221) (by decide +kernel)) rfl
theorem sf_m222 : Cond.fieldLink "StoveFavours$Stove" 33 "StoveFavours$Stove" "hour" "I" ∈ sf_tb := sf_mem (List.mem_of_getElem? (i := 222) (by decide +kernel)) rfl
theorem sf_m223 : Cond.fieldLink "StoveFavours" 141 "StoveFavours$Stove" "hour" "I" ∈ sf_tb := sf_mem (List.mem_of_getElem? (i := 223) (by decide +kernel)) rfl
theorem sf_m237 : Cond.classLink "StoveFavours" 33 "StoveFavours$Past" ∈ sf_tb := sf_mem (List.mem_of_getElem? (i := 237) (by decide +kernel)) rfl
theorem sf_m238 : Cond.instantiable "StoveFavours$Past" 3 ∈ sf_tb := sf_mem (List.mem_of_getElem? (i := 238) (by decide +kernel)) rfl
theorem sf_m240 : Cond.instanceMethod (⟨"StoveFavours$Past", "<init>", "()V"⟩ : MethodName) ∈ sf_tb := sf_mem (List.mem_of_getElem? (i := 240) (by decide +kernel)) rfl
theorem sf_m242 : Cond.methodLink "StoveFavours$Past" 3 (⟨"java/lang/Object", "<init>", "()V"⟩ : MethodName) ∈ sf_tb := sf_mem (List.mem_of_getElem? (i := 242) (by decide +kernel)) rfl
theorem sf_m243 : Cond.classLink "StoveFavours$Past" 9 "StoveFavours$Shelf" ∈ sf_tb := sf_mem (List.mem_of_getElem? (i := 243) (by decide +kernel)) rfl
theorem sf_m244 : Cond.instantiable "StoveFavours$Shelf" 2 ∈ sf_tb := sf_mem (List.mem_of_getElem? (i := 244) (by decide +kernel)) rfl
theorem sf_m245 : Cond.methodLink "StoveFavours$Past" 11 (⟨"StoveFavours$Shelf", "<init>", "(I)V"⟩ : MethodName) ∈ sf_tb := sf_mem (List.mem_of_getElem? (i := 245) (by decide +kernel)) rfl
theorem sf_m246 : Cond.instanceMethod (⟨"StoveFavours$Shelf", "<init>", "(I)V"⟩ : MethodName) ∈ sf_tb := sf_mem (List.mem_of_getElem? (i := 246) (by decide +kernel)) rfl
theorem sf_m248 : Cond.methodLink "StoveFavours$Shelf" 1 (⟨"java/lang/Object", "<init>", "()V"⟩ : MethodName) ∈ sf_tb := sf_mem (List.mem_of_getElem? (i := 248) (by decide +kernel)) rfl
theorem sf_m249 : Cond.classLink "StoveFavours$Shelf" 7 "StoveFavours$Stove" ∈ sf_tb := sf_mem (List.mem_of_getElem? (i := 249) (by decide +kernel)) rfl
theorem sf_m251 : Cond.methodLink "StoveFavours$Shelf" 16 (⟨"java/lang/Math", "max", "(II)I"⟩ : MethodName) ∈ sf_tb := sf_mem (List.mem_of_getElem? (i := 251) (by decide +kernel)) rfl
theorem sf_m253 : Cond.fieldLink "StoveFavours$Shelf" 22 "StoveFavours$Shelf" "stoves" "[LStoveFavours$Stove;" ∈ sf_tb := sf_mem (List.mem_of_getElem? (i := 253) (by decide +kernel)) rfl
theorem sf_m254 : Cond.fieldLink "StoveFavours$Shelf" 10 "StoveFavours$Shelf" "spare" "LStoveFavours$Stove;" ∈ sf_tb := sf_mem (List.mem_of_getElem? (i := 254) (by decide +kernel)) rfl
theorem sf_m260 : Cond.fieldLink "StoveFavours$Past" 14 "StoveFavours$Past" "ring" "LStoveFavours$Shelf;" ∈ sf_tb := sf_mem (List.mem_of_getElem? (i := 260) (by decide +kernel)) rfl
theorem sf_m261 : Cond.fieldLink "StoveFavours$Past" 20 "StoveFavours$Past" "next" "I" ∈ sf_tb := sf_mem (List.mem_of_getElem? (i := 261) (by decide +kernel)) rfl
theorem sf_m262 : Cond.fieldLink "StoveFavours$Past" 24 "StoveFavours$Past" "count" "I" ∈ sf_tb := sf_mem (List.mem_of_getElem? (i := 262) (by decide +kernel)) rfl
theorem sf_m263 : Cond.fieldLink "StoveFavours" 125 "StoveFavours$Past" "count" "I" ∈ sf_tb := sf_mem (List.mem_of_getElem? (i := 263) (by decide +kernel)) rfl
theorem sf_m271 : Cond.classLink "StoveFavours" 40 "StoveFavours$Shelf" ∈ sf_tb := sf_mem (List.mem_of_getElem? (i := 271) (by decide +kernel)) rfl
theorem sf_m272 : Cond.methodLink "StoveFavours" 42 (⟨"StoveFavours$Shelf", "<init>", "(I)V"⟩ : MethodName) ∈ sf_tb := sf_mem (List.mem_of_getElem? (i := 272) (by decide +kernel)) rfl
theorem sf_m273 : Cond.classLink "StoveFavours" 49 "StoveFavours$Row" ∈ sf_tb := sf_mem (List.mem_of_getElem? (i := 273) (by decide +kernel)) rfl
theorem sf_m274 : Cond.methodLink "StoveFavours" 51 (⟨"StoveFavours$Row", "<init>", "(I)V"⟩ : MethodName) ∈ sf_tb := sf_mem (List.mem_of_getElem? (i := 274) (by decide +kernel)) rfl
theorem sf_m275 : Cond.classLink "StoveFavours" 59 "StoveFavours$Notes" ∈ sf_tb := sf_mem (List.mem_of_getElem? (i := 275) (by decide +kernel)) rfl
theorem sf_m276 : Cond.instantiable "StoveFavours$Notes" 5 ∈ sf_tb := sf_mem (List.mem_of_getElem? (i := 276) (by decide +kernel)) rfl
theorem sf_m278 : Cond.instanceMethod (⟨"StoveFavours$Notes", "<init>", "()V"⟩ : MethodName) ∈ sf_tb := sf_mem (List.mem_of_getElem? (i := 278) (by decide +kernel)) rfl
theorem sf_m280 : Cond.methodLink "StoveFavours$Notes" 3 (⟨"java/lang/Object", "<init>", "()V"⟩ : MethodName) ∈ sf_tb := sf_mem (List.mem_of_getElem? (i := 280) (by decide +kernel)) rfl
theorem sf_m281 : Cond.classLink "StoveFavours$Notes" 9 "StoveFavours$Row" ∈ sf_tb := sf_mem (List.mem_of_getElem? (i := 281) (by decide +kernel)) rfl
theorem sf_m282 : Cond.methodLink "StoveFavours$Notes" 11 (⟨"StoveFavours$Row", "<init>", "(I)V"⟩ : MethodName) ∈ sf_tb := sf_mem (List.mem_of_getElem? (i := 282) (by decide +kernel)) rfl
theorem sf_m283 : Cond.fieldLink "StoveFavours$Notes" 14 "StoveFavours$Notes" "doings" "LStoveFavours$Row;" ∈ sf_tb := sf_mem (List.mem_of_getElem? (i := 283) (by decide +kernel)) rfl
theorem sf_m284 : Cond.fieldLink "StoveFavours$Notes" 20 "StoveFavours$Notes" "doers" "LStoveFavours$Row;" ∈ sf_tb := sf_mem (List.mem_of_getElem? (i := 284) (by decide +kernel)) rfl
theorem sf_m285 : Cond.fieldLink "StoveFavours$Notes" 23 "StoveFavours$Notes" "were" "LStoveFavours$Row;" ∈ sf_tb := sf_mem (List.mem_of_getElem? (i := 285) (by decide +kernel)) rfl
theorem sf_m286 : Cond.fieldLink "StoveFavours$Notes" 26 "StoveFavours$Notes" "became" "LStoveFavours$Row;" ∈ sf_tb := sf_mem (List.mem_of_getElem? (i := 286) (by decide +kernel)) rfl
theorem sf_m287 : Cond.fieldLink "StoveFavours$Notes" 29 "StoveFavours$Notes" "count" "I" ∈ sf_tb := sf_mem (List.mem_of_getElem? (i := 287) (by decide +kernel)) rfl
theorem sf_m288 : Cond.fieldLink "StoveFavours" 131 "StoveFavours$Notes" "count" "I" ∈ sf_tb := sf_mem (List.mem_of_getElem? (i := 288) (by decide +kernel)) rfl
theorem sf_m300 : Cond.classLink "StoveFavours" 66 "StoveFavours$Book" ∈ sf_tb := sf_mem (List.mem_of_getElem? (i := 300) (by decide +kernel)) rfl
theorem sf_m301 : Cond.instantiable "StoveFavours$Book" 3 ∈ sf_tb := sf_mem (List.mem_of_getElem? (i := 301) (by decide +kernel)) rfl
theorem sf_m303 : Cond.instanceMethod (⟨"StoveFavours$Book", "<init>", "()V"⟩ : MethodName) ∈ sf_tb := sf_mem (List.mem_of_getElem? (i := 303) (by decide +kernel)) rfl
theorem sf_m305 : Cond.methodLink "StoveFavours$Book" 3 (⟨"java/lang/Object", "<init>", "()V"⟩ : MethodName) ∈ sf_tb := sf_mem (List.mem_of_getElem? (i := 305) (by decide +kernel)) rfl
theorem sf_m306 : Cond.classLink "StoveFavours$Book" 9 "StoveFavours$Row" ∈ sf_tb := sf_mem (List.mem_of_getElem? (i := 306) (by decide +kernel)) rfl
theorem sf_m307 : Cond.methodLink "StoveFavours$Book" 11 (⟨"StoveFavours$Row", "<init>", "(I)V"⟩ : MethodName) ∈ sf_tb := sf_mem (List.mem_of_getElem? (i := 307) (by decide +kernel)) rfl
theorem sf_m308 : Cond.fieldLink "StoveFavours$Book" 14 "StoveFavours$Book" "doings" "LStoveFavours$Row;" ∈ sf_tb := sf_mem (List.mem_of_getElem? (i := 308) (by decide +kernel)) rfl
theorem sf_m309 : Cond.fieldLink "StoveFavours$Rounds" 70 "StoveFavours$Book" "doings" "LStoveFavours$Row;" ∈ sf_tb := sf_mem (List.mem_of_getElem? (i := 309) (by decide +kernel)) rfl
theorem sf_m310 : Cond.fieldLink "StoveFavours" 295 "StoveFavours$Book" "doings" "LStoveFavours$Row;" ∈ sf_tb := sf_mem (List.mem_of_getElem? (i := 310) (by decide +kernel)) rfl
theorem sf_m311 : Cond.fieldLink "StoveFavours$Book" 20 "StoveFavours$Book" "doers" "LStoveFavours$Row;" ∈ sf_tb := sf_mem (List.mem_of_getElem? (i := 311) (by decide +kernel)) rfl
theorem sf_m312 : Cond.fieldLink "StoveFavours$Rounds" 76 "StoveFavours$Book" "doers" "LStoveFavours$Row;" ∈ sf_tb := sf_mem (List.mem_of_getElem? (i := 312) (by decide +kernel)) rfl
theorem sf_m313 : Cond.fieldLink "StoveFavours" 298 "StoveFavours$Book" "doers" "LStoveFavours$Row;" ∈ sf_tb := sf_mem (List.mem_of_getElem? (i := 313) (by decide +kernel)) rfl
theorem sf_m314 : Cond.fieldLink "StoveFavours$Book" 23 "StoveFavours$Book" "lines" "I" ∈ sf_tb := sf_mem (List.mem_of_getElem? (i := 314) (by decide +kernel)) rfl
theorem sf_m315 : Cond.fieldLink "StoveFavours$Rounds" 58 "StoveFavours$Book" "lines" "I" ∈ sf_tb := sf_mem (List.mem_of_getElem? (i := 315) (by decide +kernel)) rfl
theorem sf_m316 : Cond.fieldLink "StoveFavours" 132 "StoveFavours$Book" "lines" "I" ∈ sf_tb := sf_mem (List.mem_of_getElem? (i := 316) (by decide +kernel)) rfl
theorem sf_m324 : Cond.classLink "StoveFavours" 73 "StoveFavours$Planner" ∈ sf_tb := sf_mem (List.mem_of_getElem? (i := 324) (by decide +kernel)) rfl
theorem sf_m325 : Cond.instantiable "StoveFavours$Planner" 11 ∈ sf_tb := sf_mem (List.mem_of_getElem? (i := 325) (by decide +kernel)) rfl
theorem sf_m327 : Cond.instanceMethod (⟨"StoveFavours$Planner", "<init>", "()V"⟩ : MethodName) ∈ sf_tb := sf_mem (List.mem_of_getElem? (i := 327) (by decide +kernel)) rfl
theorem sf_m329 : Cond.methodLink "StoveFavours$Planner" 3 (⟨"java/lang/Object", "<init>", "()V"⟩ : MethodName) ∈ sf_tb := sf_mem (List.mem_of_getElem? (i := 329) (by decide +kernel)) rfl
theorem sf_m330 : Cond.classLink "StoveFavours$Planner" 9 "StoveFavours$Shelf" ∈ sf_tb := sf_mem (List.mem_of_getElem? (i := 330) (by decide +kernel)) rfl
theorem sf_m331 : Cond.methodLink "StoveFavours$Planner" 11 (⟨"StoveFavours$Shelf", "<init>", "(I)V"⟩ : MethodName) ∈ sf_tb := sf_mem (List.mem_of_getElem? (i := 331) (by decide +kernel)) rfl
theorem sf_m332 : Cond.classLink "StoveFavours$Planner" 20 "StoveFavours$Row" ∈ sf_tb := sf_mem (List.mem_of_getElem? (i := 332) (by decide +kernel)) rfl
theorem sf_m333 : Cond.methodLink "StoveFavours$Planner" 22 (⟨"StoveFavours$Row", "<init>", "(I)V"⟩ : MethodName) ∈ sf_tb := sf_mem (List.mem_of_getElem? (i := 333) (by decide +kernel)) rfl
theorem sf_m334 : Cond.fieldLink "StoveFavours$Planner" 14 "StoveFavours$Planner" "stoves" "LStoveFavours$Shelf;" ∈ sf_tb := sf_mem (List.mem_of_getElem? (i := 334) (by decide +kernel)) rfl
theorem sf_m335 : Cond.fieldLink "StoveFavours$Planner" 23 "StoveFavours$Planner" "row" "LStoveFavours$Row;" ∈ sf_tb := sf_mem (List.mem_of_getElem? (i := 335) (by decide +kernel)) rfl
theorem sf_m336 : Cond.fieldLink "StoveFavours$Planner" 27 "StoveFavours$Planner" "best" "LStoveFavours$Row;" ∈ sf_tb := sf_mem (List.mem_of_getElem? (i := 336) (by decide +kernel)) rfl
theorem sf_m337 : Cond.fieldLink "StoveFavours$Planner" 30 "StoveFavours$Planner" "things" "LStoveFavours$Row;" ∈ sf_tb := sf_mem (List.mem_of_getElem? (i := 337) (by decide +kernel)) rfl
theorem sf_m338 : Cond.fieldLink "StoveFavours$Planner" 33 "StoveFavours$Planner" "costs" "LStoveFavours$Row;" ∈ sf_tb := sf_mem (List.mem_of_getElem? (i := 338) (by decide +kernel)) rfl
theorem sf_m339 : Cond.fieldLink "StoveFavours$Planner" 36 "StoveFavours$Planner" "hours" "I" ∈ sf_tb := sf_mem (List.mem_of_getElem? (i := 339) (by decide +kernel)) rfl
theorem sf_m340 : Cond.fieldLink "StoveFavours$Planner" 40 "StoveFavours$Planner" "wanted" "I" ∈ sf_tb := sf_mem (List.mem_of_getElem? (i := 340) (by decide +kernel)) rfl
theorem sf_m341 : Cond.fieldLink "StoveFavours$Planner" 43 "StoveFavours$Planner" "purse" "I" ∈ sf_tb := sf_mem (List.mem_of_getElem? (i := 341) (by decide +kernel)) rfl
theorem sf_m342 : Cond.fieldLink "StoveFavours$Planner" 46 "StoveFavours$Planner" "found" "Z" ∈ sf_tb := sf_mem (List.mem_of_getElem? (i := 342) (by decide +kernel)) rfl
theorem sf_m343 : Cond.fieldLink "StoveFavours$Planner" 50 "StoveFavours$Planner" "bestLogs" "I" ∈ sf_tb := sf_mem (List.mem_of_getElem? (i := 343) (by decide +kernel)) rfl
theorem sf_m344 : Cond.fieldLink "StoveFavours$Planner" 53 "StoveFavours$Planner" "bestDoings" "I" ∈ sf_tb := sf_mem (List.mem_of_getElem? (i := 344) (by decide +kernel)) rfl
theorem sf_m368 : Cond.classLink "StoveFavours" 80 "StoveFavours$Contest" ∈ sf_tb := sf_mem (List.mem_of_getElem? (i := 368) (by decide +kernel)) rfl
theorem sf_m369 : Cond.instantiable "StoveFavours$Contest" 6 ∈ sf_tb := sf_mem (List.mem_of_getElem? (i := 369) (by decide +kernel)) rfl
theorem sf_m371 : Cond.instanceMethod (⟨"StoveFavours$Contest", "<init>", "()V"⟩ : MethodName) ∈ sf_tb := sf_mem (List.mem_of_getElem? (i := 371) (by decide +kernel)) rfl
theorem sf_m373 : Cond.methodLink "StoveFavours$Contest" 3 (⟨"java/lang/Object", "<init>", "()V"⟩ : MethodName) ∈ sf_tb := sf_mem (List.mem_of_getElem? (i := 373) (by decide +kernel)) rfl
theorem sf_m374 : Cond.classLink "StoveFavours$Contest" 9 "StoveFavours$Shelf" ∈ sf_tb := sf_mem (List.mem_of_getElem? (i := 374) (by decide +kernel)) rfl
theorem sf_m375 : Cond.methodLink "StoveFavours$Contest" 11 (⟨"StoveFavours$Shelf", "<init>", "(I)V"⟩ : MethodName) ∈ sf_tb := sf_mem (List.mem_of_getElem? (i := 375) (by decide +kernel)) rfl
theorem sf_m376 : Cond.fieldLink "StoveFavours$Contest" 14 "StoveFavours$Contest" "stoves" "LStoveFavours$Shelf;" ∈ sf_tb := sf_mem (List.mem_of_getElem? (i := 376) (by decide +kernel)) rfl
theorem sf_m377 : Cond.fieldLink "StoveFavours$Contest" 20 "StoveFavours$Contest" "first" "I" ∈ sf_tb := sf_mem (List.mem_of_getElem? (i := 377) (by decide +kernel)) rfl
theorem sf_m378 : Cond.fieldLink "StoveFavours$Contest" 24 "StoveFavours$Contest" "other" "I" ∈ sf_tb := sf_mem (List.mem_of_getElem? (i := 378) (by decide +kernel)) rfl
theorem sf_m379 : Cond.fieldLink "StoveFavours$Contest" 27 "StoveFavours$Contest" "hours" "I" ∈ sf_tb := sf_mem (List.mem_of_getElem? (i := 379) (by decide +kernel)) rfl
theorem sf_m380 : Cond.fieldLink "StoveFavours$Contest" 30 "StoveFavours$Contest" "result" "I" ∈ sf_tb := sf_mem (List.mem_of_getElem? (i := 380) (by decide +kernel)) rfl
theorem sf_m381 : Cond.fieldLink "StoveFavours" 224 "StoveFavours$Contest" "result" "I" ∈ sf_tb := sf_mem (List.mem_of_getElem? (i := 381) (by decide +kernel)) rfl
theorem sf_m382 : Cond.fieldLink "StoveFavours$Contest" 33 "StoveFavours$Contest" "firstThing" "I" ∈ sf_tb := sf_mem (List.mem_of_getElem? (i := 382) (by decide +kernel)) rfl
theorem sf_m383 : Cond.fieldLink "StoveFavours" 227 "StoveFavours$Contest" "firstThing" "I" ∈ sf_tb := sf_mem (List.mem_of_getElem? (i := 383) (by decide +kernel)) rfl
theorem sf_m397 : Cond.classLink "StoveFavours" 87 "StoveFavours$Rounds" ∈ sf_tb := sf_mem (List.mem_of_getElem? (i := 397) (by decide +kernel)) rfl
theorem sf_m398 : Cond.instantiable "StoveFavours$Rounds" 6 ∈ sf_tb := sf_mem (List.mem_of_getElem? (i := 398) (by decide +kernel)) rfl
theorem sf_m400 : Cond.instanceMethod (⟨"StoveFavours$Rounds", "<init>", "()V"⟩ : MethodName) ∈ sf_tb := sf_mem (List.mem_of_getElem? (i := 400) (by decide +kernel)) rfl
theorem sf_m402 : Cond.methodLink "StoveFavours$Rounds" 3 (⟨"java/lang/Object", "<init>", "()V"⟩ : MethodName) ∈ sf_tb := sf_mem (List.mem_of_getElem? (i := 402) (by decide +kernel)) rfl
theorem sf_m403 : Cond.classLink "StoveFavours$Rounds" 9 "StoveFavours$Stove" ∈ sf_tb := sf_mem (List.mem_of_getElem? (i := 403) (by decide +kernel)) rfl
theorem sf_m405 : Cond.classLink "StoveFavours$Rounds" 18 "StoveFavours$Row" ∈ sf_tb := sf_mem (List.mem_of_getElem? (i := 405) (by decide +kernel)) rfl
theorem sf_m406 : Cond.methodLink "StoveFavours$Rounds" 20 (⟨"StoveFavours$Row", "<init>", "(I)V"⟩ : MethodName) ∈ sf_tb := sf_mem (List.mem_of_getElem? (i := 406) (by decide +kernel)) rfl
theorem sf_m407 : Cond.fieldLink "StoveFavours$Rounds" 12 "StoveFavours$Rounds" "stove" "LStoveFavours$Stove;" ∈ sf_tb := sf_mem (List.mem_of_getElem? (i := 407) (by decide +kernel)) rfl
theorem sf_m408 : Cond.fieldLink "StoveFavours$Rounds" 23 "StoveFavours$Rounds" "standings" "LStoveFavours$Row;" ∈ sf_tb := sf_mem (List.mem_of_getElem? (i := 408) (by decide +kernel)) rfl
theorem sf_m409 : Cond.fieldLink "StoveFavours$Rounds" 27 "StoveFavours$Rounds" "darlings" "LStoveFavours$Row;" ∈ sf_tb := sf_mem (List.mem_of_getElem? (i := 409) (by decide +kernel)) rfl
theorem sf_m410 : Cond.fieldLink "StoveFavours$Rounds" 30 "StoveFavours$Rounds" "hours" "I" ∈ sf_tb := sf_mem (List.mem_of_getElem? (i := 410) (by decide +kernel)) rfl
theorem sf_m411 : Cond.fieldLink "StoveFavours$Rounds" 34 "StoveFavours$Rounds" "lapHours" "I" ∈ sf_tb := sf_mem (List.mem_of_getElem? (i := 411) (by decide +kernel)) rfl
theorem sf_m412 : Cond.fieldLink "StoveFavours$Rounds" 37 "StoveFavours$Rounds" "lap" "I" ∈ sf_tb := sf_mem (List.mem_of_getElem? (i := 412) (by decide +kernel)) rfl
theorem sf_m413 : Cond.fieldLink "StoveFavours" 234 "StoveFavours$Rounds" "lap" "I" ∈ sf_tb := sf_mem (List.mem_of_getElem? (i := 413) (by decide +kernel)) rfl
theorem sf_m427 : Cond.methodLink "StoveFavours" 98 (⟨"StoveFavours$Stove", "moveInto", "(LStoveFavours$Home;)V"⟩ : MethodName) ∈ sf_tb := sf_mem (List.mem_of_getElem? (i := 427) (by decide +kernel)) rfl
theorem sf_m428 : Cond.instanceMethod (⟨"StoveFavours$Stove", "moveInto", "(LStoveFavours$Home;)V"⟩ : MethodName) ∈ sf_tb := sf_mem (List.mem_of_getElem? (i := 428) (by decide +kernel)) rfl
theorem sf_m429 : Cond.selects "StoveFavours$Stove" (⟨"StoveFavours$Stove", "moveInto", "(LStoveFavours$Home;)V"⟩ : MethodName) (⟨"StoveFavours$Stove", "moveInto", "(LStoveFavours$Home;)V"⟩ : MethodName) ∈ sf_tb := sf_mem (List.mem_of_getElem? (i := 429) (by decide +kernel)) rfl
theorem sf_m431 : Cond.methodLink "StoveFavours$Stove" 39 (⟨"StoveFavours$Row", "copyFrom", "(LStoveFavours$Row;)V"⟩ : MethodName) ∈ sf_tb := sf_mem (List.mem_of_getElem? (i := 431) (by decide +kernel)) rfl
theorem sf_m432 : Cond.instanceMethod (⟨"StoveFavours$Row", "copyFrom", "(LStoveFavours$Row;)V"⟩ : MethodName) ∈ sf_tb := sf_mem (List.mem_of_getElem? (i := 432) (by decide +kernel)) rfl
theorem sf_m433 : Cond.selects "StoveFavours$Row" (⟨"StoveFavours$Row", "copyFrom", "(LStoveFavours$Row;)V"⟩ : MethodName) (⟨"StoveFavours$Row", "copyFrom", "(LStoveFavours$Row;)V"⟩ : MethodName) ∈ sf_tb := sf_mem (List.mem_of_getElem? (i := 433) (by decide +kernel)) rfl
theorem sf_m435 : Cond.methodLink "StoveFavours$Stove" 43 (⟨"StoveFavours$Row", "fill", "(I)V"⟩ : MethodName) ∈ sf_tb := sf_mem (List.mem_of_getElem? (i := 435) (by decide +kernel)) rfl
theorem sf_m436 : Cond.fieldLink "StoveFavours" 10 "StoveFavours" "text" "LStoveFavours$Text;" ∈ sf_tb := sf_mem (List.mem_of_getElem? (i := 436) (by decide +kernel)) rfl
theorem sf_m437 : Cond.fieldLink "StoveFavours" 19 "StoveFavours" "home" "LStoveFavours$Home;" ∈ sf_tb := sf_mem (List.mem_of_getElem? (i := 437) (by decide +kernel)) rfl
theorem sf_m438 : Cond.fieldLink "StoveFavours" 26 "StoveFavours" "now" "LStoveFavours$Stove;" ∈ sf_tb := sf_mem (List.mem_of_getElem? (i := 438) (by decide +kernel)) rfl
theorem sf_m439 : Cond.fieldLink "StoveFavours" 30 "StoveFavours" "trial" "LStoveFavours$Stove;" ∈ sf_tb := sf_mem (List.mem_of_getElem? (i := 439) (by decide +kernel)) rfl
theorem sf_m440 : Cond.fieldLink "StoveFavours" 36 "StoveFavours" "past" "LStoveFavours$Past;" ∈ sf_tb := sf_mem (List.mem_of_getElem? (i := 440) (by decide +kernel)) rfl
theorem sf_m441 : Cond.fieldLink "StoveFavours" 45 "StoveFavours" "imageStoves" "LStoveFavours$Shelf;" ∈ sf_tb := sf_mem (List.mem_of_getElem? (i := 441) (by decide +kernel)) rfl
theorem sf_m442 : Cond.fieldLink "StoveFavours" 52 "StoveFavours" "imageSeeds" "LStoveFavours$Row;" ∈ sf_tb := sf_mem (List.mem_of_getElem? (i := 442) (by decide +kernel)) rfl
theorem sf_m443 : Cond.fieldLink "StoveFavours" 56 "StoveFavours" "imagesTaken" "LStoveFavours$Row;" ∈ sf_tb := sf_mem (List.mem_of_getElem? (i := 443) (by decide +kernel)) rfl
theorem sf_m444 : Cond.fieldLink "StoveFavours" 62 "StoveFavours" "notes" "LStoveFavours$Notes;" ∈ sf_tb := sf_mem (List.mem_of_getElem? (i := 444) (by decide +kernel)) rfl
theorem sf_m445 : Cond.fieldLink "StoveFavours" 69 "StoveFavours" "book" "LStoveFavours$Book;" ∈ sf_tb := sf_mem (List.mem_of_getElem? (i := 445) (by decide +kernel)) rfl
theorem sf_m446 : Cond.fieldLink "StoveFavours" 76 "StoveFavours" "planner" "LStoveFavours$Planner;" ∈ sf_tb := sf_mem (List.mem_of_getElem? (i := 446) (by decide +kernel)) rfl
theorem sf_m447 : Cond.fieldLink "StoveFavours" 83 "StoveFavours" "contest" "LStoveFavours$Contest;" ∈ sf_tb := sf_mem (List.mem_of_getElem? (i := 447) (by decide +kernel)) rfl
theorem sf_m448 : Cond.fieldLink "StoveFavours" 90 "StoveFavours" "rounds" "LStoveFavours$Rounds;" ∈ sf_tb := sf_mem (List.mem_of_getElem? (i := 448) (by decide +kernel)) rfl
theorem sf_m449 : Cond.fieldLink "StoveFavours" 94 "StoveFavours" "seedNow" "I" ∈ sf_tb := sf_mem (List.mem_of_getElem? (i := 449) (by decide +kernel)) rfl
theorem sf_m479 : Cond.methodLink "StoveFavoursLaw" 13 (⟨"StoveFavours", "feed", "(I)I"⟩ : MethodName) ∈ sf_tb := sf_mem (List.mem_of_getElem? (i := 479) (by decide +kernel)) rfl
theorem sf_m480 : Cond.instanceMethod (⟨"StoveFavours", "feed", "(I)I"⟩ : MethodName) ∈ sf_tb := sf_mem (List.mem_of_getElem? (i := 480) (by decide +kernel)) rfl
theorem sf_m481 : Cond.selects "StoveFavours" (⟨"StoveFavours", "feed", "(I)I"⟩ : MethodName) (⟨"StoveFavours", "feed", "(I)I"⟩ : MethodName) ∈ sf_tb := sf_mem (List.mem_of_getElem? (i := 481) (by decide +kernel)) rfl
theorem sf_m483 : Cond.methodLink "StoveFavours" 102 (⟨"StoveFavours", "within", "(III)Z"⟩ : MethodName) ∈ sf_tb := sf_mem (List.mem_of_getElem? (i := 483) (by decide +kernel)) rfl
theorem sf_m484 : Cond.static (⟨"StoveFavours", "within", "(III)Z"⟩ : MethodName) ∈ sf_tb := sf_mem (List.mem_of_getElem? (i := 484) (by decide +kernel)) rfl
theorem sf_m486 : Cond.constant "StoveFavours" 106 (-1000000002 : Int32) ∈ sf_tb := sf_mem (List.mem_of_getElem? (i := 486) (by decide +kernel)) rfl
theorem sf_m487 : Cond.constant "StoveFavours" 110 (-1000000004 : Int32) ∈ sf_tb := sf_mem (List.mem_of_getElem? (i := 487) (by decide +kernel)) rfl
theorem sf_m488 : Cond.methodLink "StoveFavours" 111 (⟨"StoveFavours$Text", "append", "(I)I"⟩ : MethodName) ∈ sf_tb := sf_mem (List.mem_of_getElem? (i := 488) (by decide +kernel)) rfl
theorem sf_m489 : Cond.instanceMethod (⟨"StoveFavours$Text", "append", "(I)I"⟩ : MethodName) ∈ sf_tb := sf_mem (List.mem_of_getElem? (i := 489) (by decide +kernel)) rfl
theorem sf_m490 : Cond.selects "StoveFavours$Text" (⟨"StoveFavours$Text", "append", "(I)I"⟩ : MethodName) (⟨"StoveFavours$Text", "append", "(I)I"⟩ : MethodName) ∈ sf_tb := sf_mem (List.mem_of_getElem? (i := 490) (by decide +kernel)) rfl
theorem sf_m492 : Cond.methodLink "StoveFavours$Text" 47 (⟨"StoveFavours$Row", "put", "(II)V"⟩ : MethodName) ∈ sf_tb := sf_mem (List.mem_of_getElem? (i := 492) (by decide +kernel)) rfl
theorem sf_m493 : Cond.instanceMethod (⟨"StoveFavours$Row", "put", "(II)V"⟩ : MethodName) ∈ sf_tb := sf_mem (List.mem_of_getElem? (i := 493) (by decide +kernel)) rfl
theorem sf_m494 : Cond.selects "StoveFavours$Row" (⟨"StoveFavours$Row", "put", "(II)V"⟩ : MethodName) (⟨"StoveFavours$Row", "put", "(II)V"⟩ : MethodName) ∈ sf_tb := sf_mem (List.mem_of_getElem? (i := 494) (by decide +kernel)) rfl
theorem sf_m496 : Cond.methodLink "StoveFavoursLaw" 18 (⟨"StoveFavours", "house", "()I"⟩ : MethodName) ∈ sf_tb := sf_mem (List.mem_of_getElem? (i := 496) (by decide +kernel)) rfl
theorem sf_m497 : Cond.instanceMethod (⟨"StoveFavours", "house", "()I"⟩ : MethodName) ∈ sf_tb := sf_mem (List.mem_of_getElem? (i := 497) (by decide +kernel)) rfl
theorem sf_m498 : Cond.selects "StoveFavours" (⟨"StoveFavours", "house", "()I"⟩ : MethodName) (⟨"StoveFavours", "house", "()I"⟩ : MethodName) ∈ sf_tb := sf_mem (List.mem_of_getElem? (i := 498) (by decide +kernel)) rfl
theorem sf_m500 : Cond.methodLink "StoveFavours" 115 (⟨"StoveFavours$Text", "read", "()I"⟩ : MethodName) ∈ sf_tb := sf_mem (List.mem_of_getElem? (i := 500) (by decide +kernel)) rfl
theorem sf_m501 : Cond.instanceMethod (⟨"StoveFavours$Text", "read", "()I"⟩ : MethodName) ∈ sf_tb := sf_mem (List.mem_of_getElem? (i := 501) (by decide +kernel)) rfl
theorem sf_m502 : Cond.selects "StoveFavours$Text" (⟨"StoveFavours$Text", "read", "()I"⟩ : MethodName) (⟨"StoveFavours$Text", "read", "()I"⟩ : MethodName) ∈ sf_tb := sf_mem (List.mem_of_getElem? (i := 502) (by decide +kernel)) rfl
theorem sf_m504 : Cond.methodLink "StoveFavours$Text" 51 (⟨"StoveFavours$Home", "makeUntold", "()V"⟩ : MethodName) ∈ sf_tb := sf_mem (List.mem_of_getElem? (i := 504) (by decide +kernel)) rfl
theorem sf_m505 : Cond.methodLink "StoveFavours$Text" 54 (⟨"StoveFavours$Text", "skipBlanks", "()V"⟩ : MethodName) ∈ sf_tb := sf_mem (List.mem_of_getElem? (i := 505) (by decide +kernel)) rfl
theorem sf_m507 : Cond.instanceMethod (⟨"StoveFavours$Text", "skipBlanks", "()V"⟩ : MethodName) ∈ sf_tb := sf_mem (List.mem_of_getElem? (i := 507) (by decide +kernel)) rfl
theorem sf_m509 : Cond.methodLink "StoveFavours$Text" 60 (⟨"StoveFavours$Row", "at", "(I)I"⟩ : MethodName) ∈ sf_tb := sf_mem (List.mem_of_getElem? (i := 509) (by decide +kernel)) rfl
theorem sf_m510 : Cond.instanceMethod (⟨"StoveFavours$Row", "at", "(I)I"⟩ : MethodName) ∈ sf_tb := sf_mem (List.mem_of_getElem? (i := 510) (by decide +kernel)) rfl
theorem sf_m511 : Cond.selects "StoveFavours$Row" (⟨"StoveFavours$Row", "at", "(I)I"⟩ : MethodName) (⟨"StoveFavours$Row", "at", "(I)I"⟩ : MethodName) ∈ sf_tb := sf_mem (List.mem_of_getElem? (i := 511) (by decide +kernel)) rfl
theorem sf_m513 : Cond.methodLink "StoveFavours$Text" 57 (⟨"StoveFavours$Text", "readClause", "()V"⟩ : MethodName) ∈ sf_tb := sf_mem (List.mem_of_getElem? (i := 513) (by decide +kernel)) rfl
theorem sf_m515 : Cond.instanceMethod (⟨"StoveFavours$Text", "readClause", "()V"⟩ : MethodName) ∈ sf_tb := sf_mem (List.mem_of_getElem? (i := 515) (by decide +kernel)) rfl
theorem sf_m517 : Cond.methodLink "StoveFavours$Text" 64 (⟨"StoveFavours$Text", "readPerson", "()V"⟩ : MethodName) ∈ sf_tb := sf_mem (List.mem_of_getElem? (i := 517) (by decide +kernel)) rfl
theorem sf_m519 : Cond.instanceMethod (⟨"StoveFavours$Text", "readPerson", "()V"⟩ : MethodName) ∈ sf_tb := sf_mem (List.mem_of_getElem? (i := 519) (by decide +kernel)) rfl
theorem sf_m521 : Cond.methodLink "StoveFavours$Text" 73 (⟨"StoveFavours$Text", "blame", "(II)V"⟩ : MethodName) ∈ sf_tb := sf_mem (List.mem_of_getElem? (i := 521) (by decide +kernel)) rfl
theorem sf_m523 : Cond.instanceMethod (⟨"StoveFavours$Text", "blame", "(II)V"⟩ : MethodName) ∈ sf_tb := sf_mem (List.mem_of_getElem? (i := 523) (by decide +kernel)) rfl
theorem sf_m525 : Cond.methodLink "StoveFavours$Text" 79 (⟨"StoveFavours$Text", "readNumber", "(II)I"⟩ : MethodName) ∈ sf_tb := sf_mem (List.mem_of_getElem? (i := 525) (by decide +kernel)) rfl
theorem sf_m527 : Cond.instanceMethod (⟨"StoveFavours$Text", "readNumber", "(II)I"⟩ : MethodName) ∈ sf_tb := sf_mem (List.mem_of_getElem? (i := 527) (by decide +kernel)) rfl
theorem sf_m529 : Cond.methodLink "StoveFavours$Text" 107 (⟨"StoveFavours$Text", "isFigure", "(I)Z"⟩ : MethodName) ∈ sf_tb := sf_mem (List.mem_of_getElem? (i := 529) (by decide +kernel)) rfl
theorem sf_m530 : Cond.static (⟨"StoveFavours$Text", "isFigure", "(I)Z"⟩ : MethodName) ∈ sf_tb := sf_mem (List.mem_of_getElem? (i := 530) (by decide +kernel)) rfl
theorem sf_m532 : Cond.methodLink "StoveFavours$Text" 83 (⟨"StoveFavours$Text", "readEnd", "()V"⟩ : MethodName) ∈ sf_tb := sf_mem (List.mem_of_getElem? (i := 532) (by decide +kernel)) rfl
theorem sf_m534 : Cond.instanceMethod (⟨"StoveFavours$Text", "readEnd", "()V"⟩ : MethodName) ∈ sf_tb := sf_mem (List.mem_of_getElem? (i := 534) (by decide +kernel)) rfl
theorem sf_m536 : Cond.methodLink "StoveFavours$Text" 67 (⟨"StoveFavours$Text", "readDoing", "()V"⟩ : MethodName) ∈ sf_tb := sf_mem (List.mem_of_getElem? (i := 536) (by decide +kernel)) rfl
theorem sf_m538 : Cond.instanceMethod (⟨"StoveFavours$Text", "readDoing", "()V"⟩ : MethodName) ∈ sf_tb := sf_mem (List.mem_of_getElem? (i := 538) (by decide +kernel)) rfl
theorem sf_m540 : Cond.methodLink "StoveFavours$Text" 70 (⟨"StoveFavours$Text", "readStove", "()V"⟩ : MethodName) ∈ sf_tb := sf_mem (List.mem_of_getElem? (i := 540) (by decide +kernel)) rfl
theorem sf_m542 : Cond.instanceMethod (⟨"StoveFavours$Text", "readStove", "()V"⟩ : MethodName) ∈ sf_tb := sf_mem (List.mem_of_getElem? (i := 542) (by decide +kernel)) rfl
theorem sf_m544 : Cond.methodLink "StoveFavours" 122 (⟨"StoveFavours$Home", "copyFrom", "(LStoveFavours$Home;)V"⟩ : MethodName) ∈ sf_tb := sf_mem (List.mem_of_getElem? (i := 544) (by decide +kernel)) rfl
theorem sf_m545 : Cond.instanceMethod (⟨"StoveFavours$Home", "copyFrom", "(LStoveFavours$Home;)V"⟩ : MethodName) ∈ sf_tb := sf_mem (List.mem_of_getElem? (i := 545) (by decide +kernel)) rfl
theorem sf_m546 : Cond.selects "StoveFavours$Home" (⟨"StoveFavours$Home", "copyFrom", "(LStoveFavours$Home;)V"⟩ : MethodName) (⟨"StoveFavours$Home", "copyFrom", "(LStoveFavours$Home;)V"⟩ : MethodName) ∈ sf_tb := sf_mem (List.mem_of_getElem? (i := 546) (by decide +kernel)) rfl
theorem sf_m548 : Cond.methodLink "StoveFavours$Home" 48 (⟨"StoveFavours$Row", "copyFrom", "(LStoveFavours$Row;)V"⟩ : MethodName) ∈ sf_tb := sf_mem (List.mem_of_getElem? (i := 548) (by decide +kernel)) rfl
theorem sf_m549 : Cond.methodLink "StoveFavours" 128 (⟨"StoveFavours$Row", "fill", "(I)V"⟩ : MethodName) ∈ sf_tb := sf_mem (List.mem_of_getElem? (i := 549) (by decide +kernel)) rfl
theorem sf_m550 : Cond.methodLink "StoveFavoursLaw" 23 (⟨"StoveFavours", "fault", "()I"⟩ : MethodName) ∈ sf_tb := sf_mem (List.mem_of_getElem? (i := 550) (by decide +kernel)) rfl
theorem sf_m551 : Cond.instanceMethod (⟨"StoveFavours", "fault", "()I"⟩ : MethodName) ∈ sf_tb := sf_mem (List.mem_of_getElem? (i := 551) (by decide +kernel)) rfl
theorem sf_m552 : Cond.selects "StoveFavours" (⟨"StoveFavours", "fault", "()I"⟩ : MethodName) (⟨"StoveFavours", "fault", "()I"⟩ : MethodName) ∈ sf_tb := sf_mem (List.mem_of_getElem? (i := 552) (by decide +kernel)) rfl
theorem sf_m554 : Cond.methodLink "StoveFavoursLaw" 27 (⟨"StoveFavours", "told", "(I)I"⟩ : MethodName) ∈ sf_tb := sf_mem (List.mem_of_getElem? (i := 554) (by decide +kernel)) rfl
theorem sf_m555 : Cond.instanceMethod (⟨"StoveFavours", "told", "(I)I"⟩ : MethodName) ∈ sf_tb := sf_mem (List.mem_of_getElem? (i := 555) (by decide +kernel)) rfl
theorem sf_m556 : Cond.selects "StoveFavours" (⟨"StoveFavours", "told", "(I)I"⟩ : MethodName) (⟨"StoveFavours", "told", "(I)I"⟩ : MethodName) ∈ sf_tb := sf_mem (List.mem_of_getElem? (i := 556) (by decide +kernel)) rfl
theorem sf_m558 : Cond.methodLink "StoveFavours" 153 (⟨"StoveFavours$Stove", "frozen", "(I)I"⟩ : MethodName) ∈ sf_tb := sf_mem (List.mem_of_getElem? (i := 558) (by decide +kernel)) rfl
theorem sf_m559 : Cond.instanceMethod (⟨"StoveFavours$Stove", "frozen", "(I)I"⟩ : MethodName) ∈ sf_tb := sf_mem (List.mem_of_getElem? (i := 559) (by decide +kernel)) rfl
theorem sf_m560 : Cond.selects "StoveFavours$Stove" (⟨"StoveFavours$Stove", "frozen", "(I)I"⟩ : MethodName) (⟨"StoveFavours$Stove", "frozen", "(I)I"⟩ : MethodName) ∈ sf_tb := sf_mem (List.mem_of_getElem? (i := 560) (by decide +kernel)) rfl
theorem sf_m562 : Cond.methodLink "StoveFavours$Stove" 54 (⟨"StoveFavours$Row", "at", "(I)I"⟩ : MethodName) ∈ sf_tb := sf_mem (List.mem_of_getElem? (i := 562) (by decide +kernel)) rfl
theorem sf_m563 : Cond.methodLink "StoveFavoursLaw" 31 (⟨"StoveFavours", "person", "(II)I"⟩ : MethodName) ∈ sf_tb := sf_mem (List.mem_of_getElem? (i := 563) (by decide +kernel)) rfl
theorem sf_m564 : Cond.instanceMethod (⟨"StoveFavours", "person", "(II)I"⟩ : MethodName) ∈ sf_tb := sf_mem (List.mem_of_getElem? (i := 564) (by decide +kernel)) rfl
theorem sf_m565 : Cond.selects "StoveFavours" (⟨"StoveFavours", "person", "(II)I"⟩ : MethodName) (⟨"StoveFavours", "person", "(II)I"⟩ : MethodName) ∈ sf_tb := sf_mem (List.mem_of_getElem? (i := 565) (by decide +kernel)) rfl
theorem sf_m567 : Cond.methodLink "StoveFavours" 156 (⟨"StoveFavours", "isPerson", "(I)Z"⟩ : MethodName) ∈ sf_tb := sf_mem (List.mem_of_getElem? (i := 567) (by decide +kernel)) rfl
theorem sf_m569 : Cond.instanceMethod (⟨"StoveFavours", "isPerson", "(I)Z"⟩ : MethodName) ∈ sf_tb := sf_mem (List.mem_of_getElem? (i := 569) (by decide +kernel)) rfl
theorem sf_m571 : Cond.constant "StoveFavours" 160 (-1000000001 : Int32) ∈ sf_tb := sf_mem (List.mem_of_getElem? (i := 571) (by decide +kernel)) rfl
theorem sf_m572 : Cond.methodLink "StoveFavours" 164 (⟨"StoveFavours$Row", "at", "(I)I"⟩ : MethodName) ∈ sf_tb := sf_mem (List.mem_of_getElem? (i := 572) (by decide +kernel)) rfl
theorem sf_m573 : Cond.methodLink "StoveFavoursLaw" 36 (⟨"StoveFavours", "doing", "(II)I"⟩ : MethodName) ∈ sf_tb := sf_mem (List.mem_of_getElem? (i := 573) (by decide +kernel)) rfl
theorem sf_m574 : Cond.instanceMethod (⟨"StoveFavours", "doing", "(II)I"⟩ : MethodName) ∈ sf_tb := sf_mem (List.mem_of_getElem? (i := 574) (by decide +kernel)) rfl
theorem sf_m575 : Cond.selects "StoveFavours" (⟨"StoveFavours", "doing", "(II)I"⟩ : MethodName) (⟨"StoveFavours", "doing", "(II)I"⟩ : MethodName) ∈ sf_tb := sf_mem (List.mem_of_getElem? (i := 575) (by decide +kernel)) rfl
theorem sf_m577 : Cond.methodLink "StoveFavours" 173 (⟨"StoveFavours", "isDoing", "(I)Z"⟩ : MethodName) ∈ sf_tb := sf_mem (List.mem_of_getElem? (i := 577) (by decide +kernel)) rfl
theorem sf_m578 : Cond.static (⟨"StoveFavours", "isDoing", "(I)Z"⟩ : MethodName) ∈ sf_tb := sf_mem (List.mem_of_getElem? (i := 578) (by decide +kernel)) rfl
theorem sf_m580 : Cond.methodLink "StoveFavoursLaw" 40 (⟨"StoveFavours", "act", "(II)I"⟩ : MethodName) ∈ sf_tb := sf_mem (List.mem_of_getElem? (i := 580) (by decide +kernel)) rfl
theorem sf_m581 : Cond.instanceMethod (⟨"StoveFavours", "act", "(II)I"⟩ : MethodName) ∈ sf_tb := sf_mem (List.mem_of_getElem? (i := 581) (by decide +kernel)) rfl
theorem sf_m582 : Cond.selects "StoveFavours" (⟨"StoveFavours", "act", "(II)I"⟩ : MethodName) (⟨"StoveFavours", "act", "(II)I"⟩ : MethodName) ∈ sf_tb := sf_mem (List.mem_of_getElem? (i := 582) (by decide +kernel)) rfl
theorem sf_m584 : Cond.constant "StoveFavours" 182 (-1000000003 : Int32) ∈ sf_tb := sf_mem (List.mem_of_getElem? (i := 584) (by decide +kernel)) rfl
theorem sf_m585 : Cond.constant "StoveFavours" 183 (90000 : Int32) ∈ sf_tb := sf_mem (List.mem_of_getElem? (i := 585) (by decide +kernel)) rfl
theorem sf_m586 : Cond.methodLink "StoveFavours" 184 (⟨"StoveFavours", "spendHour", "(II)I"⟩ : MethodName) ∈ sf_tb := sf_mem (List.mem_of_getElem? (i := 586) (by decide +kernel)) rfl
theorem sf_m588 : Cond.instanceMethod (⟨"StoveFavours", "spendHour", "(II)I"⟩ : MethodName) ∈ sf_tb := sf_mem (List.mem_of_getElem? (i := 588) (by decide +kernel)) rfl
theorem sf_m590 : Cond.methodLink "StoveFavours" 272 (⟨"StoveFavours$Past", "take", "(LStoveFavours$Stove;)V"⟩ : MethodName) ∈ sf_tb := sf_mem (List.mem_of_getElem? (i := 590) (by decide +kernel)) rfl
theorem sf_m591 : Cond.instanceMethod (⟨"StoveFavours$Past", "take", "(LStoveFavours$Stove;)V"⟩ : MethodName) ∈ sf_tb := sf_mem (List.mem_of_getElem? (i := 591) (by decide +kernel)) rfl
theorem sf_m592 : Cond.selects "StoveFavours$Past" (⟨"StoveFavours$Past", "take", "(LStoveFavours$Stove;)V"⟩ : MethodName) (⟨"StoveFavours$Past", "take", "(LStoveFavours$Stove;)V"⟩ : MethodName) ∈ sf_tb := sf_mem (List.mem_of_getElem? (i := 592) (by decide +kernel)) rfl
theorem sf_m594 : Cond.methodLink "StoveFavours$Past" 27 (⟨"StoveFavours$Shelf", "at", "(I)LStoveFavours$Stove;"⟩ : MethodName) ∈ sf_tb := sf_mem (List.mem_of_getElem? (i := 594) (by decide +kernel)) rfl
theorem sf_m595 : Cond.instanceMethod (⟨"StoveFavours$Shelf", "at", "(I)LStoveFavours$Stove;"⟩ : MethodName) ∈ sf_tb := sf_mem (List.mem_of_getElem? (i := 595) (by decide +kernel)) rfl
theorem sf_m596 : Cond.selects "StoveFavours$Shelf" (⟨"StoveFavours$Shelf", "at", "(I)LStoveFavours$Stove;"⟩ : MethodName) (⟨"StoveFavours$Shelf", "at", "(I)LStoveFavours$Stove;"⟩ : MethodName) ∈ sf_tb := sf_mem (List.mem_of_getElem? (i := 596) (by decide +kernel)) rfl
theorem sf_m598 : Cond.methodLink "StoveFavours$Past" 31 (⟨"StoveFavours$Stove", "copyFrom", "(LStoveFavours$Stove;)V"⟩ : MethodName) ∈ sf_tb := sf_mem (List.mem_of_getElem? (i := 598) (by decide +kernel)) rfl
theorem sf_m599 : Cond.instanceMethod (⟨"StoveFavours$Stove", "copyFrom", "(LStoveFavours$Stove;)V"⟩ : MethodName) ∈ sf_tb := sf_mem (List.mem_of_getElem? (i := 599) (by decide +kernel)) rfl
theorem sf_m600 : Cond.selects "StoveFavours$Stove" (⟨"StoveFavours$Stove", "copyFrom", "(LStoveFavours$Stove;)V"⟩ : MethodName) (⟨"StoveFavours$Stove", "copyFrom", "(LStoveFavours$Stove;)V"⟩ : MethodName) ∈ sf_tb := sf_mem (List.mem_of_getElem? (i := 600) (by decide +kernel)) rfl
theorem sf_m602 : Cond.methodLink "StoveFavours$Past" 37 (⟨"java/lang/Math", "min", "(II)I"⟩ : MethodName) ∈ sf_tb := sf_mem (List.mem_of_getElem? (i := 602) (by decide +kernel)) rfl
theorem sf_m603 : Cond.static (⟨"java/lang/Math", "min", "(II)I"⟩ : MethodName) ∈ sf_tb := sf_mem (List.mem_of_getElem? (i := 603) (by decide +kernel)) rfl
theorem sf_m604 : Cond.code (⟨"java/lang/Math", "min", "(II)I"⟩ : MethodName) prog_16_method_69_code 2 (Option.some FieldType.int) ∈ sf_tb := sf_mem (List.mem_of_getElem? (i := 604) (by decide +kernel)) rfl
theorem sf_m605 : Cond.methodLink "StoveFavours" 275 (⟨"StoveFavours$Stove", "live", "(LStoveFavours$Home;II)V"⟩ : MethodName) ∈ sf_tb := sf_mem (List.mem_of_getElem? (i := 605) (by decide +kernel)) rfl
theorem sf_m606 : Cond.instanceMethod (⟨"StoveFavours$Stove", "live", "(LStoveFavours$Home;II)V"⟩ : MethodName) ∈ sf_tb := sf_mem (List.mem_of_getElem? (i := 606) (by decide +kernel)) rfl
theorem sf_m607 : Cond.selects "StoveFavours$Stove" (⟨"StoveFavours$Stove", "live", "(LStoveFavours$Home;II)V"⟩ : MethodName) (⟨"StoveFavours$Stove", "live", "(LStoveFavours$Home;II)V"⟩ : MethodName) ∈ sf_tb := sf_mem (List.mem_of_getElem? (i := 607) (by decide +kernel)) rfl
theorem sf_m609 : Cond.methodLink "StoveFavours$Stove" 66 (⟨"StoveFavours$Stove", "chosenBy", "(III)I"⟩ : MethodName) ∈ sf_tb := sf_mem (List.mem_of_getElem? (i := 609) (by decide +kernel)) rfl
theorem sf_m610 : Cond.instanceMethod (⟨"StoveFavours$Stove", "chosenBy", "(III)I"⟩ : MethodName) ∈ sf_tb := sf_mem (List.mem_of_getElem? (i := 610) (by decide +kernel)) rfl
theorem sf_m611 : Cond.selects "StoveFavours$Stove" (⟨"StoveFavours$Stove", "chosenBy", "(III)I"⟩ : MethodName) (⟨"StoveFavours$Stove", "chosenBy", "(III)I"⟩ : MethodName) ∈ sf_tb := sf_mem (List.mem_of_getElem? (i := 611) (by decide +kernel)) rfl
theorem sf_m613 : Cond.methodLink "StoveFavours$Stove" 58 (⟨"StoveFavours$Stove", "leastOf", "(LStoveFavours$Row;I)I"⟩ : MethodName) ∈ sf_tb := sf_mem (List.mem_of_getElem? (i := 613) (by decide +kernel)) rfl
theorem sf_m614 : Cond.static (⟨"StoveFavours$Stove", "leastOf", "(LStoveFavours$Row;I)I"⟩ : MethodName) ∈ sf_tb := sf_mem (List.mem_of_getElem? (i := 614) (by decide +kernel)) rfl
theorem sf_m616 : Cond.methodLink "StoveFavours$Stove" 62 (⟨"StoveFavours$Stove", "plainlyChosen", "(IIII)I"⟩ : MethodName) ∈ sf_tb := sf_mem (List.mem_of_getElem? (i := 616) (by decide +kernel)) rfl
theorem sf_m617 : Cond.static (⟨"StoveFavours$Stove", "plainlyChosen", "(IIII)I"⟩ : MethodName) ∈ sf_tb := sf_mem (List.mem_of_getElem? (i := 617) (by decide +kernel)) rfl
theorem sf_m619 : Cond.methodLink "StoveFavours$Stove" 73 (⟨"StoveFavours$Stove", "warmOnly", "(LStoveFavours$Home;I)V"⟩ : MethodName) ∈ sf_tb := sf_mem (List.mem_of_getElem? (i := 619) (by decide +kernel)) rfl
theorem sf_m620 : Cond.instanceMethod (⟨"StoveFavours$Stove", "warmOnly", "(LStoveFavours$Home;I)V"⟩ : MethodName) ∈ sf_tb := sf_mem (List.mem_of_getElem? (i := 620) (by decide +kernel)) rfl
theorem sf_m621 : Cond.selects "StoveFavours$Stove" (⟨"StoveFavours$Stove", "warmOnly", "(LStoveFavours$Home;I)V"⟩ : MethodName) (⟨"StoveFavours$Stove", "warmOnly", "(LStoveFavours$Home;I)V"⟩ : MethodName) ∈ sf_tb := sf_mem (List.mem_of_getElem? (i := 621) (by decide +kernel)) rfl
theorem sf_m623 : Cond.methodLink "StoveFavours$Stove" 77 (⟨"StoveFavours$Stove", "turnTo", "(I)V"⟩ : MethodName) ∈ sf_tb := sf_mem (List.mem_of_getElem? (i := 623) (by decide +kernel)) rfl
theorem sf_m624 : Cond.instanceMethod (⟨"StoveFavours$Stove", "turnTo", "(I)V"⟩ : MethodName) ∈ sf_tb := sf_mem (List.mem_of_getElem? (i := 624) (by decide +kernel)) rfl
theorem sf_m625 : Cond.selects "StoveFavours$Stove" (⟨"StoveFavours$Stove", "turnTo", "(I)V"⟩ : MethodName) (⟨"StoveFavours$Stove", "turnTo", "(I)V"⟩ : MethodName) ∈ sf_tb := sf_mem (List.mem_of_getElem? (i := 625) (by decide +kernel)) rfl
theorem sf_m627 : Cond.methodLink "StoveFavours$Stove" 95 (⟨"StoveFavours$Row", "put", "(II)V"⟩ : MethodName) ∈ sf_tb := sf_mem (List.mem_of_getElem? (i := 627) (by decide +kernel)) rfl
theorem sf_m628 : Cond.methodLink "StoveFavours$Stove" 83 (⟨"java/lang/Math", "min", "(II)I"⟩ : MethodName) ∈ sf_tb := sf_mem (List.mem_of_getElem? (i := 628) (by decide +kernel)) rfl
theorem sf_m629 : Cond.methodLink "StoveFavours$Stove" 92 (⟨"java/lang/Math", "max", "(II)I"⟩ : MethodName) ∈ sf_tb := sf_mem (List.mem_of_getElem? (i := 629) (by decide +kernel)) rfl
theorem sf_m630 : Cond.methodLink "StoveFavoursLaw" 44 (⟨"StoveFavours", "sit", "(I)I"⟩ : MethodName) ∈ sf_tb := sf_mem (List.mem_of_getElem? (i := 630) (by decide +kernel)) rfl
theorem sf_m631 : Cond.instanceMethod (⟨"StoveFavours", "sit", "(I)I"⟩ : MethodName) ∈ sf_tb := sf_mem (List.mem_of_getElem? (i := 631) (by decide +kernel)) rfl
theorem sf_m632 : Cond.selects "StoveFavours" (⟨"StoveFavours", "sit", "(I)I"⟩ : MethodName) (⟨"StoveFavours", "sit", "(I)I"⟩ : MethodName) ∈ sf_tb := sf_mem (List.mem_of_getElem? (i := 632) (by decide +kernel)) rfl
theorem sf_m634 : Cond.methodLink "StoveFavours" 188 (⟨"StoveFavours", "refusalOfHours", "(I)I"⟩ : MethodName) ∈ sf_tb := sf_mem (List.mem_of_getElem? (i := 634) (by decide +kernel)) rfl
theorem sf_m636 : Cond.instanceMethod (⟨"StoveFavours", "refusalOfHours", "(I)I"⟩ : MethodName) ∈ sf_tb := sf_mem (List.mem_of_getElem? (i := 636) (by decide +kernel)) rfl
theorem sf_m638 : Cond.methodLink "StoveFavoursLaw" 48 (⟨"StoveFavours", "drift", "(I)I"⟩ : MethodName) ∈ sf_tb := sf_mem (List.mem_of_getElem? (i := 638) (by decide +kernel)) rfl
theorem sf_m639 : Cond.instanceMethod (⟨"StoveFavours", "drift", "(I)I"⟩ : MethodName) ∈ sf_tb := sf_mem (List.mem_of_getElem? (i := 639) (by decide +kernel)) rfl
theorem sf_m640 : Cond.selects "StoveFavours" (⟨"StoveFavours", "drift", "(I)I"⟩ : MethodName) (⟨"StoveFavours", "drift", "(I)I"⟩ : MethodName) ∈ sf_tb := sf_mem (List.mem_of_getElem? (i := 640) (by decide +kernel)) rfl
theorem sf_m642 : Cond.methodLink "StoveFavours" 191 (⟨"StoveFavours", "driftHour", "()V"⟩ : MethodName) ∈ sf_tb := sf_mem (List.mem_of_getElem? (i := 642) (by decide +kernel)) rfl
theorem sf_m644 : Cond.instanceMethod (⟨"StoveFavours", "driftHour", "()V"⟩ : MethodName) ∈ sf_tb := sf_mem (List.mem_of_getElem? (i := 644) (by decide +kernel)) rfl
theorem sf_m646 : Cond.methodLink "StoveFavours" 279 (⟨"StoveFavours", "draw", "(I)I"⟩ : MethodName) ∈ sf_tb := sf_mem (List.mem_of_getElem? (i := 646) (by decide +kernel)) rfl
theorem sf_m648 : Cond.instanceMethod (⟨"StoveFavours", "draw", "(I)I"⟩ : MethodName) ∈ sf_tb := sf_mem (List.mem_of_getElem? (i := 648) (by decide +kernel)) rfl
theorem sf_m650 : Cond.constantLong "StoveFavours" 282 (1103515245 : Int64) ∈ sf_tb := sf_mem (List.mem_of_getElem? (i := 650) (by decide +kernel)) rfl
theorem sf_m651 : Cond.constantLong "StoveFavours" 284 (12345 : Int64) ∈ sf_tb := sf_mem (List.mem_of_getElem? (i := 651) (by decide +kernel)) rfl
theorem sf_m652 : Cond.constantLong "StoveFavours" 286 (2147483647 : Int64) ∈ sf_tb := sf_mem (List.mem_of_getElem? (i := 652) (by decide +kernel)) rfl
theorem sf_m653 : Cond.constant "StoveFavours" 288 (65536 : Int32) ∈ sf_tb := sf_mem (List.mem_of_getElem? (i := 653) (by decide +kernel)) rfl
theorem sf_m654 : Cond.methodLink "StoveFavoursLaw" 52 (⟨"StoveFavours", "stack", "(I)I"⟩ : MethodName) ∈ sf_tb := sf_mem (List.mem_of_getElem? (i := 654) (by decide +kernel)) rfl
theorem sf_m655 : Cond.instanceMethod (⟨"StoveFavours", "stack", "(I)I"⟩ : MethodName) ∈ sf_tb := sf_mem (List.mem_of_getElem? (i := 655) (by decide +kernel)) rfl
theorem sf_m656 : Cond.selects "StoveFavours" (⟨"StoveFavours", "stack", "(I)I"⟩ : MethodName) (⟨"StoveFavours", "stack", "(I)I"⟩ : MethodName) ∈ sf_tb := sf_mem (List.mem_of_getElem? (i := 656) (by decide +kernel)) rfl
theorem sf_m658 : Cond.methodLink "StoveFavours" 194 (⟨"java/lang/Math", "min", "(II)I"⟩ : MethodName) ∈ sf_tb := sf_mem (List.mem_of_getElem? (i := 658) (by decide +kernel)) rfl
theorem sf_m659 : Cond.methodLink "StoveFavoursLaw" 56 (⟨"StoveFavours", "law", "(II)I"⟩ : MethodName) ∈ sf_tb := sf_mem (List.mem_of_getElem? (i := 659) (by decide +kernel)) rfl
theorem sf_m660 : Cond.instanceMethod (⟨"StoveFavours", "law", "(II)I"⟩ : MethodName) ∈ sf_tb := sf_mem (List.mem_of_getElem? (i := 660) (by decide +kernel)) rfl
theorem sf_m661 : Cond.selects "StoveFavours" (⟨"StoveFavours", "law", "(II)I"⟩ : MethodName) (⟨"StoveFavours", "law", "(II)I"⟩ : MethodName) ∈ sf_tb := sf_mem (List.mem_of_getElem? (i := 661) (by decide +kernel)) rfl
theorem sf_m663 : Cond.methodLink "StoveFavours" 199 (⟨"StoveFavours$Row", "put", "(II)V"⟩ : MethodName) ∈ sf_tb := sf_mem (List.mem_of_getElem? (i := 663) (by decide +kernel)) rfl
theorem sf_m664 : Cond.methodLink "StoveFavoursLaw" 60 (⟨"StoveFavours", "undo", "(I)I"⟩ : MethodName) ∈ sf_tb := sf_mem (List.mem_of_getElem? (i := 664) (by decide +kernel)) rfl
theorem sf_m665 : Cond.instanceMethod (⟨"StoveFavours", "undo", "(I)I"⟩ : MethodName) ∈ sf_tb := sf_mem (List.mem_of_getElem? (i := 665) (by decide +kernel)) rfl
theorem sf_m666 : Cond.selects "StoveFavours" (⟨"StoveFavours", "undo", "(I)I"⟩ : MethodName) (⟨"StoveFavours", "undo", "(I)I"⟩ : MethodName) ∈ sf_tb := sf_mem (List.mem_of_getElem? (i := 666) (by decide +kernel)) rfl
theorem sf_m668 : Cond.methodLink "StoveFavours" 203 (⟨"StoveFavours$Past", "takeBack", "(I)LStoveFavours$Stove;"⟩ : MethodName) ∈ sf_tb := sf_mem (List.mem_of_getElem? (i := 668) (by decide +kernel)) rfl
theorem sf_m669 : Cond.instanceMethod (⟨"StoveFavours$Past", "takeBack", "(I)LStoveFavours$Stove;"⟩ : MethodName) ∈ sf_tb := sf_mem (List.mem_of_getElem? (i := 669) (by decide +kernel)) rfl
theorem sf_m670 : Cond.selects "StoveFavours$Past" (⟨"StoveFavours$Past", "takeBack", "(I)LStoveFavours$Stove;"⟩ : MethodName) (⟨"StoveFavours$Past", "takeBack", "(I)LStoveFavours$Stove;"⟩ : MethodName) ∈ sf_tb := sf_mem (List.mem_of_getElem? (i := 670) (by decide +kernel)) rfl
theorem sf_m672 : Cond.methodLink "StoveFavours" 207 (⟨"StoveFavours$Stove", "copyFrom", "(LStoveFavours$Stove;)V"⟩ : MethodName) ∈ sf_tb := sf_mem (List.mem_of_getElem? (i := 672) (by decide +kernel)) rfl
theorem sf_m673 : Cond.methodLink "StoveFavoursLaw" 64 (⟨"StoveFavours", "freezes", "(I)I"⟩ : MethodName) ∈ sf_tb := sf_mem (List.mem_of_getElem? (i := 673) (by decide +kernel)) rfl
theorem sf_m674 : Cond.instanceMethod (⟨"StoveFavours", "freezes", "(I)I"⟩ : MethodName) ∈ sf_tb := sf_mem (List.mem_of_getElem? (i := 674) (by decide +kernel)) rfl
theorem sf_m675 : Cond.selects "StoveFavours" (⟨"StoveFavours", "freezes", "(I)I"⟩ : MethodName) (⟨"StoveFavours", "freezes", "(I)I"⟩ : MethodName) ∈ sf_tb := sf_mem (List.mem_of_getElem? (i := 675) (by decide +kernel)) rfl
theorem sf_m677 : Cond.methodLink "StoveFavours" 210 (⟨"StoveFavours", "hoursUndisturbed", "(I)I"⟩ : MethodName) ∈ sf_tb := sf_mem (List.mem_of_getElem? (i := 677) (by decide +kernel)) rfl
theorem sf_m679 : Cond.instanceMethod (⟨"StoveFavours", "hoursUndisturbed", "(I)I"⟩ : MethodName) ∈ sf_tb := sf_mem (List.mem_of_getElem? (i := 679) (by decide +kernel)) rfl
theorem sf_m681 : Cond.methodLink "StoveFavours" 247 (⟨"StoveFavours", "hoursInDraught", "(I)I"⟩ : MethodName) ∈ sf_tb := sf_mem (List.mem_of_getElem? (i := 681) (by decide +kernel)) rfl
theorem sf_m683 : Cond.instanceMethod (⟨"StoveFavours", "hoursInDraught", "(I)I"⟩ : MethodName) ∈ sf_tb := sf_mem (List.mem_of_getElem? (i := 683) (by decide +kernel)) rfl
theorem sf_m685 : Cond.methodLink "StoveFavoursLaw" 68 (⟨"StoveFavours", "favour", "(III)I"⟩ : MethodName) ∈ sf_tb := sf_mem (List.mem_of_getElem? (i := 685) (by decide +kernel)) rfl
theorem sf_m686 : Cond.instanceMethod (⟨"StoveFavours", "favour", "(III)I"⟩ : MethodName) ∈ sf_tb := sf_mem (List.mem_of_getElem? (i := 686) (by decide +kernel)) rfl
theorem sf_m687 : Cond.selects "StoveFavours" (⟨"StoveFavours", "favour", "(III)I"⟩ : MethodName) (⟨"StoveFavours", "favour", "(III)I"⟩ : MethodName) ∈ sf_tb := sf_mem (List.mem_of_getElem? (i := 687) (by decide +kernel)) rfl
theorem sf_m689 : Cond.methodLink "StoveFavours" 213 (⟨"StoveFavours$Planner", "plan", "(LStoveFavours$Home;LStoveFavours$Stove;II)V"⟩ : MethodName) ∈ sf_tb := sf_mem (List.mem_of_getElem? (i := 689) (by decide +kernel)) rfl
theorem sf_m690 : Cond.instanceMethod (⟨"StoveFavours$Planner", "plan", "(LStoveFavours$Home;LStoveFavours$Stove;II)V"⟩ : MethodName) ∈ sf_tb := sf_mem (List.mem_of_getElem? (i := 690) (by decide +kernel)) rfl
theorem sf_m691 : Cond.selects "StoveFavours$Planner" (⟨"StoveFavours$Planner", "plan", "(LStoveFavours$Home;LStoveFavours$Stove;II)V"⟩ : MethodName) (⟨"StoveFavours$Planner", "plan", "(LStoveFavours$Home;LStoveFavours$Stove;II)V"⟩ : MethodName) ∈ sf_tb := sf_mem (List.mem_of_getElem? (i := 691) (by decide +kernel)) rfl
theorem sf_m693 : Cond.methodLink "StoveFavours$Planner" 56 (⟨"StoveFavours$Shelf", "at", "(I)LStoveFavours$Stove;"⟩ : MethodName) ∈ sf_tb := sf_mem (List.mem_of_getElem? (i := 693) (by decide +kernel)) rfl
theorem sf_m694 : Cond.methodLink "StoveFavours$Planner" 60 (⟨"StoveFavours$Stove", "copyFrom", "(LStoveFavours$Stove;)V"⟩ : MethodName) ∈ sf_tb := sf_mem (List.mem_of_getElem? (i := 694) (by decide +kernel)) rfl
theorem sf_m695 : Cond.methodLink "StoveFavours$Planner" 69 (⟨"StoveFavours$Planner", "search", "(LStoveFavours$Home;III)V"⟩ : MethodName) ∈ sf_tb := sf_mem (List.mem_of_getElem? (i := 695) (by decide +kernel)) rfl
theorem sf_m697 : Cond.instanceMethod (⟨"StoveFavours$Planner", "search", "(LStoveFavours$Home;III)V"⟩ : MethodName) ∈ sf_tb := sf_mem (List.mem_of_getElem? (i := 697) (by decide +kernel)) rfl
theorem sf_m699 : Cond.methodLink "StoveFavours$Planner" 76 (⟨"StoveFavours$Planner", "takeRow", "(II)V"⟩ : MethodName) ∈ sf_tb := sf_mem (List.mem_of_getElem? (i := 699) (by decide +kernel)) rfl
theorem sf_m701 : Cond.instanceMethod (⟨"StoveFavours$Planner", "takeRow", "(II)V"⟩ : MethodName) ∈ sf_tb := sf_mem (List.mem_of_getElem? (i := 701) (by decide +kernel)) rfl
theorem sf_m703 : Cond.methodLink "StoveFavours$Planner" 100 (⟨"StoveFavours$Row", "copyFrom", "(LStoveFavours$Row;)V"⟩ : MethodName) ∈ sf_tb := sf_mem (List.mem_of_getElem? (i := 703) (by decide +kernel)) rfl
theorem sf_m704 : Cond.methodLink "StoveFavours$Planner" 80 (⟨"StoveFavours$Planner", "gatherThings", "(LStoveFavours$Home;I)V"⟩ : MethodName) ∈ sf_tb := sf_mem (List.mem_of_getElem? (i := 704) (by decide +kernel)) rfl
theorem sf_m706 : Cond.instanceMethod (⟨"StoveFavours$Planner", "gatherThings", "(LStoveFavours$Home;I)V"⟩ : MethodName) ∈ sf_tb := sf_mem (List.mem_of_getElem? (i := 706) (by decide +kernel)) rfl
theorem sf_m708 : Cond.methodLink "StoveFavours$Planner" 93 (⟨"StoveFavours$Row", "put", "(II)V"⟩ : MethodName) ∈ sf_tb := sf_mem (List.mem_of_getElem? (i := 708) (by decide +kernel)) rfl
theorem sf_m709 : Cond.methodLink "StoveFavours$Planner" 106 (⟨"StoveFavours$Planner", "offer", "(IIII)V"⟩ : MethodName) ∈ sf_tb := sf_mem (List.mem_of_getElem? (i := 709) (by decide +kernel)) rfl
theorem sf_m711 : Cond.instanceMethod (⟨"StoveFavours$Planner", "offer", "(IIII)V"⟩ : MethodName) ∈ sf_tb := sf_mem (List.mem_of_getElem? (i := 711) (by decide +kernel)) rfl
theorem sf_m713 : Cond.methodLink "StoveFavours$Planner" 73 (⟨"StoveFavours$Row", "at", "(I)I"⟩ : MethodName) ∈ sf_tb := sf_mem (List.mem_of_getElem? (i := 713) (by decide +kernel)) rfl
theorem sf_m714 : Cond.methodLink "StoveFavours$Planner" 110 (⟨"StoveFavours$Stove", "chosenBy", "(III)I"⟩ : MethodName) ∈ sf_tb := sf_mem (List.mem_of_getElem? (i := 714) (by decide +kernel)) rfl
theorem sf_m715 : Cond.methodLink "StoveFavours$Planner" 89 (⟨"StoveFavours$Planner", "madeBehind", "(III)I"⟩ : MethodName) ∈ sf_tb := sf_mem (List.mem_of_getElem? (i := 715) (by decide +kernel)) rfl
theorem sf_m717 : Cond.instanceMethod (⟨"StoveFavours$Planner", "madeBehind", "(III)I"⟩ : MethodName) ∈ sf_tb := sf_mem (List.mem_of_getElem? (i := 717) (by decide +kernel)) rfl
theorem sf_m719 : Cond.methodLink "StoveFavours$Planner" 96 (⟨"StoveFavours$Planner", "goOn", "(LStoveFavours$Home;IIII)V"⟩ : MethodName) ∈ sf_tb := sf_mem (List.mem_of_getElem? (i := 719) (by decide +kernel)) rfl
theorem sf_m721 : Cond.instanceMethod (⟨"StoveFavours$Planner", "goOn", "(LStoveFavours$Home;IIII)V"⟩ : MethodName) ∈ sf_tb := sf_mem (List.mem_of_getElem? (i := 721) (by decide +kernel)) rfl
theorem sf_m723 : Cond.methodLink "StoveFavours$Planner" 114 (⟨"StoveFavours$Planner", "isBetter", "(II)Z"⟩ : MethodName) ∈ sf_tb := sf_mem (List.mem_of_getElem? (i := 723) (by decide +kernel)) rfl
theorem sf_m725 : Cond.instanceMethod (⟨"StoveFavours$Planner", "isBetter", "(II)Z"⟩ : MethodName) ∈ sf_tb := sf_mem (List.mem_of_getElem? (i := 725) (by decide +kernel)) rfl
theorem sf_m727 : Cond.methodLink "StoveFavours$Planner" 118 (⟨"StoveFavours$Stove", "warmOnly", "(LStoveFavours$Home;I)V"⟩ : MethodName) ∈ sf_tb := sf_mem (List.mem_of_getElem? (i := 727) (by decide +kernel)) rfl
theorem sf_m728 : Cond.methodLink "StoveFavours$Planner" 121 (⟨"StoveFavours$Planner", "isAllowed", "(ILStoveFavours$Stove;I)Z"⟩ : MethodName) ∈ sf_tb := sf_mem (List.mem_of_getElem? (i := 728) (by decide +kernel)) rfl
theorem sf_m730 : Cond.instanceMethod (⟨"StoveFavours$Planner", "isAllowed", "(ILStoveFavours$Stove;I)Z"⟩ : MethodName) ∈ sf_tb := sf_mem (List.mem_of_getElem? (i := 730) (by decide +kernel)) rfl
theorem sf_m732 : Cond.methodLink "StoveFavours$Planner" 125 (⟨"StoveFavours$Stove", "frozen", "(I)I"⟩ : MethodName) ∈ sf_tb := sf_mem (List.mem_of_getElem? (i := 732) (by decide +kernel)) rfl
theorem sf_m733 : Cond.methodLink "StoveFavours" 217 (⟨"StoveFavours$Planner", "answer", "(I)I"⟩ : MethodName) ∈ sf_tb := sf_mem (List.mem_of_getElem? (i := 733) (by decide +kernel)) rfl
theorem sf_m734 : Cond.instanceMethod (⟨"StoveFavours$Planner", "answer", "(I)I"⟩ : MethodName) ∈ sf_tb := sf_mem (List.mem_of_getElem? (i := 734) (by decide +kernel)) rfl
theorem sf_m735 : Cond.selects "StoveFavours$Planner" (⟨"StoveFavours$Planner", "answer", "(I)I"⟩ : MethodName) (⟨"StoveFavours$Planner", "answer", "(I)I"⟩ : MethodName) ∈ sf_tb := sf_mem (List.mem_of_getElem? (i := 735) (by decide +kernel)) rfl
theorem sf_m737 : Cond.methodLink "StoveFavoursLaw" 73 (⟨"StoveFavours", "allWarm", "(II)I"⟩ : MethodName) ∈ sf_tb := sf_mem (List.mem_of_getElem? (i := 737) (by decide +kernel)) rfl
theorem sf_m738 : Cond.instanceMethod (⟨"StoveFavours", "allWarm", "(II)I"⟩ : MethodName) ∈ sf_tb := sf_mem (List.mem_of_getElem? (i := 738) (by decide +kernel)) rfl
theorem sf_m739 : Cond.selects "StoveFavours" (⟨"StoveFavours", "allWarm", "(II)I"⟩ : MethodName) (⟨"StoveFavours", "allWarm", "(II)I"⟩ : MethodName) ∈ sf_tb := sf_mem (List.mem_of_getElem? (i := 739) (by decide +kernel)) rfl
theorem sf_m741 : Cond.methodLink "StoveFavoursLaw" 77 (⟨"StoveFavours", "duel", "(IIII)I"⟩ : MethodName) ∈ sf_tb := sf_mem (List.mem_of_getElem? (i := 741) (by decide +kernel)) rfl
theorem sf_m742 : Cond.instanceMethod (⟨"StoveFavours", "duel", "(IIII)I"⟩ : MethodName) ∈ sf_tb := sf_mem (List.mem_of_getElem? (i := 742) (by decide +kernel)) rfl
theorem sf_m743 : Cond.selects "StoveFavours" (⟨"StoveFavours", "duel", "(IIII)I"⟩ : MethodName) (⟨"StoveFavours", "duel", "(IIII)I"⟩ : MethodName) ∈ sf_tb := sf_mem (List.mem_of_getElem? (i := 743) (by decide +kernel)) rfl
theorem sf_m745 : Cond.methodLink "StoveFavours" 220 (⟨"StoveFavours$Contest", "fight", "(LStoveFavours$Home;LStoveFavours$Stove;III)V"⟩ : MethodName) ∈ sf_tb := sf_mem (List.mem_of_getElem? (i := 745) (by decide +kernel)) rfl
theorem sf_m746 : Cond.instanceMethod (⟨"StoveFavours$Contest", "fight", "(LStoveFavours$Home;LStoveFavours$Stove;III)V"⟩ : MethodName) ∈ sf_tb := sf_mem (List.mem_of_getElem? (i := 746) (by decide +kernel)) rfl
theorem sf_m747 : Cond.selects "StoveFavours$Contest" (⟨"StoveFavours$Contest", "fight", "(LStoveFavours$Home;LStoveFavours$Stove;III)V"⟩ : MethodName) (⟨"StoveFavours$Contest", "fight", "(LStoveFavours$Home;LStoveFavours$Stove;III)V"⟩ : MethodName) ∈ sf_tb := sf_mem (List.mem_of_getElem? (i := 747) (by decide +kernel)) rfl
theorem sf_m749 : Cond.methodLink "StoveFavours$Contest" 36 (⟨"StoveFavours$Shelf", "at", "(I)LStoveFavours$Stove;"⟩ : MethodName) ∈ sf_tb := sf_mem (List.mem_of_getElem? (i := 749) (by decide +kernel)) rfl
theorem sf_m750 : Cond.methodLink "StoveFavours$Contest" 40 (⟨"StoveFavours$Stove", "copyFrom", "(LStoveFavours$Stove;)V"⟩ : MethodName) ∈ sf_tb := sf_mem (List.mem_of_getElem? (i := 750) (by decide +kernel)) rfl
theorem sf_m751 : Cond.methodLink "StoveFavours$Contest" 46 (⟨"StoveFavours$Contest", "playedOut", "(LStoveFavours$Home;I)I"⟩ : MethodName) ∈ sf_tb := sf_mem (List.mem_of_getElem? (i := 751) (by decide +kernel)) rfl
theorem sf_m753 : Cond.instanceMethod (⟨"StoveFavours$Contest", "playedOut", "(LStoveFavours$Home;I)I"⟩ : MethodName) ∈ sf_tb := sf_mem (List.mem_of_getElem? (i := 753) (by decide +kernel)) rfl
theorem sf_m755 : Cond.methodLink "StoveFavours$Contest" 58 (⟨"StoveFavours$Stove", "chosenBy", "(III)I"⟩ : MethodName) ∈ sf_tb := sf_mem (List.mem_of_getElem? (i := 755) (by decide +kernel)) rfl
theorem sf_m756 : Cond.methodLink "StoveFavours$Contest" 62 (⟨"StoveFavours$Contest", "endOf", "(LStoveFavours$Home;II)I"⟩ : MethodName) ∈ sf_tb := sf_mem (List.mem_of_getElem? (i := 756) (by decide +kernel)) rfl
theorem sf_m758 : Cond.instanceMethod (⟨"StoveFavours$Contest", "endOf", "(LStoveFavours$Home;II)I"⟩ : MethodName) ∈ sf_tb := sf_mem (List.mem_of_getElem? (i := 758) (by decide +kernel)) rfl
theorem sf_m760 : Cond.methodLink "StoveFavours$Contest" 66 (⟨"StoveFavours$Stove", "warmOnly", "(LStoveFavours$Home;I)V"⟩ : MethodName) ∈ sf_tb := sf_mem (List.mem_of_getElem? (i := 760) (by decide +kernel)) rfl
theorem sf_m761 : Cond.methodLink "StoveFavoursLaw" 82 (⟨"StoveFavours", "forEver", "(I)I"⟩ : MethodName) ∈ sf_tb := sf_mem (List.mem_of_getElem? (i := 761) (by decide +kernel)) rfl
theorem sf_m762 : Cond.instanceMethod (⟨"StoveFavours", "forEver", "(I)I"⟩ : MethodName) ∈ sf_tb := sf_mem (List.mem_of_getElem? (i := 762) (by decide +kernel)) rfl
theorem sf_m763 : Cond.selects "StoveFavours" (⟨"StoveFavours", "forEver", "(I)I"⟩ : MethodName) (⟨"StoveFavours", "forEver", "(I)I"⟩ : MethodName) ∈ sf_tb := sf_mem (List.mem_of_getElem? (i := 763) (by decide +kernel)) rfl
theorem sf_m765 : Cond.methodLink "StoveFavours" 230 (⟨"StoveFavours$Rounds", "run", "(ILStoveFavours$Stove;LStoveFavours$Book;)V"⟩ : MethodName) ∈ sf_tb := sf_mem (List.mem_of_getElem? (i := 765) (by decide +kernel)) rfl
theorem sf_m766 : Cond.instanceMethod (⟨"StoveFavours$Rounds", "run", "(ILStoveFavours$Stove;LStoveFavours$Book;)V"⟩ : MethodName) ∈ sf_tb := sf_mem (List.mem_of_getElem? (i := 766) (by decide +kernel)) rfl
theorem sf_m767 : Cond.selects "StoveFavours$Rounds" (⟨"StoveFavours$Rounds", "run", "(ILStoveFavours$Stove;LStoveFavours$Book;)V"⟩ : MethodName) (⟨"StoveFavours$Rounds", "run", "(ILStoveFavours$Stove;LStoveFavours$Book;)V"⟩ : MethodName) ∈ sf_tb := sf_mem (List.mem_of_getElem? (i := 767) (by decide +kernel)) rfl
theorem sf_m769 : Cond.methodLink "StoveFavours$Rounds" 40 (⟨"StoveFavours$Stove", "copyFrom", "(LStoveFavours$Stove;)V"⟩ : MethodName) ∈ sf_tb := sf_mem (List.mem_of_getElem? (i := 769) (by decide +kernel)) rfl
theorem sf_m770 : Cond.methodLink "StoveFavours$Rounds" 47 (⟨"StoveFavours$Row", "fill", "(I)V"⟩ : MethodName) ∈ sf_tb := sf_mem (List.mem_of_getElem? (i := 770) (by decide +kernel)) rfl
theorem sf_m771 : Cond.methodLink "StoveFavours$Rounds" 50 (⟨"StoveFavours$Rounds", "standing", "(I)I"⟩ : MethodName) ∈ sf_tb := sf_mem (List.mem_of_getElem? (i := 771) (by decide +kernel)) rfl
theorem sf_m773 : Cond.instanceMethod (⟨"StoveFavours$Rounds", "standing", "(I)I"⟩ : MethodName) ∈ sf_tb := sf_mem (List.mem_of_getElem? (i := 773) (by decide +kernel)) rfl
theorem sf_m775 : Cond.methodLink "StoveFavours$Rounds" 73 (⟨"StoveFavours$Row", "at", "(I)I"⟩ : MethodName) ∈ sf_tb := sf_mem (List.mem_of_getElem? (i := 775) (by decide +kernel)) rfl
theorem sf_m776 : Cond.methodLink "StoveFavours$Rounds" 54 (⟨"StoveFavours$Row", "put", "(II)V"⟩ : MethodName) ∈ sf_tb := sf_mem (List.mem_of_getElem? (i := 776) (by decide +kernel)) rfl
theorem sf_m777 : Cond.methodLink "StoveFavours$Rounds" 63 (⟨"StoveFavours$Rounds", "goRound", "(ILStoveFavours$Book;)V"⟩ : MethodName) ∈ sf_tb := sf_mem (List.mem_of_getElem? (i := 777) (by decide +kernel)) rfl
theorem sf_m779 : Cond.instanceMethod (⟨"StoveFavours$Rounds", "goRound", "(ILStoveFavours$Book;)V"⟩ : MethodName) ∈ sf_tb := sf_mem (List.mem_of_getElem? (i := 779) (by decide +kernel)) rfl
theorem sf_m781 : Cond.methodLink "StoveFavours$Rounds" 79 (⟨"StoveFavours$Stove", "chosenBy", "(III)I"⟩ : MethodName) ∈ sf_tb := sf_mem (List.mem_of_getElem? (i := 781) (by decide +kernel)) rfl
theorem sf_m782 : Cond.methodLink "StoveFavours$Rounds" 83 (⟨"StoveFavours$Stove", "turnTo", "(I)V"⟩ : MethodName) ∈ sf_tb := sf_mem (List.mem_of_getElem? (i := 782) (by decide +kernel)) rfl
theorem sf_m783 : Cond.methodLink "StoveFavours$Rounds" 67 (⟨"StoveFavours$Rounds", "roundsSinceLike", "(I)I"⟩ : MethodName) ∈ sf_tb := sf_mem (List.mem_of_getElem? (i := 783) (by decide +kernel)) rfl
theorem sf_m785 : Cond.instanceMethod (⟨"StoveFavours$Rounds", "roundsSinceLike", "(I)I"⟩ : MethodName) ∈ sf_tb := sf_mem (List.mem_of_getElem? (i := 785) (by decide +kernel)) rfl
theorem sf_m787 : Cond.methodLink "StoveFavours" 237 (⟨"StoveFavours$Rounds", "hoursOf", "(I)I"⟩ : MethodName) ∈ sf_tb := sf_mem (List.mem_of_getElem? (i := 787) (by decide +kernel)) rfl
theorem sf_m788 : Cond.instanceMethod (⟨"StoveFavours$Rounds", "hoursOf", "(I)I"⟩ : MethodName) ∈ sf_tb := sf_mem (List.mem_of_getElem? (i := 788) (by decide +kernel)) rfl
theorem sf_m789 : Cond.selects "StoveFavours$Rounds" (⟨"StoveFavours$Rounds", "hoursOf", "(I)I"⟩ : MethodName) (⟨"StoveFavours$Rounds", "hoursOf", "(I)I"⟩ : MethodName) ∈ sf_tb := sf_mem (List.mem_of_getElem? (i := 789) (by decide +kernel)) rfl
theorem sf_m791 : Cond.methodLink "StoveFavoursLaw" 86 (⟨"StoveFavours", "fair", "()I"⟩ : MethodName) ∈ sf_tb := sf_mem (List.mem_of_getElem? (i := 791) (by decide +kernel)) rfl
theorem sf_m792 : Cond.instanceMethod (⟨"StoveFavours", "fair", "()I"⟩ : MethodName) ∈ sf_tb := sf_mem (List.mem_of_getElem? (i := 792) (by decide +kernel)) rfl
theorem sf_m793 : Cond.selects "StoveFavours" (⟨"StoveFavours", "fair", "()I"⟩ : MethodName) (⟨"StoveFavours", "fair", "()I"⟩ : MethodName) ∈ sf_tb := sf_mem (List.mem_of_getElem? (i := 793) (by decide +kernel)) rfl
theorem sf_m795 : Cond.methodLink "StoveFavours" 240 (⟨"StoveFavours$Rounds", "spread", "(I)I"⟩ : MethodName) ∈ sf_tb := sf_mem (List.mem_of_getElem? (i := 795) (by decide +kernel)) rfl
theorem sf_m796 : Cond.instanceMethod (⟨"StoveFavours$Rounds", "spread", "(I)I"⟩ : MethodName) ∈ sf_tb := sf_mem (List.mem_of_getElem? (i := 796) (by decide +kernel)) rfl
theorem sf_m797 : Cond.selects "StoveFavours$Rounds" (⟨"StoveFavours$Rounds", "spread", "(I)I"⟩ : MethodName) (⟨"StoveFavours$Rounds", "spread", "(I)I"⟩ : MethodName) ∈ sf_tb := sf_mem (List.mem_of_getElem? (i := 797) (by decide +kernel)) rfl
theorem sf_m799 : Cond.methodLink "StoveFavours$Rounds" 92 (⟨"StoveFavours$Rounds", "hoursOf", "(I)I"⟩ : MethodName) ∈ sf_tb := sf_mem (List.mem_of_getElem? (i := 799) (by decide +kernel)) rfl
theorem sf_m800 : Cond.methodLink "StoveFavours$Rounds" 95 (⟨"java/lang/Math", "min", "(II)I"⟩ : MethodName) ∈ sf_tb := sf_mem (List.mem_of_getElem? (i := 800) (by decide +kernel)) rfl
theorem sf_m801 : Cond.methodLink "StoveFavours$Rounds" 101 (⟨"java/lang/Math", "max", "(II)I"⟩ : MethodName) ∈ sf_tb := sf_mem (List.mem_of_getElem? (i := 801) (by decide +kernel)) rfl
theorem sf_m802 : Cond.methodLink "StoveFavoursLaw" 90 (⟨"StoveFavours", "left", "(II)I"⟩ : MethodName) ∈ sf_tb := sf_mem (List.mem_of_getElem? (i := 802) (by decide +kernel)) rfl
theorem sf_m803 : Cond.instanceMethod (⟨"StoveFavours", "left", "(II)I"⟩ : MethodName) ∈ sf_tb := sf_mem (List.mem_of_getElem? (i := 803) (by decide +kernel)) rfl
theorem sf_m804 : Cond.selects "StoveFavours" (⟨"StoveFavours", "left", "(II)I"⟩ : MethodName) (⟨"StoveFavours", "left", "(II)I"⟩ : MethodName) ∈ sf_tb := sf_mem (List.mem_of_getElem? (i := 804) (by decide +kernel)) rfl
theorem sf_m806 : Cond.methodLink "StoveFavours" 243 (⟨"StoveFavours$Stove", "chosenBy", "(III)I"⟩ : MethodName) ∈ sf_tb := sf_mem (List.mem_of_getElem? (i := 806) (by decide +kernel)) rfl
theorem sf_m807 : Cond.methodLink "StoveFavoursLaw" 94 (⟨"StoveFavours", "doers", "(I)I"⟩ : MethodName) ∈ sf_tb := sf_mem (List.mem_of_getElem? (i := 807) (by decide +kernel)) rfl
theorem sf_m808 : Cond.instanceMethod (⟨"StoveFavours", "doers", "(I)I"⟩ : MethodName) ∈ sf_tb := sf_mem (List.mem_of_getElem? (i := 808) (by decide +kernel)) rfl
theorem sf_m809 : Cond.selects "StoveFavours" (⟨"StoveFavours", "doers", "(I)I"⟩ : MethodName) (⟨"StoveFavours", "doers", "(I)I"⟩ : MethodName) ∈ sf_tb := sf_mem (List.mem_of_getElem? (i := 809) (by decide +kernel)) rfl
theorem sf_m811 : Cond.methodLink "StoveFavoursLaw" 98 (⟨"StoveFavours", "chair", "(I)I"⟩ : MethodName) ∈ sf_tb := sf_mem (List.mem_of_getElem? (i := 811) (by decide +kernel)) rfl
theorem sf_m812 : Cond.instanceMethod (⟨"StoveFavours", "chair", "(I)I"⟩ : MethodName) ∈ sf_tb := sf_mem (List.mem_of_getElem? (i := 812) (by decide +kernel)) rfl
theorem sf_m813 : Cond.selects "StoveFavours" (⟨"StoveFavours", "chair", "(I)I"⟩ : MethodName) (⟨"StoveFavours", "chair", "(I)I"⟩ : MethodName) ∈ sf_tb := sf_mem (List.mem_of_getElem? (i := 813) (by decide +kernel)) rfl
theorem sf_m815 : Cond.methodLink "StoveFavoursLaw" 102 (⟨"StoveFavours", "note", "(IIII)I"⟩ : MethodName) ∈ sf_tb := sf_mem (List.mem_of_getElem? (i := 815) (by decide +kernel)) rfl
theorem sf_m816 : Cond.instanceMethod (⟨"StoveFavours", "note", "(IIII)I"⟩ : MethodName) ∈ sf_tb := sf_mem (List.mem_of_getElem? (i := 816) (by decide +kernel)) rfl
theorem sf_m817 : Cond.selects "StoveFavours" (⟨"StoveFavours", "note", "(IIII)I"⟩ : MethodName) (⟨"StoveFavours", "note", "(IIII)I"⟩ : MethodName) ∈ sf_tb := sf_mem (List.mem_of_getElem? (i := 817) (by decide +kernel)) rfl
theorem sf_m819 : Cond.methodLink "StoveFavours" 250 (⟨"StoveFavours$Notes", "add", "(IIII)I"⟩ : MethodName) ∈ sf_tb := sf_mem (List.mem_of_getElem? (i := 819) (by decide +kernel)) rfl
theorem sf_m820 : Cond.instanceMethod (⟨"StoveFavours$Notes", "add", "(IIII)I"⟩ : MethodName) ∈ sf_tb := sf_mem (List.mem_of_getElem? (i := 820) (by decide +kernel)) rfl
theorem sf_m821 : Cond.selects "StoveFavours$Notes" (⟨"StoveFavours$Notes", "add", "(IIII)I"⟩ : MethodName) (⟨"StoveFavours$Notes", "add", "(IIII)I"⟩ : MethodName) ∈ sf_tb := sf_mem (List.mem_of_getElem? (i := 821) (by decide +kernel)) rfl
theorem sf_m823 : Cond.methodLink "StoveFavours$Notes" 33 (⟨"StoveFavours$Row", "put", "(II)V"⟩ : MethodName) ∈ sf_tb := sf_mem (List.mem_of_getElem? (i := 823) (by decide +kernel)) rfl
theorem sf_m824 : Cond.methodLink "StoveFavoursLaw" 106 (⟨"StoveFavours", "laws", "(I)I"⟩ : MethodName) ∈ sf_tb := sf_mem (List.mem_of_getElem? (i := 824) (by decide +kernel)) rfl
theorem sf_m825 : Cond.instanceMethod (⟨"StoveFavours", "laws", "(I)I"⟩ : MethodName) ∈ sf_tb := sf_mem (List.mem_of_getElem? (i := 825) (by decide +kernel)) rfl
theorem sf_m826 : Cond.selects "StoveFavours" (⟨"StoveFavours", "laws", "(I)I"⟩ : MethodName) (⟨"StoveFavours", "laws", "(I)I"⟩ : MethodName) ∈ sf_tb := sf_mem (List.mem_of_getElem? (i := 826) (by decide +kernel)) rfl
theorem sf_m828 : Cond.methodLink "StoveFavours" 254 (⟨"StoveFavours$Notes", "fitting", "(II)I"⟩ : MethodName) ∈ sf_tb := sf_mem (List.mem_of_getElem? (i := 828) (by decide +kernel)) rfl
theorem sf_m829 : Cond.instanceMethod (⟨"StoveFavours$Notes", "fitting", "(II)I"⟩ : MethodName) ∈ sf_tb := sf_mem (List.mem_of_getElem? (i := 829) (by decide +kernel)) rfl
theorem sf_m830 : Cond.selects "StoveFavours$Notes" (⟨"StoveFavours$Notes", "fitting", "(II)I"⟩ : MethodName) (⟨"StoveFavours$Notes", "fitting", "(II)I"⟩ : MethodName) ∈ sf_tb := sf_mem (List.mem_of_getElem? (i := 830) (by decide +kernel)) rfl
theorem sf_m832 : Cond.methodLink "StoveFavours$Notes" 37 (⟨"StoveFavours$Notes", "fits", "(III)Z"⟩ : MethodName) ∈ sf_tb := sf_mem (List.mem_of_getElem? (i := 832) (by decide +kernel)) rfl
theorem sf_m834 : Cond.instanceMethod (⟨"StoveFavours$Notes", "fits", "(III)Z"⟩ : MethodName) ∈ sf_tb := sf_mem (List.mem_of_getElem? (i := 834) (by decide +kernel)) rfl
theorem sf_m836 : Cond.methodLink "StoveFavours$Notes" 41 (⟨"StoveFavours$Row", "at", "(I)I"⟩ : MethodName) ∈ sf_tb := sf_mem (List.mem_of_getElem? (i := 836) (by decide +kernel)) rfl
theorem sf_m837 : Cond.methodLink "StoveFavours$Notes" 45 (⟨"StoveFavours$Stove", "plainlyChosen", "(IIII)I"⟩ : MethodName) ∈ sf_tb := sf_mem (List.mem_of_getElem? (i := 837) (by decide +kernel)) rfl
theorem sf_m838 : Cond.methodLink "StoveFavoursLaw" 110 (⟨"StoveFavours", "tryNext", "(I)I"⟩ : MethodName) ∈ sf_tb := sf_mem (List.mem_of_getElem? (i := 838) (by decide +kernel)) rfl
theorem sf_m839 : Cond.instanceMethod (⟨"StoveFavours", "tryNext", "(I)I"⟩ : MethodName) ∈ sf_tb := sf_mem (List.mem_of_getElem? (i := 839) (by decide +kernel)) rfl
theorem sf_m840 : Cond.selects "StoveFavours" (⟨"StoveFavours", "tryNext", "(I)I"⟩ : MethodName) (⟨"StoveFavours", "tryNext", "(I)I"⟩ : MethodName) ∈ sf_tb := sf_mem (List.mem_of_getElem? (i := 840) (by decide +kernel)) rfl
theorem sf_m842 : Cond.methodLink "StoveFavours" 257 (⟨"java/lang/Integer", "bitCount", "(I)I"⟩ : MethodName) ∈ sf_tb := sf_mem (List.mem_of_getElem? (i := 842) (by decide +kernel)) rfl
theorem sf_m843 : Cond.static (⟨"java/lang/Integer", "bitCount", "(I)I"⟩ : MethodName) ∈ sf_tb := sf_mem (List.mem_of_getElem? (i := 843) (by decide +kernel)) rfl
theorem sf_m845 : Cond.constant "java/lang/Integer" 265 (1431655765 : Int32) ∈ sf_tb := sf_mem (List.mem_of_getElem? (i := 845) (by decide +kernel)) rfl
theorem sf_m846 : Cond.constant "java/lang/Integer" 266 (858993459 : Int32) ∈ sf_tb := sf_mem (List.mem_of_getElem? (i := 846) (by decide +kernel)) rfl
theorem sf_m847 : Cond.constant "java/lang/Integer" 267 (252645135 : Int32) ∈ sf_tb := sf_mem (List.mem_of_getElem? (i := 847) (by decide +kernel)) rfl
theorem sf_m848 : Cond.methodLink "StoveFavours" 262 (⟨"StoveFavours", "greatestPart", "(II)I"⟩ : MethodName) ∈ sf_tb := sf_mem (List.mem_of_getElem? (i := 848) (by decide +kernel)) rfl
theorem sf_m850 : Cond.instanceMethod (⟨"StoveFavours", "greatestPart", "(II)I"⟩ : MethodName) ∈ sf_tb := sf_mem (List.mem_of_getElem? (i := 850) (by decide +kernel)) rfl
theorem sf_m852 : Cond.methodLink "StoveFavours" 289 (⟨"StoveFavours$Stove", "plainlyChosen", "(IIII)I"⟩ : MethodName) ∈ sf_tb := sf_mem (List.mem_of_getElem? (i := 852) (by decide +kernel)) rfl
theorem sf_m853 : Cond.methodLink "StoveFavours" 292 (⟨"java/lang/Math", "max", "(II)I"⟩ : MethodName) ∈ sf_tb := sf_mem (List.mem_of_getElem? (i := 853) (by decide +kernel)) rfl
theorem sf_m854 : Cond.methodLink "StoveFavoursLaw" 114 (⟨"StoveFavours", "write", "(II)I"⟩ : MethodName) ∈ sf_tb := sf_mem (List.mem_of_getElem? (i := 854) (by decide +kernel)) rfl
theorem sf_m855 : Cond.instanceMethod (⟨"StoveFavours", "write", "(II)I"⟩ : MethodName) ∈ sf_tb := sf_mem (List.mem_of_getElem? (i := 855) (by decide +kernel)) rfl
theorem sf_m856 : Cond.selects "StoveFavours" (⟨"StoveFavours", "write", "(II)I"⟩ : MethodName) (⟨"StoveFavours", "write", "(II)I"⟩ : MethodName) ∈ sf_tb := sf_mem (List.mem_of_getElem? (i := 856) (by decide +kernel)) rfl
theorem sf_m858 : Cond.methodLink "StoveFavours" 265 (⟨"StoveFavours$Book", "add", "(II)I"⟩ : MethodName) ∈ sf_tb := sf_mem (List.mem_of_getElem? (i := 858) (by decide +kernel)) rfl
theorem sf_m859 : Cond.instanceMethod (⟨"StoveFavours$Book", "add", "(II)I"⟩ : MethodName) ∈ sf_tb := sf_mem (List.mem_of_getElem? (i := 859) (by decide +kernel)) rfl
theorem sf_m860 : Cond.selects "StoveFavours$Book" (⟨"StoveFavours$Book", "add", "(II)I"⟩ : MethodName) (⟨"StoveFavours$Book", "add", "(II)I"⟩ : MethodName) ∈ sf_tb := sf_mem (List.mem_of_getElem? (i := 860) (by decide +kernel)) rfl
theorem sf_m862 : Cond.methodLink "StoveFavours$Book" 27 (⟨"StoveFavours$Row", "put", "(II)V"⟩ : MethodName) ∈ sf_tb := sf_mem (List.mem_of_getElem? (i := 862) (by decide +kernel)) rfl
theorem sf_m863 : Cond.methodLink "StoveFavoursLaw" 118 (⟨"StoveFavours", "judge", "(I)I"⟩ : MethodName) ∈ sf_tb := sf_mem (List.mem_of_getElem? (i := 863) (by decide +kernel)) rfl
theorem sf_m864 : Cond.instanceMethod (⟨"StoveFavours", "judge", "(I)I"⟩ : MethodName) ∈ sf_tb := sf_mem (List.mem_of_getElem? (i := 864) (by decide +kernel)) rfl
theorem sf_m865 : Cond.selects "StoveFavours" (⟨"StoveFavours", "judge", "(I)I"⟩ : MethodName) (⟨"StoveFavours", "judge", "(I)I"⟩ : MethodName) ∈ sf_tb := sf_mem (List.mem_of_getElem? (i := 865) (by decide +kernel)) rfl
theorem sf_m867 : Cond.methodLink "StoveFavours" 267 (⟨"StoveFavours", "firstUnpaid", "()I"⟩ : MethodName) ∈ sf_tb := sf_mem (List.mem_of_getElem? (i := 867) (by decide +kernel)) rfl
theorem sf_m869 : Cond.instanceMethod (⟨"StoveFavours", "firstUnpaid", "()I"⟩ : MethodName) ∈ sf_tb := sf_mem (List.mem_of_getElem? (i := 869) (by decide +kernel)) rfl
theorem sf_m871 : Cond.methodLink "StoveFavoursLaw" 122 (⟨"StoveFavours", "tear", "()I"⟩ : MethodName) ∈ sf_tb := sf_mem (List.mem_of_getElem? (i := 871) (by decide +kernel)) rfl
theorem sf_m872 : Cond.instanceMethod (⟨"StoveFavours", "tear", "()I"⟩ : MethodName) ∈ sf_tb := sf_mem (List.mem_of_getElem? (i := 872) (by decide +kernel)) rfl
theorem sf_m873 : Cond.selects "StoveFavours" (⟨"StoveFavours", "tear", "()I"⟩ : MethodName) (⟨"StoveFavours", "tear", "()I"⟩ : MethodName) ∈ sf_tb := sf_mem (List.mem_of_getElem? (i := 873) (by decide +kernel)) rfl
theorem sf_m875 : Cond.methodLink "StoveFavoursLaw" 126 (⟨"StoveFavours", "seed", "(I)I"⟩ : MethodName) ∈ sf_tb := sf_mem (List.mem_of_getElem? (i := 875) (by decide +kernel)) rfl
theorem sf_m876 : Cond.instanceMethod (⟨"StoveFavours", "seed", "(I)I"⟩ : MethodName) ∈ sf_tb := sf_mem (List.mem_of_getElem? (i := 876) (by decide +kernel)) rfl
theorem sf_m877 : Cond.selects "StoveFavours" (⟨"StoveFavours", "seed", "(I)I"⟩ : MethodName) (⟨"StoveFavours", "seed", "(I)I"⟩ : MethodName) ∈ sf_tb := sf_mem (List.mem_of_getElem? (i := 877) (by decide +kernel)) rfl
theorem sf_m879 : Cond.methodLink "StoveFavoursLaw" 130 (⟨"StoveFavours", "keep", "(I)I"⟩ : MethodName) ∈ sf_tb := sf_mem (List.mem_of_getElem? (i := 879) (by decide +kernel)) rfl
theorem sf_m880 : Cond.instanceMethod (⟨"StoveFavours", "keep", "(I)I"⟩ : MethodName) ∈ sf_tb := sf_mem (List.mem_of_getElem? (i := 880) (by decide +kernel)) rfl
theorem sf_m881 : Cond.selects "StoveFavours" (⟨"StoveFavours", "keep", "(I)I"⟩ : MethodName) (⟨"StoveFavours", "keep", "(I)I"⟩ : MethodName) ∈ sf_tb := sf_mem (List.mem_of_getElem? (i := 881) (by decide +kernel)) rfl
theorem sf_m883 : Cond.methodLink "StoveFavours" 270 (⟨"StoveFavours$Shelf", "at", "(I)LStoveFavours$Stove;"⟩ : MethodName) ∈ sf_tb := sf_mem (List.mem_of_getElem? (i := 883) (by decide +kernel)) rfl
theorem sf_m884 : Cond.methodLink "StoveFavoursLaw" 134 (⟨"StoveFavours", "goBack", "(I)I"⟩ : MethodName) ∈ sf_tb := sf_mem (List.mem_of_getElem? (i := 884) (by decide +kernel)) rfl
theorem sf_m885 : Cond.instanceMethod (⟨"StoveFavours", "goBack", "(I)I"⟩ : MethodName) ∈ sf_tb := sf_mem (List.mem_of_getElem? (i := 885) (by decide +kernel)) rfl
theorem sf_m886 : Cond.selects "StoveFavours" (⟨"StoveFavours", "goBack", "(I)I"⟩ : MethodName) (⟨"StoveFavours", "goBack", "(I)I"⟩ : MethodName) ∈ sf_tb := sf_mem (List.mem_of_getElem? (i := 886) (by decide +kernel)) rfl
theorem sf_m888 : Cond.classLink "StoveFavoursLaw" 10 "StoveFavoursModel" ∈ sf_tb := sf_mem (List.mem_of_getElem? (i := 888) (by decide +kernel)) rfl
theorem sf_m889 : Cond.instantiable "StoveFavoursModel" 40 ∈ sf_tb := sf_mem (List.mem_of_getElem? (i := 889) (by decide +kernel)) rfl
theorem sf_m890 : Cond.methodLink "StoveFavoursLaw" 12 (⟨"StoveFavoursModel", "<init>", "()V"⟩ : MethodName) ∈ sf_tb := sf_mem (List.mem_of_getElem? (i := 890) (by decide +kernel)) rfl
theorem sf_m891 : Cond.instanceMethod (⟨"StoveFavoursModel", "<init>", "()V"⟩ : MethodName) ∈ sf_tb := sf_mem (List.mem_of_getElem? (i := 891) (by decide +kernel)) rfl
theorem sf_m893 : Cond.methodLink "StoveFavoursModel" 1 (⟨"java/lang/Object", "<init>", "()V"⟩ : MethodName) ∈ sf_tb := sf_mem (List.mem_of_getElem? (i := 893) (by decide +kernel)) rfl
theorem sf_m894 : Cond.fieldLink "StoveFavoursModel" 152 "StoveFavoursModel" "people" "I" ∈ sf_tb := sf_mem (List.mem_of_getElem? (i := 894) (by decide +kernel)) rfl
theorem sf_m895 : Cond.fieldLink "StoveFavoursModel" 81 "StoveFavoursModel" "gain" "I" ∈ sf_tb := sf_mem (List.mem_of_getElem? (i := 895) (by decide +kernel)) rfl
theorem sf_m896 : Cond.fieldLink "StoveFavoursModel" 7 "StoveFavoursModel" "colder" "[I" ∈ sf_tb := sf_mem (List.mem_of_getElem? (i := 896) (by decide +kernel)) rfl
theorem sf_m897 : Cond.fieldLink "StoveFavoursModel" 13 "StoveFavoursModel" "costs" "[I" ∈ sf_tb := sf_mem (List.mem_of_getElem? (i := 897) (by decide +kernel)) rfl
theorem sf_m898 : Cond.fieldLink "StoveFavoursModel" 16 "StoveFavoursModel" "now" "[I" ∈ sf_tb := sf_mem (List.mem_of_getElem? (i := 898) (by decide +kernel)) rfl
theorem sf_m899 : Cond.fieldLink "StoveFavoursModel" 19 "StoveFavoursModel" "was" "[I" ∈ sf_tb := sf_mem (List.mem_of_getElem? (i := 899) (by decide +kernel)) rfl
theorem sf_m900 : Cond.fieldLink "StoveFavoursModel" 161 "StoveFavoursModel" "undos" "I" ∈ sf_tb := sf_mem (List.mem_of_getElem? (i := 900) (by decide +kernel)) rfl
theorem sf_m901 : Cond.fieldLink "StoveFavoursModel" 22 "StoveFavoursModel" "images" "[I" ∈ sf_tb := sf_mem (List.mem_of_getElem? (i := 901) (by decide +kernel)) rfl
theorem sf_m902 : Cond.fieldLink "StoveFavoursModel" 25 "StoveFavoursModel" "kept" "[Z" ∈ sf_tb := sf_mem (List.mem_of_getElem? (i := 902) (by decide +kernel)) rfl
theorem sf_m903 : Cond.fieldLink "StoveFavoursModel" 29 "StoveFavoursModel" "notes" "[I" ∈ sf_tb := sf_mem (List.mem_of_getElem? (i := 903) (by decide +kernel)) rfl
theorem sf_m904 : Cond.fieldLink "StoveFavoursModel" 155 "StoveFavoursModel" "noted" "I" ∈ sf_tb := sf_mem (List.mem_of_getElem? (i := 904) (by decide +kernel)) rfl
theorem sf_m905 : Cond.fieldLink "StoveFavoursModel" 32 "StoveFavoursModel" "book" "[I" ∈ sf_tb := sf_mem (List.mem_of_getElem? (i := 905) (by decide +kernel)) rfl
theorem sf_m906 : Cond.fieldLink "StoveFavoursModel" 158 "StoveFavoursModel" "lines" "I" ∈ sf_tb := sf_mem (List.mem_of_getElem? (i := 906) (by decide +kernel)) rfl
theorem sf_m907 : Cond.fieldLink "StoveFavoursModel" 35 "StoveFavoursModel" "text" "[I" ∈ sf_tb := sf_mem (List.mem_of_getElem? (i := 907) (by decide +kernel)) rfl
theorem sf_m908 : Cond.fieldLink "StoveFavoursModel" 91 "StoveFavoursModel" "typed" "I" ∈ sf_tb := sf_mem (List.mem_of_getElem? (i := 908) (by decide +kernel)) rfl
theorem sf_m909 : Cond.fieldLink "StoveFavoursModel" 77 "StoveFavoursModel" "faulty" "I" ∈ sf_tb := sf_mem (List.mem_of_getElem? (i := 909) (by decide +kernel)) rfl
theorem sf_m910 : Cond.fieldLink "StoveFavoursModel" 123 "StoveFavoursModel" "readPeople" "I" ∈ sf_tb := sf_mem (List.mem_of_getElem? (i := 910) (by decide +kernel)) rfl
theorem sf_m911 : Cond.fieldLink "StoveFavoursModel" 134 "StoveFavoursModel" "readSet" "I" ∈ sf_tb := sf_mem (List.mem_of_getElem? (i := 911) (by decide +kernel)) rfl
theorem sf_m912 : Cond.fieldLink "StoveFavoursModel" 137 "StoveFavoursModel" "hasStove" "Z" ∈ sf_tb := sf_mem (List.mem_of_getElem? (i := 912) (by decide +kernel)) rfl
theorem sf_m913 : Cond.fieldLink "StoveFavoursModel" 38 "StoveFavoursModel" "readWarm" "[I" ∈ sf_tb := sf_mem (List.mem_of_getElem? (i := 913) (by decide +kernel)) rfl
theorem sf_m914 : Cond.fieldLink "StoveFavoursModel" 41 "StoveFavoursModel" "readCold" "[I" ∈ sf_tb := sf_mem (List.mem_of_getElem? (i := 914) (by decide +kernel)) rfl
theorem sf_m915 : Cond.fieldLink "StoveFavoursModel" 44 "StoveFavoursModel" "readCosts" "[I" ∈ sf_tb := sf_mem (List.mem_of_getElem? (i := 915) (by decide +kernel)) rfl
theorem sf_m916 : Cond.fieldLink "StoveFavoursModel" 47 "StoveFavoursModel" "readRules" "[I" ∈ sf_tb := sf_mem (List.mem_of_getElem? (i := 916) (by decide +kernel)) rfl
theorem sf_m917 : Cond.fieldLink "StoveFavoursModel" 50 "StoveFavoursModel" "readStove" "[I" ∈ sf_tb := sf_mem (List.mem_of_getElem? (i := 917) (by decide +kernel)) rfl
theorem sf_m918 : Cond.fieldLink "StoveFavoursModel" 95 "StoveFavoursModel" "at" "I" ∈ sf_tb := sf_mem (List.mem_of_getElem? (i := 918) (by decide +kernel)) rfl
theorem sf_m919 : Cond.fieldLink "StoveFavoursModel" 106 "StoveFavoursModel" "fault" "I" ∈ sf_tb := sf_mem (List.mem_of_getElem? (i := 919) (by decide +kernel)) rfl
theorem sf_m920 : Cond.fieldLink "StoveFavoursModel" 116 "StoveFavoursModel" "value" "I" ∈ sf_tb := sf_mem (List.mem_of_getElem? (i := 920) (by decide +kernel)) rfl
theorem sf_m921 : Cond.fieldLink "StoveFavoursModel" 102 "StoveFavoursModel" "close" "Z" ∈ sf_tb := sf_mem (List.mem_of_getElem? (i := 921) (by decide +kernel)) rfl
theorem sf_m922 : Cond.fieldLink "StoveFavoursModel" 53 "StoveFavoursModel" "so" "[I" ∈ sf_tb := sf_mem (List.mem_of_getElem? (i := 922) (by decide +kernel)) rfl
theorem sf_m923 : Cond.fieldLink "StoveFavoursModel" 56 "StoveFavoursModel" "pile" "[I" ∈ sf_tb := sf_mem (List.mem_of_getElem? (i := 923) (by decide +kernel)) rfl
theorem sf_m924 : Cond.fieldLink "StoveFavoursModel" 59 "StoveFavoursModel" "pick" "[I" ∈ sf_tb := sf_mem (List.mem_of_getElem? (i := 924) (by decide +kernel)) rfl
theorem sf_m925 : Cond.fieldLink "StoveFavoursModel" 62 "StoveFavoursModel" "best" "[I" ∈ sf_tb := sf_mem (List.mem_of_getElem? (i := 925) (by decide +kernel)) rfl
theorem sf_m926 : Cond.fieldLink "StoveFavoursModel" 232 "StoveFavoursModel" "fewest" "I" ∈ sf_tb := sf_mem (List.mem_of_getElem? (i := 926) (by decide +kernel)) rfl
theorem sf_m927 : Cond.fieldLink "StoveFavoursModel" 235 "StoveFavoursModel" "fewestDone" "I" ∈ sf_tb := sf_mem (List.mem_of_getElem? (i := 927) (by decide +kernel)) rfl
theorem sf_m928 : Cond.fieldLink "StoveFavoursModel" 65 "StoveFavoursModel" "worth" "[I" ∈ sf_tb := sf_mem (List.mem_of_getElem? (i := 928) (by decide +kernel)) rfl
theorem sf_m929 : Cond.fieldLink "StoveFavoursModel" 68 "StoveFavoursModel" "ranks" "[I" ∈ sf_tb := sf_mem (List.mem_of_getElem? (i := 929) (by decide +kernel)) rfl
theorem sf_m930 : Cond.fieldLink "StoveFavoursModel" 71 "StoveFavoursModel" "hours" "[I" ∈ sf_tb := sf_mem (List.mem_of_getElem? (i := 930) (by decide +kernel)) rfl
theorem sf_m931 : Cond.fieldLink "StoveFavoursModel" 257 "StoveFavoursModel" "ago" "I" ∈ sf_tb := sf_mem (List.mem_of_getElem? (i := 931) (by decide +kernel)) rfl
theorem sf_m932 : Cond.fieldLink "StoveFavoursModel" 260 "StoveFavoursModel" "rounds" "I" ∈ sf_tb := sf_mem (List.mem_of_getElem? (i := 932) (by decide +kernel)) rfl
theorem sf_m933 : Cond.fieldLink "StoveFavoursModel" 74 "StoveFavoursModel" "alike" "[I" ∈ sf_tb := sf_mem (List.mem_of_getElem? (i := 933) (by decide +kernel)) rfl
theorem sf_m1015 : Cond.arrayClass FieldType.boolean ∈ sf_tb := sf_mem (List.mem_of_getElem? (i := 1015) (by decide +kernel)) rfl
theorem sf_m1016 : Cond.methodLink "StoveFavoursLaw" 17 (⟨"StoveFavoursModel", "feed", "(I)I"⟩ : MethodName) ∈ sf_tb := sf_mem (List.mem_of_getElem? (i := 1016) (by decide +kernel)) rfl
theorem sf_m1017 : Cond.instanceMethod (⟨"StoveFavoursModel", "feed", "(I)I"⟩ : MethodName) ∈ sf_tb := sf_mem (List.mem_of_getElem? (i := 1017) (by decide +kernel)) rfl
theorem sf_m1018 : Cond.selects "StoveFavoursModel" (⟨"StoveFavoursModel", "feed", "(I)I"⟩ : MethodName) (⟨"StoveFavoursModel", "feed", "(I)I"⟩ : MethodName) ∈ sf_tb := sf_mem (List.mem_of_getElem? (i := 1018) (by decide +kernel)) rfl
theorem sf_m1020 : Cond.constantLong "StoveFavoursModel" 84 (255 : Int64) ∈ sf_tb := sf_mem (List.mem_of_getElem? (i := 1020) (by decide +kernel)) rfl
theorem sf_m1021 : Cond.methodLink "StoveFavoursModel" 86 (⟨"StoveFavoursModel", "in", "(JJJ)Z"⟩ : MethodName) ∈ sf_tb := sf_mem (List.mem_of_getElem? (i := 1021) (by decide +kernel)) rfl
theorem sf_m1022 : Cond.static (⟨"StoveFavoursModel", "in", "(JJJ)Z"⟩ : MethodName) ∈ sf_tb := sf_mem (List.mem_of_getElem? (i := 1022) (by decide +kernel)) rfl
theorem sf_m1024 : Cond.constant "StoveFavoursModel" 90 (-1000000002 : Int32) ∈ sf_tb := sf_mem (List.mem_of_getElem? (i := 1024) (by decide +kernel)) rfl
theorem sf_m1025 : Cond.constant "StoveFavoursModel" 94 (-1000000004 : Int32) ∈ sf_tb := sf_mem (List.mem_of_getElem? (i := 1025) (by decide +kernel)) rfl
theorem sf_m1026 : Cond.methodLink "StoveFavoursLaw" 22 (⟨"StoveFavoursModel", "house", "()I"⟩ : MethodName) ∈ sf_tb := sf_mem (List.mem_of_getElem? (i := 1026) (by decide +kernel)) rfl
theorem sf_m1027 : Cond.instanceMethod (⟨"StoveFavoursModel", "house", "()I"⟩ : MethodName) ∈ sf_tb := sf_mem (List.mem_of_getElem? (i := 1027) (by decide +kernel)) rfl
theorem sf_m1028 : Cond.selects "StoveFavoursModel" (⟨"StoveFavoursModel", "house", "()I"⟩ : MethodName) (⟨"StoveFavoursModel", "house", "()I"⟩ : MethodName) ∈ sf_tb := sf_mem (List.mem_of_getElem? (i := 1028) (by decide +kernel)) rfl
theorem sf_m1030 : Cond.methodLink "StoveFavoursModel" 149 (⟨"StoveFavoursModel", "reads", "()Z"⟩ : MethodName) ∈ sf_tb := sf_mem (List.mem_of_getElem? (i := 1030) (by decide +kernel)) rfl
theorem sf_m1032 : Cond.instanceMethod (⟨"StoveFavoursModel", "reads", "()Z"⟩ : MethodName) ∈ sf_tb := sf_mem (List.mem_of_getElem? (i := 1032) (by decide +kernel)) rfl
theorem sf_m1034 : Cond.methodLink "StoveFavoursModel" 109 (⟨"StoveFavoursModel", "skips", "()V"⟩ : MethodName) ∈ sf_tb := sf_mem (List.mem_of_getElem? (i := 1034) (by decide +kernel)) rfl
theorem sf_m1036 : Cond.instanceMethod (⟨"StoveFavoursModel", "skips", "()V"⟩ : MethodName) ∈ sf_tb := sf_mem (List.mem_of_getElem? (i := 1036) (by decide +kernel)) rfl
theorem sf_m1038 : Cond.methodLink "StoveFavoursModel" 98 (⟨"StoveFavoursModel", "isAt", "(II)Z"⟩ : MethodName) ∈ sf_tb := sf_mem (List.mem_of_getElem? (i := 1038) (by decide +kernel)) rfl
theorem sf_m1040 : Cond.instanceMethod (⟨"StoveFavoursModel", "isAt", "(II)Z"⟩ : MethodName) ∈ sf_tb := sf_mem (List.mem_of_getElem? (i := 1040) (by decide +kernel)) rfl
theorem sf_m1042 : Cond.methodLink "StoveFavoursModel" 140 (⟨"StoveFavoursModel", "readsPerson", "()Z"⟩ : MethodName) ∈ sf_tb := sf_mem (List.mem_of_getElem? (i := 1042) (by decide +kernel)) rfl
theorem sf_m1044 : Cond.instanceMethod (⟨"StoveFavoursModel", "readsPerson", "()Z"⟩ : MethodName) ∈ sf_tb := sf_mem (List.mem_of_getElem? (i := 1044) (by decide +kernel)) rfl
theorem sf_m1046 : Cond.methodLink "StoveFavoursModel" 112 (⟨"StoveFavoursModel", "fails", "(I)Z"⟩ : MethodName) ∈ sf_tb := sf_mem (List.mem_of_getElem? (i := 1046) (by decide +kernel)) rfl
theorem sf_m1048 : Cond.instanceMethod (⟨"StoveFavoursModel", "fails", "(I)Z"⟩ : MethodName) ∈ sf_tb := sf_mem (List.mem_of_getElem? (i := 1048) (by decide +kernel)) rfl
theorem sf_m1050 : Cond.methodLink "StoveFavoursModel" 126 (⟨"StoveFavoursModel", "row", "([IIII)Z"⟩ : MethodName) ∈ sf_tb := sf_mem (List.mem_of_getElem? (i := 1050) (by decide +kernel)) rfl
theorem sf_m1052 : Cond.instanceMethod (⟨"StoveFavoursModel", "row", "([IIII)Z"⟩ : MethodName) ∈ sf_tb := sf_mem (List.mem_of_getElem? (i := 1052) (by decide +kernel)) rfl
theorem sf_m1054 : Cond.methodLink "StoveFavoursModel" 120 (⟨"StoveFavoursModel", "number", "(II)Z"⟩ : MethodName) ∈ sf_tb := sf_mem (List.mem_of_getElem? (i := 1054) (by decide +kernel)) rfl
theorem sf_m1056 : Cond.instanceMethod (⟨"StoveFavoursModel", "number", "(II)Z"⟩ : MethodName) ∈ sf_tb := sf_mem (List.mem_of_getElem? (i := 1056) (by decide +kernel)) rfl
theorem sf_m1058 : Cond.constant "StoveFavoursModel" 119 (1000000 : Int32) ∈ sf_tb := sf_mem (List.mem_of_getElem? (i := 1058) (by decide +kernel)) rfl
theorem sf_m1059 : Cond.methodLink "StoveFavoursModel" 130 (⟨"StoveFavoursModel", "sign", "()Z"⟩ : MethodName) ∈ sf_tb := sf_mem (List.mem_of_getElem? (i := 1059) (by decide +kernel)) rfl
theorem sf_m1061 : Cond.instanceMethod (⟨"StoveFavoursModel", "sign", "()Z"⟩ : MethodName) ∈ sf_tb := sf_mem (List.mem_of_getElem? (i := 1061) (by decide +kernel)) rfl
theorem sf_m1063 : Cond.methodLink "StoveFavoursModel" 143 (⟨"StoveFavoursModel", "readsDoing", "()Z"⟩ : MethodName) ∈ sf_tb := sf_mem (List.mem_of_getElem? (i := 1063) (by decide +kernel)) rfl
theorem sf_m1065 : Cond.instanceMethod (⟨"StoveFavoursModel", "readsDoing", "()Z"⟩ : MethodName) ∈ sf_tb := sf_mem (List.mem_of_getElem? (i := 1065) (by decide +kernel)) rfl
theorem sf_m1067 : Cond.methodLink "StoveFavoursModel" 146 (⟨"StoveFavoursModel", "readsStove", "()Z"⟩ : MethodName) ∈ sf_tb := sf_mem (List.mem_of_getElem? (i := 1067) (by decide +kernel)) rfl
theorem sf_m1069 : Cond.instanceMethod (⟨"StoveFavoursModel", "readsStove", "()Z"⟩ : MethodName) ∈ sf_tb := sf_mem (List.mem_of_getElem? (i := 1069) (by decide +kernel)) rfl
theorem sf_m1071 : Cond.methodLink "StoveFavoursLaw" 26 (⟨"StoveFavoursModel", "fault", "()I"⟩ : MethodName) ∈ sf_tb := sf_mem (List.mem_of_getElem? (i := 1071) (by decide +kernel)) rfl
theorem sf_m1072 : Cond.instanceMethod (⟨"StoveFavoursModel", "fault", "()I"⟩ : MethodName) ∈ sf_tb := sf_mem (List.mem_of_getElem? (i := 1072) (by decide +kernel)) rfl
theorem sf_m1073 : Cond.selects "StoveFavoursModel" (⟨"StoveFavoursModel", "fault", "()I"⟩ : MethodName) (⟨"StoveFavoursModel", "fault", "()I"⟩ : MethodName) ∈ sf_tb := sf_mem (List.mem_of_getElem? (i := 1073) (by decide +kernel)) rfl
theorem sf_m1075 : Cond.methodLink "StoveFavoursLaw" 30 (⟨"StoveFavoursModel", "told", "(I)I"⟩ : MethodName) ∈ sf_tb := sf_mem (List.mem_of_getElem? (i := 1075) (by decide +kernel)) rfl
theorem sf_m1076 : Cond.instanceMethod (⟨"StoveFavoursModel", "told", "(I)I"⟩ : MethodName) ∈ sf_tb := sf_mem (List.mem_of_getElem? (i := 1076) (by decide +kernel)) rfl
theorem sf_m1077 : Cond.selects "StoveFavoursModel" (⟨"StoveFavoursModel", "told", "(I)I"⟩ : MethodName) (⟨"StoveFavoursModel", "told", "(I)I"⟩ : MethodName) ∈ sf_tb := sf_mem (List.mem_of_getElem? (i := 1077) (by decide +kernel)) rfl
theorem sf_m1079 : Cond.constantLong "StoveFavoursModel" 166 (9 : Int64) ∈ sf_tb := sf_mem (List.mem_of_getElem? (i := 1079) (by decide +kernel)) rfl
theorem sf_m1080 : Cond.methodLink "StoveFavoursLaw" 35 (⟨"StoveFavoursModel", "person", "(II)I"⟩ : MethodName) ∈ sf_tb := sf_mem (List.mem_of_getElem? (i := 1080) (by decide +kernel)) rfl
theorem sf_m1081 : Cond.instanceMethod (⟨"StoveFavoursModel", "person", "(II)I"⟩ : MethodName) ∈ sf_tb := sf_mem (List.mem_of_getElem? (i := 1081) (by decide +kernel)) rfl
theorem sf_m1082 : Cond.selects "StoveFavoursModel" (⟨"StoveFavoursModel", "person", "(II)I"⟩ : MethodName) (⟨"StoveFavoursModel", "person", "(II)I"⟩ : MethodName) ∈ sf_tb := sf_mem (List.mem_of_getElem? (i := 1082) (by decide +kernel)) rfl
theorem sf_m1084 : Cond.methodLink "StoveFavoursModel" 168 (⟨"StoveFavoursModel", "isPerson", "(I)Z"⟩ : MethodName) ∈ sf_tb := sf_mem (List.mem_of_getElem? (i := 1084) (by decide +kernel)) rfl
theorem sf_m1086 : Cond.instanceMethod (⟨"StoveFavoursModel", "isPerson", "(I)Z"⟩ : MethodName) ∈ sf_tb := sf_mem (List.mem_of_getElem? (i := 1086) (by decide +kernel)) rfl
theorem sf_m1088 : Cond.constant "StoveFavoursModel" 171 (-1000000001 : Int32) ∈ sf_tb := sf_mem (List.mem_of_getElem? (i := 1088) (by decide +kernel)) rfl
theorem sf_m1089 : Cond.constantLong "StoveFavoursModel" 172 (2 : Int64) ∈ sf_tb := sf_mem (List.mem_of_getElem? (i := 1089) (by decide +kernel)) rfl
theorem sf_m1090 : Cond.methodLink "StoveFavoursLaw" 39 (⟨"StoveFavoursModel", "doing", "(II)I"⟩ : MethodName) ∈ sf_tb := sf_mem (List.mem_of_getElem? (i := 1090) (by decide +kernel)) rfl
theorem sf_m1091 : Cond.instanceMethod (⟨"StoveFavoursModel", "doing", "(II)I"⟩ : MethodName) ∈ sf_tb := sf_mem (List.mem_of_getElem? (i := 1091) (by decide +kernel)) rfl
theorem sf_m1092 : Cond.selects "StoveFavoursModel" (⟨"StoveFavoursModel", "doing", "(II)I"⟩ : MethodName) (⟨"StoveFavoursModel", "doing", "(II)I"⟩ : MethodName) ∈ sf_tb := sf_mem (List.mem_of_getElem? (i := 1092) (by decide +kernel)) rfl
theorem sf_m1094 : Cond.methodLink "StoveFavoursModel" 174 (⟨"StoveFavoursModel", "isDoing", "(I)Z"⟩ : MethodName) ∈ sf_tb := sf_mem (List.mem_of_getElem? (i := 1094) (by decide +kernel)) rfl
theorem sf_m1095 : Cond.static (⟨"StoveFavoursModel", "isDoing", "(I)Z"⟩ : MethodName) ∈ sf_tb := sf_mem (List.mem_of_getElem? (i := 1095) (by decide +kernel)) rfl
theorem sf_m1097 : Cond.constantLong "StoveFavoursModel" 164 (5 : Int64) ∈ sf_tb := sf_mem (List.mem_of_getElem? (i := 1097) (by decide +kernel)) rfl
theorem sf_m1098 : Cond.methodLink "StoveFavoursLaw" 43 (⟨"StoveFavoursModel", "act", "(II)I"⟩ : MethodName) ∈ sf_tb := sf_mem (List.mem_of_getElem? (i := 1098) (by decide +kernel)) rfl
theorem sf_m1099 : Cond.instanceMethod (⟨"StoveFavoursModel", "act", "(II)I"⟩ : MethodName) ∈ sf_tb := sf_mem (List.mem_of_getElem? (i := 1099) (by decide +kernel)) rfl
theorem sf_m1100 : Cond.selects "StoveFavoursModel" (⟨"StoveFavoursModel", "act", "(II)I"⟩ : MethodName) (⟨"StoveFavoursModel", "act", "(II)I"⟩ : MethodName) ∈ sf_tb := sf_mem (List.mem_of_getElem? (i := 1100) (by decide +kernel)) rfl
theorem sf_m1102 : Cond.constant "StoveFavoursModel" 200 (-1000000003 : Int32) ∈ sf_tb := sf_mem (List.mem_of_getElem? (i := 1102) (by decide +kernel)) rfl
theorem sf_m1103 : Cond.constant "StoveFavoursModel" 201 (90000 : Int32) ∈ sf_tb := sf_mem (List.mem_of_getElem? (i := 1103) (by decide +kernel)) rfl
theorem sf_m1104 : Cond.methodLink "StoveFavoursModel" 202 (⟨"StoveFavoursModel", "does", "(II)V"⟩ : MethodName) ∈ sf_tb := sf_mem (List.mem_of_getElem? (i := 1104) (by decide +kernel)) rfl
theorem sf_m1106 : Cond.instanceMethod (⟨"StoveFavoursModel", "does", "(II)V"⟩ : MethodName) ∈ sf_tb := sf_mem (List.mem_of_getElem? (i := 1106) (by decide +kernel)) rfl
theorem sf_m1108 : Cond.methodLink "StoveFavoursModel" 187 (⟨"StoveFavoursModel", "keepsHour", "()V"⟩ : MethodName) ∈ sf_tb := sf_mem (List.mem_of_getElem? (i := 1108) (by decide +kernel)) rfl
theorem sf_m1110 : Cond.instanceMethod (⟨"StoveFavoursModel", "keepsHour", "()V"⟩ : MethodName) ∈ sf_tb := sf_mem (List.mem_of_getElem? (i := 1110) (by decide +kernel)) rfl
theorem sf_m1112 : Cond.methodLink "StoveFavoursModel" 190 (⟨"StoveFavoursModel", "take", "()V"⟩ : MethodName) ∈ sf_tb := sf_mem (List.mem_of_getElem? (i := 1112) (by decide +kernel)) rfl
theorem sf_m1114 : Cond.instanceMethod (⟨"StoveFavoursModel", "take", "()V"⟩ : MethodName) ∈ sf_tb := sf_mem (List.mem_of_getElem? (i := 1114) (by decide +kernel)) rfl
theorem sf_m1116 : Cond.methodLink "StoveFavoursModel" 193 (⟨"StoveFavoursModel", "doesIt", "(II)V"⟩ : MethodName) ∈ sf_tb := sf_mem (List.mem_of_getElem? (i := 1116) (by decide +kernel)) rfl
theorem sf_m1118 : Cond.instanceMethod (⟨"StoveFavoursModel", "doesIt", "(II)V"⟩ : MethodName) ∈ sf_tb := sf_mem (List.mem_of_getElem? (i := 1118) (by decide +kernel)) rfl
theorem sf_m1120 : Cond.methodLink "StoveFavoursModel" 177 (⟨"StoveFavoursModel", "likes", "(II)I"⟩ : MethodName) ∈ sf_tb := sf_mem (List.mem_of_getElem? (i := 1120) (by decide +kernel)) rfl
theorem sf_m1122 : Cond.instanceMethod (⟨"StoveFavoursModel", "likes", "(II)I"⟩ : MethodName) ∈ sf_tb := sf_mem (List.mem_of_getElem? (i := 1122) (by decide +kernel)) rfl
theorem sf_m1124 : Cond.methodLink "StoveFavoursModel" 197 (⟨"StoveFavoursModel", "goesBy", "()V"⟩ : MethodName) ∈ sf_tb := sf_mem (List.mem_of_getElem? (i := 1124) (by decide +kernel)) rfl
theorem sf_m1126 : Cond.instanceMethod (⟨"StoveFavoursModel", "goesBy", "()V"⟩ : MethodName) ∈ sf_tb := sf_mem (List.mem_of_getElem? (i := 1126) (by decide +kernel)) rfl
theorem sf_m1128 : Cond.methodLink "StoveFavoursModel" 181 (⟨"StoveFavoursModel", "lesser", "(II)I"⟩ : MethodName) ∈ sf_tb := sf_mem (List.mem_of_getElem? (i := 1128) (by decide +kernel)) rfl
theorem sf_m1129 : Cond.static (⟨"StoveFavoursModel", "lesser", "(II)I"⟩ : MethodName) ∈ sf_tb := sf_mem (List.mem_of_getElem? (i := 1129) (by decide +kernel)) rfl
theorem sf_m1131 : Cond.methodLink "StoveFavoursModel" 184 (⟨"StoveFavoursModel", "greater", "(II)I"⟩ : MethodName) ∈ sf_tb := sf_mem (List.mem_of_getElem? (i := 1131) (by decide +kernel)) rfl
theorem sf_m1132 : Cond.static (⟨"StoveFavoursModel", "greater", "(II)I"⟩ : MethodName) ∈ sf_tb := sf_mem (List.mem_of_getElem? (i := 1132) (by decide +kernel)) rfl
theorem sf_m1134 : Cond.methodLink "StoveFavoursLaw" 47 (⟨"StoveFavoursModel", "sit", "(I)I"⟩ : MethodName) ∈ sf_tb := sf_mem (List.mem_of_getElem? (i := 1134) (by decide +kernel)) rfl
theorem sf_m1135 : Cond.instanceMethod (⟨"StoveFavoursModel", "sit", "(I)I"⟩ : MethodName) ∈ sf_tb := sf_mem (List.mem_of_getElem? (i := 1135) (by decide +kernel)) rfl
theorem sf_m1136 : Cond.selects "StoveFavoursModel" (⟨"StoveFavoursModel", "sit", "(I)I"⟩ : MethodName) (⟨"StoveFavoursModel", "sit", "(I)I"⟩ : MethodName) ∈ sf_tb := sf_mem (List.mem_of_getElem? (i := 1136) (by decide +kernel)) rfl
theorem sf_m1138 : Cond.constantLong "StoveFavoursModel" 205 (99 : Int64) ∈ sf_tb := sf_mem (List.mem_of_getElem? (i := 1138) (by decide +kernel)) rfl
theorem sf_m1139 : Cond.methodLink "StoveFavoursLaw" 51 (⟨"StoveFavoursModel", "drift", "(I)I"⟩ : MethodName) ∈ sf_tb := sf_mem (List.mem_of_getElem? (i := 1139) (by decide +kernel)) rfl
theorem sf_m1140 : Cond.instanceMethod (⟨"StoveFavoursModel", "drift", "(I)I"⟩ : MethodName) ∈ sf_tb := sf_mem (List.mem_of_getElem? (i := 1140) (by decide +kernel)) rfl
theorem sf_m1141 : Cond.selects "StoveFavoursModel" (⟨"StoveFavoursModel", "drift", "(I)I"⟩ : MethodName) (⟨"StoveFavoursModel", "drift", "(I)I"⟩ : MethodName) ∈ sf_tb := sf_mem (List.mem_of_getElem? (i := 1141) (by decide +kernel)) rfl
theorem sf_m1143 : Cond.methodLink "StoveFavoursModel" 214 (⟨"StoveFavoursModel", "draws", "(I)I"⟩ : MethodName) ∈ sf_tb := sf_mem (List.mem_of_getElem? (i := 1143) (by decide +kernel)) rfl
theorem sf_m1145 : Cond.instanceMethod (⟨"StoveFavoursModel", "draws", "(I)I"⟩ : MethodName) ∈ sf_tb := sf_mem (List.mem_of_getElem? (i := 1145) (by decide +kernel)) rfl
theorem sf_m1147 : Cond.constantLong "StoveFavoursModel" 207 (1103515245 : Int64) ∈ sf_tb := sf_mem (List.mem_of_getElem? (i := 1147) (by decide +kernel)) rfl
theorem sf_m1148 : Cond.constantLong "StoveFavoursModel" 209 (12345 : Int64) ∈ sf_tb := sf_mem (List.mem_of_getElem? (i := 1148) (by decide +kernel)) rfl
theorem sf_m1149 : Cond.constantLong "StoveFavoursModel" 211 (2147483648 : Int64) ∈ sf_tb := sf_mem (List.mem_of_getElem? (i := 1149) (by decide +kernel)) rfl
theorem sf_m1150 : Cond.constant "StoveFavoursModel" 213 (65536 : Int32) ∈ sf_tb := sf_mem (List.mem_of_getElem? (i := 1150) (by decide +kernel)) rfl
theorem sf_m1151 : Cond.methodLink "StoveFavoursLaw" 55 (⟨"StoveFavoursModel", "stack", "(I)I"⟩ : MethodName) ∈ sf_tb := sf_mem (List.mem_of_getElem? (i := 1151) (by decide +kernel)) rfl
theorem sf_m1152 : Cond.instanceMethod (⟨"StoveFavoursModel", "stack", "(I)I"⟩ : MethodName) ∈ sf_tb := sf_mem (List.mem_of_getElem? (i := 1152) (by decide +kernel)) rfl
theorem sf_m1153 : Cond.selects "StoveFavoursModel" (⟨"StoveFavoursModel", "stack", "(I)I"⟩ : MethodName) (⟨"StoveFavoursModel", "stack", "(I)I"⟩ : MethodName) ∈ sf_tb := sf_mem (List.mem_of_getElem? (i := 1153) (by decide +kernel)) rfl
theorem sf_m1155 : Cond.constantLong "StoveFavoursModel" 218 (999 : Int64) ∈ sf_tb := sf_mem (List.mem_of_getElem? (i := 1155) (by decide +kernel)) rfl
theorem sf_m1156 : Cond.methodLink "StoveFavoursLaw" 59 (⟨"StoveFavoursModel", "law", "(II)I"⟩ : MethodName) ∈ sf_tb := sf_mem (List.mem_of_getElem? (i := 1156) (by decide +kernel)) rfl
theorem sf_m1157 : Cond.instanceMethod (⟨"StoveFavoursModel", "law", "(II)I"⟩ : MethodName) ∈ sf_tb := sf_mem (List.mem_of_getElem? (i := 1157) (by decide +kernel)) rfl
theorem sf_m1158 : Cond.selects "StoveFavoursModel" (⟨"StoveFavoursModel", "law", "(II)I"⟩ : MethodName) (⟨"StoveFavoursModel", "law", "(II)I"⟩ : MethodName) ∈ sf_tb := sf_mem (List.mem_of_getElem? (i := 1158) (by decide +kernel)) rfl
theorem sf_m1160 : Cond.constantLong "StoveFavoursModel" 220 (6 : Int64) ∈ sf_tb := sf_mem (List.mem_of_getElem? (i := 1160) (by decide +kernel)) rfl
theorem sf_m1161 : Cond.methodLink "StoveFavoursLaw" 63 (⟨"StoveFavoursModel", "undo", "(I)I"⟩ : MethodName) ∈ sf_tb := sf_mem (List.mem_of_getElem? (i := 1161) (by decide +kernel)) rfl
theorem sf_m1162 : Cond.instanceMethod (⟨"StoveFavoursModel", "undo", "(I)I"⟩ : MethodName) ∈ sf_tb := sf_mem (List.mem_of_getElem? (i := 1162) (by decide +kernel)) rfl
theorem sf_m1163 : Cond.selects "StoveFavoursModel" (⟨"StoveFavoursModel", "undo", "(I)I"⟩ : MethodName) (⟨"StoveFavoursModel", "undo", "(I)I"⟩ : MethodName) ∈ sf_tb := sf_mem (List.mem_of_getElem? (i := 1163) (by decide +kernel)) rfl
theorem sf_m1165 : Cond.constantLong "StoveFavoursModel" 222 (30 : Int64) ∈ sf_tb := sf_mem (List.mem_of_getElem? (i := 1165) (by decide +kernel)) rfl
theorem sf_m1166 : Cond.methodLink "StoveFavoursLaw" 67 (⟨"StoveFavoursModel", "freezes", "(I)I"⟩ : MethodName) ∈ sf_tb := sf_mem (List.mem_of_getElem? (i := 1166) (by decide +kernel)) rfl
theorem sf_m1167 : Cond.instanceMethod (⟨"StoveFavoursModel", "freezes", "(I)I"⟩ : MethodName) ∈ sf_tb := sf_mem (List.mem_of_getElem? (i := 1167) (by decide +kernel)) rfl
theorem sf_m1168 : Cond.selects "StoveFavoursModel" (⟨"StoveFavoursModel", "freezes", "(I)I"⟩ : MethodName) (⟨"StoveFavoursModel", "freezes", "(I)I"⟩ : MethodName) ∈ sf_tb := sf_mem (List.mem_of_getElem? (i := 1168) (by decide +kernel)) rfl
theorem sf_m1170 : Cond.methodLink "StoveFavoursModel" 224 (⟨"StoveFavoursModel", "frozenOne", "()I"⟩ : MethodName) ∈ sf_tb := sf_mem (List.mem_of_getElem? (i := 1170) (by decide +kernel)) rfl
theorem sf_m1172 : Cond.instanceMethod (⟨"StoveFavoursModel", "frozenOne", "()I"⟩ : MethodName) ∈ sf_tb := sf_mem (List.mem_of_getElem? (i := 1172) (by decide +kernel)) rfl
theorem sf_m1174 : Cond.methodLink "StoveFavoursLaw" 72 (⟨"StoveFavoursModel", "favour", "(III)I"⟩ : MethodName) ∈ sf_tb := sf_mem (List.mem_of_getElem? (i := 1174) (by decide +kernel)) rfl
theorem sf_m1175 : Cond.instanceMethod (⟨"StoveFavoursModel", "favour", "(III)I"⟩ : MethodName) ∈ sf_tb := sf_mem (List.mem_of_getElem? (i := 1175) (by decide +kernel)) rfl
theorem sf_m1176 : Cond.selects "StoveFavoursModel" (⟨"StoveFavoursModel", "favour", "(III)I"⟩ : MethodName) (⟨"StoveFavoursModel", "favour", "(III)I"⟩ : MethodName) ∈ sf_tb := sf_mem (List.mem_of_getElem? (i := 1176) (by decide +kernel)) rfl
theorem sf_m1178 : Cond.constantLong "StoveFavoursModel" 244 (3 : Int64) ∈ sf_tb := sf_mem (List.mem_of_getElem? (i := 1178) (by decide +kernel)) rfl
theorem sf_m1179 : Cond.methodLink "StoveFavoursModel" 246 (⟨"StoveFavoursModel", "rows", "(II)V"⟩ : MethodName) ∈ sf_tb := sf_mem (List.mem_of_getElem? (i := 1179) (by decide +kernel)) rfl
theorem sf_m1181 : Cond.instanceMethod (⟨"StoveFavoursModel", "rows", "(II)V"⟩ : MethodName) ∈ sf_tb := sf_mem (List.mem_of_getElem? (i := 1181) (by decide +kernel)) rfl
theorem sf_m1183 : Cond.methodLink "StoveFavoursModel" 228 (⟨"StoveFavoursModel", "lies", "(I)V"⟩ : MethodName) ∈ sf_tb := sf_mem (List.mem_of_getElem? (i := 1183) (by decide +kernel)) rfl
theorem sf_m1185 : Cond.instanceMethod (⟨"StoveFavoursModel", "lies", "(I)V"⟩ : MethodName) ∈ sf_tb := sf_mem (List.mem_of_getElem? (i := 1185) (by decide +kernel)) rfl
theorem sf_m1187 : Cond.methodLink "StoveFavoursModel" 238 (⟨"StoveFavoursModel", "stands", "(I)V"⟩ : MethodName) ∈ sf_tb := sf_mem (List.mem_of_getElem? (i := 1187) (by decide +kernel)) rfl
theorem sf_m1189 : Cond.instanceMethod (⟨"StoveFavoursModel", "stands", "(I)V"⟩ : MethodName) ∈ sf_tb := sf_mem (List.mem_of_getElem? (i := 1189) (by decide +kernel)) rfl
theorem sf_m1191 : Cond.methodLink "StoveFavoursModel" 241 (⟨"StoveFavoursModel", "keepsRow", "(II)V"⟩ : MethodName) ∈ sf_tb := sf_mem (List.mem_of_getElem? (i := 1191) (by decide +kernel)) rfl
theorem sf_m1193 : Cond.instanceMethod (⟨"StoveFavoursModel", "keepsRow", "(II)V"⟩ : MethodName) ∈ sf_tb := sf_mem (List.mem_of_getElem? (i := 1193) (by decide +kernel)) rfl
theorem sf_m1195 : Cond.methodLink "StoveFavoursModel" 249 (⟨"StoveFavoursModel", "tells", "(II)I"⟩ : MethodName) ∈ sf_tb := sf_mem (List.mem_of_getElem? (i := 1195) (by decide +kernel)) rfl
theorem sf_m1197 : Cond.instanceMethod (⟨"StoveFavoursModel", "tells", "(II)I"⟩ : MethodName) ∈ sf_tb := sf_mem (List.mem_of_getElem? (i := 1197) (by decide +kernel)) rfl
theorem sf_m1199 : Cond.methodLink "StoveFavoursLaw" 76 (⟨"StoveFavoursModel", "allWarm", "(II)I"⟩ : MethodName) ∈ sf_tb := sf_mem (List.mem_of_getElem? (i := 1199) (by decide +kernel)) rfl
theorem sf_m1200 : Cond.instanceMethod (⟨"StoveFavoursModel", "allWarm", "(II)I"⟩ : MethodName) ∈ sf_tb := sf_mem (List.mem_of_getElem? (i := 1200) (by decide +kernel)) rfl
theorem sf_m1201 : Cond.selects "StoveFavoursModel" (⟨"StoveFavoursModel", "allWarm", "(II)I"⟩ : MethodName) (⟨"StoveFavoursModel", "allWarm", "(II)I"⟩ : MethodName) ∈ sf_tb := sf_mem (List.mem_of_getElem? (i := 1201) (by decide +kernel)) rfl
theorem sf_m1203 : Cond.methodLink "StoveFavoursLaw" 81 (⟨"StoveFavoursModel", "duel", "(IIII)I"⟩ : MethodName) ∈ sf_tb := sf_mem (List.mem_of_getElem? (i := 1203) (by decide +kernel)) rfl
theorem sf_m1204 : Cond.instanceMethod (⟨"StoveFavoursModel", "duel", "(IIII)I"⟩ : MethodName) ∈ sf_tb := sf_mem (List.mem_of_getElem? (i := 1204) (by decide +kernel)) rfl
theorem sf_m1205 : Cond.selects "StoveFavoursModel" (⟨"StoveFavoursModel", "duel", "(IIII)I"⟩ : MethodName) (⟨"StoveFavoursModel", "duel", "(IIII)I"⟩ : MethodName) ∈ sf_tb := sf_mem (List.mem_of_getElem? (i := 1205) (by decide +kernel)) rfl
theorem sf_m1207 : Cond.constantLong "StoveFavoursModel" 252 (4 : Int64) ∈ sf_tb := sf_mem (List.mem_of_getElem? (i := 1207) (by decide +kernel)) rfl
theorem sf_m1208 : Cond.methodLink "StoveFavoursLaw" 85 (⟨"StoveFavoursModel", "forEver", "(I)I"⟩ : MethodName) ∈ sf_tb := sf_mem (List.mem_of_getElem? (i := 1208) (by decide +kernel)) rfl
theorem sf_m1209 : Cond.instanceMethod (⟨"StoveFavoursModel", "forEver", "(I)I"⟩ : MethodName) ∈ sf_tb := sf_mem (List.mem_of_getElem? (i := 1209) (by decide +kernel)) rfl
theorem sf_m1210 : Cond.selects "StoveFavoursModel" (⟨"StoveFavoursModel", "forEver", "(I)I"⟩ : MethodName) (⟨"StoveFavoursModel", "forEver", "(I)I"⟩ : MethodName) ∈ sf_tb := sf_mem (List.mem_of_getElem? (i := 1210) (by decide +kernel)) rfl
theorem sf_m1212 : Cond.methodLink "StoveFavoursModel" 266 (⟨"StoveFavoursModel", "turns", "()V"⟩ : MethodName) ∈ sf_tb := sf_mem (List.mem_of_getElem? (i := 1212) (by decide +kernel)) rfl
theorem sf_m1214 : Cond.instanceMethod (⟨"StoveFavoursModel", "turns", "()V"⟩ : MethodName) ∈ sf_tb := sf_mem (List.mem_of_getElem? (i := 1214) (by decide +kernel)) rfl
theorem sf_m1216 : Cond.methodLink "StoveFavoursModel" 254 (⟨"StoveFavoursModel", "ranksAt", "(I)V"⟩ : MethodName) ∈ sf_tb := sf_mem (List.mem_of_getElem? (i := 1216) (by decide +kernel)) rfl
theorem sf_m1218 : Cond.instanceMethod (⟨"StoveFavoursModel", "ranksAt", "(I)V"⟩ : MethodName) ∈ sf_tb := sf_mem (List.mem_of_getElem? (i := 1218) (by decide +kernel)) rfl
theorem sf_m1220 : Cond.methodLink "StoveFavoursModel" 263 (⟨"StoveFavoursModel", "areAlike", "(II)Z"⟩ : MethodName) ∈ sf_tb := sf_mem (List.mem_of_getElem? (i := 1220) (by decide +kernel)) rfl
theorem sf_m1222 : Cond.instanceMethod (⟨"StoveFavoursModel", "areAlike", "(II)Z"⟩ : MethodName) ∈ sf_tb := sf_mem (List.mem_of_getElem? (i := 1222) (by decide +kernel)) rfl
theorem sf_m1224 : Cond.methodLink "StoveFavoursModel" 269 (⟨"StoveFavoursModel", "hoursOf", "(I)I"⟩ : MethodName) ∈ sf_tb := sf_mem (List.mem_of_getElem? (i := 1224) (by decide +kernel)) rfl
theorem sf_m1226 : Cond.instanceMethod (⟨"StoveFavoursModel", "hoursOf", "(I)I"⟩ : MethodName) ∈ sf_tb := sf_mem (List.mem_of_getElem? (i := 1226) (by decide +kernel)) rfl
theorem sf_m1228 : Cond.methodLink "StoveFavoursLaw" 89 (⟨"StoveFavoursModel", "fair", "()I"⟩ : MethodName) ∈ sf_tb := sf_mem (List.mem_of_getElem? (i := 1228) (by decide +kernel)) rfl
theorem sf_m1229 : Cond.instanceMethod (⟨"StoveFavoursModel", "fair", "()I"⟩ : MethodName) ∈ sf_tb := sf_mem (List.mem_of_getElem? (i := 1229) (by decide +kernel)) rfl
theorem sf_m1230 : Cond.selects "StoveFavoursModel" (⟨"StoveFavoursModel", "fair", "()I"⟩ : MethodName) (⟨"StoveFavoursModel", "fair", "()I"⟩ : MethodName) ∈ sf_tb := sf_mem (List.mem_of_getElem? (i := 1230) (by decide +kernel)) rfl
theorem sf_m1232 : Cond.methodLink "StoveFavoursLaw" 93 (⟨"StoveFavoursModel", "left", "(II)I"⟩ : MethodName) ∈ sf_tb := sf_mem (List.mem_of_getElem? (i := 1232) (by decide +kernel)) rfl
theorem sf_m1233 : Cond.instanceMethod (⟨"StoveFavoursModel", "left", "(II)I"⟩ : MethodName) ∈ sf_tb := sf_mem (List.mem_of_getElem? (i := 1233) (by decide +kernel)) rfl
theorem sf_m1234 : Cond.selects "StoveFavoursModel" (⟨"StoveFavoursModel", "left", "(II)I"⟩ : MethodName) (⟨"StoveFavoursModel", "left", "(II)I"⟩ : MethodName) ∈ sf_tb := sf_mem (List.mem_of_getElem? (i := 1234) (by decide +kernel)) rfl
theorem sf_m1236 : Cond.methodLink "StoveFavoursLaw" 97 (⟨"StoveFavoursModel", "doers", "(I)I"⟩ : MethodName) ∈ sf_tb := sf_mem (List.mem_of_getElem? (i := 1236) (by decide +kernel)) rfl
theorem sf_m1237 : Cond.instanceMethod (⟨"StoveFavoursModel", "doers", "(I)I"⟩ : MethodName) ∈ sf_tb := sf_mem (List.mem_of_getElem? (i := 1237) (by decide +kernel)) rfl
theorem sf_m1238 : Cond.selects "StoveFavoursModel" (⟨"StoveFavoursModel", "doers", "(I)I"⟩ : MethodName) (⟨"StoveFavoursModel", "doers", "(I)I"⟩ : MethodName) ∈ sf_tb := sf_mem (List.mem_of_getElem? (i := 1238) (by decide +kernel)) rfl
theorem sf_m1240 : Cond.methodLink "StoveFavoursLaw" 101 (⟨"StoveFavoursModel", "chair", "(I)I"⟩ : MethodName) ∈ sf_tb := sf_mem (List.mem_of_getElem? (i := 1240) (by decide +kernel)) rfl
theorem sf_m1241 : Cond.instanceMethod (⟨"StoveFavoursModel", "chair", "(I)I"⟩ : MethodName) ∈ sf_tb := sf_mem (List.mem_of_getElem? (i := 1241) (by decide +kernel)) rfl
theorem sf_m1242 : Cond.selects "StoveFavoursModel" (⟨"StoveFavoursModel", "chair", "(I)I"⟩ : MethodName) (⟨"StoveFavoursModel", "chair", "(I)I"⟩ : MethodName) ∈ sf_tb := sf_mem (List.mem_of_getElem? (i := 1242) (by decide +kernel)) rfl
theorem sf_m1244 : Cond.methodLink "StoveFavoursLaw" 105 (⟨"StoveFavoursModel", "note", "(IIII)I"⟩ : MethodName) ∈ sf_tb := sf_mem (List.mem_of_getElem? (i := 1244) (by decide +kernel)) rfl
theorem sf_m1245 : Cond.instanceMethod (⟨"StoveFavoursModel", "note", "(IIII)I"⟩ : MethodName) ∈ sf_tb := sf_mem (List.mem_of_getElem? (i := 1245) (by decide +kernel)) rfl
theorem sf_m1246 : Cond.selects "StoveFavoursModel" (⟨"StoveFavoursModel", "note", "(IIII)I"⟩ : MethodName) (⟨"StoveFavoursModel", "note", "(IIII)I"⟩ : MethodName) ∈ sf_tb := sf_mem (List.mem_of_getElem? (i := 1246) (by decide +kernel)) rfl
theorem sf_m1248 : Cond.methodLink "StoveFavoursLaw" 109 (⟨"StoveFavoursModel", "laws", "(I)I"⟩ : MethodName) ∈ sf_tb := sf_mem (List.mem_of_getElem? (i := 1248) (by decide +kernel)) rfl
theorem sf_m1249 : Cond.instanceMethod (⟨"StoveFavoursModel", "laws", "(I)I"⟩ : MethodName) ∈ sf_tb := sf_mem (List.mem_of_getElem? (i := 1249) (by decide +kernel)) rfl
theorem sf_m1250 : Cond.selects "StoveFavoursModel" (⟨"StoveFavoursModel", "laws", "(I)I"⟩ : MethodName) (⟨"StoveFavoursModel", "laws", "(I)I"⟩ : MethodName) ∈ sf_tb := sf_mem (List.mem_of_getElem? (i := 1250) (by decide +kernel)) rfl
theorem sf_m1252 : Cond.methodLink "StoveFavoursModel" 272 (⟨"StoveFavoursModel", "lawsOf", "(I)I"⟩ : MethodName) ∈ sf_tb := sf_mem (List.mem_of_getElem? (i := 1252) (by decide +kernel)) rfl
theorem sf_m1254 : Cond.instanceMethod (⟨"StoveFavoursModel", "lawsOf", "(I)I"⟩ : MethodName) ∈ sf_tb := sf_mem (List.mem_of_getElem? (i := 1254) (by decide +kernel)) rfl
theorem sf_m1256 : Cond.methodLink "StoveFavoursLaw" 113 (⟨"StoveFavoursModel", "tryNext", "(I)I"⟩ : MethodName) ∈ sf_tb := sf_mem (List.mem_of_getElem? (i := 1256) (by decide +kernel)) rfl
theorem sf_m1257 : Cond.instanceMethod (⟨"StoveFavoursModel", "tryNext", "(I)I"⟩ : MethodName) ∈ sf_tb := sf_mem (List.mem_of_getElem? (i := 1257) (by decide +kernel)) rfl
theorem sf_m1258 : Cond.selects "StoveFavoursModel" (⟨"StoveFavoursModel", "tryNext", "(I)I"⟩ : MethodName) (⟨"StoveFavoursModel", "tryNext", "(I)I"⟩ : MethodName) ∈ sf_tb := sf_mem (List.mem_of_getElem? (i := 1258) (by decide +kernel)) rfl
theorem sf_m1260 : Cond.methodLink "StoveFavoursLaw" 117 (⟨"StoveFavoursModel", "write", "(II)I"⟩ : MethodName) ∈ sf_tb := sf_mem (List.mem_of_getElem? (i := 1260) (by decide +kernel)) rfl
theorem sf_m1261 : Cond.instanceMethod (⟨"StoveFavoursModel", "write", "(II)I"⟩ : MethodName) ∈ sf_tb := sf_mem (List.mem_of_getElem? (i := 1261) (by decide +kernel)) rfl
theorem sf_m1262 : Cond.selects "StoveFavoursModel" (⟨"StoveFavoursModel", "write", "(II)I"⟩ : MethodName) (⟨"StoveFavoursModel", "write", "(II)I"⟩ : MethodName) ∈ sf_tb := sf_mem (List.mem_of_getElem? (i := 1262) (by decide +kernel)) rfl
theorem sf_m1264 : Cond.methodLink "StoveFavoursLaw" 121 (⟨"StoveFavoursModel", "judge", "(I)I"⟩ : MethodName) ∈ sf_tb := sf_mem (List.mem_of_getElem? (i := 1264) (by decide +kernel)) rfl
theorem sf_m1265 : Cond.instanceMethod (⟨"StoveFavoursModel", "judge", "(I)I"⟩ : MethodName) ∈ sf_tb := sf_mem (List.mem_of_getElem? (i := 1265) (by decide +kernel)) rfl
theorem sf_m1266 : Cond.selects "StoveFavoursModel" (⟨"StoveFavoursModel", "judge", "(I)I"⟩ : MethodName) (⟨"StoveFavoursModel", "judge", "(I)I"⟩ : MethodName) ∈ sf_tb := sf_mem (List.mem_of_getElem? (i := 1266) (by decide +kernel)) rfl
theorem sf_m1268 : Cond.methodLink "StoveFavoursLaw" 125 (⟨"StoveFavoursModel", "tear", "()I"⟩ : MethodName) ∈ sf_tb := sf_mem (List.mem_of_getElem? (i := 1268) (by decide +kernel)) rfl
theorem sf_m1269 : Cond.instanceMethod (⟨"StoveFavoursModel", "tear", "()I"⟩ : MethodName) ∈ sf_tb := sf_mem (List.mem_of_getElem? (i := 1269) (by decide +kernel)) rfl
theorem sf_m1270 : Cond.selects "StoveFavoursModel" (⟨"StoveFavoursModel", "tear", "()I"⟩ : MethodName) (⟨"StoveFavoursModel", "tear", "()I"⟩ : MethodName) ∈ sf_tb := sf_mem (List.mem_of_getElem? (i := 1270) (by decide +kernel)) rfl
theorem sf_m1272 : Cond.methodLink "StoveFavoursLaw" 129 (⟨"StoveFavoursModel", "seed", "(I)I"⟩ : MethodName) ∈ sf_tb := sf_mem (List.mem_of_getElem? (i := 1272) (by decide +kernel)) rfl
theorem sf_m1273 : Cond.instanceMethod (⟨"StoveFavoursModel", "seed", "(I)I"⟩ : MethodName) ∈ sf_tb := sf_mem (List.mem_of_getElem? (i := 1273) (by decide +kernel)) rfl
theorem sf_m1274 : Cond.selects "StoveFavoursModel" (⟨"StoveFavoursModel", "seed", "(I)I"⟩ : MethodName) (⟨"StoveFavoursModel", "seed", "(I)I"⟩ : MethodName) ∈ sf_tb := sf_mem (List.mem_of_getElem? (i := 1274) (by decide +kernel)) rfl
theorem sf_m1276 : Cond.methodLink "StoveFavoursLaw" 133 (⟨"StoveFavoursModel", "keep", "(I)I"⟩ : MethodName) ∈ sf_tb := sf_mem (List.mem_of_getElem? (i := 1276) (by decide +kernel)) rfl
theorem sf_m1277 : Cond.instanceMethod (⟨"StoveFavoursModel", "keep", "(I)I"⟩ : MethodName) ∈ sf_tb := sf_mem (List.mem_of_getElem? (i := 1277) (by decide +kernel)) rfl
theorem sf_m1278 : Cond.selects "StoveFavoursModel" (⟨"StoveFavoursModel", "keep", "(I)I"⟩ : MethodName) (⟨"StoveFavoursModel", "keep", "(I)I"⟩ : MethodName) ∈ sf_tb := sf_mem (List.mem_of_getElem? (i := 1278) (by decide +kernel)) rfl
theorem sf_m1280 : Cond.methodLink "StoveFavoursLaw" 137 (⟨"StoveFavoursModel", "goBack", "(I)I"⟩ : MethodName) ∈ sf_tb := sf_mem (List.mem_of_getElem? (i := 1280) (by decide +kernel)) rfl
theorem sf_m1281 : Cond.instanceMethod (⟨"StoveFavoursModel", "goBack", "(I)I"⟩ : MethodName) ∈ sf_tb := sf_mem (List.mem_of_getElem? (i := 1281) (by decide +kernel)) rfl
theorem sf_m1282 : Cond.selects "StoveFavoursModel" (⟨"StoveFavoursModel", "goBack", "(I)I"⟩ : MethodName) (⟨"StoveFavoursModel", "goBack", "(I)I"⟩ : MethodName) ∈ sf_tb := sf_mem (List.mem_of_getElem? (i := 1282) (by decide +kernel)) rfl

/-! the words of the tables that are used, by their places; what each method is -/
-- by their places
theorem sf_m0 : Cond.selects "StoveFavours$Text" (⟨"StoveFavours$Text", "skipBlanks", "()V"⟩ : MethodName) (⟨"StoveFavours$Text", "skipBlanks", "()V"⟩ : MethodName) ∈ sf_tb := sf_mem (List.mem_of_getElem? (i := 0) (by decide +kernel)) rfl
theorem sf_m1 : Cond.selects "StoveFavours$Text" (⟨"StoveFavours$Text", "readClause", "()V"⟩ : MethodName) (⟨"StoveFavours$Text", "readClause", "()V"⟩ : MethodName) ∈ sf_tb := sf_mem (List.mem_of_getElem? (i := 1) (by decide +kernel)) rfl
theorem sf_m2 : Cond.selects "StoveFavours$Text" (⟨"StoveFavours$Text", "readPerson", "()V"⟩ : MethodName) (⟨"StoveFavours$Text", "readPerson", "()V"⟩ : MethodName) ∈ sf_tb := sf_mem (List.mem_of_getElem? (i := 2) (by decide +kernel)) rfl
theorem sf_m3 : Cond.selects "StoveFavours$Text" (⟨"StoveFavours$Text", "blame", "(II)V"⟩ : MethodName) (⟨"StoveFavours$Text", "blame", "(II)V"⟩ : MethodName) ∈ sf_tb := sf_mem (List.mem_of_getElem? (i := 3) (by decide +kernel)) rfl
theorem sf_m4 : Cond.selects "StoveFavours$Text" (⟨"StoveFavours$Text", "readNumber", "(II)I"⟩ : MethodName) (⟨"StoveFavours$Text", "readNumber", "(II)I"⟩ : MethodName) ∈ sf_tb := sf_mem (List.mem_of_getElem? (i := 4) (by decide +kernel)) rfl
theorem sf_m5 : Cond.selects "StoveFavours$Text" (⟨"StoveFavours$Text", "readEnd", "()V"⟩ : MethodName) (⟨"StoveFavours$Text", "readEnd", "()V"⟩ : MethodName) ∈ sf_tb := sf_mem (List.mem_of_getElem? (i := 5) (by decide +kernel)) rfl
theorem sf_m6 : Cond.selects "StoveFavours$Text" (⟨"StoveFavours$Text", "readDoing", "()V"⟩ : MethodName) (⟨"StoveFavours$Text", "readDoing", "()V"⟩ : MethodName) ∈ sf_tb := sf_mem (List.mem_of_getElem? (i := 6) (by decide +kernel)) rfl
theorem sf_m7 : Cond.selects "StoveFavours$Text" (⟨"StoveFavours$Text", "readStove", "()V"⟩ : MethodName) (⟨"StoveFavours$Text", "readStove", "()V"⟩ : MethodName) ∈ sf_tb := sf_mem (List.mem_of_getElem? (i := 7) (by decide +kernel)) rfl
theorem sf_m8 : Cond.selects "StoveFavours" (⟨"StoveFavours", "isPerson", "(I)Z"⟩ : MethodName) (⟨"StoveFavours", "isPerson", "(I)Z"⟩ : MethodName) ∈ sf_tb := sf_mem (List.mem_of_getElem? (i := 8) (by decide +kernel)) rfl
theorem sf_m9 : Cond.selects "StoveFavours" (⟨"StoveFavours", "spendHour", "(II)I"⟩ : MethodName) (⟨"StoveFavours", "spendHour", "(II)I"⟩ : MethodName) ∈ sf_tb := sf_mem (List.mem_of_getElem? (i := 9) (by decide +kernel)) rfl
theorem sf_m10 : Cond.selects "StoveFavours" (⟨"StoveFavours", "refusalOfHours", "(I)I"⟩ : MethodName) (⟨"StoveFavours", "refusalOfHours", "(I)I"⟩ : MethodName) ∈ sf_tb := sf_mem (List.mem_of_getElem? (i := 10) (by decide +kernel)) rfl
theorem sf_m11 : Cond.selects "StoveFavours" (⟨"StoveFavours", "driftHour", "()V"⟩ : MethodName) (⟨"StoveFavours", "driftHour", "()V"⟩ : MethodName) ∈ sf_tb := sf_mem (List.mem_of_getElem? (i := 11) (by decide +kernel)) rfl
theorem sf_m12 : Cond.selects "StoveFavours" (⟨"StoveFavours", "draw", "(I)I"⟩ : MethodName) (⟨"StoveFavours", "draw", "(I)I"⟩ : MethodName) ∈ sf_tb := sf_mem (List.mem_of_getElem? (i := 12) (by decide +kernel)) rfl
theorem sf_m13 : Cond.selects "StoveFavours" (⟨"StoveFavours", "hoursUndisturbed", "(I)I"⟩ : MethodName) (⟨"StoveFavours", "hoursUndisturbed", "(I)I"⟩ : MethodName) ∈ sf_tb := sf_mem (List.mem_of_getElem? (i := 13) (by decide +kernel)) rfl
theorem sf_m14 : Cond.selects "StoveFavours" (⟨"StoveFavours", "hoursInDraught", "(I)I"⟩ : MethodName) (⟨"StoveFavours", "hoursInDraught", "(I)I"⟩ : MethodName) ∈ sf_tb := sf_mem (List.mem_of_getElem? (i := 14) (by decide +kernel)) rfl
theorem sf_m15 : Cond.selects "StoveFavours$Planner" (⟨"StoveFavours$Planner", "search", "(LStoveFavours$Home;III)V"⟩ : MethodName) (⟨"StoveFavours$Planner", "search", "(LStoveFavours$Home;III)V"⟩ : MethodName) ∈ sf_tb := sf_mem (List.mem_of_getElem? (i := 15) (by decide +kernel)) rfl
theorem sf_m16 : Cond.selects "StoveFavours$Planner" (⟨"StoveFavours$Planner", "consider", "(LStoveFavours$Home;IIIII)V"⟩ : MethodName) (⟨"StoveFavours$Planner", "consider", "(LStoveFavours$Home;IIIII)V"⟩ : MethodName) ∈ sf_tb := sf_mem (List.mem_of_getElem? (i := 16) (by decide +kernel)) rfl
theorem sf_m17 : Cond.selects "StoveFavours$Planner" (⟨"StoveFavours$Planner", "isBetter", "(II)Z"⟩ : MethodName) (⟨"StoveFavours$Planner", "isBetter", "(II)Z"⟩ : MethodName) ∈ sf_tb := sf_mem (List.mem_of_getElem? (i := 17) (by decide +kernel)) rfl
theorem sf_m18 : Cond.selects "StoveFavours$Planner" (⟨"StoveFavours$Planner", "isAllowed", "(ILStoveFavours$Stove;I)Z"⟩ : MethodName) (⟨"StoveFavours$Planner", "isAllowed", "(ILStoveFavours$Stove;I)Z"⟩ : MethodName) ∈ sf_tb := sf_mem (List.mem_of_getElem? (i := 18) (by decide +kernel)) rfl
theorem sf_m19 : Cond.selects "StoveFavours$Contest" (⟨"StoveFavours$Contest", "playedOut", "(LStoveFavours$Home;I)I"⟩ : MethodName) (⟨"StoveFavours$Contest", "playedOut", "(LStoveFavours$Home;I)I"⟩ : MethodName) ∈ sf_tb := sf_mem (List.mem_of_getElem? (i := 19) (by decide +kernel)) rfl
theorem sf_m20 : Cond.selects "StoveFavours$Contest" (⟨"StoveFavours$Contest", "endOf", "(LStoveFavours$Home;II)I"⟩ : MethodName) (⟨"StoveFavours$Contest", "endOf", "(LStoveFavours$Home;II)I"⟩ : MethodName) ∈ sf_tb := sf_mem (List.mem_of_getElem? (i := 20) (by decide +kernel)) rfl
theorem sf_m21 : Cond.selects "StoveFavours$Rounds" (⟨"StoveFavours$Rounds", "standing", "(I)I"⟩ : MethodName) (⟨"StoveFavours$Rounds", "standing", "(I)I"⟩ : MethodName) ∈ sf_tb := sf_mem (List.mem_of_getElem? (i := 21) (by decide +kernel)) rfl
theorem sf_m22 : Cond.selects "StoveFavours$Rounds" (⟨"StoveFavours$Rounds", "goRound", "(ILStoveFavours$Book;)V"⟩ : MethodName) (⟨"StoveFavours$Rounds", "goRound", "(ILStoveFavours$Book;)V"⟩ : MethodName) ∈ sf_tb := sf_mem (List.mem_of_getElem? (i := 22) (by decide +kernel)) rfl
theorem sf_m23 : Cond.selects "StoveFavours$Rounds" (⟨"StoveFavours$Rounds", "roundsSinceLike", "(I)I"⟩ : MethodName) (⟨"StoveFavours$Rounds", "roundsSinceLike", "(I)I"⟩ : MethodName) ∈ sf_tb := sf_mem (List.mem_of_getElem? (i := 23) (by decide +kernel)) rfl
theorem sf_m24 : Cond.selects "StoveFavours$Notes" (⟨"StoveFavours$Notes", "fits", "(III)Z"⟩ : MethodName) (⟨"StoveFavours$Notes", "fits", "(III)Z"⟩ : MethodName) ∈ sf_tb := sf_mem (List.mem_of_getElem? (i := 24) (by decide +kernel)) rfl
theorem sf_m25 : Cond.selects "StoveFavours" (⟨"StoveFavours", "greatestPart", "(II)I"⟩ : MethodName) (⟨"StoveFavours", "greatestPart", "(II)I"⟩ : MethodName) ∈ sf_tb := sf_mem (List.mem_of_getElem? (i := 25) (by decide +kernel)) rfl
theorem sf_m26 : Cond.selects "StoveFavours" (⟨"StoveFavours", "firstUnpaid", "()I"⟩ : MethodName) (⟨"StoveFavours", "firstUnpaid", "()I"⟩ : MethodName) ∈ sf_tb := sf_mem (List.mem_of_getElem? (i := 26) (by decide +kernel)) rfl
theorem sf_m27 : Cond.selects "StoveFavoursModel" (⟨"StoveFavoursModel", "reads", "()Z"⟩ : MethodName) (⟨"StoveFavoursModel", "reads", "()Z"⟩ : MethodName) ∈ sf_tb := sf_mem (List.mem_of_getElem? (i := 27) (by decide +kernel)) rfl
theorem sf_m28 : Cond.selects "StoveFavoursModel" (⟨"StoveFavoursModel", "skips", "()V"⟩ : MethodName) (⟨"StoveFavoursModel", "skips", "()V"⟩ : MethodName) ∈ sf_tb := sf_mem (List.mem_of_getElem? (i := 28) (by decide +kernel)) rfl
theorem sf_m29 : Cond.selects "StoveFavoursModel" (⟨"StoveFavoursModel", "isAt", "(II)Z"⟩ : MethodName) (⟨"StoveFavoursModel", "isAt", "(II)Z"⟩ : MethodName) ∈ sf_tb := sf_mem (List.mem_of_getElem? (i := 29) (by decide +kernel)) rfl
theorem sf_m30 : Cond.selects "StoveFavoursModel" (⟨"StoveFavoursModel", "readsPerson", "()Z"⟩ : MethodName) (⟨"StoveFavoursModel", "readsPerson", "()Z"⟩ : MethodName) ∈ sf_tb := sf_mem (List.mem_of_getElem? (i := 30) (by decide +kernel)) rfl
theorem sf_m31 : Cond.selects "StoveFavoursModel" (⟨"StoveFavoursModel", "fails", "(I)Z"⟩ : MethodName) (⟨"StoveFavoursModel", "fails", "(I)Z"⟩ : MethodName) ∈ sf_tb := sf_mem (List.mem_of_getElem? (i := 31) (by decide +kernel)) rfl
theorem sf_m32 : Cond.selects "StoveFavoursModel" (⟨"StoveFavoursModel", "row", "([IIII)Z"⟩ : MethodName) (⟨"StoveFavoursModel", "row", "([IIII)Z"⟩ : MethodName) ∈ sf_tb := sf_mem (List.mem_of_getElem? (i := 32) (by decide +kernel)) rfl
theorem sf_m33 : Cond.selects "StoveFavoursModel" (⟨"StoveFavoursModel", "number", "(II)Z"⟩ : MethodName) (⟨"StoveFavoursModel", "number", "(II)Z"⟩ : MethodName) ∈ sf_tb := sf_mem (List.mem_of_getElem? (i := 33) (by decide +kernel)) rfl
theorem sf_m34 : Cond.selects "StoveFavoursModel" (⟨"StoveFavoursModel", "sign", "()Z"⟩ : MethodName) (⟨"StoveFavoursModel", "sign", "()Z"⟩ : MethodName) ∈ sf_tb := sf_mem (List.mem_of_getElem? (i := 34) (by decide +kernel)) rfl
theorem sf_m35 : Cond.selects "StoveFavoursModel" (⟨"StoveFavoursModel", "readsDoing", "()Z"⟩ : MethodName) (⟨"StoveFavoursModel", "readsDoing", "()Z"⟩ : MethodName) ∈ sf_tb := sf_mem (List.mem_of_getElem? (i := 35) (by decide +kernel)) rfl
theorem sf_m36 : Cond.selects "StoveFavoursModel" (⟨"StoveFavoursModel", "readsStove", "()Z"⟩ : MethodName) (⟨"StoveFavoursModel", "readsStove", "()Z"⟩ : MethodName) ∈ sf_tb := sf_mem (List.mem_of_getElem? (i := 36) (by decide +kernel)) rfl
theorem sf_m37 : Cond.selects "StoveFavoursModel" (⟨"StoveFavoursModel", "isPerson", "(I)Z"⟩ : MethodName) (⟨"StoveFavoursModel", "isPerson", "(I)Z"⟩ : MethodName) ∈ sf_tb := sf_mem (List.mem_of_getElem? (i := 37) (by decide +kernel)) rfl
theorem sf_m38 : Cond.selects "StoveFavoursModel" (⟨"StoveFavoursModel", "does", "(II)V"⟩ : MethodName) (⟨"StoveFavoursModel", "does", "(II)V"⟩ : MethodName) ∈ sf_tb := sf_mem (List.mem_of_getElem? (i := 38) (by decide +kernel)) rfl
theorem sf_m39 : Cond.selects "StoveFavoursModel" (⟨"StoveFavoursModel", "keepsHour", "()V"⟩ : MethodName) (⟨"StoveFavoursModel", "keepsHour", "()V"⟩ : MethodName) ∈ sf_tb := sf_mem (List.mem_of_getElem? (i := 39) (by decide +kernel)) rfl
theorem sf_m40 : Cond.selects "StoveFavoursModel" (⟨"StoveFavoursModel", "take", "()V"⟩ : MethodName) (⟨"StoveFavoursModel", "take", "()V"⟩ : MethodName) ∈ sf_tb := sf_mem (List.mem_of_getElem? (i := 40) (by decide +kernel)) rfl
theorem sf_m41 : Cond.selects "StoveFavoursModel" (⟨"StoveFavoursModel", "doesIt", "(II)V"⟩ : MethodName) (⟨"StoveFavoursModel", "doesIt", "(II)V"⟩ : MethodName) ∈ sf_tb := sf_mem (List.mem_of_getElem? (i := 41) (by decide +kernel)) rfl
theorem sf_m42 : Cond.selects "StoveFavoursModel" (⟨"StoveFavoursModel", "likes", "(II)I"⟩ : MethodName) (⟨"StoveFavoursModel", "likes", "(II)I"⟩ : MethodName) ∈ sf_tb := sf_mem (List.mem_of_getElem? (i := 42) (by decide +kernel)) rfl
theorem sf_m43 : Cond.selects "StoveFavoursModel" (⟨"StoveFavoursModel", "goesBy", "()V"⟩ : MethodName) (⟨"StoveFavoursModel", "goesBy", "()V"⟩ : MethodName) ∈ sf_tb := sf_mem (List.mem_of_getElem? (i := 43) (by decide +kernel)) rfl
theorem sf_m44 : Cond.selects "StoveFavoursModel" (⟨"StoveFavoursModel", "draws", "(I)I"⟩ : MethodName) (⟨"StoveFavoursModel", "draws", "(I)I"⟩ : MethodName) ∈ sf_tb := sf_mem (List.mem_of_getElem? (i := 44) (by decide +kernel)) rfl
theorem sf_m45 : Cond.selects "StoveFavoursModel" (⟨"StoveFavoursModel", "frozenOne", "()I"⟩ : MethodName) (⟨"StoveFavoursModel", "frozenOne", "()I"⟩ : MethodName) ∈ sf_tb := sf_mem (List.mem_of_getElem? (i := 45) (by decide +kernel)) rfl
theorem sf_m46 : Cond.selects "StoveFavoursModel" (⟨"StoveFavoursModel", "rows", "(II)V"⟩ : MethodName) (⟨"StoveFavoursModel", "rows", "(II)V"⟩ : MethodName) ∈ sf_tb := sf_mem (List.mem_of_getElem? (i := 46) (by decide +kernel)) rfl
theorem sf_m47 : Cond.selects "StoveFavoursModel" (⟨"StoveFavoursModel", "lies", "(I)V"⟩ : MethodName) (⟨"StoveFavoursModel", "lies", "(I)V"⟩ : MethodName) ∈ sf_tb := sf_mem (List.mem_of_getElem? (i := 47) (by decide +kernel)) rfl
theorem sf_m48 : Cond.selects "StoveFavoursModel" (⟨"StoveFavoursModel", "stands", "(I)V"⟩ : MethodName) (⟨"StoveFavoursModel", "stands", "(I)V"⟩ : MethodName) ∈ sf_tb := sf_mem (List.mem_of_getElem? (i := 48) (by decide +kernel)) rfl
theorem sf_m49 : Cond.selects "StoveFavoursModel" (⟨"StoveFavoursModel", "keepsRow", "(II)V"⟩ : MethodName) (⟨"StoveFavoursModel", "keepsRow", "(II)V"⟩ : MethodName) ∈ sf_tb := sf_mem (List.mem_of_getElem? (i := 49) (by decide +kernel)) rfl
theorem sf_m50 : Cond.selects "StoveFavoursModel" (⟨"StoveFavoursModel", "tells", "(II)I"⟩ : MethodName) (⟨"StoveFavoursModel", "tells", "(II)I"⟩ : MethodName) ∈ sf_tb := sf_mem (List.mem_of_getElem? (i := 50) (by decide +kernel)) rfl
theorem sf_m51 : Cond.selects "StoveFavoursModel" (⟨"StoveFavoursModel", "turns", "()V"⟩ : MethodName) (⟨"StoveFavoursModel", "turns", "()V"⟩ : MethodName) ∈ sf_tb := sf_mem (List.mem_of_getElem? (i := 51) (by decide +kernel)) rfl
theorem sf_m52 : Cond.selects "StoveFavoursModel" (⟨"StoveFavoursModel", "ranksAt", "(I)V"⟩ : MethodName) (⟨"StoveFavoursModel", "ranksAt", "(I)V"⟩ : MethodName) ∈ sf_tb := sf_mem (List.mem_of_getElem? (i := 52) (by decide +kernel)) rfl
theorem sf_m53 : Cond.selects "StoveFavoursModel" (⟨"StoveFavoursModel", "areAlike", "(II)Z"⟩ : MethodName) (⟨"StoveFavoursModel", "areAlike", "(II)Z"⟩ : MethodName) ∈ sf_tb := sf_mem (List.mem_of_getElem? (i := 53) (by decide +kernel)) rfl
theorem sf_m54 : Cond.selects "StoveFavoursModel" (⟨"StoveFavoursModel", "hoursOf", "(I)I"⟩ : MethodName) (⟨"StoveFavoursModel", "hoursOf", "(I)I"⟩ : MethodName) ∈ sf_tb := sf_mem (List.mem_of_getElem? (i := 54) (by decide +kernel)) rfl
theorem sf_m55 : Cond.selects "StoveFavoursModel" (⟨"StoveFavoursModel", "lawsOf", "(I)I"⟩ : MethodName) (⟨"StoveFavoursModel", "lawsOf", "(I)I"⟩ : MethodName) ∈ sf_tb := sf_mem (List.mem_of_getElem? (i := 55) (by decide +kernel)) rfl
theorem sf_m57 : Cond.initialized "StoveFavours" ∈ sf_tb := sf_mem (List.mem_of_getElem? (i := 57) (by decide +kernel)) rfl
theorem sf_m58 : Cond.initialized "StoveFavours$Text" ∈ sf_tb := sf_mem (List.mem_of_getElem? (i := 58) (by decide +kernel)) rfl
theorem sf_m59 : Cond.initialized "StoveFavours$Row" ∈ sf_tb := sf_mem (List.mem_of_getElem? (i := 59) (by decide +kernel)) rfl
theorem sf_m60 : Cond.initialized "java/lang/Math" ∈ sf_tb := sf_mem (List.mem_of_getElem? (i := 60) (by decide +kernel)) rfl
theorem sf_m61 : Cond.initialized "StoveFavours$Home" ∈ sf_tb := sf_mem (List.mem_of_getElem? (i := 61) (by decide +kernel)) rfl
theorem sf_m62 : Cond.initialized "StoveFavours$Stove" ∈ sf_tb := sf_mem (List.mem_of_getElem? (i := 62) (by decide +kernel)) rfl
theorem sf_m63 : Cond.initialized "StoveFavours$Past" ∈ sf_tb := sf_mem (List.mem_of_getElem? (i := 63) (by decide +kernel)) rfl
theorem sf_m64 : Cond.initialized "StoveFavours$Shelf" ∈ sf_tb := sf_mem (List.mem_of_getElem? (i := 64) (by decide +kernel)) rfl
theorem sf_m65 : Cond.initialized "StoveFavours$Notes" ∈ sf_tb := sf_mem (List.mem_of_getElem? (i := 65) (by decide +kernel)) rfl
theorem sf_m66 : Cond.initialized "StoveFavours$Book" ∈ sf_tb := sf_mem (List.mem_of_getElem? (i := 66) (by decide +kernel)) rfl
theorem sf_m67 : Cond.initialized "StoveFavours$Planner" ∈ sf_tb := sf_mem (List.mem_of_getElem? (i := 67) (by decide +kernel)) rfl
theorem sf_m68 : Cond.initialized "StoveFavours$Contest" ∈ sf_tb := sf_mem (List.mem_of_getElem? (i := 68) (by decide +kernel)) rfl
theorem sf_m69 : Cond.initialized "StoveFavours$Rounds" ∈ sf_tb := sf_mem (List.mem_of_getElem? (i := 69) (by decide +kernel)) rfl
theorem sf_m70 : Cond.initialized "StoveFavoursModel" ∈ sf_tb := sf_mem (List.mem_of_getElem? (i := 70) (by decide +kernel)) rfl
theorem sf_m71 : Cond.initialized "java/lang/Integer" ∈ sf_tb := sf_mem (List.mem_of_getElem? (i := 71) (by decide +kernel)) rfl
theorem sf_m72 : Cond.classLink "StoveFavoursLaw" 7 "StoveFavours" ∈ sf_tb := sf_mem (List.mem_of_getElem? (i := 72) (by decide +kernel)) rfl
theorem sf_m73 : Cond.instantiable "StoveFavours" 14 ∈ sf_tb := sf_mem (List.mem_of_getElem? (i := 73) (by decide +kernel)) rfl
theorem sf_m74 : Cond.methodLink "StoveFavoursLaw" 9 (⟨"StoveFavours", "<init>", "()V"⟩ : MethodName) ∈ sf_tb := sf_mem (List.mem_of_getElem? (i := 74) (by decide +kernel)) rfl
theorem sf_m75 : Cond.instanceMethod (⟨"StoveFavours", "<init>", "()V"⟩ : MethodName) ∈ sf_tb := sf_mem (List.mem_of_getElem? (i := 75) (by decide +kernel)) rfl
theorem sf_m77 : Cond.methodLink "StoveFavours" 1 (⟨"java/lang/Object", "<init>", "()V"⟩ : MethodName) ∈ sf_tb := sf_mem (List.mem_of_getElem? (i := 77) (by decide +kernel)) rfl
theorem sf_m78 : Cond.instanceMethod (⟨"java/lang/Object", "<init>", "()V"⟩ : MethodName) ∈ sf_tb := sf_mem (List.mem_of_getElem? (i := 78) (by decide +kernel)) rfl
theorem sf_m79 : Cond.code (⟨"java/lang/Object", "<init>", "()V"⟩ : MethodName) object_method_1_code 1 (Option.none : Option FieldType) ∈ sf_tb := sf_mem (List.mem_of_getElem? (i := 79) (by decide +kernel)) rfl
theorem sf_m80 : Cond.classLink "StoveFavours" 7 "StoveFavours$Text" ∈ sf_tb := sf_mem (List.mem_of_getElem? (i := 80) (by decide +kernel)) rfl
theorem sf_m81 : Cond.instantiable "StoveFavours$Text" 8 ∈ sf_tb := sf_mem (List.mem_of_getElem? (i := 81) (by decide +kernel)) rfl
theorem sf_m83 : Cond.instanceMethod (⟨"StoveFavours$Text", "<init>", "()V"⟩ : MethodName) ∈ sf_tb := sf_mem (List.mem_of_getElem? (i := 83) (by decide +kernel)) rfl
theorem sf_m85 : Cond.methodLink "StoveFavours$Text" 3 (⟨"java/lang/Object", "<init>", "()V"⟩ : MethodName) ∈ sf_tb := sf_mem (List.mem_of_getElem? (i := 85) (by decide +kernel)) rfl
theorem sf_m86 : Cond.classLink "StoveFavours$Text" 9 "StoveFavours$Row" ∈ sf_tb := sf_mem (List.mem_of_getElem? (i := 86) (by decide +kernel)) rfl
theorem sf_m87 : Cond.instantiable "StoveFavours$Row" 1 ∈ sf_tb := sf_mem (List.mem_of_getElem? (i := 87) (by decide +kernel)) rfl
theorem sf_m88 : Cond.methodLink "StoveFavours$Text" 11 (⟨"StoveFavours$Row", "<init>", "(I)V"⟩ : MethodName) ∈ sf_tb := sf_mem (List.mem_of_getElem? (i := 88) (by decide +kernel)) rfl
theorem sf_m89 : Cond.instanceMethod (⟨"StoveFavours$Row", "<init>", "(I)V"⟩ : MethodName) ∈ sf_tb := sf_mem (List.mem_of_getElem? (i := 89) (by decide +kernel)) rfl
theorem sf_m91 : Cond.methodLink "StoveFavours$Row" 1 (⟨"java/lang/Object", "<init>", "()V"⟩ : MethodName) ∈ sf_tb := sf_mem (List.mem_of_getElem? (i := 91) (by decide +kernel)) rfl
theorem sf_m92 : Cond.methodLink "StoveFavours$Row" 7 (⟨"java/lang/Math", "max", "(II)I"⟩ : MethodName) ∈ sf_tb := sf_mem (List.mem_of_getElem? (i := 92) (by decide +kernel)) rfl
theorem sf_m93 : Cond.static (⟨"java/lang/Math", "max", "(II)I"⟩ : MethodName) ∈ sf_tb := sf_mem (List.mem_of_getElem? (i := 93) (by decide +kernel)) rfl
theorem sf_m94 : Cond.code (⟨"java/lang/Math", "max", "(II)I"⟩ : MethodName) prog_16_method_65_code 2 (Option.some FieldType.int) ∈ sf_tb := sf_mem (List.mem_of_getElem? (i := 94) (by decide +kernel)) rfl
theorem sf_m95 : Cond.fieldLink "StoveFavours$Row" 13 "StoveFavours$Row" "cells" "[I" ∈ sf_tb := sf_mem (List.mem_of_getElem? (i := 95) (by decide +kernel)) rfl
theorem sf_m99 : Cond.arrayClass FieldType.int ∈ sf_tb := sf_mem (List.mem_of_getElem? (i := 99) (by decide +kernel)) rfl
theorem sf_m100 : Cond.classLink "StoveFavours$Text" 20 "StoveFavours$Home" ∈ sf_tb := sf_mem (List.mem_of_getElem? (i := 100) (by decide +kernel)) rfl
theorem sf_m101 : Cond.instantiable "StoveFavours$Home" 8 ∈ sf_tb := sf_mem (List.mem_of_getElem? (i := 101) (by decide +kernel)) rfl
theorem sf_m102 : Cond.methodLink "StoveFavours$Text" 22 (⟨"StoveFavours$Home", "<init>", "()V"⟩ : MethodName) ∈ sf_tb := sf_mem (List.mem_of_getElem? (i := 102) (by decide +kernel)) rfl
theorem sf_m103 : Cond.instanceMethod (⟨"StoveFavours$Home", "<init>", "()V"⟩ : MethodName) ∈ sf_tb := sf_mem (List.mem_of_getElem? (i := 103) (by decide +kernel)) rfl
theorem sf_m105 : Cond.methodLink "StoveFavours$Home" 3 (⟨"java/lang/Object", "<init>", "()V"⟩ : MethodName) ∈ sf_tb := sf_mem (List.mem_of_getElem? (i := 105) (by decide +kernel)) rfl
theorem sf_m106 : Cond.classLink "StoveFavours$Home" 9 "StoveFavours$Row" ∈ sf_tb := sf_mem (List.mem_of_getElem? (i := 106) (by decide +kernel)) rfl
theorem sf_m107 : Cond.methodLink "StoveFavours$Home" 11 (⟨"StoveFavours$Row", "<init>", "(I)V"⟩ : MethodName) ∈ sf_tb := sf_mem (List.mem_of_getElem? (i := 107) (by decide +kernel)) rfl
theorem sf_m108 : Cond.methodLink "StoveFavours$Home" 29 (⟨"StoveFavours$Home", "makeUntold", "()V"⟩ : MethodName) ∈ sf_tb := sf_mem (List.mem_of_getElem? (i := 108) (by decide +kernel)) rfl
theorem sf_m109 : Cond.instanceMethod (⟨"StoveFavours$Home", "makeUntold", "()V"⟩ : MethodName) ∈ sf_tb := sf_mem (List.mem_of_getElem? (i := 109) (by decide +kernel)) rfl
theorem sf_m110 : Cond.selects "StoveFavours$Home" (⟨"StoveFavours$Home", "makeUntold", "()V"⟩ : MethodName) (⟨"StoveFavours$Home", "makeUntold", "()V"⟩ : MethodName) ∈ sf_tb := sf_mem (List.mem_of_getElem? (i := 110) (by decide +kernel)) rfl
theorem sf_m112 : Cond.methodLink "StoveFavours$Home" 45 (⟨"StoveFavours$Row", "fill", "(I)V"⟩ : MethodName) ∈ sf_tb := sf_mem (List.mem_of_getElem? (i := 112) (by decide +kernel)) rfl
theorem sf_m113 : Cond.instanceMethod (⟨"StoveFavours$Row", "fill", "(I)V"⟩ : MethodName) ∈ sf_tb := sf_mem (List.mem_of_getElem? (i := 113) (by decide +kernel)) rfl
theorem sf_m114 : Cond.selects "StoveFavours$Row" (⟨"StoveFavours$Row", "fill", "(I)V"⟩ : MethodName) (⟨"StoveFavours$Row", "fill", "(I)V"⟩ : MethodName) ∈ sf_tb := sf_mem (List.mem_of_getElem? (i := 114) (by decide +kernel)) rfl
theorem sf_m116 : Cond.fieldLink "StoveFavours$Home" 14 "StoveFavours$Home" "warmth" "LStoveFavours$Row;" ∈ sf_tb := sf_mem (List.mem_of_getElem? (i := 116) (by decide +kernel)) rfl
theorem sf_m117 : Cond.fieldLink "StoveFavours$Stove" 36 "StoveFavours$Home" "warmth" "LStoveFavours$Row;" ∈ sf_tb := sf_mem (List.mem_of_getElem? (i := 117) (by decide +kernel)) rfl
theorem sf_m118 : Cond.fieldLink "StoveFavours$Text" 86 "StoveFavours$Home" "warmth" "LStoveFavours$Row;" ∈ sf_tb := sf_mem (List.mem_of_getElem? (i := 118) (by decide +kernel)) rfl
theorem sf_m119 : Cond.fieldLink "StoveFavours$Home" 20 "StoveFavours$Home" "colder" "LStoveFavours$Row;" ∈ sf_tb := sf_mem (List.mem_of_getElem? (i := 119) (by decide +kernel)) rfl
theorem sf_m120 : Cond.fieldLink "StoveFavours$Text" 89 "StoveFavours$Home" "colder" "LStoveFavours$Row;" ∈ sf_tb := sf_mem (List.mem_of_getElem? (i := 120) (by decide +kernel)) rfl
theorem sf_m121 : Cond.fieldLink "StoveFavours" 167 "StoveFavours$Home" "colder" "LStoveFavours$Row;" ∈ sf_tb := sf_mem (List.mem_of_getElem? (i := 121) (by decide +kernel)) rfl
theorem sf_m122 : Cond.fieldLink "StoveFavours$Stove" 89 "StoveFavours$Home" "colder" "LStoveFavours$Row;" ∈ sf_tb := sf_mem (List.mem_of_getElem? (i := 122) (by decide +kernel)) rfl
theorem sf_m123 : Cond.fieldLink "StoveFavours$Home" 23 "StoveFavours$Home" "costs" "LStoveFavours$Row;" ∈ sf_tb := sf_mem (List.mem_of_getElem? (i := 123) (by decide +kernel)) rfl
theorem sf_m124 : Cond.fieldLink "StoveFavours$Planner" 96 "StoveFavours$Home" "costs" "LStoveFavours$Row;" ∈ sf_tb := sf_mem (List.mem_of_getElem? (i := 124) (by decide +kernel)) rfl
theorem sf_m125 : Cond.fieldLink "StoveFavours$Text" 92 "StoveFavours$Home" "costs" "LStoveFavours$Row;" ∈ sf_tb := sf_mem (List.mem_of_getElem? (i := 125) (by decide +kernel)) rfl
theorem sf_m126 : Cond.fieldLink "StoveFavours$Stove" 70 "StoveFavours$Home" "costs" "LStoveFavours$Row;" ∈ sf_tb := sf_mem (List.mem_of_getElem? (i := 126) (by decide +kernel)) rfl
theorem sf_m127 : Cond.fieldLink "StoveFavours" 176 "StoveFavours$Home" "costs" "LStoveFavours$Row;" ∈ sf_tb := sf_mem (List.mem_of_getElem? (i := 127) (by decide +kernel)) rfl
theorem sf_m128 : Cond.fieldLink "StoveFavours$Home" 26 "StoveFavours$Home" "lawOf" "LStoveFavours$Row;" ∈ sf_tb := sf_mem (List.mem_of_getElem? (i := 128) (by decide +kernel)) rfl
theorem sf_m129 : Cond.fieldLink "StoveFavours$Stove" 46 "StoveFavours$Home" "lawOf" "LStoveFavours$Row;" ∈ sf_tb := sf_mem (List.mem_of_getElem? (i := 129) (by decide +kernel)) rfl
theorem sf_m130 : Cond.fieldLink "StoveFavours$Text" 95 "StoveFavours$Home" "lawOf" "LStoveFavours$Row;" ∈ sf_tb := sf_mem (List.mem_of_getElem? (i := 130) (by decide +kernel)) rfl
theorem sf_m131 : Cond.fieldLink "StoveFavours$Home" 32 "StoveFavours$Home" "people" "I" ∈ sf_tb := sf_mem (List.mem_of_getElem? (i := 131) (by decide +kernel)) rfl
theorem sf_m132 : Cond.fieldLink "StoveFavours$Stove" 47 "StoveFavours$Home" "people" "I" ∈ sf_tb := sf_mem (List.mem_of_getElem? (i := 132) (by decide +kernel)) rfl
theorem sf_m133 : Cond.fieldLink "StoveFavours" 135 "StoveFavours$Home" "people" "I" ∈ sf_tb := sf_mem (List.mem_of_getElem? (i := 133) (by decide +kernel)) rfl
theorem sf_m134 : Cond.fieldLink "StoveFavours$Contest" 53 "StoveFavours$Home" "people" "I" ∈ sf_tb := sf_mem (List.mem_of_getElem? (i := 134) (by decide +kernel)) rfl
theorem sf_m135 : Cond.fieldLink "StoveFavours$Planner" 76 "StoveFavours$Home" "people" "I" ∈ sf_tb := sf_mem (List.mem_of_getElem? (i := 135) (by decide +kernel)) rfl
theorem sf_m136 : Cond.fieldLink "StoveFavours$Text" 76 "StoveFavours$Home" "people" "I" ∈ sf_tb := sf_mem (List.mem_of_getElem? (i := 136) (by decide +kernel)) rfl
theorem sf_m137 : Cond.fieldLink "StoveFavours$Home" 36 "StoveFavours$Home" "liked" "I" ∈ sf_tb := sf_mem (List.mem_of_getElem? (i := 137) (by decide +kernel)) rfl
theorem sf_m138 : Cond.fieldLink "StoveFavours$Stove" 50 "StoveFavours$Home" "liked" "I" ∈ sf_tb := sf_mem (List.mem_of_getElem? (i := 138) (by decide +kernel)) rfl
theorem sf_m139 : Cond.fieldLink "StoveFavours$Text" 98 "StoveFavours$Home" "liked" "I" ∈ sf_tb := sf_mem (List.mem_of_getElem? (i := 139) (by decide +kernel)) rfl
theorem sf_m140 : Cond.fieldLink "StoveFavours$Home" 39 "StoveFavours$Home" "gain" "I" ∈ sf_tb := sf_mem (List.mem_of_getElem? (i := 140) (by decide +kernel)) rfl
theorem sf_m141 : Cond.fieldLink "StoveFavours" 150 "StoveFavours$Home" "gain" "I" ∈ sf_tb := sf_mem (List.mem_of_getElem? (i := 141) (by decide +kernel)) rfl
theorem sf_m142 : Cond.fieldLink "StoveFavours$Text" 101 "StoveFavours$Home" "gain" "I" ∈ sf_tb := sf_mem (List.mem_of_getElem? (i := 142) (by decide +kernel)) rfl
theorem sf_m143 : Cond.fieldLink "StoveFavours$Stove" 80 "StoveFavours$Home" "gain" "I" ∈ sf_tb := sf_mem (List.mem_of_getElem? (i := 143) (by decide +kernel)) rfl
theorem sf_m144 : Cond.fieldLink "StoveFavours$Home" 42 "StoveFavours$Home" "logs" "I" ∈ sf_tb := sf_mem (List.mem_of_getElem? (i := 144) (by decide +kernel)) rfl
theorem sf_m145 : Cond.fieldLink "StoveFavours$Stove" 53 "StoveFavours$Home" "logs" "I" ∈ sf_tb := sf_mem (List.mem_of_getElem? (i := 145) (by decide +kernel)) rfl
theorem sf_m146 : Cond.fieldLink "StoveFavours$Text" 104 "StoveFavours$Home" "logs" "I" ∈ sf_tb := sf_mem (List.mem_of_getElem? (i := 146) (by decide +kernel)) rfl
theorem sf_m164 : Cond.fieldLink "StoveFavours$Text" 14 "StoveFavours$Text" "letters" "LStoveFavours$Row;" ∈ sf_tb := sf_mem (List.mem_of_getElem? (i := 164) (by decide +kernel)) rfl
theorem sf_m165 : Cond.fieldLink "StoveFavours$Text" 23 "StoveFavours$Text" "draft" "LStoveFavours$Home;" ∈ sf_tb := sf_mem (List.mem_of_getElem? (i := 165) (by decide +kernel)) rfl
theorem sf_m166 : Cond.fieldLink "StoveFavours" 119 "StoveFavours$Text" "draft" "LStoveFavours$Home;" ∈ sf_tb := sf_mem (List.mem_of_getElem? (i := 166) (by decide +kernel)) rfl
theorem sf_m167 : Cond.fieldLink "StoveFavours$Text" 27 "StoveFavours$Text" "length" "I" ∈ sf_tb := sf_mem (List.mem_of_getElem? (i := 167) (by decide +kernel)) rfl
theorem sf_m168 : Cond.fieldLink "StoveFavours" 107 "StoveFavours$Text" "length" "I" ∈ sf_tb := sf_mem (List.mem_of_getElem? (i := 168) (by decide +kernel)) rfl
theorem sf_m169 : Cond.fieldLink "StoveFavours$Text" 31 "StoveFavours$Text" "faultPlace" "I" ∈ sf_tb := sf_mem (List.mem_of_getElem? (i := 169) (by decide +kernel)) rfl
theorem sf_m170 : Cond.fieldLink "StoveFavours" 138 "StoveFavours$Text" "faultPlace" "I" ∈ sf_tb := sf_mem (List.mem_of_getElem? (i := 170) (by decide +kernel)) rfl
theorem sf_m171 : Cond.fieldLink "StoveFavours$Text" 34 "StoveFavours$Text" "faultNumber" "I" ∈ sf_tb := sf_mem (List.mem_of_getElem? (i := 171) (by decide +kernel)) rfl
theorem sf_m172 : Cond.fieldLink "StoveFavours$Text" 37 "StoveFavours$Text" "place" "I" ∈ sf_tb := sf_mem (List.mem_of_getElem? (i := 172) (by decide +kernel)) rfl
theorem sf_m173 : Cond.fieldLink "StoveFavours$Text" 40 "StoveFavours$Text" "doingsTold" "I" ∈ sf_tb := sf_mem (List.mem_of_getElem? (i := 173) (by decide +kernel)) rfl
theorem sf_m174 : Cond.fieldLink "StoveFavours$Text" 43 "StoveFavours$Text" "stoveTold" "Z" ∈ sf_tb := sf_mem (List.mem_of_getElem? (i := 174) (by decide +kernel)) rfl
theorem sf_m192 : Cond.classLink "StoveFavours" 16 "StoveFavours$Home" ∈ sf_tb := sf_mem (List.mem_of_getElem? (i := 192) (by decide +kernel)) rfl
theorem sf_m193 : Cond.methodLink "StoveFavours" 18 (⟨"StoveFavours$Home", "<init>", "()V"⟩ : MethodName) ∈ sf_tb := sf_mem (List.mem_of_getElem? (i := 193) (by decide +kernel)) rfl
theorem sf_m194 : Cond.classLink "StoveFavours" 23 "StoveFavours$Stove" ∈ sf_tb := sf_mem (List.mem_of_getElem? (i := 194) (by decide +kernel)) rfl
theorem sf_m195 : Cond.instantiable "StoveFavours$Stove" 6 ∈ sf_tb := sf_mem (List.mem_of_getElem? (i := 195) (by decide +kernel)) rfl
theorem sf_m197 : Cond.instanceMethod (⟨"StoveFavours$Stove", "<init>", "()V"⟩ : MethodName) ∈ sf_tb := sf_mem (List.mem_of_getElem? (i := 197) (by decide +kernel)) rfl
theorem sf_m199 : Cond.methodLink "StoveFavours$Stove" 3 (⟨"java/lang/Object", "<init>", "()V"⟩ : MethodName) ∈ sf_tb := sf_mem (List.mem_of_getElem? (i := 199) (by decide +kernel)) rfl
theorem sf_m200 : Cond.classLink "StoveFavours$Stove" 9 "StoveFavours$Row" ∈ sf_tb := sf_mem (List.mem_of_getElem? (i := 200) (by decide +kernel)) rfl
theorem sf_m201 : Cond.methodLink "StoveFavours$Stove" 11 (⟨"StoveFavours$Row", "<init>", "(I)V"⟩ : MethodName) ∈ sf_tb := sf_mem (List.mem_of_getElem? (i := 201) (by decide +kernel)) rfl
theorem sf_m202 : Cond.fieldLink "StoveFavours$Stove" 14 "StoveFavours$Stove" "warmth" "LStoveFavours$Row;" ∈ sf_tb := sf_mem (List.mem_of_getElem? (i := 202) (by decide +kernel)) rfl
theorem sf_m203 : Cond.fieldLink "StoveFavours$Rounds" 44 "StoveFavours$Stove" "warmth" "LStoveFavours$Row;" ∈ sf_tb := sf_mem (List.mem_of_getElem? (i := 203) (by decide +kernel)) rfl
theorem sf_m204 : Cond.fieldLink "StoveFavours" 161 "StoveFavours$Stove" "warmth" "LStoveFavours$Row;" ∈ sf_tb := sf_mem (List.mem_of_getElem? (i := 204) (by decide +kernel)) rfl
theorem sf_m205 : Cond.fieldLink "StoveFavours$Stove" 20 "StoveFavours$Stove" "since" "LStoveFavours$Row;" ∈ sf_tb := sf_mem (List.mem_of_getElem? (i := 205) (by decide +kernel)) rfl
theorem sf_m206 : Cond.fieldLink "StoveFavours$Rounds" 89 "StoveFavours$Stove" "since" "LStoveFavours$Row;" ∈ sf_tb := sf_mem (List.mem_of_getElem? (i := 206) (by decide +kernel)) rfl
theorem sf_m207 : Cond.fieldLink "StoveFavours" 170 "StoveFavours$Stove" "since" "LStoveFavours$Row;" ∈ sf_tb := sf_mem (List.mem_of_getElem? (i := 207) (by decide +kernel)) rfl
theorem sf_m208 : Cond.fieldLink "StoveFavours$Stove" 23 "StoveFavours$Stove" "lawOf" "LStoveFavours$Row;" ∈ sf_tb := sf_mem (List.mem_of_getElem? (i := 208) (by decide +kernel)) rfl
theorem sf_m209 : Cond.fieldLink "StoveFavours" 179 "StoveFavours$Stove" "lawOf" "LStoveFavours$Row;" ∈ sf_tb := sf_mem (List.mem_of_getElem? (i := 209) (by decide +kernel)) rfl
theorem sf_m210 : Cond.fieldLink "StoveFavours$Stove" 26 "StoveFavours$Stove" "darling" "I" ∈ sf_tb := sf_mem (List.mem_of_getElem? (i := 210) (by decide +kernel)) rfl
theorem sf_m211 : Cond.fieldLink "StoveFavours$Contest" 50 "StoveFavours$Stove" "darling" "I" ∈ sf_tb := sf_mem (List.mem_of_getElem? (i := 211) (by decide +kernel)) rfl
theorem sf_m212 : Cond.fieldLink "StoveFavours$Rounds" 86 "StoveFavours$Stove" "darling" "I" ∈ sf_tb := sf_mem (List.mem_of_getElem? (i := 212) (by decide +kernel)) rfl
theorem sf_m213 : Cond.fieldLink "StoveFavours$Planner" 85 "StoveFavours$Stove" "darling" "I" ∈ sf_tb := sf_mem (List.mem_of_getElem? (i := 213) (by decide +kernel)) rfl
theorem sf_m214 : Cond.fieldLink "StoveFavours" 144 "StoveFavours$Stove" "darling" "I" ∈ sf_tb := sf_mem (List.mem_of_getElem? (i := 214) (by decide +kernel)) rfl
theorem sf_m215 : Cond.fieldLink "StoveFavours$Stove" 30 "StoveFavours$Stove" "logs" "I" ∈ sf_tb := sf_mem (List.mem_of_getElem? (i := 215) (by decide +kernel)) rfl
theorem sf_m216 : Cond.fieldLink "StoveFavours$Planner" 63 "StoveFavours$Stove" "logs" "I" ∈ sf_tb := sf_mem (List.mem_of_getElem? (i := 216) (by decide +kernel)) rfl
theorem sf_m217 : Cond.fieldLink "StoveFavours" 147 "StoveFavours$Stove" "logs" "I" ∈ sf_tb := sf_mem (List.mem_of_getElem? (i := 217) (by decide +kernel)) rfl
theorem sf_m218 : Cond.fieldLink "StoveFavours$Stove" 33 "StoveFavours$Stove" "hour" "I" ∈ sf_tb := sf_mem (List.mem_of_getElem? (i := 218) (by decide +kernel)) rfl
theorem sf_m219 : Cond.fieldLink "StoveFavours" 141 "StoveFavours$Stove" "hour" "I" ∈ sf_tb := sf_mem (List.mem_of_getElem? (i := 219) (by decide +kernel)) rfl
theorem sf_m233 : Cond.classLink "StoveFavours" 33 "StoveFavours$Past" ∈ sf_tb := sf_mem (List.mem_of_getElem? (i := 233) (by decide +kernel)) rfl
theorem sf_m234 : Cond.instantiable "StoveFavours$Past" 3 ∈ sf_tb := sf_mem (List.mem_of_getElem? (i := 234) (by decide +kernel)) rfl
theorem sf_m236 : Cond.instanceMethod (⟨"StoveFavours$Past", "<init>", "()V"⟩ : MethodName) ∈ sf_tb := sf_mem (List.mem_of_getElem? (i := 236) (by decide +kernel)) rfl
theorem sf_m238 : Cond.methodLink "StoveFavours$Past" 3 (⟨"java/lang/Object", "<init>", "()V"⟩ : MethodName) ∈ sf_tb := sf_mem (List.mem_of_getElem? (i := 238) (by decide +kernel)) rfl
theorem sf_m239 : Cond.classLink "StoveFavours$Past" 9 "StoveFavours$Shelf" ∈ sf_tb := sf_mem (List.mem_of_getElem? (i := 239) (by decide +kernel)) rfl
theorem sf_m240 : Cond.instantiable "StoveFavours$Shelf" 2 ∈ sf_tb := sf_mem (List.mem_of_getElem? (i := 240) (by decide +kernel)) rfl
theorem sf_m241 : Cond.methodLink "StoveFavours$Past" 11 (⟨"StoveFavours$Shelf", "<init>", "(I)V"⟩ : MethodName) ∈ sf_tb := sf_mem (List.mem_of_getElem? (i := 241) (by decide +kernel)) rfl
theorem sf_m242 : Cond.instanceMethod (⟨"StoveFavours$Shelf", "<init>", "(I)V"⟩ : MethodName) ∈ sf_tb := sf_mem (List.mem_of_getElem? (i := 242) (by decide +kernel)) rfl
theorem sf_m244 : Cond.methodLink "StoveFavours$Shelf" 1 (⟨"java/lang/Object", "<init>", "()V"⟩ : MethodName) ∈ sf_tb := sf_mem (List.mem_of_getElem? (i := 244) (by decide +kernel)) rfl
theorem sf_m245 : Cond.classLink "StoveFavours$Shelf" 7 "StoveFavours$Stove" ∈ sf_tb := sf_mem (List.mem_of_getElem? (i := 245) (by decide +kernel)) rfl
theorem sf_m247 : Cond.methodLink "StoveFavours$Shelf" 16 (⟨"java/lang/Math", "max", "(II)I"⟩ : MethodName) ∈ sf_tb := sf_mem (List.mem_of_getElem? (i := 247) (by decide +kernel)) rfl
theorem sf_m249 : Cond.fieldLink "StoveFavours$Shelf" 22 "StoveFavours$Shelf" "stoves" "[LStoveFavours$Stove;" ∈ sf_tb := sf_mem (List.mem_of_getElem? (i := 249) (by decide +kernel)) rfl
theorem sf_m250 : Cond.fieldLink "StoveFavours$Shelf" 10 "StoveFavours$Shelf" "spare" "LStoveFavours$Stove;" ∈ sf_tb := sf_mem (List.mem_of_getElem? (i := 250) (by decide +kernel)) rfl
theorem sf_m256 : Cond.fieldLink "StoveFavours$Past" 14 "StoveFavours$Past" "ring" "LStoveFavours$Shelf;" ∈ sf_tb := sf_mem (List.mem_of_getElem? (i := 256) (by decide +kernel)) rfl
theorem sf_m257 : Cond.fieldLink "StoveFavours$Past" 20 "StoveFavours$Past" "next" "I" ∈ sf_tb := sf_mem (List.mem_of_getElem? (i := 257) (by decide +kernel)) rfl
theorem sf_m258 : Cond.fieldLink "StoveFavours$Past" 24 "StoveFavours$Past" "count" "I" ∈ sf_tb := sf_mem (List.mem_of_getElem? (i := 258) (by decide +kernel)) rfl
theorem sf_m259 : Cond.fieldLink "StoveFavours" 125 "StoveFavours$Past" "count" "I" ∈ sf_tb := sf_mem (List.mem_of_getElem? (i := 259) (by decide +kernel)) rfl
theorem sf_m267 : Cond.classLink "StoveFavours" 40 "StoveFavours$Shelf" ∈ sf_tb := sf_mem (List.mem_of_getElem? (i := 267) (by decide +kernel)) rfl
theorem sf_m268 : Cond.methodLink "StoveFavours" 42 (⟨"StoveFavours$Shelf", "<init>", "(I)V"⟩ : MethodName) ∈ sf_tb := sf_mem (List.mem_of_getElem? (i := 268) (by decide +kernel)) rfl
theorem sf_m269 : Cond.classLink "StoveFavours" 49 "StoveFavours$Row" ∈ sf_tb := sf_mem (List.mem_of_getElem? (i := 269) (by decide +kernel)) rfl
theorem sf_m270 : Cond.methodLink "StoveFavours" 51 (⟨"StoveFavours$Row", "<init>", "(I)V"⟩ : MethodName) ∈ sf_tb := sf_mem (List.mem_of_getElem? (i := 270) (by decide +kernel)) rfl
theorem sf_m271 : Cond.classLink "StoveFavours" 59 "StoveFavours$Notes" ∈ sf_tb := sf_mem (List.mem_of_getElem? (i := 271) (by decide +kernel)) rfl
theorem sf_m272 : Cond.instantiable "StoveFavours$Notes" 5 ∈ sf_tb := sf_mem (List.mem_of_getElem? (i := 272) (by decide +kernel)) rfl
theorem sf_m274 : Cond.instanceMethod (⟨"StoveFavours$Notes", "<init>", "()V"⟩ : MethodName) ∈ sf_tb := sf_mem (List.mem_of_getElem? (i := 274) (by decide +kernel)) rfl
theorem sf_m276 : Cond.methodLink "StoveFavours$Notes" 3 (⟨"java/lang/Object", "<init>", "()V"⟩ : MethodName) ∈ sf_tb := sf_mem (List.mem_of_getElem? (i := 276) (by decide +kernel)) rfl
theorem sf_m277 : Cond.classLink "StoveFavours$Notes" 9 "StoveFavours$Row" ∈ sf_tb := sf_mem (List.mem_of_getElem? (i := 277) (by decide +kernel)) rfl
theorem sf_m278 : Cond.methodLink "StoveFavours$Notes" 11 (⟨"StoveFavours$Row", "<init>", "(I)V"⟩ : MethodName) ∈ sf_tb := sf_mem (List.mem_of_getElem? (i := 278) (by decide +kernel)) rfl
theorem sf_m279 : Cond.fieldLink "StoveFavours$Notes" 14 "StoveFavours$Notes" "doings" "LStoveFavours$Row;" ∈ sf_tb := sf_mem (List.mem_of_getElem? (i := 279) (by decide +kernel)) rfl
theorem sf_m280 : Cond.fieldLink "StoveFavours$Notes" 20 "StoveFavours$Notes" "doers" "LStoveFavours$Row;" ∈ sf_tb := sf_mem (List.mem_of_getElem? (i := 280) (by decide +kernel)) rfl
theorem sf_m281 : Cond.fieldLink "StoveFavours$Notes" 23 "StoveFavours$Notes" "were" "LStoveFavours$Row;" ∈ sf_tb := sf_mem (List.mem_of_getElem? (i := 281) (by decide +kernel)) rfl
theorem sf_m282 : Cond.fieldLink "StoveFavours$Notes" 26 "StoveFavours$Notes" "became" "LStoveFavours$Row;" ∈ sf_tb := sf_mem (List.mem_of_getElem? (i := 282) (by decide +kernel)) rfl
theorem sf_m283 : Cond.fieldLink "StoveFavours$Notes" 29 "StoveFavours$Notes" "count" "I" ∈ sf_tb := sf_mem (List.mem_of_getElem? (i := 283) (by decide +kernel)) rfl
theorem sf_m284 : Cond.fieldLink "StoveFavours" 131 "StoveFavours$Notes" "count" "I" ∈ sf_tb := sf_mem (List.mem_of_getElem? (i := 284) (by decide +kernel)) rfl
theorem sf_m296 : Cond.classLink "StoveFavours" 66 "StoveFavours$Book" ∈ sf_tb := sf_mem (List.mem_of_getElem? (i := 296) (by decide +kernel)) rfl
theorem sf_m297 : Cond.instantiable "StoveFavours$Book" 3 ∈ sf_tb := sf_mem (List.mem_of_getElem? (i := 297) (by decide +kernel)) rfl
theorem sf_m299 : Cond.instanceMethod (⟨"StoveFavours$Book", "<init>", "()V"⟩ : MethodName) ∈ sf_tb := sf_mem (List.mem_of_getElem? (i := 299) (by decide +kernel)) rfl
theorem sf_m301 : Cond.methodLink "StoveFavours$Book" 3 (⟨"java/lang/Object", "<init>", "()V"⟩ : MethodName) ∈ sf_tb := sf_mem (List.mem_of_getElem? (i := 301) (by decide +kernel)) rfl
theorem sf_m302 : Cond.classLink "StoveFavours$Book" 9 "StoveFavours$Row" ∈ sf_tb := sf_mem (List.mem_of_getElem? (i := 302) (by decide +kernel)) rfl
theorem sf_m303 : Cond.methodLink "StoveFavours$Book" 11 (⟨"StoveFavours$Row", "<init>", "(I)V"⟩ : MethodName) ∈ sf_tb := sf_mem (List.mem_of_getElem? (i := 303) (by decide +kernel)) rfl
theorem sf_m304 : Cond.fieldLink "StoveFavours$Book" 14 "StoveFavours$Book" "doings" "LStoveFavours$Row;" ∈ sf_tb := sf_mem (List.mem_of_getElem? (i := 304) (by decide +kernel)) rfl
theorem sf_m305 : Cond.fieldLink "StoveFavours$Rounds" 70 "StoveFavours$Book" "doings" "LStoveFavours$Row;" ∈ sf_tb := sf_mem (List.mem_of_getElem? (i := 305) (by decide +kernel)) rfl
theorem sf_m306 : Cond.fieldLink "StoveFavours" 295 "StoveFavours$Book" "doings" "LStoveFavours$Row;" ∈ sf_tb := sf_mem (List.mem_of_getElem? (i := 306) (by decide +kernel)) rfl
theorem sf_m307 : Cond.fieldLink "StoveFavours$Book" 20 "StoveFavours$Book" "doers" "LStoveFavours$Row;" ∈ sf_tb := sf_mem (List.mem_of_getElem? (i := 307) (by decide +kernel)) rfl
theorem sf_m308 : Cond.fieldLink "StoveFavours$Rounds" 76 "StoveFavours$Book" "doers" "LStoveFavours$Row;" ∈ sf_tb := sf_mem (List.mem_of_getElem? (i := 308) (by decide +kernel)) rfl
theorem sf_m309 : Cond.fieldLink "StoveFavours" 298 "StoveFavours$Book" "doers" "LStoveFavours$Row;" ∈ sf_tb := sf_mem (List.mem_of_getElem? (i := 309) (by decide +kernel)) rfl
theorem sf_m310 : Cond.fieldLink "StoveFavours$Book" 23 "StoveFavours$Book" "lines" "I" ∈ sf_tb := sf_mem (List.mem_of_getElem? (i := 310) (by decide +kernel)) rfl
theorem sf_m311 : Cond.fieldLink "StoveFavours$Rounds" 58 "StoveFavours$Book" "lines" "I" ∈ sf_tb := sf_mem (List.mem_of_getElem? (i := 311) (by decide +kernel)) rfl
theorem sf_m312 : Cond.fieldLink "StoveFavours" 132 "StoveFavours$Book" "lines" "I" ∈ sf_tb := sf_mem (List.mem_of_getElem? (i := 312) (by decide +kernel)) rfl
theorem sf_m320 : Cond.classLink "StoveFavours" 73 "StoveFavours$Planner" ∈ sf_tb := sf_mem (List.mem_of_getElem? (i := 320) (by decide +kernel)) rfl
theorem sf_m321 : Cond.instantiable "StoveFavours$Planner" 10 ∈ sf_tb := sf_mem (List.mem_of_getElem? (i := 321) (by decide +kernel)) rfl
theorem sf_m323 : Cond.instanceMethod (⟨"StoveFavours$Planner", "<init>", "()V"⟩ : MethodName) ∈ sf_tb := sf_mem (List.mem_of_getElem? (i := 323) (by decide +kernel)) rfl
theorem sf_m325 : Cond.methodLink "StoveFavours$Planner" 3 (⟨"java/lang/Object", "<init>", "()V"⟩ : MethodName) ∈ sf_tb := sf_mem (List.mem_of_getElem? (i := 325) (by decide +kernel)) rfl
theorem sf_m326 : Cond.classLink "StoveFavours$Planner" 9 "StoveFavours$Shelf" ∈ sf_tb := sf_mem (List.mem_of_getElem? (i := 326) (by decide +kernel)) rfl
theorem sf_m327 : Cond.methodLink "StoveFavours$Planner" 11 (⟨"StoveFavours$Shelf", "<init>", "(I)V"⟩ : MethodName) ∈ sf_tb := sf_mem (List.mem_of_getElem? (i := 327) (by decide +kernel)) rfl
theorem sf_m328 : Cond.classLink "StoveFavours$Planner" 20 "StoveFavours$Row" ∈ sf_tb := sf_mem (List.mem_of_getElem? (i := 328) (by decide +kernel)) rfl
theorem sf_m329 : Cond.methodLink "StoveFavours$Planner" 22 (⟨"StoveFavours$Row", "<init>", "(I)V"⟩ : MethodName) ∈ sf_tb := sf_mem (List.mem_of_getElem? (i := 329) (by decide +kernel)) rfl
theorem sf_m330 : Cond.fieldLink "StoveFavours$Planner" 14 "StoveFavours$Planner" "stoves" "LStoveFavours$Shelf;" ∈ sf_tb := sf_mem (List.mem_of_getElem? (i := 330) (by decide +kernel)) rfl
theorem sf_m331 : Cond.fieldLink "StoveFavours$Planner" 23 "StoveFavours$Planner" "row" "LStoveFavours$Row;" ∈ sf_tb := sf_mem (List.mem_of_getElem? (i := 331) (by decide +kernel)) rfl
theorem sf_m332 : Cond.fieldLink "StoveFavours$Planner" 27 "StoveFavours$Planner" "best" "LStoveFavours$Row;" ∈ sf_tb := sf_mem (List.mem_of_getElem? (i := 332) (by decide +kernel)) rfl
theorem sf_m333 : Cond.fieldLink "StoveFavours$Planner" 30 "StoveFavours$Planner" "cheapest" "LStoveFavours$Row;" ∈ sf_tb := sf_mem (List.mem_of_getElem? (i := 333) (by decide +kernel)) rfl
theorem sf_m334 : Cond.fieldLink "StoveFavours$Planner" 33 "StoveFavours$Planner" "hours" "I" ∈ sf_tb := sf_mem (List.mem_of_getElem? (i := 334) (by decide +kernel)) rfl
theorem sf_m335 : Cond.fieldLink "StoveFavours$Planner" 37 "StoveFavours$Planner" "wanted" "I" ∈ sf_tb := sf_mem (List.mem_of_getElem? (i := 335) (by decide +kernel)) rfl
theorem sf_m336 : Cond.fieldLink "StoveFavours$Planner" 40 "StoveFavours$Planner" "purse" "I" ∈ sf_tb := sf_mem (List.mem_of_getElem? (i := 336) (by decide +kernel)) rfl
theorem sf_m337 : Cond.fieldLink "StoveFavours$Planner" 43 "StoveFavours$Planner" "found" "Z" ∈ sf_tb := sf_mem (List.mem_of_getElem? (i := 337) (by decide +kernel)) rfl
theorem sf_m338 : Cond.fieldLink "StoveFavours$Planner" 47 "StoveFavours$Planner" "bestLogs" "I" ∈ sf_tb := sf_mem (List.mem_of_getElem? (i := 338) (by decide +kernel)) rfl
theorem sf_m339 : Cond.fieldLink "StoveFavours$Planner" 50 "StoveFavours$Planner" "bestDoings" "I" ∈ sf_tb := sf_mem (List.mem_of_getElem? (i := 339) (by decide +kernel)) rfl
theorem sf_m361 : Cond.classLink "StoveFavours" 80 "StoveFavours$Contest" ∈ sf_tb := sf_mem (List.mem_of_getElem? (i := 361) (by decide +kernel)) rfl
theorem sf_m362 : Cond.instantiable "StoveFavours$Contest" 6 ∈ sf_tb := sf_mem (List.mem_of_getElem? (i := 362) (by decide +kernel)) rfl
theorem sf_m364 : Cond.instanceMethod (⟨"StoveFavours$Contest", "<init>", "()V"⟩ : MethodName) ∈ sf_tb := sf_mem (List.mem_of_getElem? (i := 364) (by decide +kernel)) rfl
theorem sf_m366 : Cond.methodLink "StoveFavours$Contest" 3 (⟨"java/lang/Object", "<init>", "()V"⟩ : MethodName) ∈ sf_tb := sf_mem (List.mem_of_getElem? (i := 366) (by decide +kernel)) rfl
theorem sf_m367 : Cond.classLink "StoveFavours$Contest" 9 "StoveFavours$Shelf" ∈ sf_tb := sf_mem (List.mem_of_getElem? (i := 367) (by decide +kernel)) rfl
theorem sf_m368 : Cond.methodLink "StoveFavours$Contest" 11 (⟨"StoveFavours$Shelf", "<init>", "(I)V"⟩ : MethodName) ∈ sf_tb := sf_mem (List.mem_of_getElem? (i := 368) (by decide +kernel)) rfl
theorem sf_m369 : Cond.fieldLink "StoveFavours$Contest" 14 "StoveFavours$Contest" "stoves" "LStoveFavours$Shelf;" ∈ sf_tb := sf_mem (List.mem_of_getElem? (i := 369) (by decide +kernel)) rfl
theorem sf_m370 : Cond.fieldLink "StoveFavours$Contest" 20 "StoveFavours$Contest" "first" "I" ∈ sf_tb := sf_mem (List.mem_of_getElem? (i := 370) (by decide +kernel)) rfl
theorem sf_m371 : Cond.fieldLink "StoveFavours$Contest" 24 "StoveFavours$Contest" "other" "I" ∈ sf_tb := sf_mem (List.mem_of_getElem? (i := 371) (by decide +kernel)) rfl
theorem sf_m372 : Cond.fieldLink "StoveFavours$Contest" 27 "StoveFavours$Contest" "hours" "I" ∈ sf_tb := sf_mem (List.mem_of_getElem? (i := 372) (by decide +kernel)) rfl
theorem sf_m373 : Cond.fieldLink "StoveFavours$Contest" 30 "StoveFavours$Contest" "result" "I" ∈ sf_tb := sf_mem (List.mem_of_getElem? (i := 373) (by decide +kernel)) rfl
theorem sf_m374 : Cond.fieldLink "StoveFavours" 224 "StoveFavours$Contest" "result" "I" ∈ sf_tb := sf_mem (List.mem_of_getElem? (i := 374) (by decide +kernel)) rfl
theorem sf_m375 : Cond.fieldLink "StoveFavours$Contest" 33 "StoveFavours$Contest" "firstThing" "I" ∈ sf_tb := sf_mem (List.mem_of_getElem? (i := 375) (by decide +kernel)) rfl
theorem sf_m376 : Cond.fieldLink "StoveFavours" 227 "StoveFavours$Contest" "firstThing" "I" ∈ sf_tb := sf_mem (List.mem_of_getElem? (i := 376) (by decide +kernel)) rfl
theorem sf_m390 : Cond.classLink "StoveFavours" 87 "StoveFavours$Rounds" ∈ sf_tb := sf_mem (List.mem_of_getElem? (i := 390) (by decide +kernel)) rfl
theorem sf_m391 : Cond.instantiable "StoveFavours$Rounds" 6 ∈ sf_tb := sf_mem (List.mem_of_getElem? (i := 391) (by decide +kernel)) rfl
theorem sf_m393 : Cond.instanceMethod (⟨"StoveFavours$Rounds", "<init>", "()V"⟩ : MethodName) ∈ sf_tb := sf_mem (List.mem_of_getElem? (i := 393) (by decide +kernel)) rfl
theorem sf_m395 : Cond.methodLink "StoveFavours$Rounds" 3 (⟨"java/lang/Object", "<init>", "()V"⟩ : MethodName) ∈ sf_tb := sf_mem (List.mem_of_getElem? (i := 395) (by decide +kernel)) rfl
theorem sf_m396 : Cond.classLink "StoveFavours$Rounds" 9 "StoveFavours$Stove" ∈ sf_tb := sf_mem (List.mem_of_getElem? (i := 396) (by decide +kernel)) rfl
theorem sf_m398 : Cond.classLink "StoveFavours$Rounds" 18 "StoveFavours$Row" ∈ sf_tb := sf_mem (List.mem_of_getElem? (i := 398) (by decide +kernel)) rfl
theorem sf_m399 : Cond.methodLink "StoveFavours$Rounds" 20 (⟨"StoveFavours$Row", "<init>", "(I)V"⟩ : MethodName) ∈ sf_tb := sf_mem (List.mem_of_getElem? (i := 399) (by decide +kernel)) rfl
theorem sf_m400 : Cond.fieldLink "StoveFavours$Rounds" 12 "StoveFavours$Rounds" "stove" "LStoveFavours$Stove;" ∈ sf_tb := sf_mem (List.mem_of_getElem? (i := 400) (by decide +kernel)) rfl
theorem sf_m401 : Cond.fieldLink "StoveFavours$Rounds" 23 "StoveFavours$Rounds" "standings" "LStoveFavours$Row;" ∈ sf_tb := sf_mem (List.mem_of_getElem? (i := 401) (by decide +kernel)) rfl
theorem sf_m402 : Cond.fieldLink "StoveFavours$Rounds" 27 "StoveFavours$Rounds" "darlings" "LStoveFavours$Row;" ∈ sf_tb := sf_mem (List.mem_of_getElem? (i := 402) (by decide +kernel)) rfl
theorem sf_m403 : Cond.fieldLink "StoveFavours$Rounds" 30 "StoveFavours$Rounds" "hours" "I" ∈ sf_tb := sf_mem (List.mem_of_getElem? (i := 403) (by decide +kernel)) rfl
theorem sf_m404 : Cond.fieldLink "StoveFavours$Rounds" 34 "StoveFavours$Rounds" "lapHours" "I" ∈ sf_tb := sf_mem (List.mem_of_getElem? (i := 404) (by decide +kernel)) rfl
theorem sf_m405 : Cond.fieldLink "StoveFavours$Rounds" 37 "StoveFavours$Rounds" "lap" "I" ∈ sf_tb := sf_mem (List.mem_of_getElem? (i := 405) (by decide +kernel)) rfl
theorem sf_m406 : Cond.fieldLink "StoveFavours" 234 "StoveFavours$Rounds" "lap" "I" ∈ sf_tb := sf_mem (List.mem_of_getElem? (i := 406) (by decide +kernel)) rfl
theorem sf_m420 : Cond.methodLink "StoveFavours" 98 (⟨"StoveFavours$Stove", "moveInto", "(LStoveFavours$Home;)V"⟩ : MethodName) ∈ sf_tb := sf_mem (List.mem_of_getElem? (i := 420) (by decide +kernel)) rfl
theorem sf_m421 : Cond.instanceMethod (⟨"StoveFavours$Stove", "moveInto", "(LStoveFavours$Home;)V"⟩ : MethodName) ∈ sf_tb := sf_mem (List.mem_of_getElem? (i := 421) (by decide +kernel)) rfl
theorem sf_m422 : Cond.selects "StoveFavours$Stove" (⟨"StoveFavours$Stove", "moveInto", "(LStoveFavours$Home;)V"⟩ : MethodName) (⟨"StoveFavours$Stove", "moveInto", "(LStoveFavours$Home;)V"⟩ : MethodName) ∈ sf_tb := sf_mem (List.mem_of_getElem? (i := 422) (by decide +kernel)) rfl
theorem sf_m424 : Cond.methodLink "StoveFavours$Stove" 39 (⟨"StoveFavours$Row", "copyFrom", "(LStoveFavours$Row;)V"⟩ : MethodName) ∈ sf_tb := sf_mem (List.mem_of_getElem? (i := 424) (by decide +kernel)) rfl
theorem sf_m425 : Cond.instanceMethod (⟨"StoveFavours$Row", "copyFrom", "(LStoveFavours$Row;)V"⟩ : MethodName) ∈ sf_tb := sf_mem (List.mem_of_getElem? (i := 425) (by decide +kernel)) rfl
theorem sf_m426 : Cond.selects "StoveFavours$Row" (⟨"StoveFavours$Row", "copyFrom", "(LStoveFavours$Row;)V"⟩ : MethodName) (⟨"StoveFavours$Row", "copyFrom", "(LStoveFavours$Row;)V"⟩ : MethodName) ∈ sf_tb := sf_mem (List.mem_of_getElem? (i := 426) (by decide +kernel)) rfl
theorem sf_m428 : Cond.methodLink "StoveFavours$Stove" 43 (⟨"StoveFavours$Row", "fill", "(I)V"⟩ : MethodName) ∈ sf_tb := sf_mem (List.mem_of_getElem? (i := 428) (by decide +kernel)) rfl
theorem sf_m429 : Cond.fieldLink "StoveFavours" 10 "StoveFavours" "text" "LStoveFavours$Text;" ∈ sf_tb := sf_mem (List.mem_of_getElem? (i := 429) (by decide +kernel)) rfl
theorem sf_m430 : Cond.fieldLink "StoveFavours" 19 "StoveFavours" "home" "LStoveFavours$Home;" ∈ sf_tb := sf_mem (List.mem_of_getElem? (i := 430) (by decide +kernel)) rfl
theorem sf_m431 : Cond.fieldLink "StoveFavours" 26 "StoveFavours" "now" "LStoveFavours$Stove;" ∈ sf_tb := sf_mem (List.mem_of_getElem? (i := 431) (by decide +kernel)) rfl
theorem sf_m432 : Cond.fieldLink "StoveFavours" 30 "StoveFavours" "trial" "LStoveFavours$Stove;" ∈ sf_tb := sf_mem (List.mem_of_getElem? (i := 432) (by decide +kernel)) rfl
theorem sf_m433 : Cond.fieldLink "StoveFavours" 36 "StoveFavours" "past" "LStoveFavours$Past;" ∈ sf_tb := sf_mem (List.mem_of_getElem? (i := 433) (by decide +kernel)) rfl
theorem sf_m434 : Cond.fieldLink "StoveFavours" 45 "StoveFavours" "imageStoves" "LStoveFavours$Shelf;" ∈ sf_tb := sf_mem (List.mem_of_getElem? (i := 434) (by decide +kernel)) rfl
theorem sf_m435 : Cond.fieldLink "StoveFavours" 52 "StoveFavours" "imageSeeds" "LStoveFavours$Row;" ∈ sf_tb := sf_mem (List.mem_of_getElem? (i := 435) (by decide +kernel)) rfl
theorem sf_m436 : Cond.fieldLink "StoveFavours" 56 "StoveFavours" "imagesTaken" "LStoveFavours$Row;" ∈ sf_tb := sf_mem (List.mem_of_getElem? (i := 436) (by decide +kernel)) rfl
theorem sf_m437 : Cond.fieldLink "StoveFavours" 62 "StoveFavours" "notes" "LStoveFavours$Notes;" ∈ sf_tb := sf_mem (List.mem_of_getElem? (i := 437) (by decide +kernel)) rfl
theorem sf_m438 : Cond.fieldLink "StoveFavours" 69 "StoveFavours" "book" "LStoveFavours$Book;" ∈ sf_tb := sf_mem (List.mem_of_getElem? (i := 438) (by decide +kernel)) rfl
theorem sf_m439 : Cond.fieldLink "StoveFavours" 76 "StoveFavours" "planner" "LStoveFavours$Planner;" ∈ sf_tb := sf_mem (List.mem_of_getElem? (i := 439) (by decide +kernel)) rfl
theorem sf_m440 : Cond.fieldLink "StoveFavours" 83 "StoveFavours" "contest" "LStoveFavours$Contest;" ∈ sf_tb := sf_mem (List.mem_of_getElem? (i := 440) (by decide +kernel)) rfl
theorem sf_m441 : Cond.fieldLink "StoveFavours" 90 "StoveFavours" "rounds" "LStoveFavours$Rounds;" ∈ sf_tb := sf_mem (List.mem_of_getElem? (i := 441) (by decide +kernel)) rfl
theorem sf_m442 : Cond.fieldLink "StoveFavours" 94 "StoveFavours" "seedNow" "I" ∈ sf_tb := sf_mem (List.mem_of_getElem? (i := 442) (by decide +kernel)) rfl
theorem sf_m472 : Cond.methodLink "StoveFavoursLaw" 13 (⟨"StoveFavours", "feed", "(I)I"⟩ : MethodName) ∈ sf_tb := sf_mem (List.mem_of_getElem? (i := 472) (by decide +kernel)) rfl
theorem sf_m473 : Cond.instanceMethod (⟨"StoveFavours", "feed", "(I)I"⟩ : MethodName) ∈ sf_tb := sf_mem (List.mem_of_getElem? (i := 473) (by decide +kernel)) rfl
theorem sf_m474 : Cond.selects "StoveFavours" (⟨"StoveFavours", "feed", "(I)I"⟩ : MethodName) (⟨"StoveFavours", "feed", "(I)I"⟩ : MethodName) ∈ sf_tb := sf_mem (List.mem_of_getElem? (i := 474) (by decide +kernel)) rfl
theorem sf_m476 : Cond.methodLink "StoveFavours" 102 (⟨"StoveFavours", "within", "(III)Z"⟩ : MethodName) ∈ sf_tb := sf_mem (List.mem_of_getElem? (i := 476) (by decide +kernel)) rfl
theorem sf_m477 : Cond.static (⟨"StoveFavours", "within", "(III)Z"⟩ : MethodName) ∈ sf_tb := sf_mem (List.mem_of_getElem? (i := 477) (by decide +kernel)) rfl
theorem sf_m479 : Cond.constant "StoveFavours" 106 (-1000000002 : Int32) ∈ sf_tb := sf_mem (List.mem_of_getElem? (i := 479) (by decide +kernel)) rfl
theorem sf_m480 : Cond.constant "StoveFavours" 110 (-1000000004 : Int32) ∈ sf_tb := sf_mem (List.mem_of_getElem? (i := 480) (by decide +kernel)) rfl
theorem sf_m481 : Cond.methodLink "StoveFavours" 111 (⟨"StoveFavours$Text", "append", "(I)I"⟩ : MethodName) ∈ sf_tb := sf_mem (List.mem_of_getElem? (i := 481) (by decide +kernel)) rfl
theorem sf_m482 : Cond.instanceMethod (⟨"StoveFavours$Text", "append", "(I)I"⟩ : MethodName) ∈ sf_tb := sf_mem (List.mem_of_getElem? (i := 482) (by decide +kernel)) rfl
theorem sf_m483 : Cond.selects "StoveFavours$Text" (⟨"StoveFavours$Text", "append", "(I)I"⟩ : MethodName) (⟨"StoveFavours$Text", "append", "(I)I"⟩ : MethodName) ∈ sf_tb := sf_mem (List.mem_of_getElem? (i := 483) (by decide +kernel)) rfl
theorem sf_m485 : Cond.methodLink "StoveFavours$Text" 47 (⟨"StoveFavours$Row", "put", "(II)V"⟩ : MethodName) ∈ sf_tb := sf_mem (List.mem_of_getElem? (i := 485) (by decide +kernel)) rfl
theorem sf_m486 : Cond.instanceMethod (⟨"StoveFavours$Row", "put", "(II)V"⟩ : MethodName) ∈ sf_tb := sf_mem (List.mem_of_getElem? (i := 486) (by decide +kernel)) rfl
theorem sf_m487 : Cond.selects "StoveFavours$Row" (⟨"StoveFavours$Row", "put", "(II)V"⟩ : MethodName) (⟨"StoveFavours$Row", "put", "(II)V"⟩ : MethodName) ∈ sf_tb := sf_mem (List.mem_of_getElem? (i := 487) (by decide +kernel)) rfl
theorem sf_m489 : Cond.methodLink "StoveFavoursLaw" 18 (⟨"StoveFavours", "house", "()I"⟩ : MethodName) ∈ sf_tb := sf_mem (List.mem_of_getElem? (i := 489) (by decide +kernel)) rfl
theorem sf_m490 : Cond.instanceMethod (⟨"StoveFavours", "house", "()I"⟩ : MethodName) ∈ sf_tb := sf_mem (List.mem_of_getElem? (i := 490) (by decide +kernel)) rfl
theorem sf_m491 : Cond.selects "StoveFavours" (⟨"StoveFavours", "house", "()I"⟩ : MethodName) (⟨"StoveFavours", "house", "()I"⟩ : MethodName) ∈ sf_tb := sf_mem (List.mem_of_getElem? (i := 491) (by decide +kernel)) rfl
theorem sf_m493 : Cond.methodLink "StoveFavours" 115 (⟨"StoveFavours$Text", "read", "()I"⟩ : MethodName) ∈ sf_tb := sf_mem (List.mem_of_getElem? (i := 493) (by decide +kernel)) rfl
theorem sf_m494 : Cond.instanceMethod (⟨"StoveFavours$Text", "read", "()I"⟩ : MethodName) ∈ sf_tb := sf_mem (List.mem_of_getElem? (i := 494) (by decide +kernel)) rfl
theorem sf_m495 : Cond.selects "StoveFavours$Text" (⟨"StoveFavours$Text", "read", "()I"⟩ : MethodName) (⟨"StoveFavours$Text", "read", "()I"⟩ : MethodName) ∈ sf_tb := sf_mem (List.mem_of_getElem? (i := 495) (by decide +kernel)) rfl
theorem sf_m497 : Cond.methodLink "StoveFavours$Text" 51 (⟨"StoveFavours$Home", "makeUntold", "()V"⟩ : MethodName) ∈ sf_tb := sf_mem (List.mem_of_getElem? (i := 497) (by decide +kernel)) rfl
theorem sf_m498 : Cond.methodLink "StoveFavours$Text" 54 (⟨"StoveFavours$Text", "skipBlanks", "()V"⟩ : MethodName) ∈ sf_tb := sf_mem (List.mem_of_getElem? (i := 498) (by decide +kernel)) rfl
theorem sf_m500 : Cond.instanceMethod (⟨"StoveFavours$Text", "skipBlanks", "()V"⟩ : MethodName) ∈ sf_tb := sf_mem (List.mem_of_getElem? (i := 500) (by decide +kernel)) rfl
theorem sf_m502 : Cond.methodLink "StoveFavours$Text" 60 (⟨"StoveFavours$Row", "at", "(I)I"⟩ : MethodName) ∈ sf_tb := sf_mem (List.mem_of_getElem? (i := 502) (by decide +kernel)) rfl
theorem sf_m503 : Cond.instanceMethod (⟨"StoveFavours$Row", "at", "(I)I"⟩ : MethodName) ∈ sf_tb := sf_mem (List.mem_of_getElem? (i := 503) (by decide +kernel)) rfl
theorem sf_m504 : Cond.selects "StoveFavours$Row" (⟨"StoveFavours$Row", "at", "(I)I"⟩ : MethodName) (⟨"StoveFavours$Row", "at", "(I)I"⟩ : MethodName) ∈ sf_tb := sf_mem (List.mem_of_getElem? (i := 504) (by decide +kernel)) rfl
theorem sf_m506 : Cond.methodLink "StoveFavours$Text" 57 (⟨"StoveFavours$Text", "readClause", "()V"⟩ : MethodName) ∈ sf_tb := sf_mem (List.mem_of_getElem? (i := 506) (by decide +kernel)) rfl
theorem sf_m508 : Cond.instanceMethod (⟨"StoveFavours$Text", "readClause", "()V"⟩ : MethodName) ∈ sf_tb := sf_mem (List.mem_of_getElem? (i := 508) (by decide +kernel)) rfl
theorem sf_m510 : Cond.methodLink "StoveFavours$Text" 64 (⟨"StoveFavours$Text", "readPerson", "()V"⟩ : MethodName) ∈ sf_tb := sf_mem (List.mem_of_getElem? (i := 510) (by decide +kernel)) rfl
theorem sf_m512 : Cond.instanceMethod (⟨"StoveFavours$Text", "readPerson", "()V"⟩ : MethodName) ∈ sf_tb := sf_mem (List.mem_of_getElem? (i := 512) (by decide +kernel)) rfl
theorem sf_m514 : Cond.methodLink "StoveFavours$Text" 73 (⟨"StoveFavours$Text", "blame", "(II)V"⟩ : MethodName) ∈ sf_tb := sf_mem (List.mem_of_getElem? (i := 514) (by decide +kernel)) rfl
theorem sf_m516 : Cond.instanceMethod (⟨"StoveFavours$Text", "blame", "(II)V"⟩ : MethodName) ∈ sf_tb := sf_mem (List.mem_of_getElem? (i := 516) (by decide +kernel)) rfl
theorem sf_m518 : Cond.methodLink "StoveFavours$Text" 79 (⟨"StoveFavours$Text", "readNumber", "(II)I"⟩ : MethodName) ∈ sf_tb := sf_mem (List.mem_of_getElem? (i := 518) (by decide +kernel)) rfl
theorem sf_m520 : Cond.instanceMethod (⟨"StoveFavours$Text", "readNumber", "(II)I"⟩ : MethodName) ∈ sf_tb := sf_mem (List.mem_of_getElem? (i := 520) (by decide +kernel)) rfl
theorem sf_m522 : Cond.methodLink "StoveFavours$Text" 107 (⟨"StoveFavours$Text", "isFigure", "(I)Z"⟩ : MethodName) ∈ sf_tb := sf_mem (List.mem_of_getElem? (i := 522) (by decide +kernel)) rfl
theorem sf_m523 : Cond.static (⟨"StoveFavours$Text", "isFigure", "(I)Z"⟩ : MethodName) ∈ sf_tb := sf_mem (List.mem_of_getElem? (i := 523) (by decide +kernel)) rfl
theorem sf_m525 : Cond.methodLink "StoveFavours$Text" 83 (⟨"StoveFavours$Text", "readEnd", "()V"⟩ : MethodName) ∈ sf_tb := sf_mem (List.mem_of_getElem? (i := 525) (by decide +kernel)) rfl
theorem sf_m527 : Cond.instanceMethod (⟨"StoveFavours$Text", "readEnd", "()V"⟩ : MethodName) ∈ sf_tb := sf_mem (List.mem_of_getElem? (i := 527) (by decide +kernel)) rfl
theorem sf_m529 : Cond.methodLink "StoveFavours$Text" 67 (⟨"StoveFavours$Text", "readDoing", "()V"⟩ : MethodName) ∈ sf_tb := sf_mem (List.mem_of_getElem? (i := 529) (by decide +kernel)) rfl
theorem sf_m531 : Cond.instanceMethod (⟨"StoveFavours$Text", "readDoing", "()V"⟩ : MethodName) ∈ sf_tb := sf_mem (List.mem_of_getElem? (i := 531) (by decide +kernel)) rfl
theorem sf_m533 : Cond.methodLink "StoveFavours$Text" 70 (⟨"StoveFavours$Text", "readStove", "()V"⟩ : MethodName) ∈ sf_tb := sf_mem (List.mem_of_getElem? (i := 533) (by decide +kernel)) rfl
theorem sf_m535 : Cond.instanceMethod (⟨"StoveFavours$Text", "readStove", "()V"⟩ : MethodName) ∈ sf_tb := sf_mem (List.mem_of_getElem? (i := 535) (by decide +kernel)) rfl
theorem sf_m537 : Cond.methodLink "StoveFavours" 122 (⟨"StoveFavours$Home", "copyFrom", "(LStoveFavours$Home;)V"⟩ : MethodName) ∈ sf_tb := sf_mem (List.mem_of_getElem? (i := 537) (by decide +kernel)) rfl
theorem sf_m538 : Cond.instanceMethod (⟨"StoveFavours$Home", "copyFrom", "(LStoveFavours$Home;)V"⟩ : MethodName) ∈ sf_tb := sf_mem (List.mem_of_getElem? (i := 538) (by decide +kernel)) rfl
theorem sf_m539 : Cond.selects "StoveFavours$Home" (⟨"StoveFavours$Home", "copyFrom", "(LStoveFavours$Home;)V"⟩ : MethodName) (⟨"StoveFavours$Home", "copyFrom", "(LStoveFavours$Home;)V"⟩ : MethodName) ∈ sf_tb := sf_mem (List.mem_of_getElem? (i := 539) (by decide +kernel)) rfl
theorem sf_m541 : Cond.methodLink "StoveFavours$Home" 48 (⟨"StoveFavours$Row", "copyFrom", "(LStoveFavours$Row;)V"⟩ : MethodName) ∈ sf_tb := sf_mem (List.mem_of_getElem? (i := 541) (by decide +kernel)) rfl
theorem sf_m542 : Cond.methodLink "StoveFavours" 128 (⟨"StoveFavours$Row", "fill", "(I)V"⟩ : MethodName) ∈ sf_tb := sf_mem (List.mem_of_getElem? (i := 542) (by decide +kernel)) rfl
theorem sf_m543 : Cond.methodLink "StoveFavoursLaw" 23 (⟨"StoveFavours", "fault", "()I"⟩ : MethodName) ∈ sf_tb := sf_mem (List.mem_of_getElem? (i := 543) (by decide +kernel)) rfl
theorem sf_m544 : Cond.instanceMethod (⟨"StoveFavours", "fault", "()I"⟩ : MethodName) ∈ sf_tb := sf_mem (List.mem_of_getElem? (i := 544) (by decide +kernel)) rfl
theorem sf_m545 : Cond.selects "StoveFavours" (⟨"StoveFavours", "fault", "()I"⟩ : MethodName) (⟨"StoveFavours", "fault", "()I"⟩ : MethodName) ∈ sf_tb := sf_mem (List.mem_of_getElem? (i := 545) (by decide +kernel)) rfl
theorem sf_m547 : Cond.methodLink "StoveFavoursLaw" 27 (⟨"StoveFavours", "told", "(I)I"⟩ : MethodName) ∈ sf_tb := sf_mem (List.mem_of_getElem? (i := 547) (by decide +kernel)) rfl
theorem sf_m548 : Cond.instanceMethod (⟨"StoveFavours", "told", "(I)I"⟩ : MethodName) ∈ sf_tb := sf_mem (List.mem_of_getElem? (i := 548) (by decide +kernel)) rfl
theorem sf_m549 : Cond.selects "StoveFavours" (⟨"StoveFavours", "told", "(I)I"⟩ : MethodName) (⟨"StoveFavours", "told", "(I)I"⟩ : MethodName) ∈ sf_tb := sf_mem (List.mem_of_getElem? (i := 549) (by decide +kernel)) rfl
theorem sf_m551 : Cond.methodLink "StoveFavours" 153 (⟨"StoveFavours$Stove", "frozen", "(I)I"⟩ : MethodName) ∈ sf_tb := sf_mem (List.mem_of_getElem? (i := 551) (by decide +kernel)) rfl
theorem sf_m552 : Cond.instanceMethod (⟨"StoveFavours$Stove", "frozen", "(I)I"⟩ : MethodName) ∈ sf_tb := sf_mem (List.mem_of_getElem? (i := 552) (by decide +kernel)) rfl
theorem sf_m553 : Cond.selects "StoveFavours$Stove" (⟨"StoveFavours$Stove", "frozen", "(I)I"⟩ : MethodName) (⟨"StoveFavours$Stove", "frozen", "(I)I"⟩ : MethodName) ∈ sf_tb := sf_mem (List.mem_of_getElem? (i := 553) (by decide +kernel)) rfl
theorem sf_m555 : Cond.methodLink "StoveFavours$Stove" 54 (⟨"StoveFavours$Row", "at", "(I)I"⟩ : MethodName) ∈ sf_tb := sf_mem (List.mem_of_getElem? (i := 555) (by decide +kernel)) rfl
theorem sf_m556 : Cond.methodLink "StoveFavoursLaw" 31 (⟨"StoveFavours", "person", "(II)I"⟩ : MethodName) ∈ sf_tb := sf_mem (List.mem_of_getElem? (i := 556) (by decide +kernel)) rfl
theorem sf_m557 : Cond.instanceMethod (⟨"StoveFavours", "person", "(II)I"⟩ : MethodName) ∈ sf_tb := sf_mem (List.mem_of_getElem? (i := 557) (by decide +kernel)) rfl
theorem sf_m558 : Cond.selects "StoveFavours" (⟨"StoveFavours", "person", "(II)I"⟩ : MethodName) (⟨"StoveFavours", "person", "(II)I"⟩ : MethodName) ∈ sf_tb := sf_mem (List.mem_of_getElem? (i := 558) (by decide +kernel)) rfl
theorem sf_m560 : Cond.methodLink "StoveFavours" 156 (⟨"StoveFavours", "isPerson", "(I)Z"⟩ : MethodName) ∈ sf_tb := sf_mem (List.mem_of_getElem? (i := 560) (by decide +kernel)) rfl
theorem sf_m562 : Cond.instanceMethod (⟨"StoveFavours", "isPerson", "(I)Z"⟩ : MethodName) ∈ sf_tb := sf_mem (List.mem_of_getElem? (i := 562) (by decide +kernel)) rfl
theorem sf_m564 : Cond.constant "StoveFavours" 160 (-1000000001 : Int32) ∈ sf_tb := sf_mem (List.mem_of_getElem? (i := 564) (by decide +kernel)) rfl
theorem sf_m565 : Cond.methodLink "StoveFavours" 164 (⟨"StoveFavours$Row", "at", "(I)I"⟩ : MethodName) ∈ sf_tb := sf_mem (List.mem_of_getElem? (i := 565) (by decide +kernel)) rfl
theorem sf_m566 : Cond.methodLink "StoveFavoursLaw" 36 (⟨"StoveFavours", "doing", "(II)I"⟩ : MethodName) ∈ sf_tb := sf_mem (List.mem_of_getElem? (i := 566) (by decide +kernel)) rfl
theorem sf_m567 : Cond.instanceMethod (⟨"StoveFavours", "doing", "(II)I"⟩ : MethodName) ∈ sf_tb := sf_mem (List.mem_of_getElem? (i := 567) (by decide +kernel)) rfl
theorem sf_m568 : Cond.selects "StoveFavours" (⟨"StoveFavours", "doing", "(II)I"⟩ : MethodName) (⟨"StoveFavours", "doing", "(II)I"⟩ : MethodName) ∈ sf_tb := sf_mem (List.mem_of_getElem? (i := 568) (by decide +kernel)) rfl
theorem sf_m570 : Cond.methodLink "StoveFavours" 173 (⟨"StoveFavours", "isDoing", "(I)Z"⟩ : MethodName) ∈ sf_tb := sf_mem (List.mem_of_getElem? (i := 570) (by decide +kernel)) rfl
theorem sf_m571 : Cond.static (⟨"StoveFavours", "isDoing", "(I)Z"⟩ : MethodName) ∈ sf_tb := sf_mem (List.mem_of_getElem? (i := 571) (by decide +kernel)) rfl
theorem sf_m573 : Cond.methodLink "StoveFavoursLaw" 40 (⟨"StoveFavours", "act", "(II)I"⟩ : MethodName) ∈ sf_tb := sf_mem (List.mem_of_getElem? (i := 573) (by decide +kernel)) rfl
theorem sf_m574 : Cond.instanceMethod (⟨"StoveFavours", "act", "(II)I"⟩ : MethodName) ∈ sf_tb := sf_mem (List.mem_of_getElem? (i := 574) (by decide +kernel)) rfl
theorem sf_m575 : Cond.selects "StoveFavours" (⟨"StoveFavours", "act", "(II)I"⟩ : MethodName) (⟨"StoveFavours", "act", "(II)I"⟩ : MethodName) ∈ sf_tb := sf_mem (List.mem_of_getElem? (i := 575) (by decide +kernel)) rfl
theorem sf_m577 : Cond.constant "StoveFavours" 182 (-1000000003 : Int32) ∈ sf_tb := sf_mem (List.mem_of_getElem? (i := 577) (by decide +kernel)) rfl
theorem sf_m578 : Cond.constant "StoveFavours" 183 (90000 : Int32) ∈ sf_tb := sf_mem (List.mem_of_getElem? (i := 578) (by decide +kernel)) rfl
theorem sf_m579 : Cond.methodLink "StoveFavours" 184 (⟨"StoveFavours", "spendHour", "(II)I"⟩ : MethodName) ∈ sf_tb := sf_mem (List.mem_of_getElem? (i := 579) (by decide +kernel)) rfl
theorem sf_m581 : Cond.instanceMethod (⟨"StoveFavours", "spendHour", "(II)I"⟩ : MethodName) ∈ sf_tb := sf_mem (List.mem_of_getElem? (i := 581) (by decide +kernel)) rfl
theorem sf_m583 : Cond.methodLink "StoveFavours" 272 (⟨"StoveFavours$Past", "take", "(LStoveFavours$Stove;)V"⟩ : MethodName) ∈ sf_tb := sf_mem (List.mem_of_getElem? (i := 583) (by decide +kernel)) rfl
theorem sf_m584 : Cond.instanceMethod (⟨"StoveFavours$Past", "take", "(LStoveFavours$Stove;)V"⟩ : MethodName) ∈ sf_tb := sf_mem (List.mem_of_getElem? (i := 584) (by decide +kernel)) rfl
theorem sf_m585 : Cond.selects "StoveFavours$Past" (⟨"StoveFavours$Past", "take", "(LStoveFavours$Stove;)V"⟩ : MethodName) (⟨"StoveFavours$Past", "take", "(LStoveFavours$Stove;)V"⟩ : MethodName) ∈ sf_tb := sf_mem (List.mem_of_getElem? (i := 585) (by decide +kernel)) rfl
theorem sf_m587 : Cond.methodLink "StoveFavours$Past" 27 (⟨"StoveFavours$Shelf", "at", "(I)LStoveFavours$Stove;"⟩ : MethodName) ∈ sf_tb := sf_mem (List.mem_of_getElem? (i := 587) (by decide +kernel)) rfl
theorem sf_m588 : Cond.instanceMethod (⟨"StoveFavours$Shelf", "at", "(I)LStoveFavours$Stove;"⟩ : MethodName) ∈ sf_tb := sf_mem (List.mem_of_getElem? (i := 588) (by decide +kernel)) rfl
theorem sf_m589 : Cond.selects "StoveFavours$Shelf" (⟨"StoveFavours$Shelf", "at", "(I)LStoveFavours$Stove;"⟩ : MethodName) (⟨"StoveFavours$Shelf", "at", "(I)LStoveFavours$Stove;"⟩ : MethodName) ∈ sf_tb := sf_mem (List.mem_of_getElem? (i := 589) (by decide +kernel)) rfl
theorem sf_m591 : Cond.methodLink "StoveFavours$Past" 31 (⟨"StoveFavours$Stove", "copyFrom", "(LStoveFavours$Stove;)V"⟩ : MethodName) ∈ sf_tb := sf_mem (List.mem_of_getElem? (i := 591) (by decide +kernel)) rfl
theorem sf_m592 : Cond.instanceMethod (⟨"StoveFavours$Stove", "copyFrom", "(LStoveFavours$Stove;)V"⟩ : MethodName) ∈ sf_tb := sf_mem (List.mem_of_getElem? (i := 592) (by decide +kernel)) rfl
theorem sf_m593 : Cond.selects "StoveFavours$Stove" (⟨"StoveFavours$Stove", "copyFrom", "(LStoveFavours$Stove;)V"⟩ : MethodName) (⟨"StoveFavours$Stove", "copyFrom", "(LStoveFavours$Stove;)V"⟩ : MethodName) ∈ sf_tb := sf_mem (List.mem_of_getElem? (i := 593) (by decide +kernel)) rfl
theorem sf_m595 : Cond.methodLink "StoveFavours$Past" 37 (⟨"java/lang/Math", "min", "(II)I"⟩ : MethodName) ∈ sf_tb := sf_mem (List.mem_of_getElem? (i := 595) (by decide +kernel)) rfl
theorem sf_m596 : Cond.static (⟨"java/lang/Math", "min", "(II)I"⟩ : MethodName) ∈ sf_tb := sf_mem (List.mem_of_getElem? (i := 596) (by decide +kernel)) rfl
theorem sf_m597 : Cond.code (⟨"java/lang/Math", "min", "(II)I"⟩ : MethodName) prog_16_method_69_code 2 (Option.some FieldType.int) ∈ sf_tb := sf_mem (List.mem_of_getElem? (i := 597) (by decide +kernel)) rfl
theorem sf_m598 : Cond.methodLink "StoveFavours" 275 (⟨"StoveFavours$Stove", "live", "(LStoveFavours$Home;II)V"⟩ : MethodName) ∈ sf_tb := sf_mem (List.mem_of_getElem? (i := 598) (by decide +kernel)) rfl
theorem sf_m599 : Cond.instanceMethod (⟨"StoveFavours$Stove", "live", "(LStoveFavours$Home;II)V"⟩ : MethodName) ∈ sf_tb := sf_mem (List.mem_of_getElem? (i := 599) (by decide +kernel)) rfl
theorem sf_m600 : Cond.selects "StoveFavours$Stove" (⟨"StoveFavours$Stove", "live", "(LStoveFavours$Home;II)V"⟩ : MethodName) (⟨"StoveFavours$Stove", "live", "(LStoveFavours$Home;II)V"⟩ : MethodName) ∈ sf_tb := sf_mem (List.mem_of_getElem? (i := 600) (by decide +kernel)) rfl
theorem sf_m602 : Cond.methodLink "StoveFavours$Stove" 66 (⟨"StoveFavours$Stove", "chosenBy", "(III)I"⟩ : MethodName) ∈ sf_tb := sf_mem (List.mem_of_getElem? (i := 602) (by decide +kernel)) rfl
theorem sf_m603 : Cond.instanceMethod (⟨"StoveFavours$Stove", "chosenBy", "(III)I"⟩ : MethodName) ∈ sf_tb := sf_mem (List.mem_of_getElem? (i := 603) (by decide +kernel)) rfl
theorem sf_m604 : Cond.selects "StoveFavours$Stove" (⟨"StoveFavours$Stove", "chosenBy", "(III)I"⟩ : MethodName) (⟨"StoveFavours$Stove", "chosenBy", "(III)I"⟩ : MethodName) ∈ sf_tb := sf_mem (List.mem_of_getElem? (i := 604) (by decide +kernel)) rfl
theorem sf_m606 : Cond.methodLink "StoveFavours$Stove" 58 (⟨"StoveFavours$Stove", "leastOf", "(LStoveFavours$Row;I)I"⟩ : MethodName) ∈ sf_tb := sf_mem (List.mem_of_getElem? (i := 606) (by decide +kernel)) rfl
theorem sf_m607 : Cond.static (⟨"StoveFavours$Stove", "leastOf", "(LStoveFavours$Row;I)I"⟩ : MethodName) ∈ sf_tb := sf_mem (List.mem_of_getElem? (i := 607) (by decide +kernel)) rfl
theorem sf_m609 : Cond.methodLink "StoveFavours$Stove" 62 (⟨"StoveFavours$Stove", "plainlyChosen", "(IIII)I"⟩ : MethodName) ∈ sf_tb := sf_mem (List.mem_of_getElem? (i := 609) (by decide +kernel)) rfl
theorem sf_m610 : Cond.static (⟨"StoveFavours$Stove", "plainlyChosen", "(IIII)I"⟩ : MethodName) ∈ sf_tb := sf_mem (List.mem_of_getElem? (i := 610) (by decide +kernel)) rfl
theorem sf_m612 : Cond.methodLink "StoveFavours$Stove" 73 (⟨"StoveFavours$Stove", "warmOnly", "(LStoveFavours$Home;I)V"⟩ : MethodName) ∈ sf_tb := sf_mem (List.mem_of_getElem? (i := 612) (by decide +kernel)) rfl
theorem sf_m613 : Cond.instanceMethod (⟨"StoveFavours$Stove", "warmOnly", "(LStoveFavours$Home;I)V"⟩ : MethodName) ∈ sf_tb := sf_mem (List.mem_of_getElem? (i := 613) (by decide +kernel)) rfl
theorem sf_m614 : Cond.selects "StoveFavours$Stove" (⟨"StoveFavours$Stove", "warmOnly", "(LStoveFavours$Home;I)V"⟩ : MethodName) (⟨"StoveFavours$Stove", "warmOnly", "(LStoveFavours$Home;I)V"⟩ : MethodName) ∈ sf_tb := sf_mem (List.mem_of_getElem? (i := 614) (by decide +kernel)) rfl
theorem sf_m616 : Cond.methodLink "StoveFavours$Stove" 77 (⟨"StoveFavours$Stove", "turnTo", "(I)V"⟩ : MethodName) ∈ sf_tb := sf_mem (List.mem_of_getElem? (i := 616) (by decide +kernel)) rfl
theorem sf_m617 : Cond.instanceMethod (⟨"StoveFavours$Stove", "turnTo", "(I)V"⟩ : MethodName) ∈ sf_tb := sf_mem (List.mem_of_getElem? (i := 617) (by decide +kernel)) rfl
theorem sf_m618 : Cond.selects "StoveFavours$Stove" (⟨"StoveFavours$Stove", "turnTo", "(I)V"⟩ : MethodName) (⟨"StoveFavours$Stove", "turnTo", "(I)V"⟩ : MethodName) ∈ sf_tb := sf_mem (List.mem_of_getElem? (i := 618) (by decide +kernel)) rfl
theorem sf_m620 : Cond.methodLink "StoveFavours$Stove" 95 (⟨"StoveFavours$Row", "put", "(II)V"⟩ : MethodName) ∈ sf_tb := sf_mem (List.mem_of_getElem? (i := 620) (by decide +kernel)) rfl
theorem sf_m621 : Cond.methodLink "StoveFavours$Stove" 83 (⟨"java/lang/Math", "min", "(II)I"⟩ : MethodName) ∈ sf_tb := sf_mem (List.mem_of_getElem? (i := 621) (by decide +kernel)) rfl
theorem sf_m622 : Cond.methodLink "StoveFavours$Stove" 92 (⟨"java/lang/Math", "max", "(II)I"⟩ : MethodName) ∈ sf_tb := sf_mem (List.mem_of_getElem? (i := 622) (by decide +kernel)) rfl
theorem sf_m623 : Cond.methodLink "StoveFavoursLaw" 44 (⟨"StoveFavours", "sit", "(I)I"⟩ : MethodName) ∈ sf_tb := sf_mem (List.mem_of_getElem? (i := 623) (by decide +kernel)) rfl
theorem sf_m624 : Cond.instanceMethod (⟨"StoveFavours", "sit", "(I)I"⟩ : MethodName) ∈ sf_tb := sf_mem (List.mem_of_getElem? (i := 624) (by decide +kernel)) rfl
theorem sf_m625 : Cond.selects "StoveFavours" (⟨"StoveFavours", "sit", "(I)I"⟩ : MethodName) (⟨"StoveFavours", "sit", "(I)I"⟩ : MethodName) ∈ sf_tb := sf_mem (List.mem_of_getElem? (i := 625) (by decide +kernel)) rfl
theorem sf_m627 : Cond.methodLink "StoveFavours" 188 (⟨"StoveFavours", "refusalOfHours", "(I)I"⟩ : MethodName) ∈ sf_tb := sf_mem (List.mem_of_getElem? (i := 627) (by decide +kernel)) rfl
theorem sf_m629 : Cond.instanceMethod (⟨"StoveFavours", "refusalOfHours", "(I)I"⟩ : MethodName) ∈ sf_tb := sf_mem (List.mem_of_getElem? (i := 629) (by decide +kernel)) rfl
theorem sf_m631 : Cond.methodLink "StoveFavoursLaw" 48 (⟨"StoveFavours", "drift", "(I)I"⟩ : MethodName) ∈ sf_tb := sf_mem (List.mem_of_getElem? (i := 631) (by decide +kernel)) rfl
theorem sf_m632 : Cond.instanceMethod (⟨"StoveFavours", "drift", "(I)I"⟩ : MethodName) ∈ sf_tb := sf_mem (List.mem_of_getElem? (i := 632) (by decide +kernel)) rfl
theorem sf_m633 : Cond.selects "StoveFavours" (⟨"StoveFavours", "drift", "(I)I"⟩ : MethodName) (⟨"StoveFavours", "drift", "(I)I"⟩ : MethodName) ∈ sf_tb := sf_mem (List.mem_of_getElem? (i := 633) (by decide +kernel)) rfl
theorem sf_m635 : Cond.methodLink "StoveFavours" 191 (⟨"StoveFavours", "driftHour", "()V"⟩ : MethodName) ∈ sf_tb := sf_mem (List.mem_of_getElem? (i := 635) (by decide +kernel)) rfl
theorem sf_m637 : Cond.instanceMethod (⟨"StoveFavours", "driftHour", "()V"⟩ : MethodName) ∈ sf_tb := sf_mem (List.mem_of_getElem? (i := 637) (by decide +kernel)) rfl
theorem sf_m639 : Cond.methodLink "StoveFavours" 279 (⟨"StoveFavours", "draw", "(I)I"⟩ : MethodName) ∈ sf_tb := sf_mem (List.mem_of_getElem? (i := 639) (by decide +kernel)) rfl
theorem sf_m641 : Cond.instanceMethod (⟨"StoveFavours", "draw", "(I)I"⟩ : MethodName) ∈ sf_tb := sf_mem (List.mem_of_getElem? (i := 641) (by decide +kernel)) rfl
theorem sf_m643 : Cond.constantLong "StoveFavours" 282 (1103515245 : Int64) ∈ sf_tb := sf_mem (List.mem_of_getElem? (i := 643) (by decide +kernel)) rfl
theorem sf_m644 : Cond.constantLong "StoveFavours" 284 (12345 : Int64) ∈ sf_tb := sf_mem (List.mem_of_getElem? (i := 644) (by decide +kernel)) rfl
theorem sf_m645 : Cond.constantLong "StoveFavours" 286 (2147483647 : Int64) ∈ sf_tb := sf_mem (List.mem_of_getElem? (i := 645) (by decide +kernel)) rfl
theorem sf_m646 : Cond.constant "StoveFavours" 288 (65536 : Int32) ∈ sf_tb := sf_mem (List.mem_of_getElem? (i := 646) (by decide +kernel)) rfl
theorem sf_m647 : Cond.methodLink "StoveFavoursLaw" 52 (⟨"StoveFavours", "stack", "(I)I"⟩ : MethodName) ∈ sf_tb := sf_mem (List.mem_of_getElem? (i := 647) (by decide +kernel)) rfl
theorem sf_m648 : Cond.instanceMethod (⟨"StoveFavours", "stack", "(I)I"⟩ : MethodName) ∈ sf_tb := sf_mem (List.mem_of_getElem? (i := 648) (by decide +kernel)) rfl
theorem sf_m649 : Cond.selects "StoveFavours" (⟨"StoveFavours", "stack", "(I)I"⟩ : MethodName) (⟨"StoveFavours", "stack", "(I)I"⟩ : MethodName) ∈ sf_tb := sf_mem (List.mem_of_getElem? (i := 649) (by decide +kernel)) rfl
theorem sf_m651 : Cond.methodLink "StoveFavours" 194 (⟨"java/lang/Math", "min", "(II)I"⟩ : MethodName) ∈ sf_tb := sf_mem (List.mem_of_getElem? (i := 651) (by decide +kernel)) rfl
theorem sf_m652 : Cond.methodLink "StoveFavoursLaw" 56 (⟨"StoveFavours", "law", "(II)I"⟩ : MethodName) ∈ sf_tb := sf_mem (List.mem_of_getElem? (i := 652) (by decide +kernel)) rfl
theorem sf_m653 : Cond.instanceMethod (⟨"StoveFavours", "law", "(II)I"⟩ : MethodName) ∈ sf_tb := sf_mem (List.mem_of_getElem? (i := 653) (by decide +kernel)) rfl
theorem sf_m654 : Cond.selects "StoveFavours" (⟨"StoveFavours", "law", "(II)I"⟩ : MethodName) (⟨"StoveFavours", "law", "(II)I"⟩ : MethodName) ∈ sf_tb := sf_mem (List.mem_of_getElem? (i := 654) (by decide +kernel)) rfl
theorem sf_m656 : Cond.methodLink "StoveFavours" 199 (⟨"StoveFavours$Row", "put", "(II)V"⟩ : MethodName) ∈ sf_tb := sf_mem (List.mem_of_getElem? (i := 656) (by decide +kernel)) rfl
theorem sf_m657 : Cond.methodLink "StoveFavoursLaw" 60 (⟨"StoveFavours", "undo", "(I)I"⟩ : MethodName) ∈ sf_tb := sf_mem (List.mem_of_getElem? (i := 657) (by decide +kernel)) rfl
theorem sf_m658 : Cond.instanceMethod (⟨"StoveFavours", "undo", "(I)I"⟩ : MethodName) ∈ sf_tb := sf_mem (List.mem_of_getElem? (i := 658) (by decide +kernel)) rfl
theorem sf_m659 : Cond.selects "StoveFavours" (⟨"StoveFavours", "undo", "(I)I"⟩ : MethodName) (⟨"StoveFavours", "undo", "(I)I"⟩ : MethodName) ∈ sf_tb := sf_mem (List.mem_of_getElem? (i := 659) (by decide +kernel)) rfl
theorem sf_m661 : Cond.methodLink "StoveFavours" 203 (⟨"StoveFavours$Past", "takeBack", "(I)LStoveFavours$Stove;"⟩ : MethodName) ∈ sf_tb := sf_mem (List.mem_of_getElem? (i := 661) (by decide +kernel)) rfl
theorem sf_m662 : Cond.instanceMethod (⟨"StoveFavours$Past", "takeBack", "(I)LStoveFavours$Stove;"⟩ : MethodName) ∈ sf_tb := sf_mem (List.mem_of_getElem? (i := 662) (by decide +kernel)) rfl
theorem sf_m663 : Cond.selects "StoveFavours$Past" (⟨"StoveFavours$Past", "takeBack", "(I)LStoveFavours$Stove;"⟩ : MethodName) (⟨"StoveFavours$Past", "takeBack", "(I)LStoveFavours$Stove;"⟩ : MethodName) ∈ sf_tb := sf_mem (List.mem_of_getElem? (i := 663) (by decide +kernel)) rfl
theorem sf_m665 : Cond.methodLink "StoveFavours" 207 (⟨"StoveFavours$Stove", "copyFrom", "(LStoveFavours$Stove;)V"⟩ : MethodName) ∈ sf_tb := sf_mem (List.mem_of_getElem? (i := 665) (by decide +kernel)) rfl
theorem sf_m666 : Cond.methodLink "StoveFavoursLaw" 64 (⟨"StoveFavours", "freezes", "(I)I"⟩ : MethodName) ∈ sf_tb := sf_mem (List.mem_of_getElem? (i := 666) (by decide +kernel)) rfl
theorem sf_m667 : Cond.instanceMethod (⟨"StoveFavours", "freezes", "(I)I"⟩ : MethodName) ∈ sf_tb := sf_mem (List.mem_of_getElem? (i := 667) (by decide +kernel)) rfl
theorem sf_m668 : Cond.selects "StoveFavours" (⟨"StoveFavours", "freezes", "(I)I"⟩ : MethodName) (⟨"StoveFavours", "freezes", "(I)I"⟩ : MethodName) ∈ sf_tb := sf_mem (List.mem_of_getElem? (i := 668) (by decide +kernel)) rfl
theorem sf_m670 : Cond.methodLink "StoveFavours" 210 (⟨"StoveFavours", "hoursUndisturbed", "(I)I"⟩ : MethodName) ∈ sf_tb := sf_mem (List.mem_of_getElem? (i := 670) (by decide +kernel)) rfl
theorem sf_m672 : Cond.instanceMethod (⟨"StoveFavours", "hoursUndisturbed", "(I)I"⟩ : MethodName) ∈ sf_tb := sf_mem (List.mem_of_getElem? (i := 672) (by decide +kernel)) rfl
theorem sf_m674 : Cond.methodLink "StoveFavours" 247 (⟨"StoveFavours", "hoursInDraught", "(I)I"⟩ : MethodName) ∈ sf_tb := sf_mem (List.mem_of_getElem? (i := 674) (by decide +kernel)) rfl
theorem sf_m676 : Cond.instanceMethod (⟨"StoveFavours", "hoursInDraught", "(I)I"⟩ : MethodName) ∈ sf_tb := sf_mem (List.mem_of_getElem? (i := 676) (by decide +kernel)) rfl
theorem sf_m678 : Cond.methodLink "StoveFavoursLaw" 68 (⟨"StoveFavours", "favour", "(III)I"⟩ : MethodName) ∈ sf_tb := sf_mem (List.mem_of_getElem? (i := 678) (by decide +kernel)) rfl
theorem sf_m679 : Cond.instanceMethod (⟨"StoveFavours", "favour", "(III)I"⟩ : MethodName) ∈ sf_tb := sf_mem (List.mem_of_getElem? (i := 679) (by decide +kernel)) rfl
theorem sf_m680 : Cond.selects "StoveFavours" (⟨"StoveFavours", "favour", "(III)I"⟩ : MethodName) (⟨"StoveFavours", "favour", "(III)I"⟩ : MethodName) ∈ sf_tb := sf_mem (List.mem_of_getElem? (i := 680) (by decide +kernel)) rfl
theorem sf_m682 : Cond.methodLink "StoveFavours" 213 (⟨"StoveFavours$Planner", "plan", "(LStoveFavours$Home;LStoveFavours$Stove;II)V"⟩ : MethodName) ∈ sf_tb := sf_mem (List.mem_of_getElem? (i := 682) (by decide +kernel)) rfl
theorem sf_m683 : Cond.instanceMethod (⟨"StoveFavours$Planner", "plan", "(LStoveFavours$Home;LStoveFavours$Stove;II)V"⟩ : MethodName) ∈ sf_tb := sf_mem (List.mem_of_getElem? (i := 683) (by decide +kernel)) rfl
theorem sf_m684 : Cond.selects "StoveFavours$Planner" (⟨"StoveFavours$Planner", "plan", "(LStoveFavours$Home;LStoveFavours$Stove;II)V"⟩ : MethodName) (⟨"StoveFavours$Planner", "plan", "(LStoveFavours$Home;LStoveFavours$Stove;II)V"⟩ : MethodName) ∈ sf_tb := sf_mem (List.mem_of_getElem? (i := 684) (by decide +kernel)) rfl
theorem sf_m686 : Cond.methodLink "StoveFavours$Planner" 53 (⟨"StoveFavours$Shelf", "at", "(I)LStoveFavours$Stove;"⟩ : MethodName) ∈ sf_tb := sf_mem (List.mem_of_getElem? (i := 686) (by decide +kernel)) rfl
theorem sf_m687 : Cond.methodLink "StoveFavours$Planner" 57 (⟨"StoveFavours$Stove", "copyFrom", "(LStoveFavours$Stove;)V"⟩ : MethodName) ∈ sf_tb := sf_mem (List.mem_of_getElem? (i := 687) (by decide +kernel)) rfl
theorem sf_m688 : Cond.methodLink "StoveFavours$Planner" 66 (⟨"StoveFavours$Planner", "search", "(LStoveFavours$Home;III)V"⟩ : MethodName) ∈ sf_tb := sf_mem (List.mem_of_getElem? (i := 688) (by decide +kernel)) rfl
theorem sf_m690 : Cond.instanceMethod (⟨"StoveFavours$Planner", "search", "(LStoveFavours$Home;III)V"⟩ : MethodName) ∈ sf_tb := sf_mem (List.mem_of_getElem? (i := 690) (by decide +kernel)) rfl
theorem sf_m692 : Cond.methodLink "StoveFavours$Planner" 73 (⟨"StoveFavours$Row", "copyFrom", "(LStoveFavours$Row;)V"⟩ : MethodName) ∈ sf_tb := sf_mem (List.mem_of_getElem? (i := 692) (by decide +kernel)) rfl
theorem sf_m693 : Cond.methodLink "StoveFavours$Planner" 81 (⟨"StoveFavours$Row", "put", "(II)V"⟩ : MethodName) ∈ sf_tb := sf_mem (List.mem_of_getElem? (i := 693) (by decide +kernel)) rfl
theorem sf_m694 : Cond.methodLink "StoveFavours$Planner" 88 (⟨"StoveFavours$Planner", "consider", "(LStoveFavours$Home;IIIII)V"⟩ : MethodName) ∈ sf_tb := sf_mem (List.mem_of_getElem? (i := 694) (by decide +kernel)) rfl
theorem sf_m696 : Cond.instanceMethod (⟨"StoveFavours$Planner", "consider", "(LStoveFavours$Home;IIIII)V"⟩ : MethodName) ∈ sf_tb := sf_mem (List.mem_of_getElem? (i := 696) (by decide +kernel)) rfl
theorem sf_m698 : Cond.methodLink "StoveFavours$Planner" 99 (⟨"StoveFavours$Planner", "isBetter", "(II)Z"⟩ : MethodName) ∈ sf_tb := sf_mem (List.mem_of_getElem? (i := 698) (by decide +kernel)) rfl
theorem sf_m700 : Cond.instanceMethod (⟨"StoveFavours$Planner", "isBetter", "(II)Z"⟩ : MethodName) ∈ sf_tb := sf_mem (List.mem_of_getElem? (i := 700) (by decide +kernel)) rfl
theorem sf_m702 : Cond.methodLink "StoveFavours$Planner" 70 (⟨"StoveFavours$Row", "at", "(I)I"⟩ : MethodName) ∈ sf_tb := sf_mem (List.mem_of_getElem? (i := 702) (by decide +kernel)) rfl
theorem sf_m703 : Cond.methodLink "StoveFavours$Planner" 103 (⟨"StoveFavours$Stove", "warmOnly", "(LStoveFavours$Home;I)V"⟩ : MethodName) ∈ sf_tb := sf_mem (List.mem_of_getElem? (i := 703) (by decide +kernel)) rfl
theorem sf_m704 : Cond.methodLink "StoveFavours$Planner" 107 (⟨"StoveFavours$Planner", "isAllowed", "(ILStoveFavours$Stove;I)Z"⟩ : MethodName) ∈ sf_tb := sf_mem (List.mem_of_getElem? (i := 704) (by decide +kernel)) rfl
theorem sf_m706 : Cond.instanceMethod (⟨"StoveFavours$Planner", "isAllowed", "(ILStoveFavours$Stove;I)Z"⟩ : MethodName) ∈ sf_tb := sf_mem (List.mem_of_getElem? (i := 706) (by decide +kernel)) rfl
theorem sf_m708 : Cond.methodLink "StoveFavours$Planner" 111 (⟨"StoveFavours$Stove", "frozen", "(I)I"⟩ : MethodName) ∈ sf_tb := sf_mem (List.mem_of_getElem? (i := 708) (by decide +kernel)) rfl
theorem sf_m709 : Cond.methodLink "StoveFavours$Planner" 92 (⟨"StoveFavours$Stove", "chosenBy", "(III)I"⟩ : MethodName) ∈ sf_tb := sf_mem (List.mem_of_getElem? (i := 709) (by decide +kernel)) rfl
theorem sf_m710 : Cond.methodLink "StoveFavours" 217 (⟨"StoveFavours$Planner", "answer", "(I)I"⟩ : MethodName) ∈ sf_tb := sf_mem (List.mem_of_getElem? (i := 710) (by decide +kernel)) rfl
theorem sf_m711 : Cond.instanceMethod (⟨"StoveFavours$Planner", "answer", "(I)I"⟩ : MethodName) ∈ sf_tb := sf_mem (List.mem_of_getElem? (i := 711) (by decide +kernel)) rfl
theorem sf_m712 : Cond.selects "StoveFavours$Planner" (⟨"StoveFavours$Planner", "answer", "(I)I"⟩ : MethodName) (⟨"StoveFavours$Planner", "answer", "(I)I"⟩ : MethodName) ∈ sf_tb := sf_mem (List.mem_of_getElem? (i := 712) (by decide +kernel)) rfl
theorem sf_m714 : Cond.methodLink "StoveFavoursLaw" 73 (⟨"StoveFavours", "allWarm", "(II)I"⟩ : MethodName) ∈ sf_tb := sf_mem (List.mem_of_getElem? (i := 714) (by decide +kernel)) rfl
theorem sf_m715 : Cond.instanceMethod (⟨"StoveFavours", "allWarm", "(II)I"⟩ : MethodName) ∈ sf_tb := sf_mem (List.mem_of_getElem? (i := 715) (by decide +kernel)) rfl
theorem sf_m716 : Cond.selects "StoveFavours" (⟨"StoveFavours", "allWarm", "(II)I"⟩ : MethodName) (⟨"StoveFavours", "allWarm", "(II)I"⟩ : MethodName) ∈ sf_tb := sf_mem (List.mem_of_getElem? (i := 716) (by decide +kernel)) rfl
theorem sf_m718 : Cond.methodLink "StoveFavoursLaw" 77 (⟨"StoveFavours", "duel", "(IIII)I"⟩ : MethodName) ∈ sf_tb := sf_mem (List.mem_of_getElem? (i := 718) (by decide +kernel)) rfl
theorem sf_m719 : Cond.instanceMethod (⟨"StoveFavours", "duel", "(IIII)I"⟩ : MethodName) ∈ sf_tb := sf_mem (List.mem_of_getElem? (i := 719) (by decide +kernel)) rfl
theorem sf_m720 : Cond.selects "StoveFavours" (⟨"StoveFavours", "duel", "(IIII)I"⟩ : MethodName) (⟨"StoveFavours", "duel", "(IIII)I"⟩ : MethodName) ∈ sf_tb := sf_mem (List.mem_of_getElem? (i := 720) (by decide +kernel)) rfl
theorem sf_m722 : Cond.methodLink "StoveFavours" 220 (⟨"StoveFavours$Contest", "fight", "(LStoveFavours$Home;LStoveFavours$Stove;III)V"⟩ : MethodName) ∈ sf_tb := sf_mem (List.mem_of_getElem? (i := 722) (by decide +kernel)) rfl
theorem sf_m723 : Cond.instanceMethod (⟨"StoveFavours$Contest", "fight", "(LStoveFavours$Home;LStoveFavours$Stove;III)V"⟩ : MethodName) ∈ sf_tb := sf_mem (List.mem_of_getElem? (i := 723) (by decide +kernel)) rfl
theorem sf_m724 : Cond.selects "StoveFavours$Contest" (⟨"StoveFavours$Contest", "fight", "(LStoveFavours$Home;LStoveFavours$Stove;III)V"⟩ : MethodName) (⟨"StoveFavours$Contest", "fight", "(LStoveFavours$Home;LStoveFavours$Stove;III)V"⟩ : MethodName) ∈ sf_tb := sf_mem (List.mem_of_getElem? (i := 724) (by decide +kernel)) rfl
theorem sf_m726 : Cond.methodLink "StoveFavours$Contest" 36 (⟨"StoveFavours$Shelf", "at", "(I)LStoveFavours$Stove;"⟩ : MethodName) ∈ sf_tb := sf_mem (List.mem_of_getElem? (i := 726) (by decide +kernel)) rfl
theorem sf_m727 : Cond.methodLink "StoveFavours$Contest" 40 (⟨"StoveFavours$Stove", "copyFrom", "(LStoveFavours$Stove;)V"⟩ : MethodName) ∈ sf_tb := sf_mem (List.mem_of_getElem? (i := 727) (by decide +kernel)) rfl
theorem sf_m728 : Cond.methodLink "StoveFavours$Contest" 46 (⟨"StoveFavours$Contest", "playedOut", "(LStoveFavours$Home;I)I"⟩ : MethodName) ∈ sf_tb := sf_mem (List.mem_of_getElem? (i := 728) (by decide +kernel)) rfl
theorem sf_m730 : Cond.instanceMethod (⟨"StoveFavours$Contest", "playedOut", "(LStoveFavours$Home;I)I"⟩ : MethodName) ∈ sf_tb := sf_mem (List.mem_of_getElem? (i := 730) (by decide +kernel)) rfl
theorem sf_m732 : Cond.methodLink "StoveFavours$Contest" 58 (⟨"StoveFavours$Stove", "chosenBy", "(III)I"⟩ : MethodName) ∈ sf_tb := sf_mem (List.mem_of_getElem? (i := 732) (by decide +kernel)) rfl
theorem sf_m733 : Cond.methodLink "StoveFavours$Contest" 62 (⟨"StoveFavours$Contest", "endOf", "(LStoveFavours$Home;II)I"⟩ : MethodName) ∈ sf_tb := sf_mem (List.mem_of_getElem? (i := 733) (by decide +kernel)) rfl
theorem sf_m735 : Cond.instanceMethod (⟨"StoveFavours$Contest", "endOf", "(LStoveFavours$Home;II)I"⟩ : MethodName) ∈ sf_tb := sf_mem (List.mem_of_getElem? (i := 735) (by decide +kernel)) rfl
theorem sf_m737 : Cond.methodLink "StoveFavours$Contest" 66 (⟨"StoveFavours$Stove", "warmOnly", "(LStoveFavours$Home;I)V"⟩ : MethodName) ∈ sf_tb := sf_mem (List.mem_of_getElem? (i := 737) (by decide +kernel)) rfl
theorem sf_m738 : Cond.methodLink "StoveFavoursLaw" 82 (⟨"StoveFavours", "forEver", "(I)I"⟩ : MethodName) ∈ sf_tb := sf_mem (List.mem_of_getElem? (i := 738) (by decide +kernel)) rfl
theorem sf_m739 : Cond.instanceMethod (⟨"StoveFavours", "forEver", "(I)I"⟩ : MethodName) ∈ sf_tb := sf_mem (List.mem_of_getElem? (i := 739) (by decide +kernel)) rfl
theorem sf_m740 : Cond.selects "StoveFavours" (⟨"StoveFavours", "forEver", "(I)I"⟩ : MethodName) (⟨"StoveFavours", "forEver", "(I)I"⟩ : MethodName) ∈ sf_tb := sf_mem (List.mem_of_getElem? (i := 740) (by decide +kernel)) rfl
theorem sf_m742 : Cond.methodLink "StoveFavours" 230 (⟨"StoveFavours$Rounds", "run", "(ILStoveFavours$Stove;LStoveFavours$Book;)V"⟩ : MethodName) ∈ sf_tb := sf_mem (List.mem_of_getElem? (i := 742) (by decide +kernel)) rfl
theorem sf_m743 : Cond.instanceMethod (⟨"StoveFavours$Rounds", "run", "(ILStoveFavours$Stove;LStoveFavours$Book;)V"⟩ : MethodName) ∈ sf_tb := sf_mem (List.mem_of_getElem? (i := 743) (by decide +kernel)) rfl
theorem sf_m744 : Cond.selects "StoveFavours$Rounds" (⟨"StoveFavours$Rounds", "run", "(ILStoveFavours$Stove;LStoveFavours$Book;)V"⟩ : MethodName) (⟨"StoveFavours$Rounds", "run", "(ILStoveFavours$Stove;LStoveFavours$Book;)V"⟩ : MethodName) ∈ sf_tb := sf_mem (List.mem_of_getElem? (i := 744) (by decide +kernel)) rfl
theorem sf_m746 : Cond.methodLink "StoveFavours$Rounds" 40 (⟨"StoveFavours$Stove", "copyFrom", "(LStoveFavours$Stove;)V"⟩ : MethodName) ∈ sf_tb := sf_mem (List.mem_of_getElem? (i := 746) (by decide +kernel)) rfl
theorem sf_m747 : Cond.methodLink "StoveFavours$Rounds" 47 (⟨"StoveFavours$Row", "fill", "(I)V"⟩ : MethodName) ∈ sf_tb := sf_mem (List.mem_of_getElem? (i := 747) (by decide +kernel)) rfl
theorem sf_m748 : Cond.methodLink "StoveFavours$Rounds" 50 (⟨"StoveFavours$Rounds", "standing", "(I)I"⟩ : MethodName) ∈ sf_tb := sf_mem (List.mem_of_getElem? (i := 748) (by decide +kernel)) rfl
theorem sf_m750 : Cond.instanceMethod (⟨"StoveFavours$Rounds", "standing", "(I)I"⟩ : MethodName) ∈ sf_tb := sf_mem (List.mem_of_getElem? (i := 750) (by decide +kernel)) rfl
theorem sf_m752 : Cond.methodLink "StoveFavours$Rounds" 73 (⟨"StoveFavours$Row", "at", "(I)I"⟩ : MethodName) ∈ sf_tb := sf_mem (List.mem_of_getElem? (i := 752) (by decide +kernel)) rfl
theorem sf_m753 : Cond.methodLink "StoveFavours$Rounds" 54 (⟨"StoveFavours$Row", "put", "(II)V"⟩ : MethodName) ∈ sf_tb := sf_mem (List.mem_of_getElem? (i := 753) (by decide +kernel)) rfl
theorem sf_m754 : Cond.methodLink "StoveFavours$Rounds" 63 (⟨"StoveFavours$Rounds", "goRound", "(ILStoveFavours$Book;)V"⟩ : MethodName) ∈ sf_tb := sf_mem (List.mem_of_getElem? (i := 754) (by decide +kernel)) rfl
theorem sf_m756 : Cond.instanceMethod (⟨"StoveFavours$Rounds", "goRound", "(ILStoveFavours$Book;)V"⟩ : MethodName) ∈ sf_tb := sf_mem (List.mem_of_getElem? (i := 756) (by decide +kernel)) rfl
theorem sf_m758 : Cond.methodLink "StoveFavours$Rounds" 79 (⟨"StoveFavours$Stove", "chosenBy", "(III)I"⟩ : MethodName) ∈ sf_tb := sf_mem (List.mem_of_getElem? (i := 758) (by decide +kernel)) rfl
theorem sf_m759 : Cond.methodLink "StoveFavours$Rounds" 83 (⟨"StoveFavours$Stove", "turnTo", "(I)V"⟩ : MethodName) ∈ sf_tb := sf_mem (List.mem_of_getElem? (i := 759) (by decide +kernel)) rfl
theorem sf_m760 : Cond.methodLink "StoveFavours$Rounds" 67 (⟨"StoveFavours$Rounds", "roundsSinceLike", "(I)I"⟩ : MethodName) ∈ sf_tb := sf_mem (List.mem_of_getElem? (i := 760) (by decide +kernel)) rfl
theorem sf_m762 : Cond.instanceMethod (⟨"StoveFavours$Rounds", "roundsSinceLike", "(I)I"⟩ : MethodName) ∈ sf_tb := sf_mem (List.mem_of_getElem? (i := 762) (by decide +kernel)) rfl
theorem sf_m764 : Cond.methodLink "StoveFavours" 237 (⟨"StoveFavours$Rounds", "hoursOf", "(I)I"⟩ : MethodName) ∈ sf_tb := sf_mem (List.mem_of_getElem? (i := 764) (by decide +kernel)) rfl
theorem sf_m765 : Cond.instanceMethod (⟨"StoveFavours$Rounds", "hoursOf", "(I)I"⟩ : MethodName) ∈ sf_tb := sf_mem (List.mem_of_getElem? (i := 765) (by decide +kernel)) rfl
theorem sf_m766 : Cond.selects "StoveFavours$Rounds" (⟨"StoveFavours$Rounds", "hoursOf", "(I)I"⟩ : MethodName) (⟨"StoveFavours$Rounds", "hoursOf", "(I)I"⟩ : MethodName) ∈ sf_tb := sf_mem (List.mem_of_getElem? (i := 766) (by decide +kernel)) rfl
theorem sf_m768 : Cond.methodLink "StoveFavoursLaw" 86 (⟨"StoveFavours", "fair", "()I"⟩ : MethodName) ∈ sf_tb := sf_mem (List.mem_of_getElem? (i := 768) (by decide +kernel)) rfl
theorem sf_m769 : Cond.instanceMethod (⟨"StoveFavours", "fair", "()I"⟩ : MethodName) ∈ sf_tb := sf_mem (List.mem_of_getElem? (i := 769) (by decide +kernel)) rfl
theorem sf_m770 : Cond.selects "StoveFavours" (⟨"StoveFavours", "fair", "()I"⟩ : MethodName) (⟨"StoveFavours", "fair", "()I"⟩ : MethodName) ∈ sf_tb := sf_mem (List.mem_of_getElem? (i := 770) (by decide +kernel)) rfl
theorem sf_m772 : Cond.methodLink "StoveFavours" 240 (⟨"StoveFavours$Rounds", "spread", "(I)I"⟩ : MethodName) ∈ sf_tb := sf_mem (List.mem_of_getElem? (i := 772) (by decide +kernel)) rfl
theorem sf_m773 : Cond.instanceMethod (⟨"StoveFavours$Rounds", "spread", "(I)I"⟩ : MethodName) ∈ sf_tb := sf_mem (List.mem_of_getElem? (i := 773) (by decide +kernel)) rfl
theorem sf_m774 : Cond.selects "StoveFavours$Rounds" (⟨"StoveFavours$Rounds", "spread", "(I)I"⟩ : MethodName) (⟨"StoveFavours$Rounds", "spread", "(I)I"⟩ : MethodName) ∈ sf_tb := sf_mem (List.mem_of_getElem? (i := 774) (by decide +kernel)) rfl
theorem sf_m776 : Cond.methodLink "StoveFavours$Rounds" 92 (⟨"StoveFavours$Rounds", "hoursOf", "(I)I"⟩ : MethodName) ∈ sf_tb := sf_mem (List.mem_of_getElem? (i := 776) (by decide +kernel)) rfl
theorem sf_m777 : Cond.methodLink "StoveFavours$Rounds" 95 (⟨"java/lang/Math", "min", "(II)I"⟩ : MethodName) ∈ sf_tb := sf_mem (List.mem_of_getElem? (i := 777) (by decide +kernel)) rfl
theorem sf_m778 : Cond.methodLink "StoveFavours$Rounds" 101 (⟨"java/lang/Math", "max", "(II)I"⟩ : MethodName) ∈ sf_tb := sf_mem (List.mem_of_getElem? (i := 778) (by decide +kernel)) rfl
theorem sf_m779 : Cond.methodLink "StoveFavoursLaw" 90 (⟨"StoveFavours", "left", "(II)I"⟩ : MethodName) ∈ sf_tb := sf_mem (List.mem_of_getElem? (i := 779) (by decide +kernel)) rfl
theorem sf_m780 : Cond.instanceMethod (⟨"StoveFavours", "left", "(II)I"⟩ : MethodName) ∈ sf_tb := sf_mem (List.mem_of_getElem? (i := 780) (by decide +kernel)) rfl
theorem sf_m781 : Cond.selects "StoveFavours" (⟨"StoveFavours", "left", "(II)I"⟩ : MethodName) (⟨"StoveFavours", "left", "(II)I"⟩ : MethodName) ∈ sf_tb := sf_mem (List.mem_of_getElem? (i := 781) (by decide +kernel)) rfl
theorem sf_m783 : Cond.methodLink "StoveFavours" 243 (⟨"StoveFavours$Stove", "chosenBy", "(III)I"⟩ : MethodName) ∈ sf_tb := sf_mem (List.mem_of_getElem? (i := 783) (by decide +kernel)) rfl
theorem sf_m784 : Cond.methodLink "StoveFavoursLaw" 94 (⟨"StoveFavours", "doers", "(I)I"⟩ : MethodName) ∈ sf_tb := sf_mem (List.mem_of_getElem? (i := 784) (by decide +kernel)) rfl
theorem sf_m785 : Cond.instanceMethod (⟨"StoveFavours", "doers", "(I)I"⟩ : MethodName) ∈ sf_tb := sf_mem (List.mem_of_getElem? (i := 785) (by decide +kernel)) rfl
theorem sf_m786 : Cond.selects "StoveFavours" (⟨"StoveFavours", "doers", "(I)I"⟩ : MethodName) (⟨"StoveFavours", "doers", "(I)I"⟩ : MethodName) ∈ sf_tb := sf_mem (List.mem_of_getElem? (i := 786) (by decide +kernel)) rfl
theorem sf_m788 : Cond.methodLink "StoveFavoursLaw" 98 (⟨"StoveFavours", "chair", "(I)I"⟩ : MethodName) ∈ sf_tb := sf_mem (List.mem_of_getElem? (i := 788) (by decide +kernel)) rfl
theorem sf_m789 : Cond.instanceMethod (⟨"StoveFavours", "chair", "(I)I"⟩ : MethodName) ∈ sf_tb := sf_mem (List.mem_of_getElem? (i := 789) (by decide +kernel)) rfl
theorem sf_m790 : Cond.selects "StoveFavours" (⟨"StoveFavours", "chair", "(I)I"⟩ : MethodName) (⟨"StoveFavours", "chair", "(I)I"⟩ : MethodName) ∈ sf_tb := sf_mem (List.mem_of_getElem? (i := 790) (by decide +kernel)) rfl
theorem sf_m792 : Cond.methodLink "StoveFavoursLaw" 102 (⟨"StoveFavours", "note", "(IIII)I"⟩ : MethodName) ∈ sf_tb := sf_mem (List.mem_of_getElem? (i := 792) (by decide +kernel)) rfl
theorem sf_m793 : Cond.instanceMethod (⟨"StoveFavours", "note", "(IIII)I"⟩ : MethodName) ∈ sf_tb := sf_mem (List.mem_of_getElem? (i := 793) (by decide +kernel)) rfl
theorem sf_m794 : Cond.selects "StoveFavours" (⟨"StoveFavours", "note", "(IIII)I"⟩ : MethodName) (⟨"StoveFavours", "note", "(IIII)I"⟩ : MethodName) ∈ sf_tb := sf_mem (List.mem_of_getElem? (i := 794) (by decide +kernel)) rfl
theorem sf_m796 : Cond.methodLink "StoveFavours" 250 (⟨"StoveFavours$Notes", "add", "(IIII)I"⟩ : MethodName) ∈ sf_tb := sf_mem (List.mem_of_getElem? (i := 796) (by decide +kernel)) rfl
theorem sf_m797 : Cond.instanceMethod (⟨"StoveFavours$Notes", "add", "(IIII)I"⟩ : MethodName) ∈ sf_tb := sf_mem (List.mem_of_getElem? (i := 797) (by decide +kernel)) rfl
theorem sf_m798 : Cond.selects "StoveFavours$Notes" (⟨"StoveFavours$Notes", "add", "(IIII)I"⟩ : MethodName) (⟨"StoveFavours$Notes", "add", "(IIII)I"⟩ : MethodName) ∈ sf_tb := sf_mem (List.mem_of_getElem? (i := 798) (by decide +kernel)) rfl
theorem sf_m800 : Cond.methodLink "StoveFavours$Notes" 33 (⟨"StoveFavours$Row", "put", "(II)V"⟩ : MethodName) ∈ sf_tb := sf_mem (List.mem_of_getElem? (i := 800) (by decide +kernel)) rfl
theorem sf_m801 : Cond.methodLink "StoveFavoursLaw" 106 (⟨"StoveFavours", "laws", "(I)I"⟩ : MethodName) ∈ sf_tb := sf_mem (List.mem_of_getElem? (i := 801) (by decide +kernel)) rfl
theorem sf_m802 : Cond.instanceMethod (⟨"StoveFavours", "laws", "(I)I"⟩ : MethodName) ∈ sf_tb := sf_mem (List.mem_of_getElem? (i := 802) (by decide +kernel)) rfl
theorem sf_m803 : Cond.selects "StoveFavours" (⟨"StoveFavours", "laws", "(I)I"⟩ : MethodName) (⟨"StoveFavours", "laws", "(I)I"⟩ : MethodName) ∈ sf_tb := sf_mem (List.mem_of_getElem? (i := 803) (by decide +kernel)) rfl
theorem sf_m805 : Cond.methodLink "StoveFavours" 254 (⟨"StoveFavours$Notes", "fitting", "(II)I"⟩ : MethodName) ∈ sf_tb := sf_mem (List.mem_of_getElem? (i := 805) (by decide +kernel)) rfl
theorem sf_m806 : Cond.instanceMethod (⟨"StoveFavours$Notes", "fitting", "(II)I"⟩ : MethodName) ∈ sf_tb := sf_mem (List.mem_of_getElem? (i := 806) (by decide +kernel)) rfl
theorem sf_m807 : Cond.selects "StoveFavours$Notes" (⟨"StoveFavours$Notes", "fitting", "(II)I"⟩ : MethodName) (⟨"StoveFavours$Notes", "fitting", "(II)I"⟩ : MethodName) ∈ sf_tb := sf_mem (List.mem_of_getElem? (i := 807) (by decide +kernel)) rfl
theorem sf_m809 : Cond.methodLink "StoveFavours$Notes" 37 (⟨"StoveFavours$Notes", "fits", "(III)Z"⟩ : MethodName) ∈ sf_tb := sf_mem (List.mem_of_getElem? (i := 809) (by decide +kernel)) rfl
theorem sf_m811 : Cond.instanceMethod (⟨"StoveFavours$Notes", "fits", "(III)Z"⟩ : MethodName) ∈ sf_tb := sf_mem (List.mem_of_getElem? (i := 811) (by decide +kernel)) rfl
theorem sf_m813 : Cond.methodLink "StoveFavours$Notes" 41 (⟨"StoveFavours$Row", "at", "(I)I"⟩ : MethodName) ∈ sf_tb := sf_mem (List.mem_of_getElem? (i := 813) (by decide +kernel)) rfl
theorem sf_m814 : Cond.methodLink "StoveFavours$Notes" 45 (⟨"StoveFavours$Stove", "plainlyChosen", "(IIII)I"⟩ : MethodName) ∈ sf_tb := sf_mem (List.mem_of_getElem? (i := 814) (by decide +kernel)) rfl
theorem sf_m815 : Cond.methodLink "StoveFavoursLaw" 110 (⟨"StoveFavours", "tryNext", "(I)I"⟩ : MethodName) ∈ sf_tb := sf_mem (List.mem_of_getElem? (i := 815) (by decide +kernel)) rfl
theorem sf_m816 : Cond.instanceMethod (⟨"StoveFavours", "tryNext", "(I)I"⟩ : MethodName) ∈ sf_tb := sf_mem (List.mem_of_getElem? (i := 816) (by decide +kernel)) rfl
theorem sf_m817 : Cond.selects "StoveFavours" (⟨"StoveFavours", "tryNext", "(I)I"⟩ : MethodName) (⟨"StoveFavours", "tryNext", "(I)I"⟩ : MethodName) ∈ sf_tb := sf_mem (List.mem_of_getElem? (i := 817) (by decide +kernel)) rfl
theorem sf_m819 : Cond.methodLink "StoveFavours" 257 (⟨"java/lang/Integer", "bitCount", "(I)I"⟩ : MethodName) ∈ sf_tb := sf_mem (List.mem_of_getElem? (i := 819) (by decide +kernel)) rfl
theorem sf_m820 : Cond.static (⟨"java/lang/Integer", "bitCount", "(I)I"⟩ : MethodName) ∈ sf_tb := sf_mem (List.mem_of_getElem? (i := 820) (by decide +kernel)) rfl
theorem sf_m822 : Cond.constant "java/lang/Integer" 265 (1431655765 : Int32) ∈ sf_tb := sf_mem (List.mem_of_getElem? (i := 822) (by decide +kernel)) rfl
theorem sf_m823 : Cond.constant "java/lang/Integer" 266 (858993459 : Int32) ∈ sf_tb := sf_mem (List.mem_of_getElem? (i := 823) (by decide +kernel)) rfl
theorem sf_m824 : Cond.constant "java/lang/Integer" 267 (252645135 : Int32) ∈ sf_tb := sf_mem (List.mem_of_getElem? (i := 824) (by decide +kernel)) rfl
theorem sf_m825 : Cond.methodLink "StoveFavours" 262 (⟨"StoveFavours", "greatestPart", "(II)I"⟩ : MethodName) ∈ sf_tb := sf_mem (List.mem_of_getElem? (i := 825) (by decide +kernel)) rfl
theorem sf_m827 : Cond.instanceMethod (⟨"StoveFavours", "greatestPart", "(II)I"⟩ : MethodName) ∈ sf_tb := sf_mem (List.mem_of_getElem? (i := 827) (by decide +kernel)) rfl
theorem sf_m829 : Cond.methodLink "StoveFavours" 289 (⟨"StoveFavours$Stove", "plainlyChosen", "(IIII)I"⟩ : MethodName) ∈ sf_tb := sf_mem (List.mem_of_getElem? (i := 829) (by decide +kernel)) rfl
theorem sf_m830 : Cond.methodLink "StoveFavours" 292 (⟨"java/lang/Math", "max", "(II)I"⟩ : MethodName) ∈ sf_tb := sf_mem (List.mem_of_getElem? (i := 830) (by decide +kernel)) rfl
theorem sf_m831 : Cond.methodLink "StoveFavoursLaw" 114 (⟨"StoveFavours", "write", "(II)I"⟩ : MethodName) ∈ sf_tb := sf_mem (List.mem_of_getElem? (i := 831) (by decide +kernel)) rfl
theorem sf_m832 : Cond.instanceMethod (⟨"StoveFavours", "write", "(II)I"⟩ : MethodName) ∈ sf_tb := sf_mem (List.mem_of_getElem? (i := 832) (by decide +kernel)) rfl
theorem sf_m833 : Cond.selects "StoveFavours" (⟨"StoveFavours", "write", "(II)I"⟩ : MethodName) (⟨"StoveFavours", "write", "(II)I"⟩ : MethodName) ∈ sf_tb := sf_mem (List.mem_of_getElem? (i := 833) (by decide +kernel)) rfl
theorem sf_m835 : Cond.methodLink "StoveFavours" 265 (⟨"StoveFavours$Book", "add", "(II)I"⟩ : MethodName) ∈ sf_tb := sf_mem (List.mem_of_getElem? (i := 835) (by decide +kernel)) rfl
theorem sf_m836 : Cond.instanceMethod (⟨"StoveFavours$Book", "add", "(II)I"⟩ : MethodName) ∈ sf_tb := sf_mem (List.mem_of_getElem? (i := 836) (by decide +kernel)) rfl
theorem sf_m837 : Cond.selects "StoveFavours$Book" (⟨"StoveFavours$Book", "add", "(II)I"⟩ : MethodName) (⟨"StoveFavours$Book", "add", "(II)I"⟩ : MethodName) ∈ sf_tb := sf_mem (List.mem_of_getElem? (i := 837) (by decide +kernel)) rfl
theorem sf_m839 : Cond.methodLink "StoveFavours$Book" 27 (⟨"StoveFavours$Row", "put", "(II)V"⟩ : MethodName) ∈ sf_tb := sf_mem (List.mem_of_getElem? (i := 839) (by decide +kernel)) rfl
theorem sf_m840 : Cond.methodLink "StoveFavoursLaw" 118 (⟨"StoveFavours", "judge", "(I)I"⟩ : MethodName) ∈ sf_tb := sf_mem (List.mem_of_getElem? (i := 840) (by decide +kernel)) rfl
theorem sf_m841 : Cond.instanceMethod (⟨"StoveFavours", "judge", "(I)I"⟩ : MethodName) ∈ sf_tb := sf_mem (List.mem_of_getElem? (i := 841) (by decide +kernel)) rfl
theorem sf_m842 : Cond.selects "StoveFavours" (⟨"StoveFavours", "judge", "(I)I"⟩ : MethodName) (⟨"StoveFavours", "judge", "(I)I"⟩ : MethodName) ∈ sf_tb := sf_mem (List.mem_of_getElem? (i := 842) (by decide +kernel)) rfl
theorem sf_m844 : Cond.methodLink "StoveFavours" 267 (⟨"StoveFavours", "firstUnpaid", "()I"⟩ : MethodName) ∈ sf_tb := sf_mem (List.mem_of_getElem? (i := 844) (by decide +kernel)) rfl
theorem sf_m846 : Cond.instanceMethod (⟨"StoveFavours", "firstUnpaid", "()I"⟩ : MethodName) ∈ sf_tb := sf_mem (List.mem_of_getElem? (i := 846) (by decide +kernel)) rfl
theorem sf_m848 : Cond.methodLink "StoveFavoursLaw" 122 (⟨"StoveFavours", "tear", "()I"⟩ : MethodName) ∈ sf_tb := sf_mem (List.mem_of_getElem? (i := 848) (by decide +kernel)) rfl
theorem sf_m849 : Cond.instanceMethod (⟨"StoveFavours", "tear", "()I"⟩ : MethodName) ∈ sf_tb := sf_mem (List.mem_of_getElem? (i := 849) (by decide +kernel)) rfl
theorem sf_m850 : Cond.selects "StoveFavours" (⟨"StoveFavours", "tear", "()I"⟩ : MethodName) (⟨"StoveFavours", "tear", "()I"⟩ : MethodName) ∈ sf_tb := sf_mem (List.mem_of_getElem? (i := 850) (by decide +kernel)) rfl
theorem sf_m852 : Cond.methodLink "StoveFavoursLaw" 126 (⟨"StoveFavours", "seed", "(I)I"⟩ : MethodName) ∈ sf_tb := sf_mem (List.mem_of_getElem? (i := 852) (by decide +kernel)) rfl
theorem sf_m853 : Cond.instanceMethod (⟨"StoveFavours", "seed", "(I)I"⟩ : MethodName) ∈ sf_tb := sf_mem (List.mem_of_getElem? (i := 853) (by decide +kernel)) rfl
theorem sf_m854 : Cond.selects "StoveFavours" (⟨"StoveFavours", "seed", "(I)I"⟩ : MethodName) (⟨"StoveFavours", "seed", "(I)I"⟩ : MethodName) ∈ sf_tb := sf_mem (List.mem_of_getElem? (i := 854) (by decide +kernel)) rfl
theorem sf_m856 : Cond.methodLink "StoveFavoursLaw" 130 (⟨"StoveFavours", "keep", "(I)I"⟩ : MethodName) ∈ sf_tb := sf_mem (List.mem_of_getElem? (i := 856) (by decide +kernel)) rfl
theorem sf_m857 : Cond.instanceMethod (⟨"StoveFavours", "keep", "(I)I"⟩ : MethodName) ∈ sf_tb := sf_mem (List.mem_of_getElem? (i := 857) (by decide +kernel)) rfl
theorem sf_m858 : Cond.selects "StoveFavours" (⟨"StoveFavours", "keep", "(I)I"⟩ : MethodName) (⟨"StoveFavours", "keep", "(I)I"⟩ : MethodName) ∈ sf_tb := sf_mem (List.mem_of_getElem? (i := 858) (by decide +kernel)) rfl
theorem sf_m860 : Cond.methodLink "StoveFavours" 270 (⟨"StoveFavours$Shelf", "at", "(I)LStoveFavours$Stove;"⟩ : MethodName) ∈ sf_tb := sf_mem (List.mem_of_getElem? (i := 860) (by decide +kernel)) rfl
theorem sf_m861 : Cond.methodLink "StoveFavoursLaw" 134 (⟨"StoveFavours", "goBack", "(I)I"⟩ : MethodName) ∈ sf_tb := sf_mem (List.mem_of_getElem? (i := 861) (by decide +kernel)) rfl
theorem sf_m862 : Cond.instanceMethod (⟨"StoveFavours", "goBack", "(I)I"⟩ : MethodName) ∈ sf_tb := sf_mem (List.mem_of_getElem? (i := 862) (by decide +kernel)) rfl
theorem sf_m863 : Cond.selects "StoveFavours" (⟨"StoveFavours", "goBack", "(I)I"⟩ : MethodName) (⟨"StoveFavours", "goBack", "(I)I"⟩ : MethodName) ∈ sf_tb := sf_mem (List.mem_of_getElem? (i := 863) (by decide +kernel)) rfl
theorem sf_m865 : Cond.classLink "StoveFavoursLaw" 10 "StoveFavoursModel" ∈ sf_tb := sf_mem (List.mem_of_getElem? (i := 865) (by decide +kernel)) rfl
theorem sf_m866 : Cond.instantiable "StoveFavoursModel" 40 ∈ sf_tb := sf_mem (List.mem_of_getElem? (i := 866) (by decide +kernel)) rfl
theorem sf_m867 : Cond.methodLink "StoveFavoursLaw" 12 (⟨"StoveFavoursModel", "<init>", "()V"⟩ : MethodName) ∈ sf_tb := sf_mem (List.mem_of_getElem? (i := 867) (by decide +kernel)) rfl
theorem sf_m868 : Cond.instanceMethod (⟨"StoveFavoursModel", "<init>", "()V"⟩ : MethodName) ∈ sf_tb := sf_mem (List.mem_of_getElem? (i := 868) (by decide +kernel)) rfl
theorem sf_m870 : Cond.methodLink "StoveFavoursModel" 1 (⟨"java/lang/Object", "<init>", "()V"⟩ : MethodName) ∈ sf_tb := sf_mem (List.mem_of_getElem? (i := 870) (by decide +kernel)) rfl
theorem sf_m871 : Cond.fieldLink "StoveFavoursModel" 152 "StoveFavoursModel" "people" "I" ∈ sf_tb := sf_mem (List.mem_of_getElem? (i := 871) (by decide +kernel)) rfl
theorem sf_m872 : Cond.fieldLink "StoveFavoursModel" 81 "StoveFavoursModel" "gain" "I" ∈ sf_tb := sf_mem (List.mem_of_getElem? (i := 872) (by decide +kernel)) rfl
theorem sf_m873 : Cond.fieldLink "StoveFavoursModel" 7 "StoveFavoursModel" "colder" "[I" ∈ sf_tb := sf_mem (List.mem_of_getElem? (i := 873) (by decide +kernel)) rfl
theorem sf_m874 : Cond.fieldLink "StoveFavoursModel" 13 "StoveFavoursModel" "costs" "[I" ∈ sf_tb := sf_mem (List.mem_of_getElem? (i := 874) (by decide +kernel)) rfl
theorem sf_m875 : Cond.fieldLink "StoveFavoursModel" 16 "StoveFavoursModel" "now" "[I" ∈ sf_tb := sf_mem (List.mem_of_getElem? (i := 875) (by decide +kernel)) rfl
theorem sf_m876 : Cond.fieldLink "StoveFavoursModel" 19 "StoveFavoursModel" "was" "[I" ∈ sf_tb := sf_mem (List.mem_of_getElem? (i := 876) (by decide +kernel)) rfl
theorem sf_m877 : Cond.fieldLink "StoveFavoursModel" 161 "StoveFavoursModel" "undos" "I" ∈ sf_tb := sf_mem (List.mem_of_getElem? (i := 877) (by decide +kernel)) rfl
theorem sf_m878 : Cond.fieldLink "StoveFavoursModel" 22 "StoveFavoursModel" "images" "[I" ∈ sf_tb := sf_mem (List.mem_of_getElem? (i := 878) (by decide +kernel)) rfl
theorem sf_m879 : Cond.fieldLink "StoveFavoursModel" 25 "StoveFavoursModel" "kept" "[Z" ∈ sf_tb := sf_mem (List.mem_of_getElem? (i := 879) (by decide +kernel)) rfl
theorem sf_m880 : Cond.fieldLink "StoveFavoursModel" 29 "StoveFavoursModel" "notes" "[I" ∈ sf_tb := sf_mem (List.mem_of_getElem? (i := 880) (by decide +kernel)) rfl
theorem sf_m881 : Cond.fieldLink "StoveFavoursModel" 155 "StoveFavoursModel" "noted" "I" ∈ sf_tb := sf_mem (List.mem_of_getElem? (i := 881) (by decide +kernel)) rfl
theorem sf_m882 : Cond.fieldLink "StoveFavoursModel" 32 "StoveFavoursModel" "book" "[I" ∈ sf_tb := sf_mem (List.mem_of_getElem? (i := 882) (by decide +kernel)) rfl
theorem sf_m883 : Cond.fieldLink "StoveFavoursModel" 158 "StoveFavoursModel" "lines" "I" ∈ sf_tb := sf_mem (List.mem_of_getElem? (i := 883) (by decide +kernel)) rfl
theorem sf_m884 : Cond.fieldLink "StoveFavoursModel" 35 "StoveFavoursModel" "text" "[I" ∈ sf_tb := sf_mem (List.mem_of_getElem? (i := 884) (by decide +kernel)) rfl
theorem sf_m885 : Cond.fieldLink "StoveFavoursModel" 91 "StoveFavoursModel" "typed" "I" ∈ sf_tb := sf_mem (List.mem_of_getElem? (i := 885) (by decide +kernel)) rfl
theorem sf_m886 : Cond.fieldLink "StoveFavoursModel" 77 "StoveFavoursModel" "faulty" "I" ∈ sf_tb := sf_mem (List.mem_of_getElem? (i := 886) (by decide +kernel)) rfl
theorem sf_m887 : Cond.fieldLink "StoveFavoursModel" 123 "StoveFavoursModel" "readPeople" "I" ∈ sf_tb := sf_mem (List.mem_of_getElem? (i := 887) (by decide +kernel)) rfl
theorem sf_m888 : Cond.fieldLink "StoveFavoursModel" 134 "StoveFavoursModel" "readSet" "I" ∈ sf_tb := sf_mem (List.mem_of_getElem? (i := 888) (by decide +kernel)) rfl
theorem sf_m889 : Cond.fieldLink "StoveFavoursModel" 137 "StoveFavoursModel" "hasStove" "Z" ∈ sf_tb := sf_mem (List.mem_of_getElem? (i := 889) (by decide +kernel)) rfl
theorem sf_m890 : Cond.fieldLink "StoveFavoursModel" 38 "StoveFavoursModel" "readWarm" "[I" ∈ sf_tb := sf_mem (List.mem_of_getElem? (i := 890) (by decide +kernel)) rfl
theorem sf_m891 : Cond.fieldLink "StoveFavoursModel" 41 "StoveFavoursModel" "readCold" "[I" ∈ sf_tb := sf_mem (List.mem_of_getElem? (i := 891) (by decide +kernel)) rfl
theorem sf_m892 : Cond.fieldLink "StoveFavoursModel" 44 "StoveFavoursModel" "readCosts" "[I" ∈ sf_tb := sf_mem (List.mem_of_getElem? (i := 892) (by decide +kernel)) rfl
theorem sf_m893 : Cond.fieldLink "StoveFavoursModel" 47 "StoveFavoursModel" "readRules" "[I" ∈ sf_tb := sf_mem (List.mem_of_getElem? (i := 893) (by decide +kernel)) rfl
theorem sf_m894 : Cond.fieldLink "StoveFavoursModel" 50 "StoveFavoursModel" "readStove" "[I" ∈ sf_tb := sf_mem (List.mem_of_getElem? (i := 894) (by decide +kernel)) rfl
theorem sf_m895 : Cond.fieldLink "StoveFavoursModel" 95 "StoveFavoursModel" "at" "I" ∈ sf_tb := sf_mem (List.mem_of_getElem? (i := 895) (by decide +kernel)) rfl
theorem sf_m896 : Cond.fieldLink "StoveFavoursModel" 106 "StoveFavoursModel" "fault" "I" ∈ sf_tb := sf_mem (List.mem_of_getElem? (i := 896) (by decide +kernel)) rfl
theorem sf_m897 : Cond.fieldLink "StoveFavoursModel" 116 "StoveFavoursModel" "value" "I" ∈ sf_tb := sf_mem (List.mem_of_getElem? (i := 897) (by decide +kernel)) rfl
theorem sf_m898 : Cond.fieldLink "StoveFavoursModel" 102 "StoveFavoursModel" "close" "Z" ∈ sf_tb := sf_mem (List.mem_of_getElem? (i := 898) (by decide +kernel)) rfl
theorem sf_m899 : Cond.fieldLink "StoveFavoursModel" 53 "StoveFavoursModel" "so" "[I" ∈ sf_tb := sf_mem (List.mem_of_getElem? (i := 899) (by decide +kernel)) rfl
theorem sf_m900 : Cond.fieldLink "StoveFavoursModel" 56 "StoveFavoursModel" "pile" "[I" ∈ sf_tb := sf_mem (List.mem_of_getElem? (i := 900) (by decide +kernel)) rfl
theorem sf_m901 : Cond.fieldLink "StoveFavoursModel" 59 "StoveFavoursModel" "pick" "[I" ∈ sf_tb := sf_mem (List.mem_of_getElem? (i := 901) (by decide +kernel)) rfl
theorem sf_m902 : Cond.fieldLink "StoveFavoursModel" 62 "StoveFavoursModel" "best" "[I" ∈ sf_tb := sf_mem (List.mem_of_getElem? (i := 902) (by decide +kernel)) rfl
theorem sf_m903 : Cond.fieldLink "StoveFavoursModel" 232 "StoveFavoursModel" "fewest" "I" ∈ sf_tb := sf_mem (List.mem_of_getElem? (i := 903) (by decide +kernel)) rfl
theorem sf_m904 : Cond.fieldLink "StoveFavoursModel" 235 "StoveFavoursModel" "fewestDone" "I" ∈ sf_tb := sf_mem (List.mem_of_getElem? (i := 904) (by decide +kernel)) rfl
theorem sf_m905 : Cond.fieldLink "StoveFavoursModel" 65 "StoveFavoursModel" "worth" "[I" ∈ sf_tb := sf_mem (List.mem_of_getElem? (i := 905) (by decide +kernel)) rfl
theorem sf_m906 : Cond.fieldLink "StoveFavoursModel" 68 "StoveFavoursModel" "ranks" "[I" ∈ sf_tb := sf_mem (List.mem_of_getElem? (i := 906) (by decide +kernel)) rfl
theorem sf_m907 : Cond.fieldLink "StoveFavoursModel" 71 "StoveFavoursModel" "hours" "[I" ∈ sf_tb := sf_mem (List.mem_of_getElem? (i := 907) (by decide +kernel)) rfl
theorem sf_m908 : Cond.fieldLink "StoveFavoursModel" 257 "StoveFavoursModel" "ago" "I" ∈ sf_tb := sf_mem (List.mem_of_getElem? (i := 908) (by decide +kernel)) rfl
theorem sf_m909 : Cond.fieldLink "StoveFavoursModel" 260 "StoveFavoursModel" "rounds" "I" ∈ sf_tb := sf_mem (List.mem_of_getElem? (i := 909) (by decide +kernel)) rfl
theorem sf_m910 : Cond.fieldLink "StoveFavoursModel" 74 "StoveFavoursModel" "alike" "[I" ∈ sf_tb := sf_mem (List.mem_of_getElem? (i := 910) (by decide +kernel)) rfl
theorem sf_m992 : Cond.arrayClass FieldType.boolean ∈ sf_tb := sf_mem (List.mem_of_getElem? (i := 992) (by decide +kernel)) rfl
theorem sf_m993 : Cond.methodLink "StoveFavoursLaw" 17 (⟨"StoveFavoursModel", "feed", "(I)I"⟩ : MethodName) ∈ sf_tb := sf_mem (List.mem_of_getElem? (i := 993) (by decide +kernel)) rfl
theorem sf_m994 : Cond.instanceMethod (⟨"StoveFavoursModel", "feed", "(I)I"⟩ : MethodName) ∈ sf_tb := sf_mem (List.mem_of_getElem? (i := 994) (by decide +kernel)) rfl
theorem sf_m995 : Cond.selects "StoveFavoursModel" (⟨"StoveFavoursModel", "feed", "(I)I"⟩ : MethodName) (⟨"StoveFavoursModel", "feed", "(I)I"⟩ : MethodName) ∈ sf_tb := sf_mem (List.mem_of_getElem? (i := 995) (by decide +kernel)) rfl
theorem sf_m997 : Cond.constantLong "StoveFavoursModel" 84 (255 : Int64) ∈ sf_tb := sf_mem (List.mem_of_getElem? (i := 997) (by decide +kernel)) rfl
theorem sf_m998 : Cond.methodLink "StoveFavoursModel" 86 (⟨"StoveFavoursModel", "in", "(JJJ)Z"⟩ : MethodName) ∈ sf_tb := sf_mem (List.mem_of_getElem? (i := 998) (by decide +kernel)) rfl
theorem sf_m999 : Cond.static (⟨"StoveFavoursModel", "in", "(JJJ)Z"⟩ : MethodName) ∈ sf_tb := sf_mem (List.mem_of_getElem? (i := 999) (by decide +kernel)) rfl
theorem sf_m1001 : Cond.constant "StoveFavoursModel" 90 (-1000000002 : Int32) ∈ sf_tb := sf_mem (List.mem_of_getElem? (i := 1001) (by decide +kernel)) rfl
theorem sf_m1002 : Cond.constant "StoveFavoursModel" 94 (-1000000004 : Int32) ∈ sf_tb := sf_mem (List.mem_of_getElem? (i := 1002) (by decide +kernel)) rfl
theorem sf_m1003 : Cond.methodLink "StoveFavoursLaw" 22 (⟨"StoveFavoursModel", "house", "()I"⟩ : MethodName) ∈ sf_tb := sf_mem (List.mem_of_getElem? (i := 1003) (by decide +kernel)) rfl
theorem sf_m1004 : Cond.instanceMethod (⟨"StoveFavoursModel", "house", "()I"⟩ : MethodName) ∈ sf_tb := sf_mem (List.mem_of_getElem? (i := 1004) (by decide +kernel)) rfl
theorem sf_m1005 : Cond.selects "StoveFavoursModel" (⟨"StoveFavoursModel", "house", "()I"⟩ : MethodName) (⟨"StoveFavoursModel", "house", "()I"⟩ : MethodName) ∈ sf_tb := sf_mem (List.mem_of_getElem? (i := 1005) (by decide +kernel)) rfl
theorem sf_m1007 : Cond.methodLink "StoveFavoursModel" 149 (⟨"StoveFavoursModel", "reads", "()Z"⟩ : MethodName) ∈ sf_tb := sf_mem (List.mem_of_getElem? (i := 1007) (by decide +kernel)) rfl
theorem sf_m1009 : Cond.instanceMethod (⟨"StoveFavoursModel", "reads", "()Z"⟩ : MethodName) ∈ sf_tb := sf_mem (List.mem_of_getElem? (i := 1009) (by decide +kernel)) rfl
theorem sf_m1011 : Cond.methodLink "StoveFavoursModel" 109 (⟨"StoveFavoursModel", "skips", "()V"⟩ : MethodName) ∈ sf_tb := sf_mem (List.mem_of_getElem? (i := 1011) (by decide +kernel)) rfl
theorem sf_m1013 : Cond.instanceMethod (⟨"StoveFavoursModel", "skips", "()V"⟩ : MethodName) ∈ sf_tb := sf_mem (List.mem_of_getElem? (i := 1013) (by decide +kernel)) rfl
theorem sf_m1015 : Cond.methodLink "StoveFavoursModel" 98 (⟨"StoveFavoursModel", "isAt", "(II)Z"⟩ : MethodName) ∈ sf_tb := sf_mem (List.mem_of_getElem? (i := 1015) (by decide +kernel)) rfl
theorem sf_m1017 : Cond.instanceMethod (⟨"StoveFavoursModel", "isAt", "(II)Z"⟩ : MethodName) ∈ sf_tb := sf_mem (List.mem_of_getElem? (i := 1017) (by decide +kernel)) rfl
theorem sf_m1019 : Cond.methodLink "StoveFavoursModel" 140 (⟨"StoveFavoursModel", "readsPerson", "()Z"⟩ : MethodName) ∈ sf_tb := sf_mem (List.mem_of_getElem? (i := 1019) (by decide +kernel)) rfl
theorem sf_m1021 : Cond.instanceMethod (⟨"StoveFavoursModel", "readsPerson", "()Z"⟩ : MethodName) ∈ sf_tb := sf_mem (List.mem_of_getElem? (i := 1021) (by decide +kernel)) rfl
theorem sf_m1023 : Cond.methodLink "StoveFavoursModel" 112 (⟨"StoveFavoursModel", "fails", "(I)Z"⟩ : MethodName) ∈ sf_tb := sf_mem (List.mem_of_getElem? (i := 1023) (by decide +kernel)) rfl
theorem sf_m1025 : Cond.instanceMethod (⟨"StoveFavoursModel", "fails", "(I)Z"⟩ : MethodName) ∈ sf_tb := sf_mem (List.mem_of_getElem? (i := 1025) (by decide +kernel)) rfl
theorem sf_m1027 : Cond.methodLink "StoveFavoursModel" 126 (⟨"StoveFavoursModel", "row", "([IIII)Z"⟩ : MethodName) ∈ sf_tb := sf_mem (List.mem_of_getElem? (i := 1027) (by decide +kernel)) rfl
theorem sf_m1029 : Cond.instanceMethod (⟨"StoveFavoursModel", "row", "([IIII)Z"⟩ : MethodName) ∈ sf_tb := sf_mem (List.mem_of_getElem? (i := 1029) (by decide +kernel)) rfl
theorem sf_m1031 : Cond.methodLink "StoveFavoursModel" 120 (⟨"StoveFavoursModel", "number", "(II)Z"⟩ : MethodName) ∈ sf_tb := sf_mem (List.mem_of_getElem? (i := 1031) (by decide +kernel)) rfl
theorem sf_m1033 : Cond.instanceMethod (⟨"StoveFavoursModel", "number", "(II)Z"⟩ : MethodName) ∈ sf_tb := sf_mem (List.mem_of_getElem? (i := 1033) (by decide +kernel)) rfl
theorem sf_m1035 : Cond.constant "StoveFavoursModel" 119 (1000000 : Int32) ∈ sf_tb := sf_mem (List.mem_of_getElem? (i := 1035) (by decide +kernel)) rfl
theorem sf_m1036 : Cond.methodLink "StoveFavoursModel" 130 (⟨"StoveFavoursModel", "sign", "()Z"⟩ : MethodName) ∈ sf_tb := sf_mem (List.mem_of_getElem? (i := 1036) (by decide +kernel)) rfl
theorem sf_m1038 : Cond.instanceMethod (⟨"StoveFavoursModel", "sign", "()Z"⟩ : MethodName) ∈ sf_tb := sf_mem (List.mem_of_getElem? (i := 1038) (by decide +kernel)) rfl
theorem sf_m1040 : Cond.methodLink "StoveFavoursModel" 143 (⟨"StoveFavoursModel", "readsDoing", "()Z"⟩ : MethodName) ∈ sf_tb := sf_mem (List.mem_of_getElem? (i := 1040) (by decide +kernel)) rfl
theorem sf_m1042 : Cond.instanceMethod (⟨"StoveFavoursModel", "readsDoing", "()Z"⟩ : MethodName) ∈ sf_tb := sf_mem (List.mem_of_getElem? (i := 1042) (by decide +kernel)) rfl
theorem sf_m1044 : Cond.methodLink "StoveFavoursModel" 146 (⟨"StoveFavoursModel", "readsStove", "()Z"⟩ : MethodName) ∈ sf_tb := sf_mem (List.mem_of_getElem? (i := 1044) (by decide +kernel)) rfl
theorem sf_m1046 : Cond.instanceMethod (⟨"StoveFavoursModel", "readsStove", "()Z"⟩ : MethodName) ∈ sf_tb := sf_mem (List.mem_of_getElem? (i := 1046) (by decide +kernel)) rfl
theorem sf_m1048 : Cond.methodLink "StoveFavoursLaw" 26 (⟨"StoveFavoursModel", "fault", "()I"⟩ : MethodName) ∈ sf_tb := sf_mem (List.mem_of_getElem? (i := 1048) (by decide +kernel)) rfl
theorem sf_m1049 : Cond.instanceMethod (⟨"StoveFavoursModel", "fault", "()I"⟩ : MethodName) ∈ sf_tb := sf_mem (List.mem_of_getElem? (i := 1049) (by decide +kernel)) rfl
theorem sf_m1050 : Cond.selects "StoveFavoursModel" (⟨"StoveFavoursModel", "fault", "()I"⟩ : MethodName) (⟨"StoveFavoursModel", "fault", "()I"⟩ : MethodName) ∈ sf_tb := sf_mem (List.mem_of_getElem? (i := 1050) (by decide +kernel)) rfl
theorem sf_m1052 : Cond.methodLink "StoveFavoursLaw" 30 (⟨"StoveFavoursModel", "told", "(I)I"⟩ : MethodName) ∈ sf_tb := sf_mem (List.mem_of_getElem? (i := 1052) (by decide +kernel)) rfl
theorem sf_m1053 : Cond.instanceMethod (⟨"StoveFavoursModel", "told", "(I)I"⟩ : MethodName) ∈ sf_tb := sf_mem (List.mem_of_getElem? (i := 1053) (by decide +kernel)) rfl
theorem sf_m1054 : Cond.selects "StoveFavoursModel" (⟨"StoveFavoursModel", "told", "(I)I"⟩ : MethodName) (⟨"StoveFavoursModel", "told", "(I)I"⟩ : MethodName) ∈ sf_tb := sf_mem (List.mem_of_getElem? (i := 1054) (by decide +kernel)) rfl
theorem sf_m1056 : Cond.constantLong "StoveFavoursModel" 166 (9 : Int64) ∈ sf_tb := sf_mem (List.mem_of_getElem? (i := 1056) (by decide +kernel)) rfl
theorem sf_m1057 : Cond.methodLink "StoveFavoursLaw" 35 (⟨"StoveFavoursModel", "person", "(II)I"⟩ : MethodName) ∈ sf_tb := sf_mem (List.mem_of_getElem? (i := 1057) (by decide +kernel)) rfl
theorem sf_m1058 : Cond.instanceMethod (⟨"StoveFavoursModel", "person", "(II)I"⟩ : MethodName) ∈ sf_tb := sf_mem (List.mem_of_getElem? (i := 1058) (by decide +kernel)) rfl
theorem sf_m1059 : Cond.selects "StoveFavoursModel" (⟨"StoveFavoursModel", "person", "(II)I"⟩ : MethodName) (⟨"StoveFavoursModel", "person", "(II)I"⟩ : MethodName) ∈ sf_tb := sf_mem (List.mem_of_getElem? (i := 1059) (by decide +kernel)) rfl
theorem sf_m1061 : Cond.methodLink "StoveFavoursModel" 168 (⟨"StoveFavoursModel", "isPerson", "(I)Z"⟩ : MethodName) ∈ sf_tb := sf_mem (List.mem_of_getElem? (i := 1061) (by decide +kernel)) rfl
theorem sf_m1063 : Cond.instanceMethod (⟨"StoveFavoursModel", "isPerson", "(I)Z"⟩ : MethodName) ∈ sf_tb := sf_mem (List.mem_of_getElem? (i := 1063) (by decide +kernel)) rfl
theorem sf_m1065 : Cond.constant "StoveFavoursModel" 171 (-1000000001 : Int32) ∈ sf_tb := sf_mem (List.mem_of_getElem? (i := 1065) (by decide +kernel)) rfl
theorem sf_m1066 : Cond.constantLong "StoveFavoursModel" 172 (2 : Int64) ∈ sf_tb := sf_mem (List.mem_of_getElem? (i := 1066) (by decide +kernel)) rfl
theorem sf_m1067 : Cond.methodLink "StoveFavoursLaw" 39 (⟨"StoveFavoursModel", "doing", "(II)I"⟩ : MethodName) ∈ sf_tb := sf_mem (List.mem_of_getElem? (i := 1067) (by decide +kernel)) rfl
theorem sf_m1068 : Cond.instanceMethod (⟨"StoveFavoursModel", "doing", "(II)I"⟩ : MethodName) ∈ sf_tb := sf_mem (List.mem_of_getElem? (i := 1068) (by decide +kernel)) rfl
theorem sf_m1069 : Cond.selects "StoveFavoursModel" (⟨"StoveFavoursModel", "doing", "(II)I"⟩ : MethodName) (⟨"StoveFavoursModel", "doing", "(II)I"⟩ : MethodName) ∈ sf_tb := sf_mem (List.mem_of_getElem? (i := 1069) (by decide +kernel)) rfl
theorem sf_m1071 : Cond.methodLink "StoveFavoursModel" 174 (⟨"StoveFavoursModel", "isDoing", "(I)Z"⟩ : MethodName) ∈ sf_tb := sf_mem (List.mem_of_getElem? (i := 1071) (by decide +kernel)) rfl
theorem sf_m1072 : Cond.static (⟨"StoveFavoursModel", "isDoing", "(I)Z"⟩ : MethodName) ∈ sf_tb := sf_mem (List.mem_of_getElem? (i := 1072) (by decide +kernel)) rfl
theorem sf_m1074 : Cond.constantLong "StoveFavoursModel" 164 (5 : Int64) ∈ sf_tb := sf_mem (List.mem_of_getElem? (i := 1074) (by decide +kernel)) rfl
theorem sf_m1075 : Cond.methodLink "StoveFavoursLaw" 43 (⟨"StoveFavoursModel", "act", "(II)I"⟩ : MethodName) ∈ sf_tb := sf_mem (List.mem_of_getElem? (i := 1075) (by decide +kernel)) rfl
theorem sf_m1076 : Cond.instanceMethod (⟨"StoveFavoursModel", "act", "(II)I"⟩ : MethodName) ∈ sf_tb := sf_mem (List.mem_of_getElem? (i := 1076) (by decide +kernel)) rfl
theorem sf_m1077 : Cond.selects "StoveFavoursModel" (⟨"StoveFavoursModel", "act", "(II)I"⟩ : MethodName) (⟨"StoveFavoursModel", "act", "(II)I"⟩ : MethodName) ∈ sf_tb := sf_mem (List.mem_of_getElem? (i := 1077) (by decide +kernel)) rfl
theorem sf_m1079 : Cond.constant "StoveFavoursModel" 200 (-1000000003 : Int32) ∈ sf_tb := sf_mem (List.mem_of_getElem? (i := 1079) (by decide +kernel)) rfl
theorem sf_m1080 : Cond.constant "StoveFavoursModel" 201 (90000 : Int32) ∈ sf_tb := sf_mem (List.mem_of_getElem? (i := 1080) (by decide +kernel)) rfl
theorem sf_m1081 : Cond.methodLink "StoveFavoursModel" 202 (⟨"StoveFavoursModel", "does", "(II)V"⟩ : MethodName) ∈ sf_tb := sf_mem (List.mem_of_getElem? (i := 1081) (by decide +kernel)) rfl
theorem sf_m1083 : Cond.instanceMethod (⟨"StoveFavoursModel", "does", "(II)V"⟩ : MethodName) ∈ sf_tb := sf_mem (List.mem_of_getElem? (i := 1083) (by decide +kernel)) rfl
theorem sf_m1085 : Cond.methodLink "StoveFavoursModel" 187 (⟨"StoveFavoursModel", "keepsHour", "()V"⟩ : MethodName) ∈ sf_tb := sf_mem (List.mem_of_getElem? (i := 1085) (by decide +kernel)) rfl
theorem sf_m1087 : Cond.instanceMethod (⟨"StoveFavoursModel", "keepsHour", "()V"⟩ : MethodName) ∈ sf_tb := sf_mem (List.mem_of_getElem? (i := 1087) (by decide +kernel)) rfl
theorem sf_m1089 : Cond.methodLink "StoveFavoursModel" 190 (⟨"StoveFavoursModel", "take", "()V"⟩ : MethodName) ∈ sf_tb := sf_mem (List.mem_of_getElem? (i := 1089) (by decide +kernel)) rfl
theorem sf_m1091 : Cond.instanceMethod (⟨"StoveFavoursModel", "take", "()V"⟩ : MethodName) ∈ sf_tb := sf_mem (List.mem_of_getElem? (i := 1091) (by decide +kernel)) rfl
theorem sf_m1093 : Cond.methodLink "StoveFavoursModel" 193 (⟨"StoveFavoursModel", "doesIt", "(II)V"⟩ : MethodName) ∈ sf_tb := sf_mem (List.mem_of_getElem? (i := 1093) (by decide +kernel)) rfl
theorem sf_m1095 : Cond.instanceMethod (⟨"StoveFavoursModel", "doesIt", "(II)V"⟩ : MethodName) ∈ sf_tb := sf_mem (List.mem_of_getElem? (i := 1095) (by decide +kernel)) rfl
theorem sf_m1097 : Cond.methodLink "StoveFavoursModel" 177 (⟨"StoveFavoursModel", "likes", "(II)I"⟩ : MethodName) ∈ sf_tb := sf_mem (List.mem_of_getElem? (i := 1097) (by decide +kernel)) rfl
theorem sf_m1099 : Cond.instanceMethod (⟨"StoveFavoursModel", "likes", "(II)I"⟩ : MethodName) ∈ sf_tb := sf_mem (List.mem_of_getElem? (i := 1099) (by decide +kernel)) rfl
theorem sf_m1101 : Cond.methodLink "StoveFavoursModel" 197 (⟨"StoveFavoursModel", "goesBy", "()V"⟩ : MethodName) ∈ sf_tb := sf_mem (List.mem_of_getElem? (i := 1101) (by decide +kernel)) rfl
theorem sf_m1103 : Cond.instanceMethod (⟨"StoveFavoursModel", "goesBy", "()V"⟩ : MethodName) ∈ sf_tb := sf_mem (List.mem_of_getElem? (i := 1103) (by decide +kernel)) rfl
theorem sf_m1105 : Cond.methodLink "StoveFavoursModel" 181 (⟨"StoveFavoursModel", "lesser", "(II)I"⟩ : MethodName) ∈ sf_tb := sf_mem (List.mem_of_getElem? (i := 1105) (by decide +kernel)) rfl
theorem sf_m1106 : Cond.static (⟨"StoveFavoursModel", "lesser", "(II)I"⟩ : MethodName) ∈ sf_tb := sf_mem (List.mem_of_getElem? (i := 1106) (by decide +kernel)) rfl
theorem sf_m1108 : Cond.methodLink "StoveFavoursModel" 184 (⟨"StoveFavoursModel", "greater", "(II)I"⟩ : MethodName) ∈ sf_tb := sf_mem (List.mem_of_getElem? (i := 1108) (by decide +kernel)) rfl
theorem sf_m1109 : Cond.static (⟨"StoveFavoursModel", "greater", "(II)I"⟩ : MethodName) ∈ sf_tb := sf_mem (List.mem_of_getElem? (i := 1109) (by decide +kernel)) rfl
theorem sf_m1111 : Cond.methodLink "StoveFavoursLaw" 47 (⟨"StoveFavoursModel", "sit", "(I)I"⟩ : MethodName) ∈ sf_tb := sf_mem (List.mem_of_getElem? (i := 1111) (by decide +kernel)) rfl
theorem sf_m1112 : Cond.instanceMethod (⟨"StoveFavoursModel", "sit", "(I)I"⟩ : MethodName) ∈ sf_tb := sf_mem (List.mem_of_getElem? (i := 1112) (by decide +kernel)) rfl
theorem sf_m1113 : Cond.selects "StoveFavoursModel" (⟨"StoveFavoursModel", "sit", "(I)I"⟩ : MethodName) (⟨"StoveFavoursModel", "sit", "(I)I"⟩ : MethodName) ∈ sf_tb := sf_mem (List.mem_of_getElem? (i := 1113) (by decide +kernel)) rfl
theorem sf_m1115 : Cond.constantLong "StoveFavoursModel" 205 (99 : Int64) ∈ sf_tb := sf_mem (List.mem_of_getElem? (i := 1115) (by decide +kernel)) rfl
theorem sf_m1116 : Cond.methodLink "StoveFavoursLaw" 51 (⟨"StoveFavoursModel", "drift", "(I)I"⟩ : MethodName) ∈ sf_tb := sf_mem (List.mem_of_getElem? (i := 1116) (by decide +kernel)) rfl
theorem sf_m1117 : Cond.instanceMethod (⟨"StoveFavoursModel", "drift", "(I)I"⟩ : MethodName) ∈ sf_tb := sf_mem (List.mem_of_getElem? (i := 1117) (by decide +kernel)) rfl
theorem sf_m1118 : Cond.selects "StoveFavoursModel" (⟨"StoveFavoursModel", "drift", "(I)I"⟩ : MethodName) (⟨"StoveFavoursModel", "drift", "(I)I"⟩ : MethodName) ∈ sf_tb := sf_mem (List.mem_of_getElem? (i := 1118) (by decide +kernel)) rfl
theorem sf_m1120 : Cond.methodLink "StoveFavoursModel" 214 (⟨"StoveFavoursModel", "draws", "(I)I"⟩ : MethodName) ∈ sf_tb := sf_mem (List.mem_of_getElem? (i := 1120) (by decide +kernel)) rfl
theorem sf_m1122 : Cond.instanceMethod (⟨"StoveFavoursModel", "draws", "(I)I"⟩ : MethodName) ∈ sf_tb := sf_mem (List.mem_of_getElem? (i := 1122) (by decide +kernel)) rfl
theorem sf_m1124 : Cond.constantLong "StoveFavoursModel" 207 (1103515245 : Int64) ∈ sf_tb := sf_mem (List.mem_of_getElem? (i := 1124) (by decide +kernel)) rfl
theorem sf_m1125 : Cond.constantLong "StoveFavoursModel" 209 (12345 : Int64) ∈ sf_tb := sf_mem (List.mem_of_getElem? (i := 1125) (by decide +kernel)) rfl
theorem sf_m1126 : Cond.constantLong "StoveFavoursModel" 211 (2147483648 : Int64) ∈ sf_tb := sf_mem (List.mem_of_getElem? (i := 1126) (by decide +kernel)) rfl
theorem sf_m1127 : Cond.constant "StoveFavoursModel" 213 (65536 : Int32) ∈ sf_tb := sf_mem (List.mem_of_getElem? (i := 1127) (by decide +kernel)) rfl
theorem sf_m1128 : Cond.methodLink "StoveFavoursLaw" 55 (⟨"StoveFavoursModel", "stack", "(I)I"⟩ : MethodName) ∈ sf_tb := sf_mem (List.mem_of_getElem? (i := 1128) (by decide +kernel)) rfl
theorem sf_m1129 : Cond.instanceMethod (⟨"StoveFavoursModel", "stack", "(I)I"⟩ : MethodName) ∈ sf_tb := sf_mem (List.mem_of_getElem? (i := 1129) (by decide +kernel)) rfl
theorem sf_m1130 : Cond.selects "StoveFavoursModel" (⟨"StoveFavoursModel", "stack", "(I)I"⟩ : MethodName) (⟨"StoveFavoursModel", "stack", "(I)I"⟩ : MethodName) ∈ sf_tb := sf_mem (List.mem_of_getElem? (i := 1130) (by decide +kernel)) rfl
theorem sf_m1132 : Cond.constantLong "StoveFavoursModel" 218 (999 : Int64) ∈ sf_tb := sf_mem (List.mem_of_getElem? (i := 1132) (by decide +kernel)) rfl
theorem sf_m1133 : Cond.methodLink "StoveFavoursLaw" 59 (⟨"StoveFavoursModel", "law", "(II)I"⟩ : MethodName) ∈ sf_tb := sf_mem (List.mem_of_getElem? (i := 1133) (by decide +kernel)) rfl
theorem sf_m1134 : Cond.instanceMethod (⟨"StoveFavoursModel", "law", "(II)I"⟩ : MethodName) ∈ sf_tb := sf_mem (List.mem_of_getElem? (i := 1134) (by decide +kernel)) rfl
theorem sf_m1135 : Cond.selects "StoveFavoursModel" (⟨"StoveFavoursModel", "law", "(II)I"⟩ : MethodName) (⟨"StoveFavoursModel", "law", "(II)I"⟩ : MethodName) ∈ sf_tb := sf_mem (List.mem_of_getElem? (i := 1135) (by decide +kernel)) rfl
theorem sf_m1137 : Cond.constantLong "StoveFavoursModel" 220 (6 : Int64) ∈ sf_tb := sf_mem (List.mem_of_getElem? (i := 1137) (by decide +kernel)) rfl
theorem sf_m1138 : Cond.methodLink "StoveFavoursLaw" 63 (⟨"StoveFavoursModel", "undo", "(I)I"⟩ : MethodName) ∈ sf_tb := sf_mem (List.mem_of_getElem? (i := 1138) (by decide +kernel)) rfl
theorem sf_m1139 : Cond.instanceMethod (⟨"StoveFavoursModel", "undo", "(I)I"⟩ : MethodName) ∈ sf_tb := sf_mem (List.mem_of_getElem? (i := 1139) (by decide +kernel)) rfl
theorem sf_m1140 : Cond.selects "StoveFavoursModel" (⟨"StoveFavoursModel", "undo", "(I)I"⟩ : MethodName) (⟨"StoveFavoursModel", "undo", "(I)I"⟩ : MethodName) ∈ sf_tb := sf_mem (List.mem_of_getElem? (i := 1140) (by decide +kernel)) rfl
theorem sf_m1142 : Cond.constantLong "StoveFavoursModel" 222 (30 : Int64) ∈ sf_tb := sf_mem (List.mem_of_getElem? (i := 1142) (by decide +kernel)) rfl
theorem sf_m1143 : Cond.methodLink "StoveFavoursLaw" 67 (⟨"StoveFavoursModel", "freezes", "(I)I"⟩ : MethodName) ∈ sf_tb := sf_mem (List.mem_of_getElem? (i := 1143) (by decide +kernel)) rfl
theorem sf_m1144 : Cond.instanceMethod (⟨"StoveFavoursModel", "freezes", "(I)I"⟩ : MethodName) ∈ sf_tb := sf_mem (List.mem_of_getElem? (i := 1144) (by decide +kernel)) rfl
theorem sf_m1145 : Cond.selects "StoveFavoursModel" (⟨"StoveFavoursModel", "freezes", "(I)I"⟩ : MethodName) (⟨"StoveFavoursModel", "freezes", "(I)I"⟩ : MethodName) ∈ sf_tb := sf_mem (List.mem_of_getElem? (i := 1145) (by decide +kernel)) rfl
theorem sf_m1147 : Cond.methodLink "StoveFavoursModel" 224 (⟨"StoveFavoursModel", "frozenOne", "()I"⟩ : MethodName) ∈ sf_tb := sf_mem (List.mem_of_getElem? (i := 1147) (by decide +kernel)) rfl
theorem sf_m1149 : Cond.instanceMethod (⟨"StoveFavoursModel", "frozenOne", "()I"⟩ : MethodName) ∈ sf_tb := sf_mem (List.mem_of_getElem? (i := 1149) (by decide +kernel)) rfl
theorem sf_m1151 : Cond.methodLink "StoveFavoursLaw" 72 (⟨"StoveFavoursModel", "favour", "(III)I"⟩ : MethodName) ∈ sf_tb := sf_mem (List.mem_of_getElem? (i := 1151) (by decide +kernel)) rfl
theorem sf_m1152 : Cond.instanceMethod (⟨"StoveFavoursModel", "favour", "(III)I"⟩ : MethodName) ∈ sf_tb := sf_mem (List.mem_of_getElem? (i := 1152) (by decide +kernel)) rfl
theorem sf_m1153 : Cond.selects "StoveFavoursModel" (⟨"StoveFavoursModel", "favour", "(III)I"⟩ : MethodName) (⟨"StoveFavoursModel", "favour", "(III)I"⟩ : MethodName) ∈ sf_tb := sf_mem (List.mem_of_getElem? (i := 1153) (by decide +kernel)) rfl
theorem sf_m1155 : Cond.constantLong "StoveFavoursModel" 244 (3 : Int64) ∈ sf_tb := sf_mem (List.mem_of_getElem? (i := 1155) (by decide +kernel)) rfl
theorem sf_m1156 : Cond.methodLink "StoveFavoursModel" 246 (⟨"StoveFavoursModel", "rows", "(II)V"⟩ : MethodName) ∈ sf_tb := sf_mem (List.mem_of_getElem? (i := 1156) (by decide +kernel)) rfl
theorem sf_m1158 : Cond.instanceMethod (⟨"StoveFavoursModel", "rows", "(II)V"⟩ : MethodName) ∈ sf_tb := sf_mem (List.mem_of_getElem? (i := 1158) (by decide +kernel)) rfl
theorem sf_m1160 : Cond.methodLink "StoveFavoursModel" 228 (⟨"StoveFavoursModel", "lies", "(I)V"⟩ : MethodName) ∈ sf_tb := sf_mem (List.mem_of_getElem? (i := 1160) (by decide +kernel)) rfl
theorem sf_m1162 : Cond.instanceMethod (⟨"StoveFavoursModel", "lies", "(I)V"⟩ : MethodName) ∈ sf_tb := sf_mem (List.mem_of_getElem? (i := 1162) (by decide +kernel)) rfl
theorem sf_m1164 : Cond.methodLink "StoveFavoursModel" 238 (⟨"StoveFavoursModel", "stands", "(I)V"⟩ : MethodName) ∈ sf_tb := sf_mem (List.mem_of_getElem? (i := 1164) (by decide +kernel)) rfl
theorem sf_m1166 : Cond.instanceMethod (⟨"StoveFavoursModel", "stands", "(I)V"⟩ : MethodName) ∈ sf_tb := sf_mem (List.mem_of_getElem? (i := 1166) (by decide +kernel)) rfl
theorem sf_m1168 : Cond.methodLink "StoveFavoursModel" 241 (⟨"StoveFavoursModel", "keepsRow", "(II)V"⟩ : MethodName) ∈ sf_tb := sf_mem (List.mem_of_getElem? (i := 1168) (by decide +kernel)) rfl
theorem sf_m1170 : Cond.instanceMethod (⟨"StoveFavoursModel", "keepsRow", "(II)V"⟩ : MethodName) ∈ sf_tb := sf_mem (List.mem_of_getElem? (i := 1170) (by decide +kernel)) rfl
theorem sf_m1172 : Cond.methodLink "StoveFavoursModel" 249 (⟨"StoveFavoursModel", "tells", "(II)I"⟩ : MethodName) ∈ sf_tb := sf_mem (List.mem_of_getElem? (i := 1172) (by decide +kernel)) rfl
theorem sf_m1174 : Cond.instanceMethod (⟨"StoveFavoursModel", "tells", "(II)I"⟩ : MethodName) ∈ sf_tb := sf_mem (List.mem_of_getElem? (i := 1174) (by decide +kernel)) rfl
theorem sf_m1176 : Cond.methodLink "StoveFavoursLaw" 76 (⟨"StoveFavoursModel", "allWarm", "(II)I"⟩ : MethodName) ∈ sf_tb := sf_mem (List.mem_of_getElem? (i := 1176) (by decide +kernel)) rfl
theorem sf_m1177 : Cond.instanceMethod (⟨"StoveFavoursModel", "allWarm", "(II)I"⟩ : MethodName) ∈ sf_tb := sf_mem (List.mem_of_getElem? (i := 1177) (by decide +kernel)) rfl
theorem sf_m1178 : Cond.selects "StoveFavoursModel" (⟨"StoveFavoursModel", "allWarm", "(II)I"⟩ : MethodName) (⟨"StoveFavoursModel", "allWarm", "(II)I"⟩ : MethodName) ∈ sf_tb := sf_mem (List.mem_of_getElem? (i := 1178) (by decide +kernel)) rfl
theorem sf_m1180 : Cond.methodLink "StoveFavoursLaw" 81 (⟨"StoveFavoursModel", "duel", "(IIII)I"⟩ : MethodName) ∈ sf_tb := sf_mem (List.mem_of_getElem? (i := 1180) (by decide +kernel)) rfl
theorem sf_m1181 : Cond.instanceMethod (⟨"StoveFavoursModel", "duel", "(IIII)I"⟩ : MethodName) ∈ sf_tb := sf_mem (List.mem_of_getElem? (i := 1181) (by decide +kernel)) rfl
theorem sf_m1182 : Cond.selects "StoveFavoursModel" (⟨"StoveFavoursModel", "duel", "(IIII)I"⟩ : MethodName) (⟨"StoveFavoursModel", "duel", "(IIII)I"⟩ : MethodName) ∈ sf_tb := sf_mem (List.mem_of_getElem? (i := 1182) (by decide +kernel)) rfl
theorem sf_m1184 : Cond.constantLong "StoveFavoursModel" 252 (4 : Int64) ∈ sf_tb := sf_mem (List.mem_of_getElem? (i := 1184) (by decide +kernel)) rfl
theorem sf_m1185 : Cond.methodLink "StoveFavoursLaw" 85 (⟨"StoveFavoursModel", "forEver", "(I)I"⟩ : MethodName) ∈ sf_tb := sf_mem (List.mem_of_getElem? (i := 1185) (by decide +kernel)) rfl
theorem sf_m1186 : Cond.instanceMethod (⟨"StoveFavoursModel", "forEver", "(I)I"⟩ : MethodName) ∈ sf_tb := sf_mem (List.mem_of_getElem? (i := 1186) (by decide +kernel)) rfl
theorem sf_m1187 : Cond.selects "StoveFavoursModel" (⟨"StoveFavoursModel", "forEver", "(I)I"⟩ : MethodName) (⟨"StoveFavoursModel", "forEver", "(I)I"⟩ : MethodName) ∈ sf_tb := sf_mem (List.mem_of_getElem? (i := 1187) (by decide +kernel)) rfl
theorem sf_m1189 : Cond.methodLink "StoveFavoursModel" 266 (⟨"StoveFavoursModel", "turns", "()V"⟩ : MethodName) ∈ sf_tb := sf_mem (List.mem_of_getElem? (i := 1189) (by decide +kernel)) rfl
theorem sf_m1191 : Cond.instanceMethod (⟨"StoveFavoursModel", "turns", "()V"⟩ : MethodName) ∈ sf_tb := sf_mem (List.mem_of_getElem? (i := 1191) (by decide +kernel)) rfl
theorem sf_m1193 : Cond.methodLink "StoveFavoursModel" 254 (⟨"StoveFavoursModel", "ranksAt", "(I)V"⟩ : MethodName) ∈ sf_tb := sf_mem (List.mem_of_getElem? (i := 1193) (by decide +kernel)) rfl
theorem sf_m1195 : Cond.instanceMethod (⟨"StoveFavoursModel", "ranksAt", "(I)V"⟩ : MethodName) ∈ sf_tb := sf_mem (List.mem_of_getElem? (i := 1195) (by decide +kernel)) rfl
theorem sf_m1197 : Cond.methodLink "StoveFavoursModel" 263 (⟨"StoveFavoursModel", "areAlike", "(II)Z"⟩ : MethodName) ∈ sf_tb := sf_mem (List.mem_of_getElem? (i := 1197) (by decide +kernel)) rfl
theorem sf_m1199 : Cond.instanceMethod (⟨"StoveFavoursModel", "areAlike", "(II)Z"⟩ : MethodName) ∈ sf_tb := sf_mem (List.mem_of_getElem? (i := 1199) (by decide +kernel)) rfl
theorem sf_m1201 : Cond.methodLink "StoveFavoursModel" 269 (⟨"StoveFavoursModel", "hoursOf", "(I)I"⟩ : MethodName) ∈ sf_tb := sf_mem (List.mem_of_getElem? (i := 1201) (by decide +kernel)) rfl
theorem sf_m1203 : Cond.instanceMethod (⟨"StoveFavoursModel", "hoursOf", "(I)I"⟩ : MethodName) ∈ sf_tb := sf_mem (List.mem_of_getElem? (i := 1203) (by decide +kernel)) rfl
theorem sf_m1205 : Cond.methodLink "StoveFavoursLaw" 89 (⟨"StoveFavoursModel", "fair", "()I"⟩ : MethodName) ∈ sf_tb := sf_mem (List.mem_of_getElem? (i := 1205) (by decide +kernel)) rfl
theorem sf_m1206 : Cond.instanceMethod (⟨"StoveFavoursModel", "fair", "()I"⟩ : MethodName) ∈ sf_tb := sf_mem (List.mem_of_getElem? (i := 1206) (by decide +kernel)) rfl
theorem sf_m1207 : Cond.selects "StoveFavoursModel" (⟨"StoveFavoursModel", "fair", "()I"⟩ : MethodName) (⟨"StoveFavoursModel", "fair", "()I"⟩ : MethodName) ∈ sf_tb := sf_mem (List.mem_of_getElem? (i := 1207) (by decide +kernel)) rfl
theorem sf_m1209 : Cond.methodLink "StoveFavoursLaw" 93 (⟨"StoveFavoursModel", "left", "(II)I"⟩ : MethodName) ∈ sf_tb := sf_mem (List.mem_of_getElem? (i := 1209) (by decide +kernel)) rfl
theorem sf_m1210 : Cond.instanceMethod (⟨"StoveFavoursModel", "left", "(II)I"⟩ : MethodName) ∈ sf_tb := sf_mem (List.mem_of_getElem? (i := 1210) (by decide +kernel)) rfl
theorem sf_m1211 : Cond.selects "StoveFavoursModel" (⟨"StoveFavoursModel", "left", "(II)I"⟩ : MethodName) (⟨"StoveFavoursModel", "left", "(II)I"⟩ : MethodName) ∈ sf_tb := sf_mem (List.mem_of_getElem? (i := 1211) (by decide +kernel)) rfl
theorem sf_m1213 : Cond.methodLink "StoveFavoursLaw" 97 (⟨"StoveFavoursModel", "doers", "(I)I"⟩ : MethodName) ∈ sf_tb := sf_mem (List.mem_of_getElem? (i := 1213) (by decide +kernel)) rfl
theorem sf_m1214 : Cond.instanceMethod (⟨"StoveFavoursModel", "doers", "(I)I"⟩ : MethodName) ∈ sf_tb := sf_mem (List.mem_of_getElem? (i := 1214) (by decide +kernel)) rfl
theorem sf_m1215 : Cond.selects "StoveFavoursModel" (⟨"StoveFavoursModel", "doers", "(I)I"⟩ : MethodName) (⟨"StoveFavoursModel", "doers", "(I)I"⟩ : MethodName) ∈ sf_tb := sf_mem (List.mem_of_getElem? (i := 1215) (by decide +kernel)) rfl
theorem sf_m1217 : Cond.methodLink "StoveFavoursLaw" 101 (⟨"StoveFavoursModel", "chair", "(I)I"⟩ : MethodName) ∈ sf_tb := sf_mem (List.mem_of_getElem? (i := 1217) (by decide +kernel)) rfl
theorem sf_m1218 : Cond.instanceMethod (⟨"StoveFavoursModel", "chair", "(I)I"⟩ : MethodName) ∈ sf_tb := sf_mem (List.mem_of_getElem? (i := 1218) (by decide +kernel)) rfl
theorem sf_m1219 : Cond.selects "StoveFavoursModel" (⟨"StoveFavoursModel", "chair", "(I)I"⟩ : MethodName) (⟨"StoveFavoursModel", "chair", "(I)I"⟩ : MethodName) ∈ sf_tb := sf_mem (List.mem_of_getElem? (i := 1219) (by decide +kernel)) rfl
theorem sf_m1221 : Cond.methodLink "StoveFavoursLaw" 105 (⟨"StoveFavoursModel", "note", "(IIII)I"⟩ : MethodName) ∈ sf_tb := sf_mem (List.mem_of_getElem? (i := 1221) (by decide +kernel)) rfl
theorem sf_m1222 : Cond.instanceMethod (⟨"StoveFavoursModel", "note", "(IIII)I"⟩ : MethodName) ∈ sf_tb := sf_mem (List.mem_of_getElem? (i := 1222) (by decide +kernel)) rfl
theorem sf_m1223 : Cond.selects "StoveFavoursModel" (⟨"StoveFavoursModel", "note", "(IIII)I"⟩ : MethodName) (⟨"StoveFavoursModel", "note", "(IIII)I"⟩ : MethodName) ∈ sf_tb := sf_mem (List.mem_of_getElem? (i := 1223) (by decide +kernel)) rfl
theorem sf_m1225 : Cond.methodLink "StoveFavoursLaw" 109 (⟨"StoveFavoursModel", "laws", "(I)I"⟩ : MethodName) ∈ sf_tb := sf_mem (List.mem_of_getElem? (i := 1225) (by decide +kernel)) rfl
theorem sf_m1226 : Cond.instanceMethod (⟨"StoveFavoursModel", "laws", "(I)I"⟩ : MethodName) ∈ sf_tb := sf_mem (List.mem_of_getElem? (i := 1226) (by decide +kernel)) rfl
theorem sf_m1227 : Cond.selects "StoveFavoursModel" (⟨"StoveFavoursModel", "laws", "(I)I"⟩ : MethodName) (⟨"StoveFavoursModel", "laws", "(I)I"⟩ : MethodName) ∈ sf_tb := sf_mem (List.mem_of_getElem? (i := 1227) (by decide +kernel)) rfl
theorem sf_m1229 : Cond.methodLink "StoveFavoursModel" 272 (⟨"StoveFavoursModel", "lawsOf", "(I)I"⟩ : MethodName) ∈ sf_tb := sf_mem (List.mem_of_getElem? (i := 1229) (by decide +kernel)) rfl
theorem sf_m1231 : Cond.instanceMethod (⟨"StoveFavoursModel", "lawsOf", "(I)I"⟩ : MethodName) ∈ sf_tb := sf_mem (List.mem_of_getElem? (i := 1231) (by decide +kernel)) rfl
theorem sf_m1233 : Cond.methodLink "StoveFavoursLaw" 113 (⟨"StoveFavoursModel", "tryNext", "(I)I"⟩ : MethodName) ∈ sf_tb := sf_mem (List.mem_of_getElem? (i := 1233) (by decide +kernel)) rfl
theorem sf_m1234 : Cond.instanceMethod (⟨"StoveFavoursModel", "tryNext", "(I)I"⟩ : MethodName) ∈ sf_tb := sf_mem (List.mem_of_getElem? (i := 1234) (by decide +kernel)) rfl
theorem sf_m1235 : Cond.selects "StoveFavoursModel" (⟨"StoveFavoursModel", "tryNext", "(I)I"⟩ : MethodName) (⟨"StoveFavoursModel", "tryNext", "(I)I"⟩ : MethodName) ∈ sf_tb := sf_mem (List.mem_of_getElem? (i := 1235) (by decide +kernel)) rfl
theorem sf_m1237 : Cond.methodLink "StoveFavoursLaw" 117 (⟨"StoveFavoursModel", "write", "(II)I"⟩ : MethodName) ∈ sf_tb := sf_mem (List.mem_of_getElem? (i := 1237) (by decide +kernel)) rfl
theorem sf_m1238 : Cond.instanceMethod (⟨"StoveFavoursModel", "write", "(II)I"⟩ : MethodName) ∈ sf_tb := sf_mem (List.mem_of_getElem? (i := 1238) (by decide +kernel)) rfl
theorem sf_m1239 : Cond.selects "StoveFavoursModel" (⟨"StoveFavoursModel", "write", "(II)I"⟩ : MethodName) (⟨"StoveFavoursModel", "write", "(II)I"⟩ : MethodName) ∈ sf_tb := sf_mem (List.mem_of_getElem? (i := 1239) (by decide +kernel)) rfl
theorem sf_m1241 : Cond.methodLink "StoveFavoursLaw" 121 (⟨"StoveFavoursModel", "judge", "(I)I"⟩ : MethodName) ∈ sf_tb := sf_mem (List.mem_of_getElem? (i := 1241) (by decide +kernel)) rfl
theorem sf_m1242 : Cond.instanceMethod (⟨"StoveFavoursModel", "judge", "(I)I"⟩ : MethodName) ∈ sf_tb := sf_mem (List.mem_of_getElem? (i := 1242) (by decide +kernel)) rfl
theorem sf_m1243 : Cond.selects "StoveFavoursModel" (⟨"StoveFavoursModel", "judge", "(I)I"⟩ : MethodName) (⟨"StoveFavoursModel", "judge", "(I)I"⟩ : MethodName) ∈ sf_tb := sf_mem (List.mem_of_getElem? (i := 1243) (by decide +kernel)) rfl
theorem sf_m1245 : Cond.methodLink "StoveFavoursLaw" 125 (⟨"StoveFavoursModel", "tear", "()I"⟩ : MethodName) ∈ sf_tb := sf_mem (List.mem_of_getElem? (i := 1245) (by decide +kernel)) rfl
theorem sf_m1246 : Cond.instanceMethod (⟨"StoveFavoursModel", "tear", "()I"⟩ : MethodName) ∈ sf_tb := sf_mem (List.mem_of_getElem? (i := 1246) (by decide +kernel)) rfl
theorem sf_m1247 : Cond.selects "StoveFavoursModel" (⟨"StoveFavoursModel", "tear", "()I"⟩ : MethodName) (⟨"StoveFavoursModel", "tear", "()I"⟩ : MethodName) ∈ sf_tb := sf_mem (List.mem_of_getElem? (i := 1247) (by decide +kernel)) rfl
theorem sf_m1249 : Cond.methodLink "StoveFavoursLaw" 129 (⟨"StoveFavoursModel", "seed", "(I)I"⟩ : MethodName) ∈ sf_tb := sf_mem (List.mem_of_getElem? (i := 1249) (by decide +kernel)) rfl
theorem sf_m1250 : Cond.instanceMethod (⟨"StoveFavoursModel", "seed", "(I)I"⟩ : MethodName) ∈ sf_tb := sf_mem (List.mem_of_getElem? (i := 1250) (by decide +kernel)) rfl
theorem sf_m1251 : Cond.selects "StoveFavoursModel" (⟨"StoveFavoursModel", "seed", "(I)I"⟩ : MethodName) (⟨"StoveFavoursModel", "seed", "(I)I"⟩ : MethodName) ∈ sf_tb := sf_mem (List.mem_of_getElem? (i := 1251) (by decide +kernel)) rfl
theorem sf_m1253 : Cond.methodLink "StoveFavoursLaw" 133 (⟨"StoveFavoursModel", "keep", "(I)I"⟩ : MethodName) ∈ sf_tb := sf_mem (List.mem_of_getElem? (i := 1253) (by decide +kernel)) rfl
theorem sf_m1254 : Cond.instanceMethod (⟨"StoveFavoursModel", "keep", "(I)I"⟩ : MethodName) ∈ sf_tb := sf_mem (List.mem_of_getElem? (i := 1254) (by decide +kernel)) rfl
theorem sf_m1255 : Cond.selects "StoveFavoursModel" (⟨"StoveFavoursModel", "keep", "(I)I"⟩ : MethodName) (⟨"StoveFavoursModel", "keep", "(I)I"⟩ : MethodName) ∈ sf_tb := sf_mem (List.mem_of_getElem? (i := 1255) (by decide +kernel)) rfl
theorem sf_m1257 : Cond.methodLink "StoveFavoursLaw" 137 (⟨"StoveFavoursModel", "goBack", "(I)I"⟩ : MethodName) ∈ sf_tb := sf_mem (List.mem_of_getElem? (i := 1257) (by decide +kernel)) rfl
theorem sf_m1258 : Cond.instanceMethod (⟨"StoveFavoursModel", "goBack", "(I)I"⟩ : MethodName) ∈ sf_tb := sf_mem (List.mem_of_getElem? (i := 1258) (by decide +kernel)) rfl
theorem sf_m1259 : Cond.selects "StoveFavoursModel" (⟨"StoveFavoursModel", "goBack", "(I)I"⟩ : MethodName) (⟨"StoveFavoursModel", "goBack", "(I)I"⟩ : MethodName) ∈ sf_tb := sf_mem (List.mem_of_getElem? (i := 1259) (by decide +kernel)) rfl

def RX0 : String := "StoveFavours$Book"
def TX0 : u_T := fun k => match k with
  | 0 => ("StoveFavours$Book", "doings", "LStoveFavours$Row;", true)
  | 1 => ("StoveFavours$Book", "doers", "LStoveFavours$Row;", true)
  | _ => ("StoveFavours$Book", "lines", "I", false)
def tyX0 : Nat → FieldType := fun k => match k with
  | 0 => .object "StoveFavours$Row"
  | 1 => .object "StoveFavours$Row"
  | _ => .int
abbrev wsX00 : List Cond := u_ws RX0 TX0 3
theorem nmX0 : ∀ a, a < 3 → ∀ b, b < 3 → a ≠ b → (TX0 a).2.1 ≠ (TX0 b).2.1 := by decide +kernel
theorem tyX0_ok : ∀ k, k < 3 → parseFieldDescriptor (TX0 k).2.2.1 = some (tyX0 k) := by decide +kernel
abbrev cX0_init : ByteArray := prog_2_method_1_code
def yX0_init : MethodName := ⟨RX0, "<init>", "()V"⟩
abbrev cX0_add : ByteArray := prog_2_method_2_code
def yX0_add : MethodName := ⟨RX0, "add", "(II)I"⟩
def RX1 : String := "StoveFavours$Contest"
def TX1 : u_T := fun k => match k with
  | 0 => ("StoveFavours$Contest", "stoves", "LStoveFavours$Shelf;", true)
  | 1 => ("StoveFavours$Contest", "first", "I", false)
  | 2 => ("StoveFavours$Contest", "other", "I", false)
  | 3 => ("StoveFavours$Contest", "hours", "I", false)
  | 4 => ("StoveFavours$Contest", "result", "I", false)
  | _ => ("StoveFavours$Contest", "firstThing", "I", false)
def tyX1 : Nat → FieldType := fun k => match k with
  | 0 => .object "StoveFavours$Shelf"
  | 1 => .int
  | 2 => .int
  | 3 => .int
  | 4 => .int
  | _ => .int
abbrev wsX10 : List Cond := u_ws RX1 TX1 6
theorem nmX1 : ∀ a, a < 6 → ∀ b, b < 6 → a ≠ b → (TX1 a).2.1 ≠ (TX1 b).2.1 := by decide +kernel
theorem tyX1_ok : ∀ k, k < 6 → parseFieldDescriptor (TX1 k).2.2.1 = some (tyX1 k) := by decide +kernel
abbrev cX1_init : ByteArray := prog_3_method_1_code
def yX1_init : MethodName := ⟨RX1, "<init>", "()V"⟩
abbrev cX1_fight : ByteArray := prog_3_method_2_code
def yX1_fight : MethodName := ⟨RX1, "fight", "(LStoveFavours$Home;LStoveFavours$Stove;III)V"⟩
abbrev cX1_playedOut : ByteArray := prog_3_method_3_code
def yX1_playedOut : MethodName := ⟨RX1, "playedOut", "(LStoveFavours$Home;I)I"⟩
abbrev cX1_endOf : ByteArray := prog_3_method_4_code
def yX1_endOf : MethodName := ⟨RX1, "endOf", "(LStoveFavours$Home;II)I"⟩
def RX2 : String := "StoveFavours$Home"
def TX2 : u_T := fun k => match k with
  | 0 => ("StoveFavours$Home", "warmth", "LStoveFavours$Row;", true)
  | 1 => ("StoveFavours$Home", "colder", "LStoveFavours$Row;", true)
  | 2 => ("StoveFavours$Home", "costs", "LStoveFavours$Row;", true)
  | 3 => ("StoveFavours$Home", "lawOf", "LStoveFavours$Row;", true)
  | 4 => ("StoveFavours$Home", "people", "I", false)
  | 5 => ("StoveFavours$Home", "liked", "I", false)
  | 6 => ("StoveFavours$Home", "gain", "I", false)
  | _ => ("StoveFavours$Home", "logs", "I", false)
def tyX2 : Nat → FieldType := fun k => match k with
  | 0 => .object "StoveFavours$Row"
  | 1 => .object "StoveFavours$Row"
  | 2 => .object "StoveFavours$Row"
  | 3 => .object "StoveFavours$Row"
  | 4 => .int
  | 5 => .int
  | 6 => .int
  | _ => .int
abbrev wsX20 : List Cond := u_ws RX2 TX2 8
theorem nmX2 : ∀ a, a < 8 → ∀ b, b < 8 → a ≠ b → (TX2 a).2.1 ≠ (TX2 b).2.1 := by decide +kernel
theorem tyX2_ok : ∀ k, k < 8 → parseFieldDescriptor (TX2 k).2.2.1 = some (tyX2 k) := by decide +kernel
abbrev cX2_init : ByteArray := prog_4_method_1_code
def yX2_init : MethodName := ⟨RX2, "<init>", "()V"⟩
abbrev cX2_makeUntold : ByteArray := prog_4_method_2_code
def yX2_makeUntold : MethodName := ⟨RX2, "makeUntold", "()V"⟩
abbrev cX2_copyFrom : ByteArray := prog_4_method_3_code
def yX2_copyFrom : MethodName := ⟨RX2, "copyFrom", "(LStoveFavours$Home;)V"⟩
def RX3 : String := "StoveFavours$Notes"
def TX3 : u_T := fun k => match k with
  | 0 => ("StoveFavours$Notes", "doings", "LStoveFavours$Row;", true)
  | 1 => ("StoveFavours$Notes", "doers", "LStoveFavours$Row;", true)
  | 2 => ("StoveFavours$Notes", "were", "LStoveFavours$Row;", true)
  | 3 => ("StoveFavours$Notes", "became", "LStoveFavours$Row;", true)
  | _ => ("StoveFavours$Notes", "count", "I", false)
def tyX3 : Nat → FieldType := fun k => match k with
  | 0 => .object "StoveFavours$Row"
  | 1 => .object "StoveFavours$Row"
  | 2 => .object "StoveFavours$Row"
  | 3 => .object "StoveFavours$Row"
  | _ => .int
abbrev wsX30 : List Cond := u_ws RX3 TX3 5
theorem nmX3 : ∀ a, a < 5 → ∀ b, b < 5 → a ≠ b → (TX3 a).2.1 ≠ (TX3 b).2.1 := by decide +kernel
theorem tyX3_ok : ∀ k, k < 5 → parseFieldDescriptor (TX3 k).2.2.1 = some (tyX3 k) := by decide +kernel
abbrev cX3_init : ByteArray := prog_5_method_1_code
def yX3_init : MethodName := ⟨RX3, "<init>", "()V"⟩
abbrev cX3_add : ByteArray := prog_5_method_2_code
def yX3_add : MethodName := ⟨RX3, "add", "(IIII)I"⟩
abbrev cX3_fitting : ByteArray := prog_5_method_3_code
def yX3_fitting : MethodName := ⟨RX3, "fitting", "(II)I"⟩
abbrev cX3_fits : ByteArray := prog_5_method_4_code
def yX3_fits : MethodName := ⟨RX3, "fits", "(III)Z"⟩
def RX4 : String := "StoveFavours$Past"
def TX4 : u_T := fun k => match k with
  | 0 => ("StoveFavours$Past", "ring", "LStoveFavours$Shelf;", true)
  | 1 => ("StoveFavours$Past", "next", "I", false)
  | _ => ("StoveFavours$Past", "count", "I", false)
def tyX4 : Nat → FieldType := fun k => match k with
  | 0 => .object "StoveFavours$Shelf"
  | 1 => .int
  | _ => .int
abbrev wsX40 : List Cond := u_ws RX4 TX4 3
theorem nmX4 : ∀ a, a < 3 → ∀ b, b < 3 → a ≠ b → (TX4 a).2.1 ≠ (TX4 b).2.1 := by decide +kernel
theorem tyX4_ok : ∀ k, k < 3 → parseFieldDescriptor (TX4 k).2.2.1 = some (tyX4 k) := by decide +kernel
abbrev cX4_init : ByteArray := prog_6_method_1_code
def yX4_init : MethodName := ⟨RX4, "<init>", "()V"⟩
abbrev cX4_take : ByteArray := prog_6_method_2_code
def yX4_take : MethodName := ⟨RX4, "take", "(LStoveFavours$Stove;)V"⟩
abbrev cX4_takeBack : ByteArray := prog_6_method_3_code
def yX4_takeBack : MethodName := ⟨RX4, "takeBack", "(I)LStoveFavours$Stove;"⟩
def RX5 : String := "StoveFavours$Planner"
def TX5 : u_T := fun k => match k with
  | 0 => ("StoveFavours$Planner", "stoves", "LStoveFavours$Shelf;", true)
  | 1 => ("StoveFavours$Planner", "row", "LStoveFavours$Row;", true)
  | 2 => ("StoveFavours$Planner", "best", "LStoveFavours$Row;", true)
  | 3 => ("StoveFavours$Planner", "things", "LStoveFavours$Row;", true)
  | 4 => ("StoveFavours$Planner", "costs", "LStoveFavours$Row;", true)
  | 5 => ("StoveFavours$Planner", "hours", "I", false)
  | 6 => ("StoveFavours$Planner", "wanted", "I", false)
  | 7 => ("StoveFavours$Planner", "purse", "I", false)
  | 8 => ("StoveFavours$Planner", "found", "Z", false)
  | 9 => ("StoveFavours$Planner", "bestLogs", "I", false)
  | _ => ("StoveFavours$Planner", "bestDoings", "I", false)
def tyX5 : Nat → FieldType := fun k => match k with
  | 0 => .object "StoveFavours$Shelf"
  | 1 => .object "StoveFavours$Row"
  | 2 => .object "StoveFavours$Row"
  | 3 => .object "StoveFavours$Row"
  | 4 => .object "StoveFavours$Row"
  | 5 => .int
  | 6 => .int
  | 7 => .int
  | 8 => .boolean
  | 9 => .int
  | _ => .int
abbrev wsX50 : List Cond := u_ws RX5 TX5 11
theorem nmX5 : ∀ a, a < 11 → ∀ b, b < 11 → a ≠ b → (TX5 a).2.1 ≠ (TX5 b).2.1 := by decide +kernel
theorem tyX5_ok : ∀ k, k < 11 → parseFieldDescriptor (TX5 k).2.2.1 = some (tyX5 k) := by decide +kernel
abbrev cX5_init : ByteArray := prog_7_method_1_code
def yX5_init : MethodName := ⟨RX5, "<init>", "()V"⟩
abbrev cX5_plan : ByteArray := prog_7_method_2_code
def yX5_plan : MethodName := ⟨RX5, "plan", "(LStoveFavours$Home;LStoveFavours$Stove;II)V"⟩
abbrev cX5_answer : ByteArray := prog_7_method_3_code
def yX5_answer : MethodName := ⟨RX5, "answer", "(I)I"⟩
abbrev cX5_search : ByteArray := prog_7_method_4_code
def yX5_search : MethodName := ⟨RX5, "search", "(LStoveFavours$Home;III)V"⟩
abbrev cX5_takeRow : ByteArray := prog_7_method_5_code
def yX5_takeRow : MethodName := ⟨RX5, "takeRow", "(II)V"⟩
abbrev cX5_gatherThings : ByteArray := prog_7_method_6_code
def yX5_gatherThings : MethodName := ⟨RX5, "gatherThings", "(LStoveFavours$Home;I)V"⟩
abbrev cX5_offer : ByteArray := prog_7_method_7_code
def yX5_offer : MethodName := ⟨RX5, "offer", "(IIII)V"⟩
abbrev cX5_madeBehind : ByteArray := prog_7_method_8_code
def yX5_madeBehind : MethodName := ⟨RX5, "madeBehind", "(III)I"⟩
abbrev cX5_goOn : ByteArray := prog_7_method_9_code
def yX5_goOn : MethodName := ⟨RX5, "goOn", "(LStoveFavours$Home;IIII)V"⟩
abbrev cX5_isBetter : ByteArray := prog_7_method_10_code
def yX5_isBetter : MethodName := ⟨RX5, "isBetter", "(II)Z"⟩
abbrev cX5_isAllowed : ByteArray := prog_7_method_11_code
def yX5_isAllowed : MethodName := ⟨RX5, "isAllowed", "(ILStoveFavours$Stove;I)Z"⟩
def RX6 : String := "StoveFavours$Rounds"
def TX6 : u_T := fun k => match k with
  | 0 => ("StoveFavours$Rounds", "stove", "LStoveFavours$Stove;", true)
  | 1 => ("StoveFavours$Rounds", "standings", "LStoveFavours$Row;", true)
  | 2 => ("StoveFavours$Rounds", "darlings", "LStoveFavours$Row;", true)
  | 3 => ("StoveFavours$Rounds", "hours", "I", false)
  | 4 => ("StoveFavours$Rounds", "lapHours", "I", false)
  | _ => ("StoveFavours$Rounds", "lap", "I", false)
def tyX6 : Nat → FieldType := fun k => match k with
  | 0 => .object "StoveFavours$Stove"
  | 1 => .object "StoveFavours$Row"
  | 2 => .object "StoveFavours$Row"
  | 3 => .int
  | 4 => .int
  | _ => .int
abbrev wsX60 : List Cond := u_ws RX6 TX6 6
theorem nmX6 : ∀ a, a < 6 → ∀ b, b < 6 → a ≠ b → (TX6 a).2.1 ≠ (TX6 b).2.1 := by decide +kernel
theorem tyX6_ok : ∀ k, k < 6 → parseFieldDescriptor (TX6 k).2.2.1 = some (tyX6 k) := by decide +kernel
abbrev cX6_init : ByteArray := prog_8_method_1_code
def yX6_init : MethodName := ⟨RX6, "<init>", "()V"⟩
abbrev cX6_run : ByteArray := prog_8_method_2_code
def yX6_run : MethodName := ⟨RX6, "run", "(ILStoveFavours$Stove;LStoveFavours$Book;)V"⟩
abbrev cX6_goRound : ByteArray := prog_8_method_3_code
def yX6_goRound : MethodName := ⟨RX6, "goRound", "(ILStoveFavours$Book;)V"⟩
abbrev cX6_standing : ByteArray := prog_8_method_4_code
def yX6_standing : MethodName := ⟨RX6, "standing", "(I)I"⟩
abbrev cX6_roundsSinceLike : ByteArray := prog_8_method_5_code
def yX6_roundsSinceLike : MethodName := ⟨RX6, "roundsSinceLike", "(I)I"⟩
abbrev cX6_hoursOf : ByteArray := prog_8_method_6_code
def yX6_hoursOf : MethodName := ⟨RX6, "hoursOf", "(I)I"⟩
abbrev cX6_spread : ByteArray := prog_8_method_7_code
def yX6_spread : MethodName := ⟨RX6, "spread", "(I)I"⟩
def RX7 : String := "StoveFavours$Row"
def TX7 : u_T := fun k => match k with
  | _ => ("StoveFavours$Row", "cells", "[I", true)
def tyX7 : Nat → FieldType := fun k => match k with
  | _ => .array .int
abbrev wsX70 : List Cond := u_ws RX7 TX7 1
theorem nmX7 : ∀ a, a < 1 → ∀ b, b < 1 → a ≠ b → (TX7 a).2.1 ≠ (TX7 b).2.1 := by decide +kernel
theorem tyX7_ok : ∀ k, k < 1 → parseFieldDescriptor (TX7 k).2.2.1 = some (tyX7 k) := by decide +kernel
abbrev cX7_init : ByteArray := prog_9_method_1_code
def yX7_init : MethodName := ⟨RX7, "<init>", "(I)V"⟩
abbrev cX7_at : ByteArray := prog_9_method_2_code
def yX7_at : MethodName := ⟨RX7, "at", "(I)I"⟩
abbrev cX7_put : ByteArray := prog_9_method_3_code
def yX7_put : MethodName := ⟨RX7, "put", "(II)V"⟩
abbrev cX7_fill : ByteArray := prog_9_method_4_code
def yX7_fill : MethodName := ⟨RX7, "fill", "(I)V"⟩
abbrev cX7_copyFrom : ByteArray := prog_9_method_5_code
def yX7_copyFrom : MethodName := ⟨RX7, "copyFrom", "(LStoveFavours$Row;)V"⟩
def RX8 : String := "StoveFavours$Shelf"
def TX8 : u_T := fun k => match k with
  | 0 => ("StoveFavours$Shelf", "stoves", "[LStoveFavours$Stove;", true)
  | _ => ("StoveFavours$Shelf", "spare", "LStoveFavours$Stove;", true)
def tyX8 : Nat → FieldType := fun k => match k with
  | 0 => .array (.object "StoveFavours$Stove")
  | _ => .object "StoveFavours$Stove"
abbrev wsX80 : List Cond := u_ws RX8 TX8 2
theorem nmX8 : ∀ a, a < 2 → ∀ b, b < 2 → a ≠ b → (TX8 a).2.1 ≠ (TX8 b).2.1 := by decide +kernel
theorem tyX8_ok : ∀ k, k < 2 → parseFieldDescriptor (TX8 k).2.2.1 = some (tyX8 k) := by decide +kernel
abbrev cX8_init : ByteArray := prog_10_method_1_code
def yX8_init : MethodName := ⟨RX8, "<init>", "(I)V"⟩
abbrev cX8_at : ByteArray := prog_10_method_2_code
def yX8_at : MethodName := ⟨RX8, "at", "(I)LStoveFavours$Stove;"⟩
def RX9 : String := "StoveFavours$Stove"
def TX9 : u_T := fun k => match k with
  | 0 => ("StoveFavours$Stove", "warmth", "LStoveFavours$Row;", true)
  | 1 => ("StoveFavours$Stove", "since", "LStoveFavours$Row;", true)
  | 2 => ("StoveFavours$Stove", "lawOf", "LStoveFavours$Row;", true)
  | 3 => ("StoveFavours$Stove", "darling", "I", false)
  | 4 => ("StoveFavours$Stove", "logs", "I", false)
  | _ => ("StoveFavours$Stove", "hour", "I", false)
def tyX9 : Nat → FieldType := fun k => match k with
  | 0 => .object "StoveFavours$Row"
  | 1 => .object "StoveFavours$Row"
  | 2 => .object "StoveFavours$Row"
  | 3 => .int
  | 4 => .int
  | _ => .int
abbrev wsX90 : List Cond := u_ws RX9 TX9 6
theorem nmX9 : ∀ a, a < 6 → ∀ b, b < 6 → a ≠ b → (TX9 a).2.1 ≠ (TX9 b).2.1 := by decide +kernel
theorem tyX9_ok : ∀ k, k < 6 → parseFieldDescriptor (TX9 k).2.2.1 = some (tyX9 k) := by decide +kernel
abbrev cX9_init : ByteArray := prog_11_method_1_code
def yX9_init : MethodName := ⟨RX9, "<init>", "()V"⟩
abbrev cX9_moveInto : ByteArray := prog_11_method_2_code
def yX9_moveInto : MethodName := ⟨RX9, "moveInto", "(LStoveFavours$Home;)V"⟩
abbrev cX9_copyFrom : ByteArray := prog_11_method_3_code
def yX9_copyFrom : MethodName := ⟨RX9, "copyFrom", "(LStoveFavours$Stove;)V"⟩
abbrev cX9_chosenBy : ByteArray := prog_11_method_4_code
def yX9_chosenBy : MethodName := ⟨RX9, "chosenBy", "(III)I"⟩
abbrev cX9_plainlyChosen : ByteArray := prog_11_method_5_code
def yX9_plainlyChosen : MethodName := ⟨RX9, "plainlyChosen", "(IIII)I"⟩
abbrev cX9_leastOf : ByteArray := prog_11_method_6_code
def yX9_leastOf : MethodName := ⟨RX9, "leastOf", "(LStoveFavours$Row;I)I"⟩
abbrev cX9_live : ByteArray := prog_11_method_7_code
def yX9_live : MethodName := ⟨RX9, "live", "(LStoveFavours$Home;II)V"⟩
abbrev cX9_warmOnly : ByteArray := prog_11_method_8_code
def yX9_warmOnly : MethodName := ⟨RX9, "warmOnly", "(LStoveFavours$Home;I)V"⟩
abbrev cX9_turnTo : ByteArray := prog_11_method_9_code
def yX9_turnTo : MethodName := ⟨RX9, "turnTo", "(I)V"⟩
abbrev cX9_frozen : ByteArray := prog_11_method_10_code
def yX9_frozen : MethodName := ⟨RX9, "frozen", "(I)I"⟩
def RX10 : String := "StoveFavours$Text"
def TX10 : u_T := fun k => match k with
  | 0 => ("StoveFavours$Text", "letters", "LStoveFavours$Row;", true)
  | 1 => ("StoveFavours$Text", "draft", "LStoveFavours$Home;", true)
  | 2 => ("StoveFavours$Text", "length", "I", false)
  | 3 => ("StoveFavours$Text", "faultPlace", "I", false)
  | 4 => ("StoveFavours$Text", "faultNumber", "I", false)
  | 5 => ("StoveFavours$Text", "place", "I", false)
  | 6 => ("StoveFavours$Text", "doingsTold", "I", false)
  | _ => ("StoveFavours$Text", "stoveTold", "Z", false)
def tyX10 : Nat → FieldType := fun k => match k with
  | 0 => .object "StoveFavours$Row"
  | 1 => .object "StoveFavours$Home"
  | 2 => .int
  | 3 => .int
  | 4 => .int
  | 5 => .int
  | 6 => .int
  | _ => .boolean
abbrev wsX100 : List Cond := u_ws RX10 TX10 8
theorem nmX10 : ∀ a, a < 8 → ∀ b, b < 8 → a ≠ b → (TX10 a).2.1 ≠ (TX10 b).2.1 := by decide +kernel
theorem tyX10_ok : ∀ k, k < 8 → parseFieldDescriptor (TX10 k).2.2.1 = some (tyX10 k) := by decide +kernel
abbrev cX10_init : ByteArray := prog_12_method_1_code
def yX10_init : MethodName := ⟨RX10, "<init>", "()V"⟩
abbrev cX10_append : ByteArray := prog_12_method_2_code
def yX10_append : MethodName := ⟨RX10, "append", "(I)I"⟩
abbrev cX10_read : ByteArray := prog_12_method_3_code
def yX10_read : MethodName := ⟨RX10, "read", "()I"⟩
abbrev cX10_readClause : ByteArray := prog_12_method_4_code
def yX10_readClause : MethodName := ⟨RX10, "readClause", "()V"⟩
abbrev cX10_readPerson : ByteArray := prog_12_method_5_code
def yX10_readPerson : MethodName := ⟨RX10, "readPerson", "()V"⟩
abbrev cX10_readDoing : ByteArray := prog_12_method_6_code
def yX10_readDoing : MethodName := ⟨RX10, "readDoing", "()V"⟩
abbrev cX10_readStove : ByteArray := prog_12_method_7_code
def yX10_readStove : MethodName := ⟨RX10, "readStove", "()V"⟩
abbrev cX10_readNumber : ByteArray := prog_12_method_8_code
def yX10_readNumber : MethodName := ⟨RX10, "readNumber", "(II)I"⟩
abbrev cX10_readEnd : ByteArray := prog_12_method_9_code
def yX10_readEnd : MethodName := ⟨RX10, "readEnd", "()V"⟩
abbrev cX10_skipBlanks : ByteArray := prog_12_method_10_code
def yX10_skipBlanks : MethodName := ⟨RX10, "skipBlanks", "()V"⟩
abbrev cX10_isFigure : ByteArray := prog_12_method_11_code
def yX10_isFigure : MethodName := ⟨RX10, "isFigure", "(I)Z"⟩
abbrev cX10_blame : ByteArray := prog_12_method_12_code
def yX10_blame : MethodName := ⟨RX10, "blame", "(II)V"⟩
def RX11 : String := "StoveFavours"
def TX11 : u_T := fun k => match k with
  | 0 => ("StoveFavours", "text", "LStoveFavours$Text;", true)
  | 1 => ("StoveFavours", "home", "LStoveFavours$Home;", true)
  | 2 => ("StoveFavours", "now", "LStoveFavours$Stove;", true)
  | 3 => ("StoveFavours", "trial", "LStoveFavours$Stove;", true)
  | 4 => ("StoveFavours", "past", "LStoveFavours$Past;", true)
  | 5 => ("StoveFavours", "imageStoves", "LStoveFavours$Shelf;", true)
  | 6 => ("StoveFavours", "imageSeeds", "LStoveFavours$Row;", true)
  | 7 => ("StoveFavours", "imagesTaken", "LStoveFavours$Row;", true)
  | 8 => ("StoveFavours", "notes", "LStoveFavours$Notes;", true)
  | 9 => ("StoveFavours", "book", "LStoveFavours$Book;", true)
  | 10 => ("StoveFavours", "planner", "LStoveFavours$Planner;", true)
  | 11 => ("StoveFavours", "contest", "LStoveFavours$Contest;", true)
  | 12 => ("StoveFavours", "rounds", "LStoveFavours$Rounds;", true)
  | _ => ("StoveFavours", "seedNow", "I", false)
def tyX11 : Nat → FieldType := fun k => match k with
  | 0 => .object "StoveFavours$Text"
  | 1 => .object "StoveFavours$Home"
  | 2 => .object "StoveFavours$Stove"
  | 3 => .object "StoveFavours$Stove"
  | 4 => .object "StoveFavours$Past"
  | 5 => .object "StoveFavours$Shelf"
  | 6 => .object "StoveFavours$Row"
  | 7 => .object "StoveFavours$Row"
  | 8 => .object "StoveFavours$Notes"
  | 9 => .object "StoveFavours$Book"
  | 10 => .object "StoveFavours$Planner"
  | 11 => .object "StoveFavours$Contest"
  | 12 => .object "StoveFavours$Rounds"
  | _ => .int
abbrev wsX110 : List Cond := u_ws RX11 TX11 14
theorem nmX11 : ∀ a, a < 14 → ∀ b, b < 14 → a ≠ b → (TX11 a).2.1 ≠ (TX11 b).2.1 := by decide +kernel
theorem tyX11_ok : ∀ k, k < 14 → parseFieldDescriptor (TX11 k).2.2.1 = some (tyX11 k) := by decide +kernel
abbrev cX11_init : ByteArray := prog_1_method_1_code
def yX11_init : MethodName := ⟨RX11, "<init>", "()V"⟩
abbrev cX11_feed : ByteArray := prog_1_method_2_code
def yX11_feed : MethodName := ⟨RX11, "feed", "(I)I"⟩
abbrev cX11_house : ByteArray := prog_1_method_3_code
def yX11_house : MethodName := ⟨RX11, "house", "()I"⟩
abbrev cX11_fault : ByteArray := prog_1_method_4_code
def yX11_fault : MethodName := ⟨RX11, "fault", "()I"⟩
abbrev cX11_told : ByteArray := prog_1_method_5_code
def yX11_told : MethodName := ⟨RX11, "told", "(I)I"⟩
abbrev cX11_person : ByteArray := prog_1_method_6_code
def yX11_person : MethodName := ⟨RX11, "person", "(II)I"⟩
abbrev cX11_doing : ByteArray := prog_1_method_7_code
def yX11_doing : MethodName := ⟨RX11, "doing", "(II)I"⟩
abbrev cX11_act : ByteArray := prog_1_method_8_code
def yX11_act : MethodName := ⟨RX11, "act", "(II)I"⟩
abbrev cX11_sit : ByteArray := prog_1_method_9_code
def yX11_sit : MethodName := ⟨RX11, "sit", "(I)I"⟩
abbrev cX11_drift : ByteArray := prog_1_method_10_code
def yX11_drift : MethodName := ⟨RX11, "drift", "(I)I"⟩
abbrev cX11_stack : ByteArray := prog_1_method_11_code
def yX11_stack : MethodName := ⟨RX11, "stack", "(I)I"⟩
abbrev cX11_law : ByteArray := prog_1_method_12_code
def yX11_law : MethodName := ⟨RX11, "law", "(II)I"⟩
abbrev cX11_undo : ByteArray := prog_1_method_13_code
def yX11_undo : MethodName := ⟨RX11, "undo", "(I)I"⟩
abbrev cX11_freezes : ByteArray := prog_1_method_14_code
def yX11_freezes : MethodName := ⟨RX11, "freezes", "(I)I"⟩
abbrev cX11_favour : ByteArray := prog_1_method_15_code
def yX11_favour : MethodName := ⟨RX11, "favour", "(III)I"⟩
abbrev cX11_allWarm : ByteArray := prog_1_method_16_code
def yX11_allWarm : MethodName := ⟨RX11, "allWarm", "(II)I"⟩
abbrev cX11_duel : ByteArray := prog_1_method_17_code
def yX11_duel : MethodName := ⟨RX11, "duel", "(IIII)I"⟩
abbrev cX11_forEver : ByteArray := prog_1_method_18_code
def yX11_forEver : MethodName := ⟨RX11, "forEver", "(I)I"⟩
abbrev cX11_fair : ByteArray := prog_1_method_19_code
def yX11_fair : MethodName := ⟨RX11, "fair", "()I"⟩
abbrev cX11_left : ByteArray := prog_1_method_20_code
def yX11_left : MethodName := ⟨RX11, "left", "(II)I"⟩
abbrev cX11_doers : ByteArray := prog_1_method_21_code
def yX11_doers : MethodName := ⟨RX11, "doers", "(I)I"⟩
abbrev cX11_chair : ByteArray := prog_1_method_22_code
def yX11_chair : MethodName := ⟨RX11, "chair", "(I)I"⟩
abbrev cX11_note : ByteArray := prog_1_method_23_code
def yX11_note : MethodName := ⟨RX11, "note", "(IIII)I"⟩
abbrev cX11_laws : ByteArray := prog_1_method_24_code
def yX11_laws : MethodName := ⟨RX11, "laws", "(I)I"⟩
abbrev cX11_tryNext : ByteArray := prog_1_method_25_code
def yX11_tryNext : MethodName := ⟨RX11, "tryNext", "(I)I"⟩
abbrev cX11_write : ByteArray := prog_1_method_26_code
def yX11_write : MethodName := ⟨RX11, "write", "(II)I"⟩
abbrev cX11_judge : ByteArray := prog_1_method_27_code
def yX11_judge : MethodName := ⟨RX11, "judge", "(I)I"⟩
abbrev cX11_tear : ByteArray := prog_1_method_28_code
def yX11_tear : MethodName := ⟨RX11, "tear", "()I"⟩
abbrev cX11_seed : ByteArray := prog_1_method_29_code
def yX11_seed : MethodName := ⟨RX11, "seed", "(I)I"⟩
abbrev cX11_keep : ByteArray := prog_1_method_30_code
def yX11_keep : MethodName := ⟨RX11, "keep", "(I)I"⟩
abbrev cX11_goBack : ByteArray := prog_1_method_31_code
def yX11_goBack : MethodName := ⟨RX11, "goBack", "(I)I"⟩
abbrev cX11_within : ByteArray := prog_1_method_32_code
def yX11_within : MethodName := ⟨RX11, "within", "(III)Z"⟩
abbrev cX11_isPerson : ByteArray := prog_1_method_33_code
def yX11_isPerson : MethodName := ⟨RX11, "isPerson", "(I)Z"⟩
abbrev cX11_isDoing : ByteArray := prog_1_method_34_code
def yX11_isDoing : MethodName := ⟨RX11, "isDoing", "(I)Z"⟩
abbrev cX11_refusalOfHours : ByteArray := prog_1_method_35_code
def yX11_refusalOfHours : MethodName := ⟨RX11, "refusalOfHours", "(I)I"⟩
abbrev cX11_spendHour : ByteArray := prog_1_method_36_code
def yX11_spendHour : MethodName := ⟨RX11, "spendHour", "(II)I"⟩
abbrev cX11_driftHour : ByteArray := prog_1_method_37_code
def yX11_driftHour : MethodName := ⟨RX11, "driftHour", "()V"⟩
abbrev cX11_draw : ByteArray := prog_1_method_38_code
def yX11_draw : MethodName := ⟨RX11, "draw", "(I)I"⟩
abbrev cX11_hoursInDraught : ByteArray := prog_1_method_39_code
def yX11_hoursInDraught : MethodName := ⟨RX11, "hoursInDraught", "(I)I"⟩
abbrev cX11_hoursUndisturbed : ByteArray := prog_1_method_40_code
def yX11_hoursUndisturbed : MethodName := ⟨RX11, "hoursUndisturbed", "(I)I"⟩
abbrev cX11_greatestPart : ByteArray := prog_1_method_41_code
def yX11_greatestPart : MethodName := ⟨RX11, "greatestPart", "(II)I"⟩
abbrev cX11_firstUnpaid : ByteArray := prog_1_method_42_code
def yX11_firstUnpaid : MethodName := ⟨RX11, "firstUnpaid", "()I"⟩
def RX12 : String := "StoveFavoursModel"
def TX12 : u_T := fun k => match k with
  | 0 => ("StoveFavoursModel", "people", "I", false)
  | 1 => ("StoveFavoursModel", "gain", "I", false)
  | 2 => ("StoveFavoursModel", "colder", "[I", true)
  | 3 => ("StoveFavoursModel", "costs", "[I", true)
  | 4 => ("StoveFavoursModel", "now", "[I", true)
  | 5 => ("StoveFavoursModel", "was", "[I", true)
  | 6 => ("StoveFavoursModel", "undos", "I", false)
  | 7 => ("StoveFavoursModel", "images", "[I", true)
  | 8 => ("StoveFavoursModel", "kept", "[Z", true)
  | 9 => ("StoveFavoursModel", "notes", "[I", true)
  | 10 => ("StoveFavoursModel", "noted", "I", false)
  | 11 => ("StoveFavoursModel", "book", "[I", true)
  | 12 => ("StoveFavoursModel", "lines", "I", false)
  | 13 => ("StoveFavoursModel", "text", "[I", true)
  | 14 => ("StoveFavoursModel", "typed", "I", false)
  | 15 => ("StoveFavoursModel", "faulty", "I", false)
  | 16 => ("StoveFavoursModel", "readPeople", "I", false)
  | 17 => ("StoveFavoursModel", "readSet", "I", false)
  | 18 => ("StoveFavoursModel", "hasStove", "Z", false)
  | 19 => ("StoveFavoursModel", "readWarm", "[I", true)
  | 20 => ("StoveFavoursModel", "readCold", "[I", true)
  | 21 => ("StoveFavoursModel", "readCosts", "[I", true)
  | 22 => ("StoveFavoursModel", "readRules", "[I", true)
  | 23 => ("StoveFavoursModel", "readStove", "[I", true)
  | 24 => ("StoveFavoursModel", "at", "I", false)
  | 25 => ("StoveFavoursModel", "fault", "I", false)
  | 26 => ("StoveFavoursModel", "value", "I", false)
  | 27 => ("StoveFavoursModel", "close", "Z", false)
  | 28 => ("StoveFavoursModel", "so", "[I", true)
  | 29 => ("StoveFavoursModel", "pile", "[I", true)
  | 30 => ("StoveFavoursModel", "pick", "[I", true)
  | 31 => ("StoveFavoursModel", "best", "[I", true)
  | 32 => ("StoveFavoursModel", "fewest", "I", false)
  | 33 => ("StoveFavoursModel", "fewestDone", "I", false)
  | 34 => ("StoveFavoursModel", "worth", "[I", true)
  | 35 => ("StoveFavoursModel", "ranks", "[I", true)
  | 36 => ("StoveFavoursModel", "hours", "[I", true)
  | 37 => ("StoveFavoursModel", "ago", "I", false)
  | 38 => ("StoveFavoursModel", "rounds", "I", false)
  | _ => ("StoveFavoursModel", "alike", "[I", true)
def tyX12 : Nat → FieldType := fun k => match k with
  | 0 => .int
  | 1 => .int
  | 2 => .array .int
  | 3 => .array .int
  | 4 => .array .int
  | 5 => .array .int
  | 6 => .int
  | 7 => .array .int
  | 8 => .array .boolean
  | 9 => .array .int
  | 10 => .int
  | 11 => .array .int
  | 12 => .int
  | 13 => .array .int
  | 14 => .int
  | 15 => .int
  | 16 => .int
  | 17 => .int
  | 18 => .boolean
  | 19 => .array .int
  | 20 => .array .int
  | 21 => .array .int
  | 22 => .array .int
  | 23 => .array .int
  | 24 => .int
  | 25 => .int
  | 26 => .int
  | 27 => .boolean
  | 28 => .array .int
  | 29 => .array .int
  | 30 => .array .int
  | 31 => .array .int
  | 32 => .int
  | 33 => .int
  | 34 => .array .int
  | 35 => .array .int
  | 36 => .array .int
  | 37 => .int
  | 38 => .int
  | _ => .array .int
abbrev wsX120 : List Cond := u_ws RX12 TX12 40
theorem nmX12 : ∀ a, a < 40 → ∀ b, b < 40 → a ≠ b → (TX12 a).2.1 ≠ (TX12 b).2.1 := by decide +kernel
theorem tyX12_ok : ∀ k, k < 40 → parseFieldDescriptor (TX12 k).2.2.1 = some (tyX12 k) := by decide +kernel
abbrev cX12_in : ByteArray := prog_14_method_2_code
def yX12_in : MethodName := ⟨RX12, "in", "(JJJ)Z"⟩
abbrev cX12_lesser : ByteArray := prog_14_method_3_code
def yX12_lesser : MethodName := ⟨RX12, "lesser", "(II)I"⟩
abbrev cX12_greater : ByteArray := prog_14_method_4_code
def yX12_greater : MethodName := ⟨RX12, "greater", "(II)I"⟩
abbrev cX12_init : ByteArray := prog_14_method_5_code
def yX12_init : MethodName := ⟨RX12, "<init>", "()V"⟩
abbrev cX12_feed : ByteArray := prog_14_method_6_code
def yX12_feed : MethodName := ⟨RX12, "feed", "(I)I"⟩
abbrev cX12_isAt : ByteArray := prog_14_method_7_code
def yX12_isAt : MethodName := ⟨RX12, "isAt", "(II)Z"⟩
abbrev cX12_skips : ByteArray := prog_14_method_8_code
def yX12_skips : MethodName := ⟨RX12, "skips", "()V"⟩
abbrev cX12_fails : ByteArray := prog_14_method_9_code
def yX12_fails : MethodName := ⟨RX12, "fails", "(I)Z"⟩
abbrev cX12_number : ByteArray := prog_14_method_10_code
def yX12_number : MethodName := ⟨RX12, "number", "(II)Z"⟩
abbrev cX12_row : ByteArray := prog_14_method_11_code
def yX12_row : MethodName := ⟨RX12, "row", "([IIII)Z"⟩
abbrev cX12_sign : ByteArray := prog_14_method_12_code
def yX12_sign : MethodName := ⟨RX12, "sign", "()Z"⟩
abbrev cX12_readsPerson : ByteArray := prog_14_method_13_code
def yX12_readsPerson : MethodName := ⟨RX12, "readsPerson", "()Z"⟩
abbrev cX12_readsDoing : ByteArray := prog_14_method_14_code
def yX12_readsDoing : MethodName := ⟨RX12, "readsDoing", "()Z"⟩
abbrev cX12_readsStove : ByteArray := prog_14_method_15_code
def yX12_readsStove : MethodName := ⟨RX12, "readsStove", "()Z"⟩
abbrev cX12_reads : ByteArray := prog_14_method_16_code
def yX12_reads : MethodName := ⟨RX12, "reads", "()Z"⟩
abbrev cX12_house : ByteArray := prog_14_method_17_code
def yX12_house : MethodName := ⟨RX12, "house", "()I"⟩
abbrev cX12_fault : ByteArray := prog_14_method_18_code
def yX12_fault : MethodName := ⟨RX12, "fault", "()I"⟩
abbrev cX12_isPerson : ByteArray := prog_14_method_19_code
def yX12_isPerson : MethodName := ⟨RX12, "isPerson", "(I)Z"⟩
abbrev cX12_isDoing : ByteArray := prog_14_method_20_code
def yX12_isDoing : MethodName := ⟨RX12, "isDoing", "(I)Z"⟩
abbrev cX12_told : ByteArray := prog_14_method_21_code
def yX12_told : MethodName := ⟨RX12, "told", "(I)I"⟩
abbrev cX12_person : ByteArray := prog_14_method_22_code
def yX12_person : MethodName := ⟨RX12, "person", "(II)I"⟩
abbrev cX12_doing : ByteArray := prog_14_method_23_code
def yX12_doing : MethodName := ⟨RX12, "doing", "(II)I"⟩
abbrev cX12_take : ByteArray := prog_14_method_24_code
def yX12_take : MethodName := ⟨RX12, "take", "()V"⟩
abbrev cX12_likes : ByteArray := prog_14_method_25_code
def yX12_likes : MethodName := ⟨RX12, "likes", "(II)I"⟩
abbrev cX12_doesIt : ByteArray := prog_14_method_26_code
def yX12_doesIt : MethodName := ⟨RX12, "doesIt", "(II)V"⟩
abbrev cX12_goesBy : ByteArray := prog_14_method_27_code
def yX12_goesBy : MethodName := ⟨RX12, "goesBy", "()V"⟩
abbrev cX12_keepsHour : ByteArray := prog_14_method_28_code
def yX12_keepsHour : MethodName := ⟨RX12, "keepsHour", "()V"⟩
abbrev cX12_does : ByteArray := prog_14_method_29_code
def yX12_does : MethodName := ⟨RX12, "does", "(II)V"⟩
abbrev cX12_act : ByteArray := prog_14_method_30_code
def yX12_act : MethodName := ⟨RX12, "act", "(II)I"⟩
abbrev cX12_sit : ByteArray := prog_14_method_31_code
def yX12_sit : MethodName := ⟨RX12, "sit", "(I)I"⟩
abbrev cX12_draws : ByteArray := prog_14_method_32_code
def yX12_draws : MethodName := ⟨RX12, "draws", "(I)I"⟩
abbrev cX12_drift : ByteArray := prog_14_method_33_code
def yX12_drift : MethodName := ⟨RX12, "drift", "(I)I"⟩
abbrev cX12_stack : ByteArray := prog_14_method_34_code
def yX12_stack : MethodName := ⟨RX12, "stack", "(I)I"⟩
abbrev cX12_law : ByteArray := prog_14_method_35_code
def yX12_law : MethodName := ⟨RX12, "law", "(II)I"⟩
abbrev cX12_undo : ByteArray := prog_14_method_36_code
def yX12_undo : MethodName := ⟨RX12, "undo", "(I)I"⟩
abbrev cX12_frozenOne : ByteArray := prog_14_method_37_code
def yX12_frozenOne : MethodName := ⟨RX12, "frozenOne", "()I"⟩
abbrev cX12_freezes : ByteArray := prog_14_method_38_code
def yX12_freezes : MethodName := ⟨RX12, "freezes", "(I)I"⟩
abbrev cX12_lies : ByteArray := prog_14_method_39_code
def yX12_lies : MethodName := ⟨RX12, "lies", "(I)V"⟩
abbrev cX12_stands : ByteArray := prog_14_method_40_code
def yX12_stands : MethodName := ⟨RX12, "stands", "(I)V"⟩
abbrev cX12_rows : ByteArray := prog_14_method_41_code
def yX12_rows : MethodName := ⟨RX12, "rows", "(II)V"⟩
abbrev cX12_keepsRow : ByteArray := prog_14_method_42_code
def yX12_keepsRow : MethodName := ⟨RX12, "keepsRow", "(II)V"⟩
abbrev cX12_tells : ByteArray := prog_14_method_43_code
def yX12_tells : MethodName := ⟨RX12, "tells", "(II)I"⟩
abbrev cX12_favour : ByteArray := prog_14_method_44_code
def yX12_favour : MethodName := ⟨RX12, "favour", "(III)I"⟩
abbrev cX12_allWarm : ByteArray := prog_14_method_45_code
def yX12_allWarm : MethodName := ⟨RX12, "allWarm", "(II)I"⟩
abbrev cX12_duel : ByteArray := prog_14_method_46_code
def yX12_duel : MethodName := ⟨RX12, "duel", "(IIII)I"⟩
abbrev cX12_ranksAt : ByteArray := prog_14_method_47_code
def yX12_ranksAt : MethodName := ⟨RX12, "ranksAt", "(I)V"⟩
abbrev cX12_areAlike : ByteArray := prog_14_method_48_code
def yX12_areAlike : MethodName := ⟨RX12, "areAlike", "(II)Z"⟩
abbrev cX12_turns : ByteArray := prog_14_method_49_code
def yX12_turns : MethodName := ⟨RX12, "turns", "()V"⟩
abbrev cX12_hoursOf : ByteArray := prog_14_method_50_code
def yX12_hoursOf : MethodName := ⟨RX12, "hoursOf", "(I)I"⟩
abbrev cX12_forEver : ByteArray := prog_14_method_51_code
def yX12_forEver : MethodName := ⟨RX12, "forEver", "(I)I"⟩
abbrev cX12_fair : ByteArray := prog_14_method_52_code
def yX12_fair : MethodName := ⟨RX12, "fair", "()I"⟩
abbrev cX12_left : ByteArray := prog_14_method_53_code
def yX12_left : MethodName := ⟨RX12, "left", "(II)I"⟩
abbrev cX12_doers : ByteArray := prog_14_method_54_code
def yX12_doers : MethodName := ⟨RX12, "doers", "(I)I"⟩
abbrev cX12_chair : ByteArray := prog_14_method_55_code
def yX12_chair : MethodName := ⟨RX12, "chair", "(I)I"⟩
abbrev cX12_note : ByteArray := prog_14_method_56_code
def yX12_note : MethodName := ⟨RX12, "note", "(IIII)I"⟩
abbrev cX12_lawsOf : ByteArray := prog_14_method_57_code
def yX12_lawsOf : MethodName := ⟨RX12, "lawsOf", "(I)I"⟩
abbrev cX12_laws : ByteArray := prog_14_method_58_code
def yX12_laws : MethodName := ⟨RX12, "laws", "(I)I"⟩
abbrev cX12_tryNext : ByteArray := prog_14_method_59_code
def yX12_tryNext : MethodName := ⟨RX12, "tryNext", "(I)I"⟩
abbrev cX12_write : ByteArray := prog_14_method_60_code
def yX12_write : MethodName := ⟨RX12, "write", "(II)I"⟩
abbrev cX12_judge : ByteArray := prog_14_method_61_code
def yX12_judge : MethodName := ⟨RX12, "judge", "(I)I"⟩
abbrev cX12_tear : ByteArray := prog_14_method_62_code
def yX12_tear : MethodName := ⟨RX12, "tear", "()I"⟩
abbrev cX12_seed : ByteArray := prog_14_method_63_code
def yX12_seed : MethodName := ⟨RX12, "seed", "(I)I"⟩
abbrev cX12_keep : ByteArray := prog_14_method_64_code
def yX12_keep : MethodName := ⟨RX12, "keep", "(I)I"⟩
abbrev cX12_goBack : ByteArray := prog_14_method_65_code
def yX12_goBack : MethodName := ⟨RX12, "goBack", "(I)I"⟩
def RJ6 : String := "java/lang/Integer"
abbrev cJ6_bitCount_0f7a4 : ByteArray := prog_15_method_49_code
def yJ6_bitCount_0f7a4 : MethodName := ⟨RJ6, "bitCount", "(I)I"⟩
def RJ9 : String := "java/lang/Math"
abbrev cJ9_max_7cf53 : ByteArray := prog_16_method_65_code
def yJ9_max_7cf53 : MethodName := ⟨RJ9, "max", "(II)I"⟩
abbrev cJ9_min_7cf53 : ByteArray := prog_16_method_69_code
def yJ9_min_7cf53 : MethodName := ⟨RJ9, "min", "(II)I"⟩
abbrev vwCl : List vw_C := [(RX0, TX0, 3), (RX1, TX1, 6), (RX2, TX2, 8), (RX3, TX3, 5), (RX4, TX4, 3), (RX5, TX5, 11), (RX6, TX6, 6), (RX7, TX7, 1), (RX8, TX8, 2), (RX9, TX9, 6), (RX10, TX10, 8), (RX11, TX11, 14), (RX12, TX12, 40)]
theorem jnX0 : ∀ w ∈ u_ws RX0 TX0 3, w ∈ lw_tbl := by
  intro w hw
  have h : u_ws RX0 TX0 3 = [317, 319, 321].filterMap (fun i => lw_tbl[i]?) := by decide +kernel
  rw [h] at hw
  obtain ⟨i, -, hi⟩ := List.mem_filterMap.mp hw
  exact List.mem_of_getElem? hi
theorem jnX1 : ∀ w ∈ u_ws RX1 TX1 6, w ∈ lw_tbl := by
  intro w hw
  have h : u_ws RX1 TX1 6 = [384, 386, 388, 390, 392, 394].filterMap (fun i => lw_tbl[i]?) := by decide +kernel
  rw [h] at hw
  obtain ⟨i, -, hi⟩ := List.mem_filterMap.mp hw
  exact List.mem_of_getElem? hi
theorem jnX2 : ∀ w ∈ u_ws RX2 TX2 8, w ∈ lw_tbl := by
  intro w hw
  have h : u_ws RX2 TX2 8 = [151, 153, 155, 157, 159, 161, 163, 165].filterMap (fun i => lw_tbl[i]?) := by decide +kernel
  rw [h] at hw
  obtain ⟨i, -, hi⟩ := List.mem_filterMap.mp hw
  exact List.mem_of_getElem? hi
theorem jnX3 : ∀ w ∈ u_ws RX3 TX3 5, w ∈ lw_tbl := by
  intro w hw
  have h : u_ws RX3 TX3 5 = [289, 291, 293, 295, 297].filterMap (fun i => lw_tbl[i]?) := by decide +kernel
  rw [h] at hw
  obtain ⟨i, -, hi⟩ := List.mem_filterMap.mp hw
  exact List.mem_of_getElem? hi
theorem jnX4 : ∀ w ∈ u_ws RX4 TX4 3, w ∈ lw_tbl := by
  intro w hw
  have h : u_ws RX4 TX4 3 = [264, 266, 268].filterMap (fun i => lw_tbl[i]?) := by decide +kernel
  rw [h] at hw
  obtain ⟨i, -, hi⟩ := List.mem_filterMap.mp hw
  exact List.mem_of_getElem? hi
theorem jnX5 : ∀ w ∈ u_ws RX5 TX5 11, w ∈ lw_tbl := by
  intro w hw
  have h : u_ws RX5 TX5 11 = [345, 347, 349, 351, 353, 355, 357, 359, 361, 363, 365].filterMap (fun i => lw_tbl[i]?) := by decide +kernel
  rw [h] at hw
  obtain ⟨i, -, hi⟩ := List.mem_filterMap.mp hw
  exact List.mem_of_getElem? hi
theorem jnX6 : ∀ w ∈ u_ws RX6 TX6 6, w ∈ lw_tbl := by
  intro w hw
  have h : u_ws RX6 TX6 6 = [414, 416, 418, 420, 422, 424].filterMap (fun i => lw_tbl[i]?) := by decide +kernel
  rw [h] at hw
  obtain ⟨i, -, hi⟩ := List.mem_filterMap.mp hw
  exact List.mem_of_getElem? hi
theorem jnX7 : ∀ w ∈ u_ws RX7 TX7 1, w ∈ lw_tbl := by
  intro w hw
  have h : u_ws RX7 TX7 1 = [100].filterMap (fun i => lw_tbl[i]?) := by decide +kernel
  rw [h] at hw
  obtain ⟨i, -, hi⟩ := List.mem_filterMap.mp hw
  exact List.mem_of_getElem? hi
theorem jnX8 : ∀ w ∈ u_ws RX8 TX8 2, w ∈ lw_tbl := by
  intro w hw
  have h : u_ws RX8 TX8 2 = [255, 257].filterMap (fun i => lw_tbl[i]?) := by decide +kernel
  rw [h] at hw
  obtain ⟨i, -, hi⟩ := List.mem_filterMap.mp hw
  exact List.mem_of_getElem? hi
theorem jnX9 : ∀ w ∈ u_ws RX9 TX9 6, w ∈ lw_tbl := by
  intro w hw
  have h : u_ws RX9 TX9 6 = [224, 226, 228, 230, 232, 234].filterMap (fun i => lw_tbl[i]?) := by decide +kernel
  rw [h] at hw
  obtain ⟨i, -, hi⟩ := List.mem_filterMap.mp hw
  exact List.mem_of_getElem? hi
theorem jnX10 : ∀ w ∈ u_ws RX10 TX10 8, w ∈ lw_tbl := by
  intro w hw
  have h : u_ws RX10 TX10 8 = [179, 181, 183, 185, 187, 189, 191, 193].filterMap (fun i => lw_tbl[i]?) := by decide +kernel
  rw [h] at hw
  obtain ⟨i, -, hi⟩ := List.mem_filterMap.mp hw
  exact List.mem_of_getElem? hi
theorem jnX11 : ∀ w ∈ u_ws RX11 TX11 14, w ∈ lw_tbl := by
  intro w hw
  have h : u_ws RX11 TX11 14 = [450, 452, 454, 456, 458, 460, 462, 464, 466, 468, 470, 472, 474, 476].filterMap (fun i => lw_tbl[i]?) := by decide +kernel
  rw [h] at hw
  obtain ⟨i, -, hi⟩ := List.mem_filterMap.mp hw
  exact List.mem_of_getElem? hi
theorem jnX12 : ∀ w ∈ u_ws RX12 TX12 40, w ∈ lw_tbl := by
  intro w hw
  have h : u_ws RX12 TX12 40 = [934, 936, 938, 940, 942, 944, 946, 948, 950, 952, 954, 956, 958, 960, 962, 964, 966, 968, 970, 972, 974, 976, 978, 980, 982, 984, 986, 988, 990, 992, 994, 996, 998, 1000, 1002, 1004, 1006, 1008, 1010, 1012].filterMap (fun i => lw_tbl[i]?) := by decide +kernel
  rw [h] at hw
  obtain ⟨i, -, hi⟩ := List.mem_filterMap.mp hw
  exact List.mem_of_getElem? hi

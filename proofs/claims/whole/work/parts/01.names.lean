/-! ===== BEGIN printed: names, fields, word lists, decode rows ===== -/
def RX0 : String := "HostileHouses$History"
def TX0 : u_T := fun k => match k with
  | 0 => ("HostileHouses$History", "states", "[LHostileHouses$State;", true)
  | 1 => ("HostileHouses$History", "oldest", "I", false)
  | _ => ("HostileHouses$History", "size", "I", false)
def tyX0 : Nat → FieldType := fun k => match k with
  | 0 => .array (.object "HostileHouses$State")
  | 1 => .int
  | _ => .int
abbrev wsX00 : List Cond := u_ws RX0 TX0 3
theorem nmX0 : ∀ a, a < 3 → ∀ b, b < 3 → a ≠ b → (TX0 a).2.1 ≠ (TX0 b).2.1 := by decide +kernel
theorem tyX0_ok : ∀ k, k < 3 → parseFieldDescriptor (TX0 k).2.2.1 = some (tyX0 k) := by decide +kernel
abbrev cX0_init : ByteArray := prog_2_method_1_code
def yX0_init : MethodName := ⟨RX0, "<init>", "()V"⟩
abbrev cX0_remember : ByteArray := prog_2_method_2_code
def yX0_remember : MethodName := ⟨RX0, "remember", "(LHostileHouses$State;)V"⟩
abbrev cX0_takeBack : ByteArray := prog_2_method_3_code
def yX0_takeBack : MethodName := ⟨RX0, "takeBack", "(LHostileHouses$State;)V"⟩
def RX1 : String := "HostileHouses$Lookahead"
def TX1 : u_T := fun k => match k with
  | 0 => ("HostileHouses$Lookahead", "trial", "LHostileHouses$Position;", true)
  | 1 => ("HostileHouses$Lookahead", "report", "LHostileHouses$Report;", true)
  | _ => ("HostileHouses$Lookahead", "behind", "[LHostileHouses$Position;", true)
def tyX1 : Nat → FieldType := fun k => match k with
  | 0 => .object "HostileHouses$Position"
  | 1 => .object "HostileHouses$Report"
  | _ => .array (.object "HostileHouses$Position")
abbrev wsX10 : List Cond := u_ws RX1 TX1 3
theorem nmX1 : ∀ a, a < 3 → ∀ b, b < 3 → a ≠ b → (TX1 a).2.1 ≠ (TX1 b).2.1 := by decide +kernel
theorem tyX1_ok : ∀ k, k < 3 → parseFieldDescriptor (TX1 k).2.2.1 = some (tyX1 k) := by decide +kernel
abbrev cX1_init : ByteArray := prog_3_method_1_code
def yX1_init : MethodName := ⟨RX1, "<init>", "()V"⟩
abbrev cX1_valueOf : ByteArray := prog_3_method_2_code
def yX1_valueOf : MethodName := ⟨RX1, "valueOf", "(LHostileHouses$Position;[II)I"⟩
abbrev cX1_bestHouse : ByteArray := prog_3_method_3_code
def yX1_bestHouse : MethodName := ⟨RX1, "bestHouse", "(LHostileHouses$Position;[II)I"⟩
abbrev cX1_valueBehind : ByteArray := prog_3_method_4_code
def yX1_valueBehind : MethodName := ⟨RX1, "valueBehind", "(LHostileHouses$Position;I[II)I"⟩
abbrev cX1_movesToTheEnd : ByteArray := prog_3_method_5_code
def yX1_movesToTheEnd : MethodName := ⟨RX1, "movesToTheEnd", "(LHostileHouses$Position;[II)I"⟩
def RX2 : String := "HostileHouses$Pad"
def TX2 : u_T := fun k => match k with
  | 0 => ("HostileHouses$Pad", "text", "[C", true)
  | 1 => ("HostileHouses$Pad", "numbers", "[I", true)
  | _ => ("HostileHouses$Pad", "length", "I", false)
def tyX2 : Nat → FieldType := fun k => match k with
  | 0 => .array .char
  | 1 => .array .int
  | _ => .int
abbrev wsX20 : List Cond := u_ws RX2 TX2 3
theorem nmX2 : ∀ a, a < 3 → ∀ b, b < 3 → a ≠ b → (TX2 a).2.1 ≠ (TX2 b).2.1 := by decide +kernel
theorem tyX2_ok : ∀ k, k < 3 → parseFieldDescriptor (TX2 k).2.2.1 = some (tyX2 k) := by decide +kernel
abbrev cX2_init : ByteArray := prog_4_method_1_code
def yX2_init : MethodName := ⟨RX2, "<init>", "()V"⟩
abbrev cX2_charactersIn : ByteArray := prog_4_method_2_code
def yX2_charactersIn : MethodName := ⟨RX2, "charactersIn", "(J)I"⟩
abbrev cX2_append : ByteArray := prog_4_method_3_code
def yX2_append : MethodName := ⟨RX2, "append", "(JI)V"⟩
abbrev cX2_scan : ByteArray := prog_4_method_4_code
def yX2_scan : MethodName := ⟨RX2, "scan", "()I"⟩
abbrev cX2_digitFits : ByteArray := prog_4_method_5_code
def yX2_digitFits : MethodName := ⟨RX2, "digitFits", "(CII)Z"⟩
abbrev cX2_signBehind : ByteArray := prog_4_method_6_code
def yX2_signBehind : MethodName := ⟨RX2, "signBehind", "(I)C"⟩
def RX3 : String := "HostileHouses$Position"
def TX3 : u_T := fun k => match k with
  | 0 => ("HostileHouses$Position", "seeds", "[I", true)
  | 1 => ("HostileHouses$Position", "visits", "[I", true)
  | 2 => ("HostileHouses$Position", "stores", "[I", true)
  | 3 => ("HostileHouses$Position", "player", "I", false)
  | 4 => ("HostileHouses$Position", "over", "Z", false)
  | _ => ("HostileHouses$Position", "moves", "I", false)
def tyX3 : Nat → FieldType := fun k => match k with
  | 0 => .array .int
  | 1 => .array .int
  | 2 => .array .int
  | 3 => .int
  | 4 => .boolean
  | _ => .int
abbrev wsX30 : List Cond := u_ws RX3 TX3 6
theorem nmX3 : ∀ a, a < 6 → ∀ b, b < 6 → a ≠ b → (TX3 a).2.1 ≠ (TX3 b).2.1 := by decide +kernel
theorem tyX3_ok : ∀ k, k < 6 → parseFieldDescriptor (TX3 k).2.2.1 = some (tyX3 k) := by decide +kernel
abbrev cX3_init : ByteArray := prog_5_method_1_code
def yX3_init : MethodName := ⟨RX3, "<init>", "()V"⟩
abbrev cX3_copyFrom : ByteArray := prog_5_method_2_code
def yX3_copyFrom : MethodName := ⟨RX3, "copyFrom", "(LHostileHouses$Position;)V"⟩
abbrev cX3_fill : ByteArray := prog_5_method_3_code
def yX3_fill : MethodName := ⟨RX3, "fill", "(I)V"⟩
abbrev cX3_fillFrom : ByteArray := prog_5_method_4_code
def yX3_fillFrom : MethodName := ⟨RX3, "fillFrom", "([I)V"⟩
abbrev cX3_startGame : ByteArray := prog_5_method_5_code
def yX3_startGame : MethodName := ⟨RX3, "startGame", "()V"⟩
abbrev cX3_ownerOf : ByteArray := prog_5_method_6_code
def yX3_ownerOf : MethodName := ⟨RX3, "ownerOf", "(I)I"⟩
abbrev cX3_houseBehind : ByteArray := prog_5_method_7_code
def yX3_houseBehind : MethodName := ⟨RX3, "houseBehind", "(I)I"⟩
abbrev cX3_isHostile : ByteArray := prog_5_method_8_code
def yX3_isHostile : MethodName := ⟨RX3, "isHostile", "(I[I)Z"⟩
abbrev cX3_hostileHouses : ByteArray := prog_5_method_9_code
def yX3_hostileHouses : MethodName := ⟨RX3, "hostileHouses", "([I)I"⟩
abbrev cX3_canMoveFrom : ByteArray := prog_5_method_10_code
def yX3_canMoveFrom : MethodName := ⟨RX3, "canMoveFrom", "(I)Z"⟩
abbrev cX3_seedsInHousesOf : ByteArray := prog_5_method_11_code
def yX3_seedsInHousesOf : MethodName := ⟨RX3, "seedsInHousesOf", "(I)I"⟩
abbrev cX3_allSeeds : ByteArray := prog_5_method_12_code
def yX3_allSeeds : MethodName := ⟨RX3, "allSeeds", "()I"⟩
abbrev cX3_winner : ByteArray := prog_5_method_13_code
def yX3_winner : MethodName := ⟨RX3, "winner", "()I"⟩
abbrev cX3_lead : ByteArray := prog_5_method_14_code
def yX3_lead : MethodName := ⟨RX3, "lead", "()I"⟩
abbrev cX3_makeMove : ByteArray := prog_5_method_15_code
def yX3_makeMove : MethodName := ⟨RX3, "makeMove", "(I[ILHostileHouses$Report;)V"⟩
abbrev cX3_sowLap : ByteArray := prog_5_method_16_code
def yX3_sowLap : MethodName := ⟨RX3, "sowLap", "(I[ILHostileHouses$Report;)Z"⟩
abbrev cX3_sowHand : ByteArray := prog_5_method_17_code
def yX3_sowHand : MethodName := ⟨RX3, "sowHand", "(I[ILHostileHouses$Report;)I"⟩
abbrev cX3_captureAcross : ByteArray := prog_5_method_18_code
def yX3_captureAcross : MethodName := ⟨RX3, "captureAcross", "(ILHostileHouses$Report;)V"⟩
abbrev cX3_giveTurnTo : ByteArray := prog_5_method_19_code
def yX3_giveTurnTo : MethodName := ⟨RX3, "giveTurnTo", "(I)V"⟩
abbrev cX3_isDecided : ByteArray := prog_5_method_20_code
def yX3_isDecided : MethodName := ⟨RX3, "isDecided", "()Z"⟩
def RX4 : String := "HostileHouses$Report"
def TX4 : u_T := fun k => match k with
  | 0 => ("HostileHouses$Report", "from", "I", false)
  | 1 => ("HostileHouses$Report", "laps", "I", false)
  | 2 => ("HostileHouses$Report", "lastHouse", "I", false)
  | 3 => ("HostileHouses$Report", "captured", "I", false)
  | _ => ("HostileHouses$Report", "tolls", "I", false)
def tyX4 : Nat → FieldType := fun k => match k with
  | 0 => .int
  | 1 => .int
  | 2 => .int
  | 3 => .int
  | _ => .int
abbrev wsX40 : List Cond := u_ws RX4 TX4 5
theorem nmX4 : ∀ a, a < 5 → ∀ b, b < 5 → a ≠ b → (TX4 a).2.1 ≠ (TX4 b).2.1 := by decide +kernel
theorem tyX4_ok : ∀ k, k < 5 → parseFieldDescriptor (TX4 k).2.2.1 = some (tyX4 k) := by decide +kernel
abbrev cX4_init : ByteArray := prog_6_method_1_code
def yX4_init : MethodName := ⟨RX4, "<init>", "()V"⟩
abbrev cX4_clear : ByteArray := prog_6_method_2_code
def yX4_clear : MethodName := ⟨RX4, "clear", "(I)V"⟩
abbrev cX4_copyFrom : ByteArray := prog_6_method_3_code
def yX4_copyFrom : MethodName := ⟨RX4, "copyFrom", "(LHostileHouses$Report;)V"⟩
def RX5 : String := "HostileHouses$State"
def TX5 : u_T := fun k => match k with
  | 0 => ("HostileHouses$State", "position", "LHostileHouses$Position;", true)
  | 1 => ("HostileHouses$State", "settings", "[I", true)
  | 2 => ("HostileHouses$State", "latest", "LHostileHouses$Report;", true)
  | _ => ("HostileHouses$State", "record", "[I", true)
def tyX5 : Nat → FieldType := fun k => match k with
  | 0 => .object "HostileHouses$Position"
  | 1 => .array .int
  | 2 => .object "HostileHouses$Report"
  | _ => .array .int
abbrev wsX50 : List Cond := u_ws RX5 TX5 4
theorem nmX5 : ∀ a, a < 4 → ∀ b, b < 4 → a ≠ b → (TX5 a).2.1 ≠ (TX5 b).2.1 := by decide +kernel
theorem tyX5_ok : ∀ k, k < 4 → parseFieldDescriptor (TX5 k).2.2.1 = some (tyX5 k) := by decide +kernel
abbrev cX5_init : ByteArray := prog_7_method_1_code
def yX5_init : MethodName := ⟨RX5, "<init>", "()V"⟩
abbrev cX5_copyFrom : ByteArray := prog_7_method_2_code
def yX5_copyFrom : MethodName := ⟨RX5, "copyFrom", "(LHostileHouses$State;)V"⟩
abbrev cX5_makeMove : ByteArray := prog_7_method_3_code
def yX5_makeMove : MethodName := ⟨RX5, "makeMove", "(I)V"⟩
def RX6 : String := "HostileHouses"
def TX6 : u_T := fun k => match k with
  | 0 => ("HostileHouses", "now", "LHostileHouses$State;", true)
  | 1 => ("HostileHouses", "history", "LHostileHouses$History;", true)
  | 2 => ("HostileHouses", "slots", "[LHostileHouses$State;", true)
  | 3 => ("HostileHouses", "saved", "[Z", true)
  | 4 => ("HostileHouses", "pad", "LHostileHouses$Pad;", true)
  | _ => ("HostileHouses", "lookahead", "LHostileHouses$Lookahead;", true)
def tyX6 : Nat → FieldType := fun k => match k with
  | 0 => .object "HostileHouses$State"
  | 1 => .object "HostileHouses$History"
  | 2 => .array (.object "HostileHouses$State")
  | 3 => .array .boolean
  | 4 => .object "HostileHouses$Pad"
  | _ => .object "HostileHouses$Lookahead"
abbrev wsX60 : List Cond := u_ws RX6 TX6 6
theorem nmX6 : ∀ a, a < 6 → ∀ b, b < 6 → a ≠ b → (TX6 a).2.1 ≠ (TX6 b).2.1 := by decide +kernel
theorem tyX6_ok : ∀ k, k < 6 → parseFieldDescriptor (TX6 k).2.2.1 = some (tyX6 k) := by decide +kernel
abbrev cX6_init : ByteArray := prog_1_method_1_code
def yX6_init : MethodName := ⟨RX6, "<init>", "()V"⟩
abbrev cX6_set : ByteArray := prog_1_method_2_code
def yX6_set : MethodName := ⟨RX6, "set", "(II)I"⟩
abbrev cX6_begin : ByteArray := prog_1_method_3_code
def yX6_begin : MethodName := ⟨RX6, "begin", "()I"⟩
abbrev cX6_move : ByteArray := prog_1_method_4_code
def yX6_move : MethodName := ⟨RX6, "move", "(I)I"⟩
abbrev cX6_play : ByteArray := prog_1_method_5_code
def yX6_play : MethodName := ⟨RX6, "play", "(I)I"⟩
abbrev cX6_read : ByteArray := prog_1_method_6_code
def yX6_read : MethodName := ⟨RX6, "read", "()I"⟩
abbrev cX6_house : ByteArray := prog_1_method_7_code
def yX6_house : MethodName := ⟨RX6, "house", "(II)I"⟩
abbrev cX6_count : ByteArray := prog_1_method_8_code
def yX6_count : MethodName := ⟨RX6, "count", "(I)I"⟩
abbrev cX6_last : ByteArray := prog_1_method_9_code
def yX6_last : MethodName := ⟨RX6, "last", "(I)I"⟩
abbrev cX6_moved : ByteArray := prog_1_method_10_code
def yX6_moved : MethodName := ⟨RX6, "moved", "(I)I"⟩
abbrev cX6_ifMove : ByteArray := prog_1_method_11_code
def yX6_ifMove : MethodName := ⟨RX6, "ifMove", "(II)I"⟩
abbrev cX6_worth : ByteArray := prog_1_method_12_code
def yX6_worth : MethodName := ⟨RX6, "worth", "(I)I"⟩
abbrev cX6_best : ByteArray := prog_1_method_13_code
def yX6_best : MethodName := ⟨RX6, "best", "(I)I"⟩
abbrev cX6_movesLeft : ByteArray := prog_1_method_14_code
def yX6_movesLeft : MethodName := ⟨RX6, "movesLeft", "(I)I"⟩
abbrev cX6_put : ByteArray := prog_1_method_15_code
def yX6_put : MethodName := ⟨RX6, "put", "(J)I"⟩
abbrev cX6_wipe : ByteArray := prog_1_method_16_code
def yX6_wipe : MethodName := ⟨RX6, "wipe", "()I"⟩
abbrev cX6_fault : ByteArray := prog_1_method_17_code
def yX6_fault : MethodName := ⟨RX6, "fault", "()I"⟩
abbrev cX6_undo : ByteArray := prog_1_method_18_code
def yX6_undo : MethodName := ⟨RX6, "undo", "()I"⟩
abbrev cX6_save : ByteArray := prog_1_method_19_code
def yX6_save : MethodName := ⟨RX6, "save", "(I)I"⟩
abbrev cX6_restore : ByteArray := prog_1_method_20_code
def yX6_restore : MethodName := ⟨RX6, "restore", "(I)I"⟩
abbrev cX6_isHouse : ByteArray := prog_1_method_21_code
def yX6_isHouse : MethodName := ⟨RX6, "isHouse", "(I)Z"⟩
abbrev cX6_isSlot : ByteArray := prog_1_method_22_code
def yX6_isSlot : MethodName := ⟨RX6, "isSlot", "(I)Z"⟩
abbrev cX6_errorOfMove : ByteArray := prog_1_method_23_code
def yX6_errorOfMove : MethodName := ⟨RX6, "errorOfMove", "(I)I"⟩
abbrev cX6_storeGain : ByteArray := prog_1_method_24_code
def yX6_storeGain : MethodName := ⟨RX6, "storeGain", "(LHostileHouses$Position;LHostileHouses$Position;)I"⟩
def RX7 : String := "HostileHousesModel"
def TX7 : u_T := fun k => match k with
  | 0 => ("HostileHousesModel", "all", "[I", true)
  | 1 => ("HostileHousesModel", "history", "[I", true)
  | 2 => ("HostileHousesModel", "historyLong", "I", false)
  | 3 => ("HostileHousesModel", "slots", "[I", true)
  | 4 => ("HostileHousesModel", "isSaved", "[I", true)
  | 5 => ("HostileHousesModel", "tree", "[I", true)
  | 6 => ("HostileHousesModel", "tried", "[I", true)
  | 7 => ("HostileHousesModel", "most", "[I", true)
  | 8 => ("HostileHousesModel", "bestHouse", "[I", true)
  | 9 => ("HostileHousesModel", "pad", "[I", true)
  | 10 => ("HostileHousesModel", "padLong", "I", false)
  | 11 => ("HostileHousesModel", "spot", "I", false)
  | _ => ("HostileHousesModel", "read", "[I", true)
def tyX7 : Nat → FieldType := fun k => match k with
  | 0 => .array .int
  | 1 => .array .int
  | 2 => .int
  | 3 => .array .int
  | 4 => .array .int
  | 5 => .array .int
  | 6 => .array .int
  | 7 => .array .int
  | 8 => .array .int
  | 9 => .array .int
  | 10 => .int
  | 11 => .int
  | _ => .array .int
abbrev wsX70 : List Cond := u_ws RX7 TX7 13
theorem nmX7 : ∀ a, a < 13 → ∀ b, b < 13 → a ≠ b → (TX7 a).2.1 ≠ (TX7 b).2.1 := by decide +kernel
theorem tyX7_ok : ∀ k, k < 13 → parseFieldDescriptor (TX7 k).2.2.1 = some (tyX7 k) := by decide +kernel
abbrev cX7_init : ByteArray := prog_9_method_1_code
def yX7_init : MethodName := ⟨RX7, "<init>", "()V"⟩
abbrev cX7_in : ByteArray := prog_9_method_3_code
def yX7_in : MethodName := ⟨RX7, "in", "(JJJ)Z"⟩
abbrev cX7_record : ByteArray := prog_9_method_4_code
def yX7_record : MethodName := ⟨RX7, "record", "()V"⟩
abbrev cX7_empties : ByteArray := prog_9_method_5_code
def yX7_empties : MethodName := ⟨RX7, "empties", "()V"⟩
abbrev cX7_anew : ByteArray := prog_9_method_6_code
def yX7_anew : MethodName := ⟨RX7, "anew", "()V"⟩
abbrev cX7_owner : ByteArray := prog_9_method_7_code
def yX7_owner : MethodName := ⟨RX7, "owner", "(I)I"⟩
abbrev cX7_total : ByteArray := prog_9_method_8_code
def yX7_total : MethodName := ⟨RX7, "total", "([II)I"⟩
abbrev cX7_seedsOf : ByteArray := prog_9_method_9_code
def yX7_seedsOf : MethodName := ⟨RX7, "seedsOf", "([III)I"⟩
abbrev cX7_isHostile : ByteArray := prog_9_method_10_code
def yX7_isHostile : MethodName := ⟨RX7, "isHostile", "([III)Z"⟩
abbrev cX7_ends : ByteArray := prog_9_method_11_code
def yX7_ends : MethodName := ⟨RX7, "ends", "([II)Z"⟩
abbrev cX7_sows : ByteArray := prog_9_method_12_code
def yX7_sows : MethodName := ⟨RX7, "sows", "([IIII)I"⟩
abbrev cX7_captures : ByteArray := prog_9_method_13_code
def yX7_captures : MethodName := ⟨RX7, "captures", "([IIII)V"⟩
abbrev cX7_moves : ByteArray := prog_9_method_14_code
def yX7_moves : MethodName := ⟨RX7, "moves", "([III)V"⟩
abbrev cX7_canMove : ByteArray := prog_9_method_15_code
def yX7_canMove : MethodName := ⟨RX7, "canMove", "([III)Z"⟩
abbrev cX7_copy : ByteArray := prog_9_method_16_code
def yX7_copy : MethodName := ⟨RX7, "copy", "([III)V"⟩
abbrev cX7_ahead : ByteArray := prog_9_method_17_code
def yX7_ahead : MethodName := ⟨RX7, "ahead", "(I)I"⟩
abbrev cX7_worthOf : ByteArray := prog_9_method_18_code
def yX7_worthOf : MethodName := ⟨RX7, "worthOf", "(II)I"⟩
abbrev cX7_bestOf : ByteArray := prog_9_method_19_code
def yX7_bestOf : MethodName := ⟨RX7, "bestOf", "(II)I"⟩
abbrev cX7_isSetting : ByteArray := prog_9_method_20_code
def yX7_isSetting : MethodName := ⟨RX7, "isSetting", "(II)Z"⟩
abbrev cX7_set : ByteArray := prog_9_method_21_code
def yX7_set : MethodName := ⟨RX7, "set", "(II)I"⟩
abbrev cX7_begin : ByteArray := prog_9_method_22_code
def yX7_begin : MethodName := ⟨RX7, "begin", "()I"⟩
abbrev cX7_isHouse : ByteArray := prog_9_method_23_code
def yX7_isHouse : MethodName := ⟨RX7, "isHouse", "(I)Z"⟩
abbrev cX7_makes : ByteArray := prog_9_method_24_code
def yX7_makes : MethodName := ⟨RX7, "makes", "(I)V"⟩
abbrev cX7_move : ByteArray := prog_9_method_25_code
def yX7_move : MethodName := ⟨RX7, "move", "(I)I"⟩
abbrev cX7_play : ByteArray := prog_9_method_26_code
def yX7_play : MethodName := ⟨RX7, "play", "(I)I"⟩
abbrev cX7_takes : ByteArray := prog_9_method_27_code
def yX7_takes : MethodName := ⟨RX7, "takes", "(I)Z"⟩
abbrev cX7_isDigit : ByteArray := prog_9_method_28_code
def yX7_isDigit : MethodName := ⟨RX7, "isDigit", "()Z"⟩
abbrev cX7_readsNumber : ByteArray := prog_9_method_29_code
def yX7_readsNumber : MethodName := ⟨RX7, "readsNumber", "(I)Z"⟩
abbrev cX7_faultOf : ByteArray := prog_9_method_30_code
def yX7_faultOf : MethodName := ⟨RX7, "faultOf", "()I"⟩
abbrev cX7_read : ByteArray := prog_9_method_31_code
def yX7_read : MethodName := ⟨RX7, "read", "()I"⟩
abbrev cX7_house : ByteArray := prog_9_method_32_code
def yX7_house : MethodName := ⟨RX7, "house", "(II)I"⟩
abbrev cX7_winner : ByteArray := prog_9_method_33_code
def yX7_winner : MethodName := ⟨RX7, "winner", "()I"⟩
abbrev cX7_hostiles : ByteArray := prog_9_method_34_code
def yX7_hostiles : MethodName := ⟨RX7, "hostiles", "()I"⟩
abbrev cX7_count : ByteArray := prog_9_method_35_code
def yX7_count : MethodName := ⟨RX7, "count", "(I)I"⟩
abbrev cX7_last : ByteArray := prog_9_method_36_code
def yX7_last : MethodName := ⟨RX7, "last", "(I)I"⟩
abbrev cX7_moved : ByteArray := prog_9_method_37_code
def yX7_moved : MethodName := ⟨RX7, "moved", "(I)I"⟩
abbrev cX7_ifMove : ByteArray := prog_9_method_38_code
def yX7_ifMove : MethodName := ⟨RX7, "ifMove", "(II)I"⟩
abbrev cX7_worth : ByteArray := prog_9_method_39_code
def yX7_worth : MethodName := ⟨RX7, "worth", "(I)I"⟩
abbrev cX7_best : ByteArray := prog_9_method_40_code
def yX7_best : MethodName := ⟨RX7, "best", "(I)I"⟩
abbrev cX7_movesLeft : ByteArray := prog_9_method_41_code
def yX7_movesLeft : MethodName := ⟨RX7, "movesLeft", "(I)I"⟩
abbrev cX7_put : ByteArray := prog_9_method_42_code
def yX7_put : MethodName := ⟨RX7, "put", "(J)I"⟩
abbrev cX7_wipe : ByteArray := prog_9_method_43_code
def yX7_wipe : MethodName := ⟨RX7, "wipe", "()I"⟩
abbrev cX7_fault : ByteArray := prog_9_method_44_code
def yX7_fault : MethodName := ⟨RX7, "fault", "()I"⟩
abbrev cX7_undo : ByteArray := prog_9_method_45_code
def yX7_undo : MethodName := ⟨RX7, "undo", "()I"⟩
abbrev cX7_save : ByteArray := prog_9_method_46_code
def yX7_save : MethodName := ⟨RX7, "save", "(I)I"⟩
abbrev cX7_restore : ByteArray := prog_9_method_47_code
def yX7_restore : MethodName := ⟨RX7, "restore", "(I)I"⟩
def RJ9 : String := "java/lang/Math"
def TJ9 : u_T := fun k => match k with
  | _ => ("", "", "", false)
def tyJ9 : Nat → FieldType := fun k => match k with
  | _ => .int
theorem nmJ9 : ∀ a, a < 0 → ∀ b, b < 0 → a ≠ b → (TJ9 a).2.1 ≠ (TJ9 b).2.1 := by decide +kernel
theorem tyJ9_ok : ∀ k, k < 0 → parseFieldDescriptor (TJ9 k).2.2.1 = some (tyJ9 k) := by decide +kernel
abbrev cJ9_max_7cf53 : ByteArray := prog_11_method_65_code
def yJ9_max_7cf53 : MethodName := ⟨RJ9, "max", "(II)I"⟩
def RJ10 : String := "java/lang/System"
def TJ10 : u_T := fun k => match k with
  | _ => ("", "", "", false)
def tyJ10 : Nat → FieldType := fun k => match k with
  | _ => .int
theorem nmJ10 : ∀ a, a < 0 → ∀ b, b < 0 → a ≠ b → (TJ10 a).2.1 ≠ (TJ10 b).2.1 := by decide +kernel
theorem tyJ10_ok : ∀ k, k < 0 → parseFieldDescriptor (TJ10 k).2.2.1 = some (tyJ10 k) := by decide +kernel
def RL : String := "HostileHousesLaw"
abbrev cL_law : ByteArray := code
def yL_law : MethodName := ⟨RL, "law", "([I)Z"⟩
theorem dX0_init_0 : decode cX0_init 0 = .ok (.aload_n 0, 1) := by decide +kernel
theorem dX0_init_1 : decode cX0_init 1 = .ok (.invokespecial 3, 3) := by decide +kernel
theorem dX0_init_4 : decode cX0_init 4 = .ok (.aload_n 0, 1) := by decide +kernel
theorem dX0_init_5 : decode cX0_init 5 = .ok (.bipush 6, 2) := by decide +kernel
theorem dX0_init_7 : decode cX0_init 7 = .ok (.anewarray 9, 3) := by decide +kernel
theorem dX0_init_10 : decode cX0_init 10 = .ok (.putfield 11, 3) := by decide +kernel
theorem dX0_init_13 : decode cX0_init 13 = .ok (.iconst 0, 1) := by decide +kernel
theorem dX0_init_14 : decode cX0_init 14 = .ok (.istore_n 1, 1) := by decide +kernel
theorem dX0_init_15 : decode cX0_init 15 = .ok (.iload_n 1, 1) := by decide +kernel
theorem dX0_init_16 : decode cX0_init 16 = .ok (.bipush 6, 2) := by decide +kernel
theorem dX0_init_18 : decode cX0_init 18 = .ok (.if_icmp .ge 22, 3) := by decide +kernel
theorem dX0_init_21 : decode cX0_init 21 = .ok (.aload_n 0, 1) := by decide +kernel
theorem dX0_init_22 : decode cX0_init 22 = .ok (.getfield 11, 3) := by decide +kernel
theorem dX0_init_25 : decode cX0_init 25 = .ok (.iload_n 1, 1) := by decide +kernel
theorem dX0_init_26 : decode cX0_init 26 = .ok (.new 9, 3) := by decide +kernel
theorem dX0_init_29 : decode cX0_init 29 = .ok (.dup, 1) := by decide +kernel
theorem dX0_init_30 : decode cX0_init 30 = .ok (.invokespecial 17, 3) := by decide +kernel
theorem dX0_init_33 : decode cX0_init 33 = .ok (.aastore, 1) := by decide +kernel
theorem dX0_init_34 : decode cX0_init 34 = .ok (.iinc 1 1, 3) := by decide +kernel
theorem dX0_init_37 : decode cX0_init 37 = .ok (.goto (-22), 3) := by decide +kernel
theorem dX0_init_40 : decode cX0_init 40 = .ok (.return_, 1) := by decide +kernel
theorem dX0_remember_0 : decode cX0_remember 0 = .ok (.aload_n 0, 1) := by decide +kernel
theorem dX0_remember_1 : decode cX0_remember 1 = .ok (.getfield 11, 3) := by decide +kernel
theorem dX0_remember_4 : decode cX0_remember 4 = .ok (.aload_n 0, 1) := by decide +kernel
theorem dX0_remember_5 : decode cX0_remember 5 = .ok (.getfield 18, 3) := by decide +kernel
theorem dX0_remember_8 : decode cX0_remember 8 = .ok (.aload_n 0, 1) := by decide +kernel
theorem dX0_remember_9 : decode cX0_remember 9 = .ok (.getfield 22, 3) := by decide +kernel
theorem dX0_remember_12 : decode cX0_remember 12 = .ok (.iadd, 1) := by decide +kernel
theorem dX0_remember_13 : decode cX0_remember 13 = .ok (.bipush 6, 2) := by decide +kernel
theorem dX0_remember_15 : decode cX0_remember 15 = .ok (.irem, 1) := by decide +kernel
theorem dX0_remember_16 : decode cX0_remember 16 = .ok (.aaload, 1) := by decide +kernel
theorem dX0_remember_17 : decode cX0_remember 17 = .ok (.aload_n 1, 1) := by decide +kernel
theorem dX0_remember_18 : decode cX0_remember 18 = .ok (.invokevirtual 25, 3) := by decide +kernel
theorem dX0_remember_21 : decode cX0_remember 21 = .ok (.aload_n 0, 1) := by decide +kernel
theorem dX0_remember_22 : decode cX0_remember 22 = .ok (.getfield 22, 3) := by decide +kernel
theorem dX0_remember_25 : decode cX0_remember 25 = .ok (.bipush 6, 2) := by decide +kernel
theorem dX0_remember_27 : decode cX0_remember 27 = .ok (.if_icmp .ge 16, 3) := by decide +kernel
theorem dX0_remember_30 : decode cX0_remember 30 = .ok (.aload_n 0, 1) := by decide +kernel
theorem dX0_remember_31 : decode cX0_remember 31 = .ok (.dup, 1) := by decide +kernel
theorem dX0_remember_32 : decode cX0_remember 32 = .ok (.getfield 22, 3) := by decide +kernel
theorem dX0_remember_35 : decode cX0_remember 35 = .ok (.iconst 1, 1) := by decide +kernel
theorem dX0_remember_36 : decode cX0_remember 36 = .ok (.iadd, 1) := by decide +kernel
theorem dX0_remember_37 : decode cX0_remember 37 = .ok (.putfield 22, 3) := by decide +kernel
theorem dX0_remember_40 : decode cX0_remember 40 = .ok (.goto 16, 3) := by decide +kernel
theorem dX0_remember_43 : decode cX0_remember 43 = .ok (.aload_n 0, 1) := by decide +kernel
theorem dX0_remember_44 : decode cX0_remember 44 = .ok (.aload_n 0, 1) := by decide +kernel
theorem dX0_remember_45 : decode cX0_remember 45 = .ok (.getfield 18, 3) := by decide +kernel
theorem dX0_remember_48 : decode cX0_remember 48 = .ok (.iconst 1, 1) := by decide +kernel
theorem dX0_remember_49 : decode cX0_remember 49 = .ok (.iadd, 1) := by decide +kernel
theorem dX0_remember_50 : decode cX0_remember 50 = .ok (.bipush 6, 2) := by decide +kernel
theorem dX0_remember_52 : decode cX0_remember 52 = .ok (.irem, 1) := by decide +kernel
theorem dX0_remember_53 : decode cX0_remember 53 = .ok (.putfield 18, 3) := by decide +kernel
theorem dX0_remember_56 : decode cX0_remember 56 = .ok (.return_, 1) := by decide +kernel
theorem dX0_takeBack_0 : decode cX0_takeBack 0 = .ok (.aload_n 0, 1) := by decide +kernel
theorem dX0_takeBack_1 : decode cX0_takeBack 1 = .ok (.getfield 22, 3) := by decide +kernel
theorem dX0_takeBack_4 : decode cX0_takeBack 4 = .ok (.ifCond .ne 4, 3) := by decide +kernel
theorem dX0_takeBack_7 : decode cX0_takeBack 7 = .ok (.return_, 1) := by decide +kernel
theorem dX0_takeBack_8 : decode cX0_takeBack 8 = .ok (.aload_n 0, 1) := by decide +kernel
theorem dX0_takeBack_9 : decode cX0_takeBack 9 = .ok (.dup, 1) := by decide +kernel
theorem dX0_takeBack_10 : decode cX0_takeBack 10 = .ok (.getfield 22, 3) := by decide +kernel
theorem dX0_takeBack_13 : decode cX0_takeBack 13 = .ok (.iconst 1, 1) := by decide +kernel
theorem dX0_takeBack_14 : decode cX0_takeBack 14 = .ok (.isub, 1) := by decide +kernel
theorem dX0_takeBack_15 : decode cX0_takeBack 15 = .ok (.putfield 22, 3) := by decide +kernel
theorem dX0_takeBack_18 : decode cX0_takeBack 18 = .ok (.aload_n 1, 1) := by decide +kernel
theorem dX0_takeBack_19 : decode cX0_takeBack 19 = .ok (.aload_n 0, 1) := by decide +kernel
theorem dX0_takeBack_20 : decode cX0_takeBack 20 = .ok (.getfield 11, 3) := by decide +kernel
theorem dX0_takeBack_23 : decode cX0_takeBack 23 = .ok (.aload_n 0, 1) := by decide +kernel
theorem dX0_takeBack_24 : decode cX0_takeBack 24 = .ok (.getfield 18, 3) := by decide +kernel
theorem dX0_takeBack_27 : decode cX0_takeBack 27 = .ok (.aload_n 0, 1) := by decide +kernel
theorem dX0_takeBack_28 : decode cX0_takeBack 28 = .ok (.getfield 22, 3) := by decide +kernel
theorem dX0_takeBack_31 : decode cX0_takeBack 31 = .ok (.iadd, 1) := by decide +kernel
theorem dX0_takeBack_32 : decode cX0_takeBack 32 = .ok (.bipush 6, 2) := by decide +kernel
theorem dX0_takeBack_34 : decode cX0_takeBack 34 = .ok (.irem, 1) := by decide +kernel
theorem dX0_takeBack_35 : decode cX0_takeBack 35 = .ok (.aaload, 1) := by decide +kernel
theorem dX0_takeBack_36 : decode cX0_takeBack 36 = .ok (.invokevirtual 25, 3) := by decide +kernel
theorem dX0_takeBack_39 : decode cX0_takeBack 39 = .ok (.return_, 1) := by decide +kernel
theorem dX1_init_0 : decode cX1_init 0 = .ok (.aload_n 0, 1) := by decide +kernel
theorem dX1_init_1 : decode cX1_init 1 = .ok (.invokespecial 3, 3) := by decide +kernel
theorem dX1_init_4 : decode cX1_init 4 = .ok (.aload_n 0, 1) := by decide +kernel
theorem dX1_init_5 : decode cX1_init 5 = .ok (.new 9, 3) := by decide +kernel
theorem dX1_init_8 : decode cX1_init 8 = .ok (.dup, 1) := by decide +kernel
theorem dX1_init_9 : decode cX1_init 9 = .ok (.invokespecial 11, 3) := by decide +kernel
theorem dX1_init_12 : decode cX1_init 12 = .ok (.putfield 12, 3) := by decide +kernel
theorem dX1_init_15 : decode cX1_init 15 = .ok (.aload_n 0, 1) := by decide +kernel
theorem dX1_init_16 : decode cX1_init 16 = .ok (.new 18, 3) := by decide +kernel
theorem dX1_init_19 : decode cX1_init 19 = .ok (.dup, 1) := by decide +kernel
theorem dX1_init_20 : decode cX1_init 20 = .ok (.invokespecial 20, 3) := by decide +kernel
theorem dX1_init_23 : decode cX1_init 23 = .ok (.putfield 21, 3) := by decide +kernel
theorem dX1_init_26 : decode cX1_init 26 = .ok (.aload_n 0, 1) := by decide +kernel
theorem dX1_init_27 : decode cX1_init 27 = .ok (.iconst 5, 1) := by decide +kernel
theorem dX1_init_28 : decode cX1_init 28 = .ok (.anewarray 9, 3) := by decide +kernel
theorem dX1_init_31 : decode cX1_init 31 = .ok (.putfield 25, 3) := by decide +kernel
theorem dX1_init_34 : decode cX1_init 34 = .ok (.iconst 0, 1) := by decide +kernel
theorem dX1_init_35 : decode cX1_init 35 = .ok (.istore_n 1, 1) := by decide +kernel
theorem dX1_init_36 : decode cX1_init 36 = .ok (.iload_n 1, 1) := by decide +kernel
theorem dX1_init_37 : decode cX1_init 37 = .ok (.iconst 4, 1) := by decide +kernel
theorem dX1_init_38 : decode cX1_init 38 = .ok (.if_icmp .gt 22, 3) := by decide +kernel
theorem dX1_init_41 : decode cX1_init 41 = .ok (.aload_n 0, 1) := by decide +kernel
theorem dX1_init_42 : decode cX1_init 42 = .ok (.getfield 25, 3) := by decide +kernel
theorem dX1_init_45 : decode cX1_init 45 = .ok (.iload_n 1, 1) := by decide +kernel
theorem dX1_init_46 : decode cX1_init 46 = .ok (.new 9, 3) := by decide +kernel
theorem dX1_init_49 : decode cX1_init 49 = .ok (.dup, 1) := by decide +kernel
theorem dX1_init_50 : decode cX1_init 50 = .ok (.invokespecial 11, 3) := by decide +kernel
theorem dX1_init_53 : decode cX1_init 53 = .ok (.aastore, 1) := by decide +kernel
theorem dX1_init_54 : decode cX1_init 54 = .ok (.iinc 1 1, 3) := by decide +kernel
theorem dX1_init_57 : decode cX1_init 57 = .ok (.goto (-21), 3) := by decide +kernel
theorem dX1_init_60 : decode cX1_init 60 = .ok (.return_, 1) := by decide +kernel
theorem dX1_valueOf_0 : decode cX1_valueOf 0 = .ok (.aload_n 1, 1) := by decide +kernel
theorem dX1_valueOf_1 : decode cX1_valueOf 1 = .ok (.getfield 29, 3) := by decide +kernel
theorem dX1_valueOf_4 : decode cX1_valueOf 4 = .ok (.ifCond .ne 7, 3) := by decide +kernel
theorem dX1_valueOf_7 : decode cX1_valueOf 7 = .ok (.iload_n 3, 1) := by decide +kernel
theorem dX1_valueOf_8 : decode cX1_valueOf 8 = .ok (.ifCond .gt 8, 3) := by decide +kernel
theorem dX1_valueOf_11 : decode cX1_valueOf 11 = .ok (.aload_n 1, 1) := by decide +kernel
theorem dX1_valueOf_12 : decode cX1_valueOf 12 = .ok (.invokevirtual 33, 3) := by decide +kernel
theorem dX1_valueOf_15 : decode cX1_valueOf 15 = .ok (.ireturn, 1) := by decide +kernel
theorem dX1_valueOf_16 : decode cX1_valueOf 16 = .ok (.sipush (-10000), 3) := by decide +kernel
theorem dX1_valueOf_19 : decode cX1_valueOf 19 = .ok (.istore 4, 2) := by decide +kernel
theorem dX1_valueOf_21 : decode cX1_valueOf 21 = .ok (.iconst 0, 1) := by decide +kernel
theorem dX1_valueOf_22 : decode cX1_valueOf 22 = .ok (.istore 5, 2) := by decide +kernel
theorem dX1_valueOf_24 : decode cX1_valueOf 24 = .ok (.iload 5, 2) := by decide +kernel
theorem dX1_valueOf_26 : decode cX1_valueOf 26 = .ok (.bipush 12, 2) := by decide +kernel
theorem dX1_valueOf_28 : decode cX1_valueOf 28 = .ok (.if_icmp .ge 34, 3) := by decide +kernel
theorem dX1_valueOf_31 : decode cX1_valueOf 31 = .ok (.aload_n 1, 1) := by decide +kernel
theorem dX1_valueOf_32 : decode cX1_valueOf 32 = .ok (.iload 5, 2) := by decide +kernel
theorem dX1_valueOf_34 : decode cX1_valueOf 34 = .ok (.invokevirtual 37, 3) := by decide +kernel
theorem dX1_valueOf_37 : decode cX1_valueOf 37 = .ok (.ifCond .eq 19, 3) := by decide +kernel
theorem dX1_valueOf_40 : decode cX1_valueOf 40 = .ok (.iload 4, 2) := by decide +kernel
theorem dX1_valueOf_42 : decode cX1_valueOf 42 = .ok (.aload_n 0, 1) := by decide +kernel
theorem dX1_valueOf_43 : decode cX1_valueOf 43 = .ok (.aload_n 1, 1) := by decide +kernel
theorem dX1_valueOf_44 : decode cX1_valueOf 44 = .ok (.iload 5, 2) := by decide +kernel
theorem dX1_valueOf_46 : decode cX1_valueOf 46 = .ok (.aload_n 2, 1) := by decide +kernel
theorem dX1_valueOf_47 : decode cX1_valueOf 47 = .ok (.iload_n 3, 1) := by decide +kernel
theorem dX1_valueOf_48 : decode cX1_valueOf 48 = .ok (.invokevirtual 41, 3) := by decide +kernel
theorem dX1_valueOf_51 : decode cX1_valueOf 51 = .ok (.invokestatic 45, 3) := by decide +kernel
theorem dX1_valueOf_54 : decode cX1_valueOf 54 = .ok (.istore 4, 2) := by decide +kernel
theorem dX1_valueOf_56 : decode cX1_valueOf 56 = .ok (.iinc 5 1, 3) := by decide +kernel
theorem dX1_valueOf_59 : decode cX1_valueOf 59 = .ok (.goto (-35), 3) := by decide +kernel
theorem dX1_valueOf_62 : decode cX1_valueOf 62 = .ok (.iload 4, 2) := by decide +kernel
theorem dX1_valueOf_64 : decode cX1_valueOf 64 = .ok (.ireturn, 1) := by decide +kernel
theorem dX1_bestHouse_0 : decode cX1_bestHouse 0 = .ok (.bipush (-6), 2) := by decide +kernel
theorem dX1_bestHouse_2 : decode cX1_bestHouse 2 = .ok (.istore 4, 2) := by decide +kernel
theorem dX1_bestHouse_4 : decode cX1_bestHouse 4 = .ok (.sipush (-10000), 3) := by decide +kernel
theorem dX1_bestHouse_7 : decode cX1_bestHouse 7 = .ok (.istore 5, 2) := by decide +kernel
theorem dX1_bestHouse_9 : decode cX1_bestHouse 9 = .ok (.iconst 0, 1) := by decide +kernel
theorem dX1_bestHouse_10 : decode cX1_bestHouse 10 = .ok (.istore 6, 2) := by decide +kernel
theorem dX1_bestHouse_12 : decode cX1_bestHouse 12 = .ok (.iload 6, 2) := by decide +kernel
theorem dX1_bestHouse_14 : decode cX1_bestHouse 14 = .ok (.bipush 12, 2) := by decide +kernel
theorem dX1_bestHouse_16 : decode cX1_bestHouse 16 = .ok (.if_icmp .ge 44, 3) := by decide +kernel
theorem dX1_bestHouse_19 : decode cX1_bestHouse 19 = .ok (.aload_n 1, 1) := by decide +kernel
theorem dX1_bestHouse_20 : decode cX1_bestHouse 20 = .ok (.iload 6, 2) := by decide +kernel
theorem dX1_bestHouse_22 : decode cX1_bestHouse 22 = .ok (.invokevirtual 37, 3) := by decide +kernel
theorem dX1_bestHouse_25 : decode cX1_bestHouse 25 = .ok (.ifCond .eq 29, 3) := by decide +kernel
theorem dX1_bestHouse_28 : decode cX1_bestHouse 28 = .ok (.aload_n 0, 1) := by decide +kernel
theorem dX1_bestHouse_29 : decode cX1_bestHouse 29 = .ok (.aload_n 1, 1) := by decide +kernel
theorem dX1_bestHouse_30 : decode cX1_bestHouse 30 = .ok (.iload 6, 2) := by decide +kernel
theorem dX1_bestHouse_32 : decode cX1_bestHouse 32 = .ok (.aload_n 2, 1) := by decide +kernel
theorem dX1_bestHouse_33 : decode cX1_bestHouse 33 = .ok (.iload_n 3, 1) := by decide +kernel
theorem dX1_bestHouse_34 : decode cX1_bestHouse 34 = .ok (.invokevirtual 41, 3) := by decide +kernel
theorem dX1_bestHouse_37 : decode cX1_bestHouse 37 = .ok (.istore 7, 2) := by decide +kernel
theorem dX1_bestHouse_39 : decode cX1_bestHouse 39 = .ok (.iload 7, 2) := by decide +kernel
theorem dX1_bestHouse_41 : decode cX1_bestHouse 41 = .ok (.iload 5, 2) := by decide +kernel
theorem dX1_bestHouse_43 : decode cX1_bestHouse 43 = .ok (.if_icmp .le 11, 3) := by decide +kernel
theorem dX1_bestHouse_46 : decode cX1_bestHouse 46 = .ok (.iload 6, 2) := by decide +kernel
theorem dX1_bestHouse_48 : decode cX1_bestHouse 48 = .ok (.istore 4, 2) := by decide +kernel
theorem dX1_bestHouse_50 : decode cX1_bestHouse 50 = .ok (.iload 7, 2) := by decide +kernel
theorem dX1_bestHouse_52 : decode cX1_bestHouse 52 = .ok (.istore 5, 2) := by decide +kernel
theorem dX1_bestHouse_54 : decode cX1_bestHouse 54 = .ok (.iinc 6 1, 3) := by decide +kernel
theorem dX1_bestHouse_57 : decode cX1_bestHouse 57 = .ok (.goto (-45), 3) := by decide +kernel
theorem dX1_bestHouse_60 : decode cX1_bestHouse 60 = .ok (.iload 4, 2) := by decide +kernel
theorem dX1_bestHouse_62 : decode cX1_bestHouse 62 = .ok (.ireturn, 1) := by decide +kernel
theorem dX1_valueBehind_0 : decode cX1_valueBehind 0 = .ok (.iload 4, 2) := by decide +kernel
theorem dX1_valueBehind_2 : decode cX1_valueBehind 2 = .ok (.iconst 1, 1) := by decide +kernel
theorem dX1_valueBehind_3 : decode cX1_valueBehind 3 = .ok (.if_icmp .lt 9, 3) := by decide +kernel
theorem dX1_valueBehind_6 : decode cX1_valueBehind 6 = .ok (.iload 4, 2) := by decide +kernel
theorem dX1_valueBehind_8 : decode cX1_valueBehind 8 = .ok (.iconst 4, 1) := by decide +kernel
theorem dX1_valueBehind_9 : decode cX1_valueBehind 9 = .ok (.if_icmp .le 8, 3) := by decide +kernel
theorem dX1_valueBehind_12 : decode cX1_valueBehind 12 = .ok (.aload_n 1, 1) := by decide +kernel
theorem dX1_valueBehind_13 : decode cX1_valueBehind 13 = .ok (.invokevirtual 33, 3) := by decide +kernel
theorem dX1_valueBehind_16 : decode cX1_valueBehind 16 = .ok (.ireturn, 1) := by decide +kernel
theorem dX1_valueBehind_17 : decode cX1_valueBehind 17 = .ok (.aload_n 0, 1) := by decide +kernel
theorem dX1_valueBehind_18 : decode cX1_valueBehind 18 = .ok (.getfield 25, 3) := by decide +kernel
theorem dX1_valueBehind_21 : decode cX1_valueBehind 21 = .ok (.iload 4, 2) := by decide +kernel
theorem dX1_valueBehind_23 : decode cX1_valueBehind 23 = .ok (.aaload, 1) := by decide +kernel
theorem dX1_valueBehind_24 : decode cX1_valueBehind 24 = .ok (.astore 5, 2) := by decide +kernel
theorem dX1_valueBehind_26 : decode cX1_valueBehind 26 = .ok (.aload 5, 2) := by decide +kernel
theorem dX1_valueBehind_28 : decode cX1_valueBehind 28 = .ok (.aload_n 1, 1) := by decide +kernel
theorem dX1_valueBehind_29 : decode cX1_valueBehind 29 = .ok (.invokevirtual 51, 3) := by decide +kernel
theorem dX1_valueBehind_32 : decode cX1_valueBehind 32 = .ok (.aload 5, 2) := by decide +kernel
theorem dX1_valueBehind_34 : decode cX1_valueBehind 34 = .ok (.iload_n 2, 1) := by decide +kernel
theorem dX1_valueBehind_35 : decode cX1_valueBehind 35 = .ok (.aload_n 3, 1) := by decide +kernel
theorem dX1_valueBehind_36 : decode cX1_valueBehind 36 = .ok (.aload_n 0, 1) := by decide +kernel
theorem dX1_valueBehind_37 : decode cX1_valueBehind 37 = .ok (.getfield 21, 3) := by decide +kernel
theorem dX1_valueBehind_40 : decode cX1_valueBehind 40 = .ok (.invokevirtual 55, 3) := by decide +kernel
theorem dX1_valueBehind_43 : decode cX1_valueBehind 43 = .ok (.aload_n 0, 1) := by decide +kernel
theorem dX1_valueBehind_44 : decode cX1_valueBehind 44 = .ok (.aload 5, 2) := by decide +kernel
theorem dX1_valueBehind_46 : decode cX1_valueBehind 46 = .ok (.aload_n 3, 1) := by decide +kernel
theorem dX1_valueBehind_47 : decode cX1_valueBehind 47 = .ok (.iload 4, 2) := by decide +kernel
theorem dX1_valueBehind_49 : decode cX1_valueBehind 49 = .ok (.iconst 1, 1) := by decide +kernel
theorem dX1_valueBehind_50 : decode cX1_valueBehind 50 = .ok (.isub, 1) := by decide +kernel
theorem dX1_valueBehind_51 : decode cX1_valueBehind 51 = .ok (.invokevirtual 59, 3) := by decide +kernel
theorem dX1_valueBehind_54 : decode cX1_valueBehind 54 = .ok (.istore 6, 2) := by decide +kernel
theorem dX1_valueBehind_56 : decode cX1_valueBehind 56 = .ok (.aload 5, 2) := by decide +kernel
theorem dX1_valueBehind_58 : decode cX1_valueBehind 58 = .ok (.getfield 63, 3) := by decide +kernel
theorem dX1_valueBehind_61 : decode cX1_valueBehind 61 = .ok (.aload_n 1, 1) := by decide +kernel
theorem dX1_valueBehind_62 : decode cX1_valueBehind 62 = .ok (.getfield 63, 3) := by decide +kernel
theorem dX1_valueBehind_65 : decode cX1_valueBehind 65 = .ok (.if_icmp .ne 8, 3) := by decide +kernel
theorem dX1_valueBehind_68 : decode cX1_valueBehind 68 = .ok (.iload 6, 2) := by decide +kernel
theorem dX1_valueBehind_70 : decode cX1_valueBehind 70 = .ok (.goto 6, 3) := by decide +kernel
theorem dX1_valueBehind_73 : decode cX1_valueBehind 73 = .ok (.iload 6, 2) := by decide +kernel
theorem dX1_valueBehind_75 : decode cX1_valueBehind 75 = .ok (.ineg, 1) := by decide +kernel
theorem dX1_valueBehind_76 : decode cX1_valueBehind 76 = .ok (.ireturn, 1) := by decide +kernel
theorem dX1_movesToTheEnd_0 : decode cX1_movesToTheEnd 0 = .ok (.aload_n 0, 1) := by decide +kernel
theorem dX1_movesToTheEnd_1 : decode cX1_movesToTheEnd 1 = .ok (.getfield 12, 3) := by decide +kernel
theorem dX1_movesToTheEnd_4 : decode cX1_movesToTheEnd 4 = .ok (.aload_n 1, 1) := by decide +kernel
theorem dX1_movesToTheEnd_5 : decode cX1_movesToTheEnd 5 = .ok (.invokevirtual 51, 3) := by decide +kernel
theorem dX1_movesToTheEnd_8 : decode cX1_movesToTheEnd 8 = .ok (.iconst 0, 1) := by decide +kernel
theorem dX1_movesToTheEnd_9 : decode cX1_movesToTheEnd 9 = .ok (.istore 4, 2) := by decide +kernel
theorem dX1_movesToTheEnd_11 : decode cX1_movesToTheEnd 11 = .ok (.iload 4, 2) := by decide +kernel
theorem dX1_movesToTheEnd_13 : decode cX1_movesToTheEnd 13 = .ok (.sipush 300, 3) := by decide +kernel
theorem dX1_movesToTheEnd_16 : decode cX1_movesToTheEnd 16 = .ok (.if_icmp .ge 45, 3) := by decide +kernel
theorem dX1_movesToTheEnd_19 : decode cX1_movesToTheEnd 19 = .ok (.aload_n 0, 1) := by decide +kernel
theorem dX1_movesToTheEnd_20 : decode cX1_movesToTheEnd 20 = .ok (.aload_n 0, 1) := by decide +kernel
theorem dX1_movesToTheEnd_21 : decode cX1_movesToTheEnd 21 = .ok (.getfield 12, 3) := by decide +kernel
theorem dX1_movesToTheEnd_24 : decode cX1_movesToTheEnd 24 = .ok (.aload_n 2, 1) := by decide +kernel
theorem dX1_movesToTheEnd_25 : decode cX1_movesToTheEnd 25 = .ok (.iload_n 3, 1) := by decide +kernel
theorem dX1_movesToTheEnd_26 : decode cX1_movesToTheEnd 26 = .ok (.invokevirtual 67, 3) := by decide +kernel
theorem dX1_movesToTheEnd_29 : decode cX1_movesToTheEnd 29 = .ok (.istore 5, 2) := by decide +kernel
theorem dX1_movesToTheEnd_31 : decode cX1_movesToTheEnd 31 = .ok (.iload 5, 2) := by decide +kernel
theorem dX1_movesToTheEnd_33 : decode cX1_movesToTheEnd 33 = .ok (.bipush (-6), 2) := by decide +kernel
theorem dX1_movesToTheEnd_35 : decode cX1_movesToTheEnd 35 = .ok (.if_icmp .ne 6, 3) := by decide +kernel
theorem dX1_movesToTheEnd_38 : decode cX1_movesToTheEnd 38 = .ok (.iload 4, 2) := by decide +kernel
theorem dX1_movesToTheEnd_40 : decode cX1_movesToTheEnd 40 = .ok (.ireturn, 1) := by decide +kernel
theorem dX1_movesToTheEnd_41 : decode cX1_movesToTheEnd 41 = .ok (.aload_n 0, 1) := by decide +kernel
theorem dX1_movesToTheEnd_42 : decode cX1_movesToTheEnd 42 = .ok (.getfield 12, 3) := by decide +kernel
theorem dX1_movesToTheEnd_45 : decode cX1_movesToTheEnd 45 = .ok (.iload 5, 2) := by decide +kernel
theorem dX1_movesToTheEnd_47 : decode cX1_movesToTheEnd 47 = .ok (.aload_n 2, 1) := by decide +kernel
theorem dX1_movesToTheEnd_48 : decode cX1_movesToTheEnd 48 = .ok (.aload_n 0, 1) := by decide +kernel
theorem dX1_movesToTheEnd_49 : decode cX1_movesToTheEnd 49 = .ok (.getfield 21, 3) := by decide +kernel
theorem dX1_movesToTheEnd_52 : decode cX1_movesToTheEnd 52 = .ok (.invokevirtual 55, 3) := by decide +kernel
theorem dX1_movesToTheEnd_55 : decode cX1_movesToTheEnd 55 = .ok (.iinc 4 1, 3) := by decide +kernel
theorem dX1_movesToTheEnd_58 : decode cX1_movesToTheEnd 58 = .ok (.goto (-47), 3) := by decide +kernel
theorem dX1_movesToTheEnd_61 : decode cX1_movesToTheEnd 61 = .ok (.sipush 300, 3) := by decide +kernel
theorem dX1_movesToTheEnd_64 : decode cX1_movesToTheEnd 64 = .ok (.ireturn, 1) := by decide +kernel
theorem dX2_init_0 : decode cX2_init 0 = .ok (.aload_n 0, 1) := by decide +kernel
theorem dX2_init_1 : decode cX2_init 1 = .ok (.invokespecial 3, 3) := by decide +kernel
theorem dX2_init_4 : decode cX2_init 4 = .ok (.aload_n 0, 1) := by decide +kernel
theorem dX2_init_5 : decode cX2_init 5 = .ok (.bipush 60, 2) := by decide +kernel
theorem dX2_init_7 : decode cX2_init 7 = .ok (.newarray .char, 2) := by decide +kernel
theorem dX2_init_9 : decode cX2_init 9 = .ok (.putfield 9, 3) := by decide +kernel
theorem dX2_init_12 : decode cX2_init 12 = .ok (.aload_n 0, 1) := by decide +kernel
theorem dX2_init_13 : decode cX2_init 13 = .ok (.bipush 15, 2) := by decide +kernel
theorem dX2_init_15 : decode cX2_init 15 = .ok (.newarray .int, 2) := by decide +kernel
theorem dX2_init_17 : decode cX2_init 17 = .ok (.putfield 15, 3) := by decide +kernel
theorem dX2_init_20 : decode cX2_init 20 = .ok (.return_, 1) := by decide +kernel
theorem dX2_charactersIn_0 : decode cX2_charactersIn 0 = .ok (.lload_n 0, 1) := by decide +kernel
theorem dX2_charactersIn_1 : decode cX2_charactersIn 1 = .ok (.lstore_n 2, 1) := by decide +kernel
theorem dX2_charactersIn_2 : decode cX2_charactersIn 2 = .ok (.iconst 0, 1) := by decide +kernel
theorem dX2_charactersIn_3 : decode cX2_charactersIn 3 = .ok (.istore 4, 2) := by decide +kernel
theorem dX2_charactersIn_5 : decode cX2_charactersIn 5 = .ok (.lload_n 2, 1) := by decide +kernel
theorem dX2_charactersIn_6 : decode cX2_charactersIn 6 = .ok (.lconst 0, 1) := by decide +kernel
theorem dX2_charactersIn_7 : decode cX2_charactersIn 7 = .ok (.lcmp, 1) := by decide +kernel
theorem dX2_charactersIn_8 : decode cX2_charactersIn 8 = .ok (.ifCond .eq 48, 3) := by decide +kernel
theorem dX2_charactersIn_11 : decode cX2_charactersIn 11 = .ok (.iload 4, 2) := by decide +kernel
theorem dX2_charactersIn_13 : decode cX2_charactersIn 13 = .ok (.bipush 8, 2) := by decide +kernel
theorem dX2_charactersIn_15 : decode cX2_charactersIn 15 = .ok (.if_icmp .ge 41, 3) := by decide +kernel
theorem dX2_charactersIn_18 : decode cX2_charactersIn 18 = .ok (.lload_n 2, 1) := by decide +kernel
theorem dX2_charactersIn_19 : decode cX2_charactersIn 19 = .ok (.ldc2_w 19, 3) := by decide +kernel
theorem dX2_charactersIn_22 : decode cX2_charactersIn 22 = .ok (.land, 1) := by decide +kernel
theorem dX2_charactersIn_23 : decode cX2_charactersIn 23 = .ok (.lstore 5, 2) := by decide +kernel
theorem dX2_charactersIn_25 : decode cX2_charactersIn 25 = .ok (.lload 5, 2) := by decide +kernel
theorem dX2_charactersIn_27 : decode cX2_charactersIn 27 = .ok (.ldc2_w 21, 3) := by decide +kernel
theorem dX2_charactersIn_30 : decode cX2_charactersIn 30 = .ok (.lcmp, 1) := by decide +kernel
theorem dX2_charactersIn_31 : decode cX2_charactersIn 31 = .ok (.ifCond .lt 12, 3) := by decide +kernel
theorem dX2_charactersIn_34 : decode cX2_charactersIn 34 = .ok (.lload 5, 2) := by decide +kernel
theorem dX2_charactersIn_36 : decode cX2_charactersIn 36 = .ok (.ldc2_w 23, 3) := by decide +kernel
theorem dX2_charactersIn_39 : decode cX2_charactersIn 39 = .ok (.lcmp, 1) := by decide +kernel
theorem dX2_charactersIn_40 : decode cX2_charactersIn 40 = .ok (.ifCond .le 5, 3) := by decide +kernel
theorem dX2_charactersIn_43 : decode cX2_charactersIn 43 = .ok (.iconst 0, 1) := by decide +kernel
theorem dX2_charactersIn_44 : decode cX2_charactersIn 44 = .ok (.ireturn, 1) := by decide +kernel
theorem dX2_charactersIn_45 : decode cX2_charactersIn 45 = .ok (.lload_n 2, 1) := by decide +kernel
theorem dX2_charactersIn_46 : decode cX2_charactersIn 46 = .ok (.bipush 8, 2) := by decide +kernel
theorem dX2_charactersIn_48 : decode cX2_charactersIn 48 = .ok (.lushr, 1) := by decide +kernel
theorem dX2_charactersIn_49 : decode cX2_charactersIn 49 = .ok (.lstore_n 2, 1) := by decide +kernel
theorem dX2_charactersIn_50 : decode cX2_charactersIn 50 = .ok (.iinc 4 1, 3) := by decide +kernel
theorem dX2_charactersIn_53 : decode cX2_charactersIn 53 = .ok (.goto (-48), 3) := by decide +kernel
theorem dX2_charactersIn_56 : decode cX2_charactersIn 56 = .ok (.iload 4, 2) := by decide +kernel
theorem dX2_charactersIn_58 : decode cX2_charactersIn 58 = .ok (.ireturn, 1) := by decide +kernel
theorem dX2_append_0 : decode cX2_append 0 = .ok (.iload_n 3, 1) := by decide +kernel
theorem dX2_append_1 : decode cX2_append 1 = .ok (.iconst 1, 1) := by decide +kernel
theorem dX2_append_2 : decode cX2_append 2 = .ok (.isub, 1) := by decide +kernel
theorem dX2_append_3 : decode cX2_append 3 = .ok (.istore 4, 2) := by decide +kernel
theorem dX2_append_5 : decode cX2_append 5 = .ok (.iload 4, 2) := by decide +kernel
theorem dX2_append_7 : decode cX2_append 7 = .ok (.ifCond .lt 50, 3) := by decide +kernel
theorem dX2_append_10 : decode cX2_append 10 = .ok (.aload_n 0, 1) := by decide +kernel
theorem dX2_append_11 : decode cX2_append 11 = .ok (.getfield 25, 3) := by decide +kernel
theorem dX2_append_14 : decode cX2_append 14 = .ok (.bipush 60, 2) := by decide +kernel
theorem dX2_append_16 : decode cX2_append 16 = .ok (.if_icmp .ge 35, 3) := by decide +kernel
theorem dX2_append_19 : decode cX2_append 19 = .ok (.aload_n 0, 1) := by decide +kernel
theorem dX2_append_20 : decode cX2_append 20 = .ok (.getfield 9, 3) := by decide +kernel
theorem dX2_append_23 : decode cX2_append 23 = .ok (.aload_n 0, 1) := by decide +kernel
theorem dX2_append_24 : decode cX2_append 24 = .ok (.getfield 25, 3) := by decide +kernel
theorem dX2_append_27 : decode cX2_append 27 = .ok (.lload_n 1, 1) := by decide +kernel
theorem dX2_append_28 : decode cX2_append 28 = .ok (.bipush 8, 2) := by decide +kernel
theorem dX2_append_30 : decode cX2_append 30 = .ok (.iload 4, 2) := by decide +kernel
theorem dX2_append_32 : decode cX2_append 32 = .ok (.imul, 1) := by decide +kernel
theorem dX2_append_33 : decode cX2_append 33 = .ok (.lushr, 1) := by decide +kernel
theorem dX2_append_34 : decode cX2_append 34 = .ok (.ldc2_w 19, 3) := by decide +kernel
theorem dX2_append_37 : decode cX2_append 37 = .ok (.land, 1) := by decide +kernel
theorem dX2_append_38 : decode cX2_append 38 = .ok (.l2i, 1) := by decide +kernel
theorem dX2_append_39 : decode cX2_append 39 = .ok (.i2c, 1) := by decide +kernel
theorem dX2_append_40 : decode cX2_append 40 = .ok (.castore, 1) := by decide +kernel
theorem dX2_append_41 : decode cX2_append 41 = .ok (.aload_n 0, 1) := by decide +kernel
theorem dX2_append_42 : decode cX2_append 42 = .ok (.dup, 1) := by decide +kernel
theorem dX2_append_43 : decode cX2_append 43 = .ok (.getfield 25, 3) := by decide +kernel
theorem dX2_append_46 : decode cX2_append 46 = .ok (.iconst 1, 1) := by decide +kernel
theorem dX2_append_47 : decode cX2_append 47 = .ok (.iadd, 1) := by decide +kernel
theorem dX2_append_48 : decode cX2_append 48 = .ok (.putfield 25, 3) := by decide +kernel
theorem dX2_append_51 : decode cX2_append 51 = .ok (.iinc 4 (-1), 3) := by decide +kernel
theorem dX2_append_54 : decode cX2_append 54 = .ok (.goto (-49), 3) := by decide +kernel
theorem dX2_append_57 : decode cX2_append 57 = .ok (.return_, 1) := by decide +kernel
theorem dX2_scan_0 : decode cX2_scan 0 = .ok (.iconst 0, 1) := by decide +kernel
theorem dX2_scan_1 : decode cX2_scan 1 = .ok (.istore_n 1, 1) := by decide +kernel
theorem dX2_scan_2 : decode cX2_scan 2 = .ok (.iconst 0, 1) := by decide +kernel
theorem dX2_scan_3 : decode cX2_scan 3 = .ok (.istore_n 2, 1) := by decide +kernel
theorem dX2_scan_4 : decode cX2_scan 4 = .ok (.iconst 0, 1) := by decide +kernel
theorem dX2_scan_5 : decode cX2_scan 5 = .ok (.istore_n 3, 1) := by decide +kernel
theorem dX2_scan_6 : decode cX2_scan 6 = .ok (.iload_n 3, 1) := by decide +kernel
theorem dX2_scan_7 : decode cX2_scan 7 = .ok (.aload_n 0, 1) := by decide +kernel
theorem dX2_scan_8 : decode cX2_scan 8 = .ok (.getfield 25, 3) := by decide +kernel
theorem dX2_scan_11 : decode cX2_scan 11 = .ok (.if_icmp .ge 96, 3) := by decide +kernel
theorem dX2_scan_14 : decode cX2_scan 14 = .ok (.aload_n 0, 1) := by decide +kernel
theorem dX2_scan_15 : decode cX2_scan 15 = .ok (.getfield 9, 3) := by decide +kernel
theorem dX2_scan_18 : decode cX2_scan 18 = .ok (.iload_n 3, 1) := by decide +kernel
theorem dX2_scan_19 : decode cX2_scan 19 = .ok (.caload, 1) := by decide +kernel
theorem dX2_scan_20 : decode cX2_scan 20 = .ok (.istore 4, 2) := by decide +kernel
theorem dX2_scan_22 : decode cX2_scan 22 = .ok (.aload_n 0, 1) := by decide +kernel
theorem dX2_scan_23 : decode cX2_scan 23 = .ok (.iload 4, 2) := by decide +kernel
theorem dX2_scan_25 : decode cX2_scan 25 = .ok (.iload_n 1, 1) := by decide +kernel
theorem dX2_scan_26 : decode cX2_scan 26 = .ok (.iload_n 2, 1) := by decide +kernel
theorem dX2_scan_27 : decode cX2_scan 27 = .ok (.invokevirtual 29, 3) := by decide +kernel
theorem dX2_scan_30 : decode cX2_scan 30 = .ok (.ifCond .eq 42, 3) := by decide +kernel
theorem dX2_scan_33 : decode cX2_scan 33 = .ok (.iload_n 2, 1) := by decide +kernel
theorem dX2_scan_34 : decode cX2_scan 34 = .ok (.ifCond .ne 7, 3) := by decide +kernel
theorem dX2_scan_37 : decode cX2_scan 37 = .ok (.iconst 0, 1) := by decide +kernel
theorem dX2_scan_38 : decode cX2_scan 38 = .ok (.goto 12, 3) := by decide +kernel
theorem dX2_scan_41 : decode cX2_scan 41 = .ok (.aload_n 0, 1) := by decide +kernel
theorem dX2_scan_42 : decode cX2_scan 42 = .ok (.getfield 15, 3) := by decide +kernel
theorem dX2_scan_45 : decode cX2_scan 45 = .ok (.iload_n 1, 1) := by decide +kernel
theorem dX2_scan_46 : decode cX2_scan 46 = .ok (.iaload, 1) := by decide +kernel
theorem dX2_scan_47 : decode cX2_scan 47 = .ok (.bipush 10, 2) := by decide +kernel
theorem dX2_scan_49 : decode cX2_scan 49 = .ok (.imul, 1) := by decide +kernel
theorem dX2_scan_50 : decode cX2_scan 50 = .ok (.istore 5, 2) := by decide +kernel
theorem dX2_scan_52 : decode cX2_scan 52 = .ok (.aload_n 0, 1) := by decide +kernel
theorem dX2_scan_53 : decode cX2_scan 53 = .ok (.getfield 15, 3) := by decide +kernel
theorem dX2_scan_56 : decode cX2_scan 56 = .ok (.iload_n 1, 1) := by decide +kernel
theorem dX2_scan_57 : decode cX2_scan 57 = .ok (.iload 5, 2) := by decide +kernel
theorem dX2_scan_59 : decode cX2_scan 59 = .ok (.iload 4, 2) := by decide +kernel
theorem dX2_scan_61 : decode cX2_scan 61 = .ok (.iadd, 1) := by decide +kernel
theorem dX2_scan_62 : decode cX2_scan 62 = .ok (.bipush 48, 2) := by decide +kernel
theorem dX2_scan_64 : decode cX2_scan 64 = .ok (.isub, 1) := by decide +kernel
theorem dX2_scan_65 : decode cX2_scan 65 = .ok (.iastore, 1) := by decide +kernel
theorem dX2_scan_66 : decode cX2_scan 66 = .ok (.iinc 2 1, 3) := by decide +kernel
theorem dX2_scan_69 : decode cX2_scan 69 = .ok (.goto 32, 3) := by decide +kernel
theorem dX2_scan_72 : decode cX2_scan 72 = .ok (.iload_n 2, 1) := by decide +kernel
theorem dX2_scan_73 : decode cX2_scan 73 = .ok (.ifCond .le 26, 3) := by decide +kernel
theorem dX2_scan_76 : decode cX2_scan 76 = .ok (.iload_n 1, 1) := by decide +kernel
theorem dX2_scan_77 : decode cX2_scan 77 = .ok (.bipush 14, 2) := by decide +kernel
theorem dX2_scan_79 : decode cX2_scan 79 = .ok (.if_icmp .ge 20, 3) := by decide +kernel
theorem dX2_scan_82 : decode cX2_scan 82 = .ok (.iload 4, 2) := by decide +kernel
theorem dX2_scan_84 : decode cX2_scan 84 = .ok (.iload_n 1, 1) := by decide +kernel
theorem dX2_scan_85 : decode cX2_scan 85 = .ok (.invokestatic 33, 3) := by decide +kernel
theorem dX2_scan_88 : decode cX2_scan 88 = .ok (.if_icmp .ne 11, 3) := by decide +kernel
theorem dX2_scan_91 : decode cX2_scan 91 = .ok (.iinc 1 1, 3) := by decide +kernel
theorem dX2_scan_94 : decode cX2_scan 94 = .ok (.iconst 0, 1) := by decide +kernel
theorem dX2_scan_95 : decode cX2_scan 95 = .ok (.istore_n 2, 1) := by decide +kernel
theorem dX2_scan_96 : decode cX2_scan 96 = .ok (.goto 5, 3) := by decide +kernel
theorem dX2_scan_99 : decode cX2_scan 99 = .ok (.iload_n 3, 1) := by decide +kernel
theorem dX2_scan_100 : decode cX2_scan 100 = .ok (.ireturn, 1) := by decide +kernel
theorem dX2_scan_101 : decode cX2_scan 101 = .ok (.iinc 3 1, 3) := by decide +kernel
theorem dX2_scan_104 : decode cX2_scan 104 = .ok (.goto (-98), 3) := by decide +kernel
theorem dX2_scan_107 : decode cX2_scan 107 = .ok (.iload_n 1, 1) := by decide +kernel
theorem dX2_scan_108 : decode cX2_scan 108 = .ok (.bipush 14, 2) := by decide +kernel
theorem dX2_scan_110 : decode cX2_scan 110 = .ok (.if_icmp .ne 12, 3) := by decide +kernel
theorem dX2_scan_113 : decode cX2_scan 113 = .ok (.iload_n 2, 1) := by decide +kernel
theorem dX2_scan_114 : decode cX2_scan 114 = .ok (.ifCond .le 8, 3) := by decide +kernel
theorem dX2_scan_117 : decode cX2_scan 117 = .ok (.bipush (-6), 2) := by decide +kernel
theorem dX2_scan_119 : decode cX2_scan 119 = .ok (.goto 7, 3) := by decide +kernel
theorem dX2_scan_122 : decode cX2_scan 122 = .ok (.aload_n 0, 1) := by decide +kernel
theorem dX2_scan_123 : decode cX2_scan 123 = .ok (.getfield 25, 3) := by decide +kernel
theorem dX2_scan_126 : decode cX2_scan 126 = .ok (.ireturn, 1) := by decide +kernel
theorem dX2_digitFits_0 : decode cX2_digitFits 0 = .ok (.iload_n 2, 1) := by decide +kernel
theorem dX2_digitFits_1 : decode cX2_digitFits 1 = .ok (.bipush 14, 2) := by decide +kernel
theorem dX2_digitFits_3 : decode cX2_digitFits 3 = .ok (.if_icmp .ne 25, 3) := by decide +kernel
theorem dX2_digitFits_6 : decode cX2_digitFits 6 = .ok (.iload_n 3, 1) := by decide +kernel
theorem dX2_digitFits_7 : decode cX2_digitFits 7 = .ok (.ifCond .ne 19, 3) := by decide +kernel
theorem dX2_digitFits_10 : decode cX2_digitFits 10 = .ok (.iload_n 1, 1) := by decide +kernel
theorem dX2_digitFits_11 : decode cX2_digitFits 11 = .ok (.bipush 48, 2) := by decide +kernel
theorem dX2_digitFits_13 : decode cX2_digitFits 13 = .ok (.if_icmp .eq 9, 3) := by decide +kernel
theorem dX2_digitFits_16 : decode cX2_digitFits 16 = .ok (.iload_n 1, 1) := by decide +kernel
theorem dX2_digitFits_17 : decode cX2_digitFits 17 = .ok (.bipush 49, 2) := by decide +kernel
theorem dX2_digitFits_19 : decode cX2_digitFits 19 = .ok (.if_icmp .ne 7, 3) := by decide +kernel
theorem dX2_digitFits_22 : decode cX2_digitFits 22 = .ok (.iconst 1, 1) := by decide +kernel
theorem dX2_digitFits_23 : decode cX2_digitFits 23 = .ok (.goto 4, 3) := by decide +kernel
theorem dX2_digitFits_26 : decode cX2_digitFits 26 = .ok (.iconst 0, 1) := by decide +kernel
theorem dX2_digitFits_27 : decode cX2_digitFits 27 = .ok (.ireturn, 1) := by decide +kernel
theorem dX2_digitFits_28 : decode cX2_digitFits 28 = .ok (.iload_n 1, 1) := by decide +kernel
theorem dX2_digitFits_29 : decode cX2_digitFits 29 = .ok (.bipush 48, 2) := by decide +kernel
theorem dX2_digitFits_31 : decode cX2_digitFits 31 = .ok (.if_icmp .lt 13, 3) := by decide +kernel
theorem dX2_digitFits_34 : decode cX2_digitFits 34 = .ok (.iload_n 1, 1) := by decide +kernel
theorem dX2_digitFits_35 : decode cX2_digitFits 35 = .ok (.bipush 57, 2) := by decide +kernel
theorem dX2_digitFits_37 : decode cX2_digitFits 37 = .ok (.if_icmp .gt 7, 3) := by decide +kernel
theorem dX2_digitFits_40 : decode cX2_digitFits 40 = .ok (.iconst 1, 1) := by decide +kernel
theorem dX2_digitFits_41 : decode cX2_digitFits 41 = .ok (.goto 4, 3) := by decide +kernel
theorem dX2_digitFits_44 : decode cX2_digitFits 44 = .ok (.iconst 0, 1) := by decide +kernel
theorem dX2_digitFits_45 : decode cX2_digitFits 45 = .ok (.istore 4, 2) := by decide +kernel
theorem dX2_digitFits_47 : decode cX2_digitFits 47 = .ok (.iload 4, 2) := by decide +kernel
theorem dX2_digitFits_49 : decode cX2_digitFits 49 = .ok (.ifCond .eq 25, 3) := by decide +kernel
theorem dX2_digitFits_52 : decode cX2_digitFits 52 = .ok (.iload_n 3, 1) := by decide +kernel
theorem dX2_digitFits_53 : decode cX2_digitFits 53 = .ok (.ifCond .eq 17, 3) := by decide +kernel
theorem dX2_digitFits_56 : decode cX2_digitFits 56 = .ok (.iload_n 3, 1) := by decide +kernel
theorem dX2_digitFits_57 : decode cX2_digitFits 57 = .ok (.iconst 1, 1) := by decide +kernel
theorem dX2_digitFits_58 : decode cX2_digitFits 58 = .ok (.if_icmp .ne 16, 3) := by decide +kernel
theorem dX2_digitFits_61 : decode cX2_digitFits 61 = .ok (.aload_n 0, 1) := by decide +kernel
theorem dX2_digitFits_62 : decode cX2_digitFits 62 = .ok (.getfield 15, 3) := by decide +kernel
theorem dX2_digitFits_65 : decode cX2_digitFits 65 = .ok (.iload_n 2, 1) := by decide +kernel
theorem dX2_digitFits_66 : decode cX2_digitFits 66 = .ok (.iaload, 1) := by decide +kernel
theorem dX2_digitFits_67 : decode cX2_digitFits 67 = .ok (.ifCond .eq 7, 3) := by decide +kernel
theorem dX2_digitFits_70 : decode cX2_digitFits 70 = .ok (.iconst 1, 1) := by decide +kernel
theorem dX2_digitFits_71 : decode cX2_digitFits 71 = .ok (.goto 4, 3) := by decide +kernel
theorem dX2_digitFits_74 : decode cX2_digitFits 74 = .ok (.iconst 0, 1) := by decide +kernel
theorem dX2_digitFits_75 : decode cX2_digitFits 75 = .ok (.ireturn, 1) := by decide +kernel
theorem dX2_signBehind_0 : decode cX2_signBehind 0 = .ok (.iload_n 0, 1) := by decide +kernel
theorem dX2_signBehind_1 : decode cX2_signBehind 1 = .ok (.bipush 11, 2) := by decide +kernel
theorem dX2_signBehind_3 : decode cX2_signBehind 3 = .ok (.if_icmp .eq 9, 3) := by decide +kernel
theorem dX2_signBehind_6 : decode cX2_signBehind 6 = .ok (.iload_n 0, 1) := by decide +kernel
theorem dX2_signBehind_7 : decode cX2_signBehind 7 = .ok (.bipush 13, 2) := by decide +kernel
theorem dX2_signBehind_9 : decode cX2_signBehind 9 = .ok (.if_icmp .ne 8, 3) := by decide +kernel
theorem dX2_signBehind_12 : decode cX2_signBehind 12 = .ok (.bipush 47, 2) := by decide +kernel
theorem dX2_signBehind_14 : decode cX2_signBehind 14 = .ok (.goto 5, 3) := by decide +kernel
theorem dX2_signBehind_17 : decode cX2_signBehind 17 = .ok (.bipush 44, 2) := by decide +kernel
theorem dX2_signBehind_19 : decode cX2_signBehind 19 = .ok (.ireturn, 1) := by decide +kernel
theorem dX3_init_0 : decode cX3_init 0 = .ok (.aload_n 0, 1) := by decide +kernel
theorem dX3_init_1 : decode cX3_init 1 = .ok (.invokespecial 3, 3) := by decide +kernel
theorem dX3_init_4 : decode cX3_init 4 = .ok (.aload_n 0, 1) := by decide +kernel
theorem dX3_init_5 : decode cX3_init 5 = .ok (.bipush 12, 2) := by decide +kernel
theorem dX3_init_7 : decode cX3_init 7 = .ok (.newarray .int, 2) := by decide +kernel
theorem dX3_init_9 : decode cX3_init 9 = .ok (.putfield 9, 3) := by decide +kernel
theorem dX3_init_12 : decode cX3_init 12 = .ok (.aload_n 0, 1) := by decide +kernel
theorem dX3_init_13 : decode cX3_init 13 = .ok (.bipush 12, 2) := by decide +kernel
theorem dX3_init_15 : decode cX3_init 15 = .ok (.newarray .int, 2) := by decide +kernel
theorem dX3_init_17 : decode cX3_init 17 = .ok (.putfield 15, 3) := by decide +kernel
theorem dX3_init_20 : decode cX3_init 20 = .ok (.aload_n 0, 1) := by decide +kernel
theorem dX3_init_21 : decode cX3_init 21 = .ok (.iconst 2, 1) := by decide +kernel
theorem dX3_init_22 : decode cX3_init 22 = .ok (.newarray .int, 2) := by decide +kernel
theorem dX3_init_24 : decode cX3_init 24 = .ok (.putfield 18, 3) := by decide +kernel
theorem dX3_init_27 : decode cX3_init 27 = .ok (.return_, 1) := by decide +kernel
theorem dX3_copyFrom_0 : decode cX3_copyFrom 0 = .ok (.aload_n 1, 1) := by decide +kernel
theorem dX3_copyFrom_1 : decode cX3_copyFrom 1 = .ok (.getfield 9, 3) := by decide +kernel
theorem dX3_copyFrom_4 : decode cX3_copyFrom 4 = .ok (.iconst 0, 1) := by decide +kernel
theorem dX3_copyFrom_5 : decode cX3_copyFrom 5 = .ok (.aload_n 0, 1) := by decide +kernel
theorem dX3_copyFrom_6 : decode cX3_copyFrom 6 = .ok (.getfield 9, 3) := by decide +kernel
theorem dX3_copyFrom_9 : decode cX3_copyFrom 9 = .ok (.iconst 0, 1) := by decide +kernel
theorem dX3_copyFrom_10 : decode cX3_copyFrom 10 = .ok (.bipush 12, 2) := by decide +kernel
theorem dX3_copyFrom_12 : decode cX3_copyFrom 12 = .ok (.invokestatic 21, 3) := by decide +kernel
theorem dX3_copyFrom_15 : decode cX3_copyFrom 15 = .ok (.aload_n 1, 1) := by decide +kernel
theorem dX3_copyFrom_16 : decode cX3_copyFrom 16 = .ok (.getfield 15, 3) := by decide +kernel
theorem dX3_copyFrom_19 : decode cX3_copyFrom 19 = .ok (.iconst 0, 1) := by decide +kernel
theorem dX3_copyFrom_20 : decode cX3_copyFrom 20 = .ok (.aload_n 0, 1) := by decide +kernel
theorem dX3_copyFrom_21 : decode cX3_copyFrom 21 = .ok (.getfield 15, 3) := by decide +kernel
theorem dX3_copyFrom_24 : decode cX3_copyFrom 24 = .ok (.iconst 0, 1) := by decide +kernel
theorem dX3_copyFrom_25 : decode cX3_copyFrom 25 = .ok (.bipush 12, 2) := by decide +kernel
theorem dX3_copyFrom_27 : decode cX3_copyFrom 27 = .ok (.invokestatic 21, 3) := by decide +kernel
theorem dX3_copyFrom_30 : decode cX3_copyFrom 30 = .ok (.aload_n 0, 1) := by decide +kernel
theorem dX3_copyFrom_31 : decode cX3_copyFrom 31 = .ok (.getfield 18, 3) := by decide +kernel
theorem dX3_copyFrom_34 : decode cX3_copyFrom 34 = .ok (.iconst 0, 1) := by decide +kernel
theorem dX3_copyFrom_35 : decode cX3_copyFrom 35 = .ok (.aload_n 1, 1) := by decide +kernel
theorem dX3_copyFrom_36 : decode cX3_copyFrom 36 = .ok (.getfield 18, 3) := by decide +kernel
theorem dX3_copyFrom_39 : decode cX3_copyFrom 39 = .ok (.iconst 0, 1) := by decide +kernel
theorem dX3_copyFrom_40 : decode cX3_copyFrom 40 = .ok (.iaload, 1) := by decide +kernel
theorem dX3_copyFrom_41 : decode cX3_copyFrom 41 = .ok (.iastore, 1) := by decide +kernel
theorem dX3_copyFrom_42 : decode cX3_copyFrom 42 = .ok (.aload_n 0, 1) := by decide +kernel
theorem dX3_copyFrom_43 : decode cX3_copyFrom 43 = .ok (.getfield 18, 3) := by decide +kernel
theorem dX3_copyFrom_46 : decode cX3_copyFrom 46 = .ok (.iconst 1, 1) := by decide +kernel
theorem dX3_copyFrom_47 : decode cX3_copyFrom 47 = .ok (.aload_n 1, 1) := by decide +kernel
theorem dX3_copyFrom_48 : decode cX3_copyFrom 48 = .ok (.getfield 18, 3) := by decide +kernel
theorem dX3_copyFrom_51 : decode cX3_copyFrom 51 = .ok (.iconst 1, 1) := by decide +kernel
theorem dX3_copyFrom_52 : decode cX3_copyFrom 52 = .ok (.iaload, 1) := by decide +kernel
theorem dX3_copyFrom_53 : decode cX3_copyFrom 53 = .ok (.iastore, 1) := by decide +kernel
theorem dX3_copyFrom_54 : decode cX3_copyFrom 54 = .ok (.aload_n 0, 1) := by decide +kernel
theorem dX3_copyFrom_55 : decode cX3_copyFrom 55 = .ok (.aload_n 1, 1) := by decide +kernel
theorem dX3_copyFrom_56 : decode cX3_copyFrom 56 = .ok (.getfield 27, 3) := by decide +kernel
theorem dX3_copyFrom_59 : decode cX3_copyFrom 59 = .ok (.putfield 27, 3) := by decide +kernel
theorem dX3_copyFrom_62 : decode cX3_copyFrom 62 = .ok (.aload_n 0, 1) := by decide +kernel
theorem dX3_copyFrom_63 : decode cX3_copyFrom 63 = .ok (.aload_n 1, 1) := by decide +kernel
theorem dX3_copyFrom_64 : decode cX3_copyFrom 64 = .ok (.getfield 31, 3) := by decide +kernel
theorem dX3_copyFrom_67 : decode cX3_copyFrom 67 = .ok (.putfield 31, 3) := by decide +kernel
theorem dX3_copyFrom_70 : decode cX3_copyFrom 70 = .ok (.aload_n 0, 1) := by decide +kernel
theorem dX3_copyFrom_71 : decode cX3_copyFrom 71 = .ok (.aload_n 1, 1) := by decide +kernel
theorem dX3_copyFrom_72 : decode cX3_copyFrom 72 = .ok (.getfield 35, 3) := by decide +kernel
theorem dX3_copyFrom_75 : decode cX3_copyFrom 75 = .ok (.putfield 35, 3) := by decide +kernel
theorem dX3_copyFrom_78 : decode cX3_copyFrom 78 = .ok (.return_, 1) := by decide +kernel
theorem dX3_fill_0 : decode cX3_fill 0 = .ok (.aload_n 0, 1) := by decide +kernel
theorem dX3_fill_1 : decode cX3_fill 1 = .ok (.invokevirtual 38, 3) := by decide +kernel
theorem dX3_fill_4 : decode cX3_fill 4 = .ok (.iconst 0, 1) := by decide +kernel
theorem dX3_fill_5 : decode cX3_fill 5 = .ok (.istore_n 2, 1) := by decide +kernel
theorem dX3_fill_6 : decode cX3_fill 6 = .ok (.iload_n 2, 1) := by decide +kernel
theorem dX3_fill_7 : decode cX3_fill 7 = .ok (.bipush 12, 2) := by decide +kernel
theorem dX3_fill_9 : decode cX3_fill 9 = .ok (.if_icmp .ge 16, 3) := by decide +kernel
theorem dX3_fill_12 : decode cX3_fill 12 = .ok (.aload_n 0, 1) := by decide +kernel
theorem dX3_fill_13 : decode cX3_fill 13 = .ok (.getfield 9, 3) := by decide +kernel
theorem dX3_fill_16 : decode cX3_fill 16 = .ok (.iload_n 2, 1) := by decide +kernel
theorem dX3_fill_17 : decode cX3_fill 17 = .ok (.iload_n 1, 1) := by decide +kernel
theorem dX3_fill_18 : decode cX3_fill 18 = .ok (.iastore, 1) := by decide +kernel
theorem dX3_fill_19 : decode cX3_fill 19 = .ok (.iinc 2 1, 3) := by decide +kernel
theorem dX3_fill_22 : decode cX3_fill 22 = .ok (.goto (-16), 3) := by decide +kernel
theorem dX3_fill_25 : decode cX3_fill 25 = .ok (.aload_n 0, 1) := by decide +kernel
theorem dX3_fill_26 : decode cX3_fill 26 = .ok (.getfield 18, 3) := by decide +kernel
theorem dX3_fill_29 : decode cX3_fill 29 = .ok (.iconst 0, 1) := by decide +kernel
theorem dX3_fill_30 : decode cX3_fill 30 = .ok (.iconst 0, 1) := by decide +kernel
theorem dX3_fill_31 : decode cX3_fill 31 = .ok (.iastore, 1) := by decide +kernel
theorem dX3_fill_32 : decode cX3_fill 32 = .ok (.aload_n 0, 1) := by decide +kernel
theorem dX3_fill_33 : decode cX3_fill 33 = .ok (.getfield 18, 3) := by decide +kernel
theorem dX3_fill_36 : decode cX3_fill 36 = .ok (.iconst 1, 1) := by decide +kernel
theorem dX3_fill_37 : decode cX3_fill 37 = .ok (.iconst 0, 1) := by decide +kernel
theorem dX3_fill_38 : decode cX3_fill 38 = .ok (.iastore, 1) := by decide +kernel
theorem dX3_fill_39 : decode cX3_fill 39 = .ok (.aload_n 0, 1) := by decide +kernel
theorem dX3_fill_40 : decode cX3_fill 40 = .ok (.iconst 0, 1) := by decide +kernel
theorem dX3_fill_41 : decode cX3_fill 41 = .ok (.putfield 27, 3) := by decide +kernel
theorem dX3_fill_44 : decode cX3_fill 44 = .ok (.return_, 1) := by decide +kernel
theorem dX3_fillFrom_0 : decode cX3_fillFrom 0 = .ok (.aload_n 0, 1) := by decide +kernel
theorem dX3_fillFrom_1 : decode cX3_fillFrom 1 = .ok (.invokevirtual 38, 3) := by decide +kernel
theorem dX3_fillFrom_4 : decode cX3_fillFrom 4 = .ok (.iconst 0, 1) := by decide +kernel
theorem dX3_fillFrom_5 : decode cX3_fillFrom 5 = .ok (.istore_n 2, 1) := by decide +kernel
theorem dX3_fillFrom_6 : decode cX3_fillFrom 6 = .ok (.iload_n 2, 1) := by decide +kernel
theorem dX3_fillFrom_7 : decode cX3_fillFrom 7 = .ok (.bipush 12, 2) := by decide +kernel
theorem dX3_fillFrom_9 : decode cX3_fillFrom 9 = .ok (.if_icmp .ge 18, 3) := by decide +kernel
theorem dX3_fillFrom_12 : decode cX3_fillFrom 12 = .ok (.aload_n 0, 1) := by decide +kernel
theorem dX3_fillFrom_13 : decode cX3_fillFrom 13 = .ok (.getfield 9, 3) := by decide +kernel
theorem dX3_fillFrom_16 : decode cX3_fillFrom 16 = .ok (.iload_n 2, 1) := by decide +kernel
theorem dX3_fillFrom_17 : decode cX3_fillFrom 17 = .ok (.aload_n 1, 1) := by decide +kernel
theorem dX3_fillFrom_18 : decode cX3_fillFrom 18 = .ok (.iload_n 2, 1) := by decide +kernel
theorem dX3_fillFrom_19 : decode cX3_fillFrom 19 = .ok (.iaload, 1) := by decide +kernel
theorem dX3_fillFrom_20 : decode cX3_fillFrom 20 = .ok (.iastore, 1) := by decide +kernel
theorem dX3_fillFrom_21 : decode cX3_fillFrom 21 = .ok (.iinc 2 1, 3) := by decide +kernel
theorem dX3_fillFrom_24 : decode cX3_fillFrom 24 = .ok (.goto (-18), 3) := by decide +kernel
theorem dX3_fillFrom_27 : decode cX3_fillFrom 27 = .ok (.aload_n 0, 1) := by decide +kernel
theorem dX3_fillFrom_28 : decode cX3_fillFrom 28 = .ok (.getfield 18, 3) := by decide +kernel
theorem dX3_fillFrom_31 : decode cX3_fillFrom 31 = .ok (.iconst 0, 1) := by decide +kernel
theorem dX3_fillFrom_32 : decode cX3_fillFrom 32 = .ok (.aload_n 1, 1) := by decide +kernel
theorem dX3_fillFrom_33 : decode cX3_fillFrom 33 = .ok (.bipush 12, 2) := by decide +kernel
theorem dX3_fillFrom_35 : decode cX3_fillFrom 35 = .ok (.iaload, 1) := by decide +kernel
theorem dX3_fillFrom_36 : decode cX3_fillFrom 36 = .ok (.iastore, 1) := by decide +kernel
theorem dX3_fillFrom_37 : decode cX3_fillFrom 37 = .ok (.aload_n 0, 1) := by decide +kernel
theorem dX3_fillFrom_38 : decode cX3_fillFrom 38 = .ok (.getfield 18, 3) := by decide +kernel
theorem dX3_fillFrom_41 : decode cX3_fillFrom 41 = .ok (.iconst 1, 1) := by decide +kernel
theorem dX3_fillFrom_42 : decode cX3_fillFrom 42 = .ok (.aload_n 1, 1) := by decide +kernel
theorem dX3_fillFrom_43 : decode cX3_fillFrom 43 = .ok (.bipush 13, 2) := by decide +kernel
theorem dX3_fillFrom_45 : decode cX3_fillFrom 45 = .ok (.iaload, 1) := by decide +kernel
theorem dX3_fillFrom_46 : decode cX3_fillFrom 46 = .ok (.iastore, 1) := by decide +kernel
theorem dX3_fillFrom_47 : decode cX3_fillFrom 47 = .ok (.aload_n 0, 1) := by decide +kernel
theorem dX3_fillFrom_48 : decode cX3_fillFrom 48 = .ok (.aload_n 1, 1) := by decide +kernel
theorem dX3_fillFrom_49 : decode cX3_fillFrom 49 = .ok (.bipush 14, 2) := by decide +kernel
theorem dX3_fillFrom_51 : decode cX3_fillFrom 51 = .ok (.iaload, 1) := by decide +kernel
theorem dX3_fillFrom_52 : decode cX3_fillFrom 52 = .ok (.ifCond .ne 7, 3) := by decide +kernel
theorem dX3_fillFrom_55 : decode cX3_fillFrom 55 = .ok (.iconst 0, 1) := by decide +kernel
theorem dX3_fillFrom_56 : decode cX3_fillFrom 56 = .ok (.goto 4, 3) := by decide +kernel
theorem dX3_fillFrom_59 : decode cX3_fillFrom 59 = .ok (.iconst 1, 1) := by decide +kernel
theorem dX3_fillFrom_60 : decode cX3_fillFrom 60 = .ok (.invokevirtual 41, 3) := by decide +kernel
theorem dX3_fillFrom_63 : decode cX3_fillFrom 63 = .ok (.return_, 1) := by decide +kernel
theorem dX3_startGame_0 : decode cX3_startGame 0 = .ok (.iconst 0, 1) := by decide +kernel
theorem dX3_startGame_1 : decode cX3_startGame 1 = .ok (.istore_n 1, 1) := by decide +kernel
theorem dX3_startGame_2 : decode cX3_startGame 2 = .ok (.iload_n 1, 1) := by decide +kernel
theorem dX3_startGame_3 : decode cX3_startGame 3 = .ok (.bipush 12, 2) := by decide +kernel
theorem dX3_startGame_5 : decode cX3_startGame 5 = .ok (.if_icmp .ge 16, 3) := by decide +kernel
theorem dX3_startGame_8 : decode cX3_startGame 8 = .ok (.aload_n 0, 1) := by decide +kernel
theorem dX3_startGame_9 : decode cX3_startGame 9 = .ok (.getfield 15, 3) := by decide +kernel
theorem dX3_startGame_12 : decode cX3_startGame 12 = .ok (.iload_n 1, 1) := by decide +kernel
theorem dX3_startGame_13 : decode cX3_startGame 13 = .ok (.iconst 0, 1) := by decide +kernel
theorem dX3_startGame_14 : decode cX3_startGame 14 = .ok (.iastore, 1) := by decide +kernel
theorem dX3_startGame_15 : decode cX3_startGame 15 = .ok (.iinc 1 1, 3) := by decide +kernel
theorem dX3_startGame_18 : decode cX3_startGame 18 = .ok (.goto (-16), 3) := by decide +kernel
theorem dX3_startGame_21 : decode cX3_startGame 21 = .ok (.aload_n 0, 1) := by decide +kernel
theorem dX3_startGame_22 : decode cX3_startGame 22 = .ok (.iconst 0, 1) := by decide +kernel
theorem dX3_startGame_23 : decode cX3_startGame 23 = .ok (.putfield 31, 3) := by decide +kernel
theorem dX3_startGame_26 : decode cX3_startGame 26 = .ok (.aload_n 0, 1) := by decide +kernel
theorem dX3_startGame_27 : decode cX3_startGame 27 = .ok (.iconst 0, 1) := by decide +kernel
theorem dX3_startGame_28 : decode cX3_startGame 28 = .ok (.putfield 35, 3) := by decide +kernel
theorem dX3_startGame_31 : decode cX3_startGame 31 = .ok (.return_, 1) := by decide +kernel
theorem dX3_ownerOf_0 : decode cX3_ownerOf 0 = .ok (.iload_n 0, 1) := by decide +kernel
theorem dX3_ownerOf_1 : decode cX3_ownerOf 1 = .ok (.bipush 6, 2) := by decide +kernel
theorem dX3_ownerOf_3 : decode cX3_ownerOf 3 = .ok (.if_icmp .ge 7, 3) := by decide +kernel
theorem dX3_ownerOf_6 : decode cX3_ownerOf 6 = .ok (.iconst 0, 1) := by decide +kernel
theorem dX3_ownerOf_7 : decode cX3_ownerOf 7 = .ok (.goto 4, 3) := by decide +kernel
theorem dX3_ownerOf_10 : decode cX3_ownerOf 10 = .ok (.iconst 1, 1) := by decide +kernel
theorem dX3_ownerOf_11 : decode cX3_ownerOf 11 = .ok (.ireturn, 1) := by decide +kernel
theorem dX3_houseBehind_0 : decode cX3_houseBehind 0 = .ok (.iload_n 0, 1) := by decide +kernel
theorem dX3_houseBehind_1 : decode cX3_houseBehind 1 = .ok (.bipush 11, 2) := by decide +kernel
theorem dX3_houseBehind_3 : decode cX3_houseBehind 3 = .ok (.if_icmp .ne 7, 3) := by decide +kernel
theorem dX3_houseBehind_6 : decode cX3_houseBehind 6 = .ok (.iconst 0, 1) := by decide +kernel
theorem dX3_houseBehind_7 : decode cX3_houseBehind 7 = .ok (.goto 6, 3) := by decide +kernel
theorem dX3_houseBehind_10 : decode cX3_houseBehind 10 = .ok (.iload_n 0, 1) := by decide +kernel
theorem dX3_houseBehind_11 : decode cX3_houseBehind 11 = .ok (.iconst 1, 1) := by decide +kernel
theorem dX3_houseBehind_12 : decode cX3_houseBehind 12 = .ok (.iadd, 1) := by decide +kernel
theorem dX3_houseBehind_13 : decode cX3_houseBehind 13 = .ok (.ireturn, 1) := by decide +kernel
theorem dX3_isHostile_0 : decode cX3_isHostile 0 = .ok (.aload_n 0, 1) := by decide +kernel
theorem dX3_isHostile_1 : decode cX3_isHostile 1 = .ok (.getfield 15, 3) := by decide +kernel
theorem dX3_isHostile_4 : decode cX3_isHostile 4 = .ok (.iload_n 1, 1) := by decide +kernel
theorem dX3_isHostile_5 : decode cX3_isHostile 5 = .ok (.iaload, 1) := by decide +kernel
theorem dX3_isHostile_6 : decode cX3_isHostile 6 = .ok (.aload_n 2, 1) := by decide +kernel
theorem dX3_isHostile_7 : decode cX3_isHostile 7 = .ok (.iconst 1, 1) := by decide +kernel
theorem dX3_isHostile_8 : decode cX3_isHostile 8 = .ok (.iaload, 1) := by decide +kernel
theorem dX3_isHostile_9 : decode cX3_isHostile 9 = .ok (.if_icmp .lt 7, 3) := by decide +kernel
theorem dX3_isHostile_12 : decode cX3_isHostile 12 = .ok (.iconst 1, 1) := by decide +kernel
theorem dX3_isHostile_13 : decode cX3_isHostile 13 = .ok (.goto 4, 3) := by decide +kernel
theorem dX3_isHostile_16 : decode cX3_isHostile 16 = .ok (.iconst 0, 1) := by decide +kernel
theorem dX3_isHostile_17 : decode cX3_isHostile 17 = .ok (.ireturn, 1) := by decide +kernel
theorem dX3_hostileHouses_0 : decode cX3_hostileHouses 0 = .ok (.iconst 0, 1) := by decide +kernel
theorem dX3_hostileHouses_1 : decode cX3_hostileHouses 1 = .ok (.istore_n 2, 1) := by decide +kernel
theorem dX3_hostileHouses_2 : decode cX3_hostileHouses 2 = .ok (.iconst 0, 1) := by decide +kernel
theorem dX3_hostileHouses_3 : decode cX3_hostileHouses 3 = .ok (.istore_n 3, 1) := by decide +kernel
theorem dX3_hostileHouses_4 : decode cX3_hostileHouses 4 = .ok (.iload_n 3, 1) := by decide +kernel
theorem dX3_hostileHouses_5 : decode cX3_hostileHouses 5 = .ok (.bipush 12, 2) := by decide +kernel
theorem dX3_hostileHouses_7 : decode cX3_hostileHouses 7 = .ok (.if_icmp .ge 26, 3) := by decide +kernel
theorem dX3_hostileHouses_10 : decode cX3_hostileHouses 10 = .ok (.iload_n 2, 1) := by decide +kernel
theorem dX3_hostileHouses_11 : decode cX3_hostileHouses 11 = .ok (.aload_n 0, 1) := by decide +kernel
theorem dX3_hostileHouses_12 : decode cX3_hostileHouses 12 = .ok (.iload_n 3, 1) := by decide +kernel
theorem dX3_hostileHouses_13 : decode cX3_hostileHouses 13 = .ok (.aload_n 1, 1) := by decide +kernel
theorem dX3_hostileHouses_14 : decode cX3_hostileHouses 14 = .ok (.invokevirtual 45, 3) := by decide +kernel
theorem dX3_hostileHouses_17 : decode cX3_hostileHouses 17 = .ok (.ifCond .eq 7, 3) := by decide +kernel
theorem dX3_hostileHouses_20 : decode cX3_hostileHouses 20 = .ok (.iconst 1, 1) := by decide +kernel
theorem dX3_hostileHouses_21 : decode cX3_hostileHouses 21 = .ok (.goto 4, 3) := by decide +kernel
theorem dX3_hostileHouses_24 : decode cX3_hostileHouses 24 = .ok (.iconst 0, 1) := by decide +kernel
theorem dX3_hostileHouses_25 : decode cX3_hostileHouses 25 = .ok (.iadd, 1) := by decide +kernel
theorem dX3_hostileHouses_26 : decode cX3_hostileHouses 26 = .ok (.istore_n 2, 1) := by decide +kernel
theorem dX3_hostileHouses_27 : decode cX3_hostileHouses 27 = .ok (.iinc 3 1, 3) := by decide +kernel
theorem dX3_hostileHouses_30 : decode cX3_hostileHouses 30 = .ok (.goto (-26), 3) := by decide +kernel
theorem dX3_hostileHouses_33 : decode cX3_hostileHouses 33 = .ok (.iload_n 2, 1) := by decide +kernel
theorem dX3_hostileHouses_34 : decode cX3_hostileHouses 34 = .ok (.ireturn, 1) := by decide +kernel
theorem dX3_canMoveFrom_0 : decode cX3_canMoveFrom 0 = .ok (.aload_n 0, 1) := by decide +kernel
theorem dX3_canMoveFrom_1 : decode cX3_canMoveFrom 1 = .ok (.getfield 31, 3) := by decide +kernel
theorem dX3_canMoveFrom_4 : decode cX3_canMoveFrom 4 = .ok (.ifCond .ne 27, 3) := by decide +kernel
theorem dX3_canMoveFrom_7 : decode cX3_canMoveFrom 7 = .ok (.iload_n 1, 1) := by decide +kernel
theorem dX3_canMoveFrom_8 : decode cX3_canMoveFrom 8 = .ok (.invokestatic 49, 3) := by decide +kernel
theorem dX3_canMoveFrom_11 : decode cX3_canMoveFrom 11 = .ok (.aload_n 0, 1) := by decide +kernel
theorem dX3_canMoveFrom_12 : decode cX3_canMoveFrom 12 = .ok (.getfield 27, 3) := by decide +kernel
theorem dX3_canMoveFrom_15 : decode cX3_canMoveFrom 15 = .ok (.if_icmp .ne 16, 3) := by decide +kernel
theorem dX3_canMoveFrom_18 : decode cX3_canMoveFrom 18 = .ok (.aload_n 0, 1) := by decide +kernel
theorem dX3_canMoveFrom_19 : decode cX3_canMoveFrom 19 = .ok (.getfield 9, 3) := by decide +kernel
theorem dX3_canMoveFrom_22 : decode cX3_canMoveFrom 22 = .ok (.iload_n 1, 1) := by decide +kernel
theorem dX3_canMoveFrom_23 : decode cX3_canMoveFrom 23 = .ok (.iaload, 1) := by decide +kernel
theorem dX3_canMoveFrom_24 : decode cX3_canMoveFrom 24 = .ok (.ifCond .le 7, 3) := by decide +kernel
theorem dX3_canMoveFrom_27 : decode cX3_canMoveFrom 27 = .ok (.iconst 1, 1) := by decide +kernel
theorem dX3_canMoveFrom_28 : decode cX3_canMoveFrom 28 = .ok (.goto 4, 3) := by decide +kernel
theorem dX3_canMoveFrom_31 : decode cX3_canMoveFrom 31 = .ok (.iconst 0, 1) := by decide +kernel
theorem dX3_canMoveFrom_32 : decode cX3_canMoveFrom 32 = .ok (.ireturn, 1) := by decide +kernel
theorem dX3_seedsInHousesOf_0 : decode cX3_seedsInHousesOf 0 = .ok (.iconst 0, 1) := by decide +kernel
theorem dX3_seedsInHousesOf_1 : decode cX3_seedsInHousesOf 1 = .ok (.istore_n 2, 1) := by decide +kernel
theorem dX3_seedsInHousesOf_2 : decode cX3_seedsInHousesOf 2 = .ok (.iload_n 1, 1) := by decide +kernel
theorem dX3_seedsInHousesOf_3 : decode cX3_seedsInHousesOf 3 = .ok (.bipush 6, 2) := by decide +kernel
theorem dX3_seedsInHousesOf_5 : decode cX3_seedsInHousesOf 5 = .ok (.imul, 1) := by decide +kernel
theorem dX3_seedsInHousesOf_6 : decode cX3_seedsInHousesOf 6 = .ok (.istore_n 3, 1) := by decide +kernel
theorem dX3_seedsInHousesOf_7 : decode cX3_seedsInHousesOf 7 = .ok (.iload_n 3, 1) := by decide +kernel
theorem dX3_seedsInHousesOf_8 : decode cX3_seedsInHousesOf 8 = .ok (.iload_n 1, 1) := by decide +kernel
theorem dX3_seedsInHousesOf_9 : decode cX3_seedsInHousesOf 9 = .ok (.iconst 1, 1) := by decide +kernel
theorem dX3_seedsInHousesOf_10 : decode cX3_seedsInHousesOf 10 = .ok (.iadd, 1) := by decide +kernel
theorem dX3_seedsInHousesOf_11 : decode cX3_seedsInHousesOf 11 = .ok (.bipush 6, 2) := by decide +kernel
theorem dX3_seedsInHousesOf_13 : decode cX3_seedsInHousesOf 13 = .ok (.imul, 1) := by decide +kernel
theorem dX3_seedsInHousesOf_14 : decode cX3_seedsInHousesOf 14 = .ok (.if_icmp .ge 18, 3) := by decide +kernel
theorem dX3_seedsInHousesOf_17 : decode cX3_seedsInHousesOf 17 = .ok (.iload_n 2, 1) := by decide +kernel
theorem dX3_seedsInHousesOf_18 : decode cX3_seedsInHousesOf 18 = .ok (.aload_n 0, 1) := by decide +kernel
theorem dX3_seedsInHousesOf_19 : decode cX3_seedsInHousesOf 19 = .ok (.getfield 9, 3) := by decide +kernel
theorem dX3_seedsInHousesOf_22 : decode cX3_seedsInHousesOf 22 = .ok (.iload_n 3, 1) := by decide +kernel
theorem dX3_seedsInHousesOf_23 : decode cX3_seedsInHousesOf 23 = .ok (.iaload, 1) := by decide +kernel
theorem dX3_seedsInHousesOf_24 : decode cX3_seedsInHousesOf 24 = .ok (.iadd, 1) := by decide +kernel
theorem dX3_seedsInHousesOf_25 : decode cX3_seedsInHousesOf 25 = .ok (.istore_n 2, 1) := by decide +kernel
theorem dX3_seedsInHousesOf_26 : decode cX3_seedsInHousesOf 26 = .ok (.iinc 3 1, 3) := by decide +kernel
theorem dX3_seedsInHousesOf_29 : decode cX3_seedsInHousesOf 29 = .ok (.goto (-22), 3) := by decide +kernel
theorem dX3_seedsInHousesOf_32 : decode cX3_seedsInHousesOf 32 = .ok (.iload_n 2, 1) := by decide +kernel
theorem dX3_seedsInHousesOf_33 : decode cX3_seedsInHousesOf 33 = .ok (.ireturn, 1) := by decide +kernel
theorem dX3_allSeeds_0 : decode cX3_allSeeds 0 = .ok (.aload_n 0, 1) := by decide +kernel
theorem dX3_allSeeds_1 : decode cX3_allSeeds 1 = .ok (.iconst 0, 1) := by decide +kernel
theorem dX3_allSeeds_2 : decode cX3_allSeeds 2 = .ok (.invokevirtual 53, 3) := by decide +kernel
theorem dX3_allSeeds_5 : decode cX3_allSeeds 5 = .ok (.aload_n 0, 1) := by decide +kernel
theorem dX3_allSeeds_6 : decode cX3_allSeeds 6 = .ok (.iconst 1, 1) := by decide +kernel
theorem dX3_allSeeds_7 : decode cX3_allSeeds 7 = .ok (.invokevirtual 53, 3) := by decide +kernel
theorem dX3_allSeeds_10 : decode cX3_allSeeds 10 = .ok (.iadd, 1) := by decide +kernel
theorem dX3_allSeeds_11 : decode cX3_allSeeds 11 = .ok (.aload_n 0, 1) := by decide +kernel
theorem dX3_allSeeds_12 : decode cX3_allSeeds 12 = .ok (.getfield 18, 3) := by decide +kernel
theorem dX3_allSeeds_15 : decode cX3_allSeeds 15 = .ok (.iconst 0, 1) := by decide +kernel
theorem dX3_allSeeds_16 : decode cX3_allSeeds 16 = .ok (.iaload, 1) := by decide +kernel
theorem dX3_allSeeds_17 : decode cX3_allSeeds 17 = .ok (.iadd, 1) := by decide +kernel
theorem dX3_allSeeds_18 : decode cX3_allSeeds 18 = .ok (.aload_n 0, 1) := by decide +kernel
theorem dX3_allSeeds_19 : decode cX3_allSeeds 19 = .ok (.getfield 18, 3) := by decide +kernel
theorem dX3_allSeeds_22 : decode cX3_allSeeds 22 = .ok (.iconst 1, 1) := by decide +kernel
theorem dX3_allSeeds_23 : decode cX3_allSeeds 23 = .ok (.iaload, 1) := by decide +kernel
theorem dX3_allSeeds_24 : decode cX3_allSeeds 24 = .ok (.iadd, 1) := by decide +kernel
theorem dX3_allSeeds_25 : decode cX3_allSeeds 25 = .ok (.ireturn, 1) := by decide +kernel
theorem dX3_winner_0 : decode cX3_winner 0 = .ok (.aload_n 0, 1) := by decide +kernel
theorem dX3_winner_1 : decode cX3_winner 1 = .ok (.getfield 18, 3) := by decide +kernel
theorem dX3_winner_4 : decode cX3_winner 4 = .ok (.iconst 0, 1) := by decide +kernel
theorem dX3_winner_5 : decode cX3_winner 5 = .ok (.iaload, 1) := by decide +kernel
theorem dX3_winner_6 : decode cX3_winner 6 = .ok (.aload_n 0, 1) := by decide +kernel
theorem dX3_winner_7 : decode cX3_winner 7 = .ok (.getfield 18, 3) := by decide +kernel
theorem dX3_winner_10 : decode cX3_winner 10 = .ok (.iconst 1, 1) := by decide +kernel
theorem dX3_winner_11 : decode cX3_winner 11 = .ok (.iaload, 1) := by decide +kernel
theorem dX3_winner_12 : decode cX3_winner 12 = .ok (.if_icmp .ne 5, 3) := by decide +kernel
theorem dX3_winner_15 : decode cX3_winner 15 = .ok (.iconst 2, 1) := by decide +kernel
theorem dX3_winner_16 : decode cX3_winner 16 = .ok (.ireturn, 1) := by decide +kernel
theorem dX3_winner_17 : decode cX3_winner 17 = .ok (.aload_n 0, 1) := by decide +kernel
theorem dX3_winner_18 : decode cX3_winner 18 = .ok (.getfield 18, 3) := by decide +kernel
theorem dX3_winner_21 : decode cX3_winner 21 = .ok (.iconst 0, 1) := by decide +kernel
theorem dX3_winner_22 : decode cX3_winner 22 = .ok (.iaload, 1) := by decide +kernel
theorem dX3_winner_23 : decode cX3_winner 23 = .ok (.aload_n 0, 1) := by decide +kernel
theorem dX3_winner_24 : decode cX3_winner 24 = .ok (.getfield 18, 3) := by decide +kernel
theorem dX3_winner_27 : decode cX3_winner 27 = .ok (.iconst 1, 1) := by decide +kernel
theorem dX3_winner_28 : decode cX3_winner 28 = .ok (.iaload, 1) := by decide +kernel
theorem dX3_winner_29 : decode cX3_winner 29 = .ok (.if_icmp .le 7, 3) := by decide +kernel
theorem dX3_winner_32 : decode cX3_winner 32 = .ok (.iconst 0, 1) := by decide +kernel
theorem dX3_winner_33 : decode cX3_winner 33 = .ok (.goto 4, 3) := by decide +kernel
theorem dX3_winner_36 : decode cX3_winner 36 = .ok (.iconst 1, 1) := by decide +kernel
theorem dX3_winner_37 : decode cX3_winner 37 = .ok (.ireturn, 1) := by decide +kernel
theorem dX3_lead_0 : decode cX3_lead 0 = .ok (.aload_n 0, 1) := by decide +kernel
theorem dX3_lead_1 : decode cX3_lead 1 = .ok (.getfield 18, 3) := by decide +kernel
theorem dX3_lead_4 : decode cX3_lead 4 = .ok (.aload_n 0, 1) := by decide +kernel
theorem dX3_lead_5 : decode cX3_lead 5 = .ok (.getfield 27, 3) := by decide +kernel
theorem dX3_lead_8 : decode cX3_lead 8 = .ok (.iaload, 1) := by decide +kernel
theorem dX3_lead_9 : decode cX3_lead 9 = .ok (.aload_n 0, 1) := by decide +kernel
theorem dX3_lead_10 : decode cX3_lead 10 = .ok (.getfield 18, 3) := by decide +kernel
theorem dX3_lead_13 : decode cX3_lead 13 = .ok (.iconst 1, 1) := by decide +kernel
theorem dX3_lead_14 : decode cX3_lead 14 = .ok (.aload_n 0, 1) := by decide +kernel
theorem dX3_lead_15 : decode cX3_lead 15 = .ok (.getfield 27, 3) := by decide +kernel
theorem dX3_lead_18 : decode cX3_lead 18 = .ok (.isub, 1) := by decide +kernel
theorem dX3_lead_19 : decode cX3_lead 19 = .ok (.iaload, 1) := by decide +kernel
theorem dX3_lead_20 : decode cX3_lead 20 = .ok (.isub, 1) := by decide +kernel
theorem dX3_lead_21 : decode cX3_lead 21 = .ok (.ireturn, 1) := by decide +kernel
theorem dX3_makeMove_0 : decode cX3_makeMove 0 = .ok (.aload_n 3, 1) := by decide +kernel
theorem dX3_makeMove_1 : decode cX3_makeMove 1 = .ok (.iload_n 1, 1) := by decide +kernel
theorem dX3_makeMove_2 : decode cX3_makeMove 2 = .ok (.invokevirtual 56, 3) := by decide +kernel
theorem dX3_makeMove_5 : decode cX3_makeMove 5 = .ok (.iconst 1, 1) := by decide +kernel
theorem dX3_makeMove_6 : decode cX3_makeMove 6 = .ok (.istore 4, 2) := by decide +kernel
theorem dX3_makeMove_8 : decode cX3_makeMove 8 = .ok (.iconst 0, 1) := by decide +kernel
theorem dX3_makeMove_9 : decode cX3_makeMove 9 = .ok (.istore 5, 2) := by decide +kernel
theorem dX3_makeMove_11 : decode cX3_makeMove 11 = .ok (.iload 4, 2) := by decide +kernel
theorem dX3_makeMove_13 : decode cX3_makeMove 13 = .ok (.ifCond .eq 29, 3) := by decide +kernel
theorem dX3_makeMove_16 : decode cX3_makeMove 16 = .ok (.iload 5, 2) := by decide +kernel
theorem dX3_makeMove_18 : decode cX3_makeMove 18 = .ok (.aload_n 2, 1) := by decide +kernel
theorem dX3_makeMove_19 : decode cX3_makeMove 19 = .ok (.iconst 2, 1) := by decide +kernel
theorem dX3_makeMove_20 : decode cX3_makeMove 20 = .ok (.iaload, 1) := by decide +kernel
theorem dX3_makeMove_21 : decode cX3_makeMove 21 = .ok (.if_icmp .gt 21, 3) := by decide +kernel
theorem dX3_makeMove_24 : decode cX3_makeMove 24 = .ok (.aload_n 0, 1) := by decide +kernel
theorem dX3_makeMove_25 : decode cX3_makeMove 25 = .ok (.aload_n 3, 1) := by decide +kernel
theorem dX3_makeMove_26 : decode cX3_makeMove 26 = .ok (.getfield 61, 3) := by decide +kernel
theorem dX3_makeMove_29 : decode cX3_makeMove 29 = .ok (.aload_n 2, 1) := by decide +kernel
theorem dX3_makeMove_30 : decode cX3_makeMove 30 = .ok (.aload_n 3, 1) := by decide +kernel
theorem dX3_makeMove_31 : decode cX3_makeMove 31 = .ok (.invokevirtual 64, 3) := by decide +kernel
theorem dX3_makeMove_34 : decode cX3_makeMove 34 = .ok (.istore 4, 2) := by decide +kernel
theorem dX3_makeMove_36 : decode cX3_makeMove 36 = .ok (.iinc 5 1, 3) := by decide +kernel
theorem dX3_makeMove_39 : decode cX3_makeMove 39 = .ok (.goto (-28), 3) := by decide +kernel
theorem dX3_makeMove_42 : decode cX3_makeMove 42 = .ok (.aload_n 0, 1) := by decide +kernel
theorem dX3_makeMove_43 : decode cX3_makeMove 43 = .ok (.dup, 1) := by decide +kernel
theorem dX3_makeMove_44 : decode cX3_makeMove 44 = .ok (.getfield 35, 3) := by decide +kernel
theorem dX3_makeMove_47 : decode cX3_makeMove 47 = .ok (.iconst 1, 1) := by decide +kernel
theorem dX3_makeMove_48 : decode cX3_makeMove 48 = .ok (.iadd, 1) := by decide +kernel
theorem dX3_makeMove_49 : decode cX3_makeMove 49 = .ok (.putfield 35, 3) := by decide +kernel
theorem dX3_makeMove_52 : decode cX3_makeMove 52 = .ok (.aload_n 0, 1) := by decide +kernel
theorem dX3_makeMove_53 : decode cX3_makeMove 53 = .ok (.iconst 1, 1) := by decide +kernel
theorem dX3_makeMove_54 : decode cX3_makeMove 54 = .ok (.aload_n 0, 1) := by decide +kernel
theorem dX3_makeMove_55 : decode cX3_makeMove 55 = .ok (.getfield 27, 3) := by decide +kernel
theorem dX3_makeMove_58 : decode cX3_makeMove 58 = .ok (.isub, 1) := by decide +kernel
theorem dX3_makeMove_59 : decode cX3_makeMove 59 = .ok (.invokevirtual 41, 3) := by decide +kernel
theorem dX3_makeMove_62 : decode cX3_makeMove 62 = .ok (.return_, 1) := by decide +kernel
theorem dX3_sowLap_0 : decode cX3_sowLap 0 = .ok (.aload_n 0, 1) := by decide +kernel
theorem dX3_sowLap_1 : decode cX3_sowLap 1 = .ok (.iload_n 1, 1) := by decide +kernel
theorem dX3_sowLap_2 : decode cX3_sowLap 2 = .ok (.aload_n 2, 1) := by decide +kernel
theorem dX3_sowLap_3 : decode cX3_sowLap 3 = .ok (.aload_n 3, 1) := by decide +kernel
theorem dX3_sowLap_4 : decode cX3_sowLap 4 = .ok (.invokevirtual 68, 3) := by decide +kernel
theorem dX3_sowLap_7 : decode cX3_sowLap 7 = .ok (.istore 4, 2) := by decide +kernel
theorem dX3_sowLap_9 : decode cX3_sowLap 9 = .ok (.aload_n 0, 1) := by decide +kernel
theorem dX3_sowLap_10 : decode cX3_sowLap 10 = .ok (.getfield 9, 3) := by decide +kernel
theorem dX3_sowLap_13 : decode cX3_sowLap 13 = .ok (.iload 4, 2) := by decide +kernel
theorem dX3_sowLap_15 : decode cX3_sowLap 15 = .ok (.iaload, 1) := by decide +kernel
theorem dX3_sowLap_16 : decode cX3_sowLap 16 = .ok (.iconst 1, 1) := by decide +kernel
theorem dX3_sowLap_17 : decode cX3_sowLap 17 = .ok (.if_icmp .ne 7, 3) := by decide +kernel
theorem dX3_sowLap_20 : decode cX3_sowLap 20 = .ok (.iconst 1, 1) := by decide +kernel
theorem dX3_sowLap_21 : decode cX3_sowLap 21 = .ok (.goto 4, 3) := by decide +kernel
theorem dX3_sowLap_24 : decode cX3_sowLap 24 = .ok (.iconst 0, 1) := by decide +kernel
theorem dX3_sowLap_25 : decode cX3_sowLap 25 = .ok (.istore 5, 2) := by decide +kernel
theorem dX3_sowLap_27 : decode cX3_sowLap 27 = .ok (.aload_n 0, 1) := by decide +kernel
theorem dX3_sowLap_28 : decode cX3_sowLap 28 = .ok (.iload 4, 2) := by decide +kernel
theorem dX3_sowLap_30 : decode cX3_sowLap 30 = .ok (.aload_n 2, 1) := by decide +kernel
theorem dX3_sowLap_31 : decode cX3_sowLap 31 = .ok (.invokevirtual 45, 3) := by decide +kernel
theorem dX3_sowLap_34 : decode cX3_sowLap 34 = .ok (.istore 6, 2) := by decide +kernel
theorem dX3_sowLap_36 : decode cX3_sowLap 36 = .ok (.aload_n 0, 1) := by decide +kernel
theorem dX3_sowLap_37 : decode cX3_sowLap 37 = .ok (.getfield 15, 3) := by decide +kernel
theorem dX3_sowLap_40 : decode cX3_sowLap 40 = .ok (.iload 4, 2) := by decide +kernel
theorem dX3_sowLap_42 : decode cX3_sowLap 42 = .ok (.dup2, 1) := by decide +kernel
theorem dX3_sowLap_43 : decode cX3_sowLap 43 = .ok (.iaload, 1) := by decide +kernel
theorem dX3_sowLap_44 : decode cX3_sowLap 44 = .ok (.iconst 1, 1) := by decide +kernel
theorem dX3_sowLap_45 : decode cX3_sowLap 45 = .ok (.iadd, 1) := by decide +kernel
theorem dX3_sowLap_46 : decode cX3_sowLap 46 = .ok (.iastore, 1) := by decide +kernel
theorem dX3_sowLap_47 : decode cX3_sowLap 47 = .ok (.aload_n 3, 1) := by decide +kernel
theorem dX3_sowLap_48 : decode cX3_sowLap 48 = .ok (.dup, 1) := by decide +kernel
theorem dX3_sowLap_49 : decode cX3_sowLap 49 = .ok (.getfield 72, 3) := by decide +kernel
theorem dX3_sowLap_52 : decode cX3_sowLap 52 = .ok (.iconst 1, 1) := by decide +kernel
theorem dX3_sowLap_53 : decode cX3_sowLap 53 = .ok (.iadd, 1) := by decide +kernel
theorem dX3_sowLap_54 : decode cX3_sowLap 54 = .ok (.putfield 72, 3) := by decide +kernel
theorem dX3_sowLap_57 : decode cX3_sowLap 57 = .ok (.aload_n 3, 1) := by decide +kernel
theorem dX3_sowLap_58 : decode cX3_sowLap 58 = .ok (.iload 4, 2) := by decide +kernel
theorem dX3_sowLap_60 : decode cX3_sowLap 60 = .ok (.putfield 61, 3) := by decide +kernel
theorem dX3_sowLap_63 : decode cX3_sowLap 63 = .ok (.iload 5, 2) := by decide +kernel
theorem dX3_sowLap_65 : decode cX3_sowLap 65 = .ok (.ifCond .eq 22, 3) := by decide +kernel
theorem dX3_sowLap_68 : decode cX3_sowLap 68 = .ok (.iload 4, 2) := by decide +kernel
theorem dX3_sowLap_70 : decode cX3_sowLap 70 = .ok (.invokestatic 49, 3) := by decide +kernel
theorem dX3_sowLap_73 : decode cX3_sowLap 73 = .ok (.aload_n 0, 1) := by decide +kernel
theorem dX3_sowLap_74 : decode cX3_sowLap 74 = .ok (.getfield 27, 3) := by decide +kernel
theorem dX3_sowLap_77 : decode cX3_sowLap 77 = .ok (.if_icmp .ne 10, 3) := by decide +kernel
theorem dX3_sowLap_80 : decode cX3_sowLap 80 = .ok (.aload_n 0, 1) := by decide +kernel
theorem dX3_sowLap_81 : decode cX3_sowLap 81 = .ok (.iload 4, 2) := by decide +kernel
theorem dX3_sowLap_83 : decode cX3_sowLap 83 = .ok (.aload_n 3, 1) := by decide +kernel
theorem dX3_sowLap_84 : decode cX3_sowLap 84 = .ok (.invokevirtual 75, 3) := by decide +kernel
theorem dX3_sowLap_87 : decode cX3_sowLap 87 = .ok (.iload 5, 2) := by decide +kernel
theorem dX3_sowLap_89 : decode cX3_sowLap 89 = .ok (.ifCond .ne 12, 3) := by decide +kernel
theorem dX3_sowLap_92 : decode cX3_sowLap 92 = .ok (.iload 6, 2) := by decide +kernel
theorem dX3_sowLap_94 : decode cX3_sowLap 94 = .ok (.ifCond .ne 7, 3) := by decide +kernel
theorem dX3_sowLap_97 : decode cX3_sowLap 97 = .ok (.iconst 1, 1) := by decide +kernel
theorem dX3_sowLap_98 : decode cX3_sowLap 98 = .ok (.goto 4, 3) := by decide +kernel
theorem dX3_sowLap_101 : decode cX3_sowLap 101 = .ok (.iconst 0, 1) := by decide +kernel
theorem dX3_sowLap_102 : decode cX3_sowLap 102 = .ok (.ireturn, 1) := by decide +kernel
theorem dX3_sowHand_0 : decode cX3_sowHand 0 = .ok (.iconst 0, 1) := by decide +kernel
theorem dX3_sowHand_1 : decode cX3_sowHand 1 = .ok (.aload_n 2, 1) := by decide +kernel
theorem dX3_sowHand_2 : decode cX3_sowHand 2 = .ok (.iconst 3, 1) := by decide +kernel
theorem dX3_sowHand_3 : decode cX3_sowHand 3 = .ok (.iaload, 1) := by decide +kernel
theorem dX3_sowHand_4 : decode cX3_sowHand 4 = .ok (.invokestatic 79, 3) := by decide +kernel
theorem dX3_sowHand_7 : decode cX3_sowHand 7 = .ok (.istore 4, 2) := by decide +kernel
theorem dX3_sowHand_9 : decode cX3_sowHand 9 = .ok (.aload_n 0, 1) := by decide +kernel
theorem dX3_sowHand_10 : decode cX3_sowHand 10 = .ok (.getfield 9, 3) := by decide +kernel
theorem dX3_sowHand_13 : decode cX3_sowHand 13 = .ok (.iload_n 1, 1) := by decide +kernel
theorem dX3_sowHand_14 : decode cX3_sowHand 14 = .ok (.iaload, 1) := by decide +kernel
theorem dX3_sowHand_15 : decode cX3_sowHand 15 = .ok (.istore 5, 2) := by decide +kernel
theorem dX3_sowHand_17 : decode cX3_sowHand 17 = .ok (.aload_n 0, 1) := by decide +kernel
theorem dX3_sowHand_18 : decode cX3_sowHand 18 = .ok (.getfield 9, 3) := by decide +kernel
theorem dX3_sowHand_21 : decode cX3_sowHand 21 = .ok (.iload_n 1, 1) := by decide +kernel
theorem dX3_sowHand_22 : decode cX3_sowHand 22 = .ok (.iconst 0, 1) := by decide +kernel
theorem dX3_sowHand_23 : decode cX3_sowHand 23 = .ok (.iastore, 1) := by decide +kernel
theorem dX3_sowHand_24 : decode cX3_sowHand 24 = .ok (.iload_n 1, 1) := by decide +kernel
theorem dX3_sowHand_25 : decode cX3_sowHand 25 = .ok (.istore 6, 2) := by decide +kernel
theorem dX3_sowHand_27 : decode cX3_sowHand 27 = .ok (.iload 5, 2) := by decide +kernel
theorem dX3_sowHand_29 : decode cX3_sowHand 29 = .ok (.ifCond .le 103, 3) := by decide +kernel
theorem dX3_sowHand_32 : decode cX3_sowHand 32 = .ok (.iload 6, 2) := by decide +kernel
theorem dX3_sowHand_34 : decode cX3_sowHand 34 = .ok (.invokestatic 85, 3) := by decide +kernel
theorem dX3_sowHand_37 : decode cX3_sowHand 37 = .ok (.istore 6, 2) := by decide +kernel
theorem dX3_sowHand_39 : decode cX3_sowHand 39 = .ok (.iload 6, 2) := by decide +kernel
theorem dX3_sowHand_41 : decode cX3_sowHand 41 = .ok (.iload_n 1, 1) := by decide +kernel
theorem dX3_sowHand_42 : decode cX3_sowHand 42 = .ok (.if_icmp .ne 10, 3) := by decide +kernel
theorem dX3_sowHand_45 : decode cX3_sowHand 45 = .ok (.iload 6, 2) := by decide +kernel
theorem dX3_sowHand_47 : decode cX3_sowHand 47 = .ok (.invokestatic 85, 3) := by decide +kernel
theorem dX3_sowHand_50 : decode cX3_sowHand 50 = .ok (.istore 6, 2) := by decide +kernel
theorem dX3_sowHand_52 : decode cX3_sowHand 52 = .ok (.iload 5, 2) := by decide +kernel
theorem dX3_sowHand_54 : decode cX3_sowHand 54 = .ok (.iload 4, 2) := by decide +kernel
theorem dX3_sowHand_56 : decode cX3_sowHand 56 = .ok (.if_icmp .le 59, 3) := by decide +kernel
theorem dX3_sowHand_59 : decode cX3_sowHand 59 = .ok (.iload 6, 2) := by decide +kernel
theorem dX3_sowHand_61 : decode cX3_sowHand 61 = .ok (.invokestatic 49, 3) := by decide +kernel
theorem dX3_sowHand_64 : decode cX3_sowHand 64 = .ok (.aload_n 0, 1) := by decide +kernel
theorem dX3_sowHand_65 : decode cX3_sowHand 65 = .ok (.getfield 27, 3) := by decide +kernel
theorem dX3_sowHand_68 : decode cX3_sowHand 68 = .ok (.if_icmp .eq 47, 3) := by decide +kernel
theorem dX3_sowHand_71 : decode cX3_sowHand 71 = .ok (.aload_n 0, 1) := by decide +kernel
theorem dX3_sowHand_72 : decode cX3_sowHand 72 = .ok (.iload 6, 2) := by decide +kernel
theorem dX3_sowHand_74 : decode cX3_sowHand 74 = .ok (.aload_n 2, 1) := by decide +kernel
theorem dX3_sowHand_75 : decode cX3_sowHand 75 = .ok (.invokevirtual 45, 3) := by decide +kernel
theorem dX3_sowHand_78 : decode cX3_sowHand 78 = .ok (.ifCond .eq 37, 3) := by decide +kernel
theorem dX3_sowHand_81 : decode cX3_sowHand 81 = .ok (.iload 5, 2) := by decide +kernel
theorem dX3_sowHand_83 : decode cX3_sowHand 83 = .ok (.iload 4, 2) := by decide +kernel
theorem dX3_sowHand_85 : decode cX3_sowHand 85 = .ok (.isub, 1) := by decide +kernel
theorem dX3_sowHand_86 : decode cX3_sowHand 86 = .ok (.istore 5, 2) := by decide +kernel
theorem dX3_sowHand_88 : decode cX3_sowHand 88 = .ok (.aload_n 0, 1) := by decide +kernel
theorem dX3_sowHand_89 : decode cX3_sowHand 89 = .ok (.getfield 18, 3) := by decide +kernel
theorem dX3_sowHand_92 : decode cX3_sowHand 92 = .ok (.iconst 1, 1) := by decide +kernel
theorem dX3_sowHand_93 : decode cX3_sowHand 93 = .ok (.aload_n 0, 1) := by decide +kernel
theorem dX3_sowHand_94 : decode cX3_sowHand 94 = .ok (.getfield 27, 3) := by decide +kernel
theorem dX3_sowHand_97 : decode cX3_sowHand 97 = .ok (.isub, 1) := by decide +kernel
theorem dX3_sowHand_98 : decode cX3_sowHand 98 = .ok (.dup2, 1) := by decide +kernel
theorem dX3_sowHand_99 : decode cX3_sowHand 99 = .ok (.iaload, 1) := by decide +kernel
theorem dX3_sowHand_100 : decode cX3_sowHand 100 = .ok (.iload 4, 2) := by decide +kernel
theorem dX3_sowHand_102 : decode cX3_sowHand 102 = .ok (.iadd, 1) := by decide +kernel
theorem dX3_sowHand_103 : decode cX3_sowHand 103 = .ok (.iastore, 1) := by decide +kernel
theorem dX3_sowHand_104 : decode cX3_sowHand 104 = .ok (.aload_n 3, 1) := by decide +kernel
theorem dX3_sowHand_105 : decode cX3_sowHand 105 = .ok (.dup, 1) := by decide +kernel
theorem dX3_sowHand_106 : decode cX3_sowHand 106 = .ok (.getfield 88, 3) := by decide +kernel
theorem dX3_sowHand_109 : decode cX3_sowHand 109 = .ok (.iload 4, 2) := by decide +kernel
theorem dX3_sowHand_111 : decode cX3_sowHand 111 = .ok (.iadd, 1) := by decide +kernel
theorem dX3_sowHand_112 : decode cX3_sowHand 112 = .ok (.putfield 88, 3) := by decide +kernel
theorem dX3_sowHand_115 : decode cX3_sowHand 115 = .ok (.aload_n 0, 1) := by decide +kernel
theorem dX3_sowHand_116 : decode cX3_sowHand 116 = .ok (.getfield 9, 3) := by decide +kernel
theorem dX3_sowHand_119 : decode cX3_sowHand 119 = .ok (.iload 6, 2) := by decide +kernel
theorem dX3_sowHand_121 : decode cX3_sowHand 121 = .ok (.dup2, 1) := by decide +kernel
theorem dX3_sowHand_122 : decode cX3_sowHand 122 = .ok (.iaload, 1) := by decide +kernel
theorem dX3_sowHand_123 : decode cX3_sowHand 123 = .ok (.iconst 1, 1) := by decide +kernel
theorem dX3_sowHand_124 : decode cX3_sowHand 124 = .ok (.iadd, 1) := by decide +kernel
theorem dX3_sowHand_125 : decode cX3_sowHand 125 = .ok (.iastore, 1) := by decide +kernel
theorem dX3_sowHand_126 : decode cX3_sowHand 126 = .ok (.iinc 5 (-1), 3) := by decide +kernel
theorem dX3_sowHand_129 : decode cX3_sowHand 129 = .ok (.goto (-102), 3) := by decide +kernel
theorem dX3_sowHand_132 : decode cX3_sowHand 132 = .ok (.iload 6, 2) := by decide +kernel
theorem dX3_sowHand_134 : decode cX3_sowHand 134 = .ok (.ireturn, 1) := by decide +kernel
theorem dX3_captureAcross_0 : decode cX3_captureAcross 0 = .ok (.bipush 11, 2) := by decide +kernel
theorem dX3_captureAcross_2 : decode cX3_captureAcross 2 = .ok (.iload_n 1, 1) := by decide +kernel
theorem dX3_captureAcross_3 : decode cX3_captureAcross 3 = .ok (.isub, 1) := by decide +kernel
theorem dX3_captureAcross_4 : decode cX3_captureAcross 4 = .ok (.istore_n 3, 1) := by decide +kernel
theorem dX3_captureAcross_5 : decode cX3_captureAcross 5 = .ok (.aload_n 0, 1) := by decide +kernel
theorem dX3_captureAcross_6 : decode cX3_captureAcross 6 = .ok (.getfield 9, 3) := by decide +kernel
theorem dX3_captureAcross_9 : decode cX3_captureAcross 9 = .ok (.iload_n 3, 1) := by decide +kernel
theorem dX3_captureAcross_10 : decode cX3_captureAcross 10 = .ok (.iaload, 1) := by decide +kernel
theorem dX3_captureAcross_11 : decode cX3_captureAcross 11 = .ok (.ifCond .ne 4, 3) := by decide +kernel
theorem dX3_captureAcross_14 : decode cX3_captureAcross 14 = .ok (.return_, 1) := by decide +kernel
theorem dX3_captureAcross_15 : decode cX3_captureAcross 15 = .ok (.aload_n 0, 1) := by decide +kernel
theorem dX3_captureAcross_16 : decode cX3_captureAcross 16 = .ok (.getfield 9, 3) := by decide +kernel
theorem dX3_captureAcross_19 : decode cX3_captureAcross 19 = .ok (.iload_n 1, 1) := by decide +kernel
theorem dX3_captureAcross_20 : decode cX3_captureAcross 20 = .ok (.iaload, 1) := by decide +kernel
theorem dX3_captureAcross_21 : decode cX3_captureAcross 21 = .ok (.aload_n 0, 1) := by decide +kernel
theorem dX3_captureAcross_22 : decode cX3_captureAcross 22 = .ok (.getfield 9, 3) := by decide +kernel
theorem dX3_captureAcross_25 : decode cX3_captureAcross 25 = .ok (.iload_n 3, 1) := by decide +kernel
theorem dX3_captureAcross_26 : decode cX3_captureAcross 26 = .ok (.iaload, 1) := by decide +kernel
theorem dX3_captureAcross_27 : decode cX3_captureAcross 27 = .ok (.iadd, 1) := by decide +kernel
theorem dX3_captureAcross_28 : decode cX3_captureAcross 28 = .ok (.istore 4, 2) := by decide +kernel
theorem dX3_captureAcross_30 : decode cX3_captureAcross 30 = .ok (.aload_n 0, 1) := by decide +kernel
theorem dX3_captureAcross_31 : decode cX3_captureAcross 31 = .ok (.getfield 9, 3) := by decide +kernel
theorem dX3_captureAcross_34 : decode cX3_captureAcross 34 = .ok (.iload_n 1, 1) := by decide +kernel
theorem dX3_captureAcross_35 : decode cX3_captureAcross 35 = .ok (.iconst 0, 1) := by decide +kernel
theorem dX3_captureAcross_36 : decode cX3_captureAcross 36 = .ok (.iastore, 1) := by decide +kernel
theorem dX3_captureAcross_37 : decode cX3_captureAcross 37 = .ok (.aload_n 0, 1) := by decide +kernel
theorem dX3_captureAcross_38 : decode cX3_captureAcross 38 = .ok (.getfield 9, 3) := by decide +kernel
theorem dX3_captureAcross_41 : decode cX3_captureAcross 41 = .ok (.iload_n 3, 1) := by decide +kernel
theorem dX3_captureAcross_42 : decode cX3_captureAcross 42 = .ok (.iconst 0, 1) := by decide +kernel
theorem dX3_captureAcross_43 : decode cX3_captureAcross 43 = .ok (.iastore, 1) := by decide +kernel
theorem dX3_captureAcross_44 : decode cX3_captureAcross 44 = .ok (.aload_n 0, 1) := by decide +kernel
theorem dX3_captureAcross_45 : decode cX3_captureAcross 45 = .ok (.getfield 15, 3) := by decide +kernel
theorem dX3_captureAcross_48 : decode cX3_captureAcross 48 = .ok (.iload_n 3, 1) := by decide +kernel
theorem dX3_captureAcross_49 : decode cX3_captureAcross 49 = .ok (.iconst 0, 1) := by decide +kernel
theorem dX3_captureAcross_50 : decode cX3_captureAcross 50 = .ok (.iastore, 1) := by decide +kernel
theorem dX3_captureAcross_51 : decode cX3_captureAcross 51 = .ok (.aload_n 0, 1) := by decide +kernel
theorem dX3_captureAcross_52 : decode cX3_captureAcross 52 = .ok (.getfield 18, 3) := by decide +kernel
theorem dX3_captureAcross_55 : decode cX3_captureAcross 55 = .ok (.aload_n 0, 1) := by decide +kernel
theorem dX3_captureAcross_56 : decode cX3_captureAcross 56 = .ok (.getfield 27, 3) := by decide +kernel
theorem dX3_captureAcross_59 : decode cX3_captureAcross 59 = .ok (.dup2, 1) := by decide +kernel
theorem dX3_captureAcross_60 : decode cX3_captureAcross 60 = .ok (.iaload, 1) := by decide +kernel
theorem dX3_captureAcross_61 : decode cX3_captureAcross 61 = .ok (.iload 4, 2) := by decide +kernel
theorem dX3_captureAcross_63 : decode cX3_captureAcross 63 = .ok (.iadd, 1) := by decide +kernel
theorem dX3_captureAcross_64 : decode cX3_captureAcross 64 = .ok (.iastore, 1) := by decide +kernel
theorem dX3_captureAcross_65 : decode cX3_captureAcross 65 = .ok (.aload_n 2, 1) := by decide +kernel
theorem dX3_captureAcross_66 : decode cX3_captureAcross 66 = .ok (.dup, 1) := by decide +kernel
theorem dX3_captureAcross_67 : decode cX3_captureAcross 67 = .ok (.getfield 91, 3) := by decide +kernel
theorem dX3_captureAcross_70 : decode cX3_captureAcross 70 = .ok (.iload 4, 2) := by decide +kernel
theorem dX3_captureAcross_72 : decode cX3_captureAcross 72 = .ok (.iadd, 1) := by decide +kernel
theorem dX3_captureAcross_73 : decode cX3_captureAcross 73 = .ok (.putfield 91, 3) := by decide +kernel
theorem dX3_captureAcross_76 : decode cX3_captureAcross 76 = .ok (.return_, 1) := by decide +kernel
theorem dX3_giveTurnTo_0 : decode cX3_giveTurnTo 0 = .ok (.aload_n 0, 1) := by decide +kernel
theorem dX3_giveTurnTo_1 : decode cX3_giveTurnTo 1 = .ok (.iload_n 1, 1) := by decide +kernel
theorem dX3_giveTurnTo_2 : decode cX3_giveTurnTo 2 = .ok (.putfield 27, 3) := by decide +kernel
theorem dX3_giveTurnTo_5 : decode cX3_giveTurnTo 5 = .ok (.aload_n 0, 1) := by decide +kernel
theorem dX3_giveTurnTo_6 : decode cX3_giveTurnTo 6 = .ok (.invokevirtual 94, 3) := by decide +kernel
theorem dX3_giveTurnTo_9 : decode cX3_giveTurnTo 9 = .ok (.ifCond .eq 60, 3) := by decide +kernel
theorem dX3_giveTurnTo_12 : decode cX3_giveTurnTo 12 = .ok (.aload_n 0, 1) := by decide +kernel
theorem dX3_giveTurnTo_13 : decode cX3_giveTurnTo 13 = .ok (.getfield 18, 3) := by decide +kernel
theorem dX3_giveTurnTo_16 : decode cX3_giveTurnTo 16 = .ok (.iconst 0, 1) := by decide +kernel
theorem dX3_giveTurnTo_17 : decode cX3_giveTurnTo 17 = .ok (.dup2, 1) := by decide +kernel
theorem dX3_giveTurnTo_18 : decode cX3_giveTurnTo 18 = .ok (.iaload, 1) := by decide +kernel
theorem dX3_giveTurnTo_19 : decode cX3_giveTurnTo 19 = .ok (.aload_n 0, 1) := by decide +kernel
theorem dX3_giveTurnTo_20 : decode cX3_giveTurnTo 20 = .ok (.iconst 0, 1) := by decide +kernel
theorem dX3_giveTurnTo_21 : decode cX3_giveTurnTo 21 = .ok (.invokevirtual 53, 3) := by decide +kernel
theorem dX3_giveTurnTo_24 : decode cX3_giveTurnTo 24 = .ok (.iadd, 1) := by decide +kernel
theorem dX3_giveTurnTo_25 : decode cX3_giveTurnTo 25 = .ok (.iastore, 1) := by decide +kernel
theorem dX3_giveTurnTo_26 : decode cX3_giveTurnTo 26 = .ok (.aload_n 0, 1) := by decide +kernel
theorem dX3_giveTurnTo_27 : decode cX3_giveTurnTo 27 = .ok (.getfield 18, 3) := by decide +kernel
theorem dX3_giveTurnTo_30 : decode cX3_giveTurnTo 30 = .ok (.iconst 1, 1) := by decide +kernel
theorem dX3_giveTurnTo_31 : decode cX3_giveTurnTo 31 = .ok (.dup2, 1) := by decide +kernel
theorem dX3_giveTurnTo_32 : decode cX3_giveTurnTo 32 = .ok (.iaload, 1) := by decide +kernel
theorem dX3_giveTurnTo_33 : decode cX3_giveTurnTo 33 = .ok (.aload_n 0, 1) := by decide +kernel
theorem dX3_giveTurnTo_34 : decode cX3_giveTurnTo 34 = .ok (.iconst 1, 1) := by decide +kernel
theorem dX3_giveTurnTo_35 : decode cX3_giveTurnTo 35 = .ok (.invokevirtual 53, 3) := by decide +kernel
theorem dX3_giveTurnTo_38 : decode cX3_giveTurnTo 38 = .ok (.iadd, 1) := by decide +kernel
theorem dX3_giveTurnTo_39 : decode cX3_giveTurnTo 39 = .ok (.iastore, 1) := by decide +kernel
theorem dX3_giveTurnTo_40 : decode cX3_giveTurnTo 40 = .ok (.iconst 0, 1) := by decide +kernel
theorem dX3_giveTurnTo_41 : decode cX3_giveTurnTo 41 = .ok (.istore_n 2, 1) := by decide +kernel
theorem dX3_giveTurnTo_42 : decode cX3_giveTurnTo 42 = .ok (.iload_n 2, 1) := by decide +kernel
theorem dX3_giveTurnTo_43 : decode cX3_giveTurnTo 43 = .ok (.bipush 12, 2) := by decide +kernel
theorem dX3_giveTurnTo_45 : decode cX3_giveTurnTo 45 = .ok (.if_icmp .ge 16, 3) := by decide +kernel
theorem dX3_giveTurnTo_48 : decode cX3_giveTurnTo 48 = .ok (.aload_n 0, 1) := by decide +kernel
theorem dX3_giveTurnTo_49 : decode cX3_giveTurnTo 49 = .ok (.getfield 9, 3) := by decide +kernel
theorem dX3_giveTurnTo_52 : decode cX3_giveTurnTo 52 = .ok (.iload_n 2, 1) := by decide +kernel
theorem dX3_giveTurnTo_53 : decode cX3_giveTurnTo 53 = .ok (.iconst 0, 1) := by decide +kernel
theorem dX3_giveTurnTo_54 : decode cX3_giveTurnTo 54 = .ok (.iastore, 1) := by decide +kernel
theorem dX3_giveTurnTo_55 : decode cX3_giveTurnTo 55 = .ok (.iinc 2 1, 3) := by decide +kernel
theorem dX3_giveTurnTo_58 : decode cX3_giveTurnTo 58 = .ok (.goto (-16), 3) := by decide +kernel
theorem dX3_giveTurnTo_61 : decode cX3_giveTurnTo 61 = .ok (.aload_n 0, 1) := by decide +kernel
theorem dX3_giveTurnTo_62 : decode cX3_giveTurnTo 62 = .ok (.iconst 1, 1) := by decide +kernel
theorem dX3_giveTurnTo_63 : decode cX3_giveTurnTo 63 = .ok (.putfield 31, 3) := by decide +kernel
theorem dX3_giveTurnTo_66 : decode cX3_giveTurnTo 66 = .ok (.goto 18, 3) := by decide +kernel
theorem dX3_giveTurnTo_69 : decode cX3_giveTurnTo 69 = .ok (.aload_n 0, 1) := by decide +kernel
theorem dX3_giveTurnTo_70 : decode cX3_giveTurnTo 70 = .ok (.iload_n 1, 1) := by decide +kernel
theorem dX3_giveTurnTo_71 : decode cX3_giveTurnTo 71 = .ok (.invokevirtual 53, 3) := by decide +kernel
theorem dX3_giveTurnTo_74 : decode cX3_giveTurnTo 74 = .ok (.ifCond .ne 10, 3) := by decide +kernel
theorem dX3_giveTurnTo_77 : decode cX3_giveTurnTo 77 = .ok (.aload_n 0, 1) := by decide +kernel
theorem dX3_giveTurnTo_78 : decode cX3_giveTurnTo 78 = .ok (.iconst 1, 1) := by decide +kernel
theorem dX3_giveTurnTo_79 : decode cX3_giveTurnTo 79 = .ok (.iload_n 1, 1) := by decide +kernel
theorem dX3_giveTurnTo_80 : decode cX3_giveTurnTo 80 = .ok (.isub, 1) := by decide +kernel
theorem dX3_giveTurnTo_81 : decode cX3_giveTurnTo 81 = .ok (.putfield 27, 3) := by decide +kernel
theorem dX3_giveTurnTo_84 : decode cX3_giveTurnTo 84 = .ok (.return_, 1) := by decide +kernel
theorem dX3_isDecided_0 : decode cX3_isDecided 0 = .ok (.aload_n 0, 1) := by decide +kernel
theorem dX3_isDecided_1 : decode cX3_isDecided 1 = .ok (.iconst 0, 1) := by decide +kernel
theorem dX3_isDecided_2 : decode cX3_isDecided 2 = .ok (.invokevirtual 53, 3) := by decide +kernel
theorem dX3_isDecided_5 : decode cX3_isDecided 5 = .ok (.aload_n 0, 1) := by decide +kernel
theorem dX3_isDecided_6 : decode cX3_isDecided 6 = .ok (.iconst 1, 1) := by decide +kernel
theorem dX3_isDecided_7 : decode cX3_isDecided 7 = .ok (.invokevirtual 53, 3) := by decide +kernel
theorem dX3_isDecided_10 : decode cX3_isDecided 10 = .ok (.iadd, 1) := by decide +kernel
theorem dX3_isDecided_11 : decode cX3_isDecided 11 = .ok (.istore_n 1, 1) := by decide +kernel
theorem dX3_isDecided_12 : decode cX3_isDecided 12 = .ok (.iload_n 1, 1) := by decide +kernel
theorem dX3_isDecided_13 : decode cX3_isDecided 13 = .ok (.aload_n 0, 1) := by decide +kernel
theorem dX3_isDecided_14 : decode cX3_isDecided 14 = .ok (.getfield 18, 3) := by decide +kernel
theorem dX3_isDecided_17 : decode cX3_isDecided 17 = .ok (.iconst 0, 1) := by decide +kernel
theorem dX3_isDecided_18 : decode cX3_isDecided 18 = .ok (.iaload, 1) := by decide +kernel
theorem dX3_isDecided_19 : decode cX3_isDecided 19 = .ok (.iadd, 1) := by decide +kernel
theorem dX3_isDecided_20 : decode cX3_isDecided 20 = .ok (.aload_n 0, 1) := by decide +kernel
theorem dX3_isDecided_21 : decode cX3_isDecided 21 = .ok (.getfield 18, 3) := by decide +kernel
theorem dX3_isDecided_24 : decode cX3_isDecided 24 = .ok (.iconst 1, 1) := by decide +kernel
theorem dX3_isDecided_25 : decode cX3_isDecided 25 = .ok (.iaload, 1) := by decide +kernel
theorem dX3_isDecided_26 : decode cX3_isDecided 26 = .ok (.iadd, 1) := by decide +kernel
theorem dX3_isDecided_27 : decode cX3_isDecided 27 = .ok (.istore_n 2, 1) := by decide +kernel
theorem dX3_isDecided_28 : decode cX3_isDecided 28 = .ok (.iload_n 1, 1) := by decide +kernel
theorem dX3_isDecided_29 : decode cX3_isDecided 29 = .ok (.ifCond .eq 37, 3) := by decide +kernel
theorem dX3_isDecided_32 : decode cX3_isDecided 32 = .ok (.aload_n 0, 1) := by decide +kernel
theorem dX3_isDecided_33 : decode cX3_isDecided 33 = .ok (.getfield 35, 3) := by decide +kernel
theorem dX3_isDecided_36 : decode cX3_isDecided 36 = .ok (.sipush 300, 3) := by decide +kernel
theorem dX3_isDecided_39 : decode cX3_isDecided 39 = .ok (.if_icmp .ge 27, 3) := by decide +kernel
theorem dX3_isDecided_42 : decode cX3_isDecided 42 = .ok (.iconst 2, 1) := by decide +kernel
theorem dX3_isDecided_43 : decode cX3_isDecided 43 = .ok (.aload_n 0, 1) := by decide +kernel
theorem dX3_isDecided_44 : decode cX3_isDecided 44 = .ok (.getfield 18, 3) := by decide +kernel
theorem dX3_isDecided_47 : decode cX3_isDecided 47 = .ok (.iconst 0, 1) := by decide +kernel
theorem dX3_isDecided_48 : decode cX3_isDecided 48 = .ok (.iaload, 1) := by decide +kernel
theorem dX3_isDecided_49 : decode cX3_isDecided 49 = .ok (.imul, 1) := by decide +kernel
theorem dX3_isDecided_50 : decode cX3_isDecided 50 = .ok (.iload_n 2, 1) := by decide +kernel
theorem dX3_isDecided_51 : decode cX3_isDecided 51 = .ok (.if_icmp .gt 15, 3) := by decide +kernel
theorem dX3_isDecided_54 : decode cX3_isDecided 54 = .ok (.iconst 2, 1) := by decide +kernel
theorem dX3_isDecided_55 : decode cX3_isDecided 55 = .ok (.aload_n 0, 1) := by decide +kernel
theorem dX3_isDecided_56 : decode cX3_isDecided 56 = .ok (.getfield 18, 3) := by decide +kernel
theorem dX3_isDecided_59 : decode cX3_isDecided 59 = .ok (.iconst 1, 1) := by decide +kernel
theorem dX3_isDecided_60 : decode cX3_isDecided 60 = .ok (.iaload, 1) := by decide +kernel
theorem dX3_isDecided_61 : decode cX3_isDecided 61 = .ok (.imul, 1) := by decide +kernel
theorem dX3_isDecided_62 : decode cX3_isDecided 62 = .ok (.iload_n 2, 1) := by decide +kernel
theorem dX3_isDecided_63 : decode cX3_isDecided 63 = .ok (.if_icmp .le 7, 3) := by decide +kernel
theorem dX3_isDecided_66 : decode cX3_isDecided 66 = .ok (.iconst 1, 1) := by decide +kernel
theorem dX3_isDecided_67 : decode cX3_isDecided 67 = .ok (.goto 4, 3) := by decide +kernel
theorem dX3_isDecided_70 : decode cX3_isDecided 70 = .ok (.iconst 0, 1) := by decide +kernel
theorem dX3_isDecided_71 : decode cX3_isDecided 71 = .ok (.ireturn, 1) := by decide +kernel
theorem dX4_init_0 : decode cX4_init 0 = .ok (.aload_n 0, 1) := by decide +kernel
theorem dX4_init_1 : decode cX4_init 1 = .ok (.invokespecial 1, 3) := by decide +kernel
theorem dX4_init_4 : decode cX4_init 4 = .ok (.return_, 1) := by decide +kernel
theorem dX4_clear_0 : decode cX4_clear 0 = .ok (.aload_n 0, 1) := by decide +kernel
theorem dX4_clear_1 : decode cX4_clear 1 = .ok (.iload_n 1, 1) := by decide +kernel
theorem dX4_clear_2 : decode cX4_clear 2 = .ok (.putfield 7, 3) := by decide +kernel
theorem dX4_clear_5 : decode cX4_clear 5 = .ok (.aload_n 0, 1) := by decide +kernel
theorem dX4_clear_6 : decode cX4_clear 6 = .ok (.iconst 0, 1) := by decide +kernel
theorem dX4_clear_7 : decode cX4_clear 7 = .ok (.putfield 13, 3) := by decide +kernel
theorem dX4_clear_10 : decode cX4_clear 10 = .ok (.aload_n 0, 1) := by decide +kernel
theorem dX4_clear_11 : decode cX4_clear 11 = .ok (.iload_n 1, 1) := by decide +kernel
theorem dX4_clear_12 : decode cX4_clear 12 = .ok (.putfield 16, 3) := by decide +kernel
theorem dX4_clear_15 : decode cX4_clear 15 = .ok (.aload_n 0, 1) := by decide +kernel
theorem dX4_clear_16 : decode cX4_clear 16 = .ok (.iconst 0, 1) := by decide +kernel
theorem dX4_clear_17 : decode cX4_clear 17 = .ok (.putfield 19, 3) := by decide +kernel
theorem dX4_clear_20 : decode cX4_clear 20 = .ok (.aload_n 0, 1) := by decide +kernel
theorem dX4_clear_21 : decode cX4_clear 21 = .ok (.iconst 0, 1) := by decide +kernel
theorem dX4_clear_22 : decode cX4_clear 22 = .ok (.putfield 22, 3) := by decide +kernel
theorem dX4_clear_25 : decode cX4_clear 25 = .ok (.return_, 1) := by decide +kernel
theorem dX4_copyFrom_0 : decode cX4_copyFrom 0 = .ok (.aload_n 0, 1) := by decide +kernel
theorem dX4_copyFrom_1 : decode cX4_copyFrom 1 = .ok (.aload_n 1, 1) := by decide +kernel
theorem dX4_copyFrom_2 : decode cX4_copyFrom 2 = .ok (.getfield 7, 3) := by decide +kernel
theorem dX4_copyFrom_5 : decode cX4_copyFrom 5 = .ok (.putfield 7, 3) := by decide +kernel
theorem dX4_copyFrom_8 : decode cX4_copyFrom 8 = .ok (.aload_n 0, 1) := by decide +kernel
theorem dX4_copyFrom_9 : decode cX4_copyFrom 9 = .ok (.aload_n 1, 1) := by decide +kernel
theorem dX4_copyFrom_10 : decode cX4_copyFrom 10 = .ok (.getfield 13, 3) := by decide +kernel
theorem dX4_copyFrom_13 : decode cX4_copyFrom 13 = .ok (.putfield 13, 3) := by decide +kernel
theorem dX4_copyFrom_16 : decode cX4_copyFrom 16 = .ok (.aload_n 0, 1) := by decide +kernel
theorem dX4_copyFrom_17 : decode cX4_copyFrom 17 = .ok (.aload_n 1, 1) := by decide +kernel
theorem dX4_copyFrom_18 : decode cX4_copyFrom 18 = .ok (.getfield 16, 3) := by decide +kernel
theorem dX4_copyFrom_21 : decode cX4_copyFrom 21 = .ok (.putfield 16, 3) := by decide +kernel
theorem dX4_copyFrom_24 : decode cX4_copyFrom 24 = .ok (.aload_n 0, 1) := by decide +kernel
theorem dX4_copyFrom_25 : decode cX4_copyFrom 25 = .ok (.aload_n 1, 1) := by decide +kernel
theorem dX4_copyFrom_26 : decode cX4_copyFrom 26 = .ok (.getfield 19, 3) := by decide +kernel
theorem dX4_copyFrom_29 : decode cX4_copyFrom 29 = .ok (.putfield 19, 3) := by decide +kernel
theorem dX4_copyFrom_32 : decode cX4_copyFrom 32 = .ok (.aload_n 0, 1) := by decide +kernel
theorem dX4_copyFrom_33 : decode cX4_copyFrom 33 = .ok (.aload_n 1, 1) := by decide +kernel
theorem dX4_copyFrom_34 : decode cX4_copyFrom 34 = .ok (.getfield 22, 3) := by decide +kernel
theorem dX4_copyFrom_37 : decode cX4_copyFrom 37 = .ok (.putfield 22, 3) := by decide +kernel
theorem dX4_copyFrom_40 : decode cX4_copyFrom 40 = .ok (.return_, 1) := by decide +kernel
theorem dX5_init_0 : decode cX5_init 0 = .ok (.aload_n 0, 1) := by decide +kernel
theorem dX5_init_1 : decode cX5_init 1 = .ok (.invokespecial 3, 3) := by decide +kernel
theorem dX5_init_4 : decode cX5_init 4 = .ok (.aload_n 0, 1) := by decide +kernel
theorem dX5_init_5 : decode cX5_init 5 = .ok (.new 9, 3) := by decide +kernel
theorem dX5_init_8 : decode cX5_init 8 = .ok (.dup, 1) := by decide +kernel
theorem dX5_init_9 : decode cX5_init 9 = .ok (.invokespecial 11, 3) := by decide +kernel
theorem dX5_init_12 : decode cX5_init 12 = .ok (.putfield 12, 3) := by decide +kernel
theorem dX5_init_15 : decode cX5_init 15 = .ok (.aload_n 0, 1) := by decide +kernel
theorem dX5_init_16 : decode cX5_init 16 = .ok (.getstatic 18, 3) := by decide +kernel
theorem dX5_init_19 : decode cX5_init 19 = .ok (.invokevirtual 22, 3) := by decide +kernel
theorem dX5_init_22 : decode cX5_init 22 = .ok (.checkcast 23, 3) := by decide +kernel
theorem dX5_init_25 : decode cX5_init 25 = .ok (.putfield 27, 3) := by decide +kernel
theorem dX5_init_28 : decode cX5_init 28 = .ok (.aload_n 0, 1) := by decide +kernel
theorem dX5_init_29 : decode cX5_init 29 = .ok (.new 30, 3) := by decide +kernel
theorem dX5_init_32 : decode cX5_init 32 = .ok (.dup, 1) := by decide +kernel
theorem dX5_init_33 : decode cX5_init 33 = .ok (.invokespecial 32, 3) := by decide +kernel
theorem dX5_init_36 : decode cX5_init 36 = .ok (.putfield 33, 3) := by decide +kernel
theorem dX5_init_39 : decode cX5_init 39 = .ok (.aload_n 0, 1) := by decide +kernel
theorem dX5_init_40 : decode cX5_init 40 = .ok (.sipush 300, 3) := by decide +kernel
theorem dX5_init_43 : decode cX5_init 43 = .ok (.newarray .int, 2) := by decide +kernel
theorem dX5_init_45 : decode cX5_init 45 = .ok (.putfield 37, 3) := by decide +kernel
theorem dX5_init_48 : decode cX5_init 48 = .ok (.return_, 1) := by decide +kernel
theorem dX5_copyFrom_0 : decode cX5_copyFrom 0 = .ok (.aload_n 0, 1) := by decide +kernel
theorem dX5_copyFrom_1 : decode cX5_copyFrom 1 = .ok (.getfield 12, 3) := by decide +kernel
theorem dX5_copyFrom_4 : decode cX5_copyFrom 4 = .ok (.aload_n 1, 1) := by decide +kernel
theorem dX5_copyFrom_5 : decode cX5_copyFrom 5 = .ok (.getfield 12, 3) := by decide +kernel
theorem dX5_copyFrom_8 : decode cX5_copyFrom 8 = .ok (.invokevirtual 40, 3) := by decide +kernel
theorem dX5_copyFrom_11 : decode cX5_copyFrom 11 = .ok (.aload_n 1, 1) := by decide +kernel
theorem dX5_copyFrom_12 : decode cX5_copyFrom 12 = .ok (.getfield 27, 3) := by decide +kernel
theorem dX5_copyFrom_15 : decode cX5_copyFrom 15 = .ok (.iconst 0, 1) := by decide +kernel
theorem dX5_copyFrom_16 : decode cX5_copyFrom 16 = .ok (.aload_n 0, 1) := by decide +kernel
theorem dX5_copyFrom_17 : decode cX5_copyFrom 17 = .ok (.getfield 27, 3) := by decide +kernel
theorem dX5_copyFrom_20 : decode cX5_copyFrom 20 = .ok (.iconst 0, 1) := by decide +kernel
theorem dX5_copyFrom_21 : decode cX5_copyFrom 21 = .ok (.iconst 4, 1) := by decide +kernel
theorem dX5_copyFrom_22 : decode cX5_copyFrom 22 = .ok (.invokestatic 44, 3) := by decide +kernel
theorem dX5_copyFrom_25 : decode cX5_copyFrom 25 = .ok (.aload_n 0, 1) := by decide +kernel
theorem dX5_copyFrom_26 : decode cX5_copyFrom 26 = .ok (.getfield 33, 3) := by decide +kernel
theorem dX5_copyFrom_29 : decode cX5_copyFrom 29 = .ok (.aload_n 1, 1) := by decide +kernel
theorem dX5_copyFrom_30 : decode cX5_copyFrom 30 = .ok (.getfield 33, 3) := by decide +kernel
theorem dX5_copyFrom_33 : decode cX5_copyFrom 33 = .ok (.invokevirtual 50, 3) := by decide +kernel
theorem dX5_copyFrom_36 : decode cX5_copyFrom 36 = .ok (.aload_n 1, 1) := by decide +kernel
theorem dX5_copyFrom_37 : decode cX5_copyFrom 37 = .ok (.getfield 37, 3) := by decide +kernel
theorem dX5_copyFrom_40 : decode cX5_copyFrom 40 = .ok (.iconst 0, 1) := by decide +kernel
theorem dX5_copyFrom_41 : decode cX5_copyFrom 41 = .ok (.aload_n 0, 1) := by decide +kernel
theorem dX5_copyFrom_42 : decode cX5_copyFrom 42 = .ok (.getfield 37, 3) := by decide +kernel
theorem dX5_copyFrom_45 : decode cX5_copyFrom 45 = .ok (.iconst 0, 1) := by decide +kernel
theorem dX5_copyFrom_46 : decode cX5_copyFrom 46 = .ok (.sipush 300, 3) := by decide +kernel
theorem dX5_copyFrom_49 : decode cX5_copyFrom 49 = .ok (.invokestatic 44, 3) := by decide +kernel
theorem dX5_copyFrom_52 : decode cX5_copyFrom 52 = .ok (.return_, 1) := by decide +kernel
theorem dX5_makeMove_0 : decode cX5_makeMove 0 = .ok (.aload_n 0, 1) := by decide +kernel
theorem dX5_makeMove_1 : decode cX5_makeMove 1 = .ok (.getfield 12, 3) := by decide +kernel
theorem dX5_makeMove_4 : decode cX5_makeMove 4 = .ok (.getfield 53, 3) := by decide +kernel
theorem dX5_makeMove_7 : decode cX5_makeMove 7 = .ok (.istore_n 2, 1) := by decide +kernel
theorem dX5_makeMove_8 : decode cX5_makeMove 8 = .ok (.iload_n 2, 1) := by decide +kernel
theorem dX5_makeMove_9 : decode cX5_makeMove 9 = .ok (.sipush 300, 3) := by decide +kernel
theorem dX5_makeMove_12 : decode cX5_makeMove 12 = .ok (.if_icmp .ge 10, 3) := by decide +kernel
theorem dX5_makeMove_15 : decode cX5_makeMove 15 = .ok (.aload_n 0, 1) := by decide +kernel
theorem dX5_makeMove_16 : decode cX5_makeMove 16 = .ok (.getfield 37, 3) := by decide +kernel
theorem dX5_makeMove_19 : decode cX5_makeMove 19 = .ok (.iload_n 2, 1) := by decide +kernel
theorem dX5_makeMove_20 : decode cX5_makeMove 20 = .ok (.iload_n 1, 1) := by decide +kernel
theorem dX5_makeMove_21 : decode cX5_makeMove 21 = .ok (.iastore, 1) := by decide +kernel
theorem dX5_makeMove_22 : decode cX5_makeMove 22 = .ok (.aload_n 0, 1) := by decide +kernel
theorem dX5_makeMove_23 : decode cX5_makeMove 23 = .ok (.getfield 12, 3) := by decide +kernel
theorem dX5_makeMove_26 : decode cX5_makeMove 26 = .ok (.iload_n 1, 1) := by decide +kernel
theorem dX5_makeMove_27 : decode cX5_makeMove 27 = .ok (.aload_n 0, 1) := by decide +kernel
theorem dX5_makeMove_28 : decode cX5_makeMove 28 = .ok (.getfield 27, 3) := by decide +kernel
theorem dX5_makeMove_31 : decode cX5_makeMove 31 = .ok (.aload_n 0, 1) := by decide +kernel
theorem dX5_makeMove_32 : decode cX5_makeMove 32 = .ok (.getfield 33, 3) := by decide +kernel
theorem dX5_makeMove_35 : decode cX5_makeMove 35 = .ok (.invokevirtual 57, 3) := by decide +kernel
theorem dX5_makeMove_38 : decode cX5_makeMove 38 = .ok (.return_, 1) := by decide +kernel
theorem dX6_init_0 : decode cX6_init 0 = .ok (.aload_n 0, 1) := by decide +kernel
theorem dX6_init_1 : decode cX6_init 1 = .ok (.invokespecial 3, 3) := by decide +kernel
theorem dX6_init_4 : decode cX6_init 4 = .ok (.aload_n 0, 1) := by decide +kernel
theorem dX6_init_5 : decode cX6_init 5 = .ok (.new 9, 3) := by decide +kernel
theorem dX6_init_8 : decode cX6_init 8 = .ok (.dup, 1) := by decide +kernel
theorem dX6_init_9 : decode cX6_init 9 = .ok (.invokespecial 11, 3) := by decide +kernel
theorem dX6_init_12 : decode cX6_init 12 = .ok (.putfield 12, 3) := by decide +kernel
theorem dX6_init_15 : decode cX6_init 15 = .ok (.aload_n 0, 1) := by decide +kernel
theorem dX6_init_16 : decode cX6_init 16 = .ok (.new 16, 3) := by decide +kernel
theorem dX6_init_19 : decode cX6_init 19 = .ok (.dup, 1) := by decide +kernel
theorem dX6_init_20 : decode cX6_init 20 = .ok (.invokespecial 18, 3) := by decide +kernel
theorem dX6_init_23 : decode cX6_init 23 = .ok (.putfield 19, 3) := by decide +kernel
theorem dX6_init_26 : decode cX6_init 26 = .ok (.aload_n 0, 1) := by decide +kernel
theorem dX6_init_27 : decode cX6_init 27 = .ok (.iconst 2, 1) := by decide +kernel
theorem dX6_init_28 : decode cX6_init 28 = .ok (.anewarray 9, 3) := by decide +kernel
theorem dX6_init_31 : decode cX6_init 31 = .ok (.putfield 23, 3) := by decide +kernel
theorem dX6_init_34 : decode cX6_init 34 = .ok (.aload_n 0, 1) := by decide +kernel
theorem dX6_init_35 : decode cX6_init 35 = .ok (.iconst 2, 1) := by decide +kernel
theorem dX6_init_36 : decode cX6_init 36 = .ok (.newarray .boolean, 2) := by decide +kernel
theorem dX6_init_38 : decode cX6_init 38 = .ok (.putfield 27, 3) := by decide +kernel
theorem dX6_init_41 : decode cX6_init 41 = .ok (.aload_n 0, 1) := by decide +kernel
theorem dX6_init_42 : decode cX6_init 42 = .ok (.new 31, 3) := by decide +kernel
theorem dX6_init_45 : decode cX6_init 45 = .ok (.dup, 1) := by decide +kernel
theorem dX6_init_46 : decode cX6_init 46 = .ok (.invokespecial 33, 3) := by decide +kernel
theorem dX6_init_49 : decode cX6_init 49 = .ok (.putfield 34, 3) := by decide +kernel
theorem dX6_init_52 : decode cX6_init 52 = .ok (.aload_n 0, 1) := by decide +kernel
theorem dX6_init_53 : decode cX6_init 53 = .ok (.new 38, 3) := by decide +kernel
theorem dX6_init_56 : decode cX6_init 56 = .ok (.dup, 1) := by decide +kernel
theorem dX6_init_57 : decode cX6_init 57 = .ok (.invokespecial 40, 3) := by decide +kernel
theorem dX6_init_60 : decode cX6_init 60 = .ok (.putfield 41, 3) := by decide +kernel
theorem dX6_init_63 : decode cX6_init 63 = .ok (.iconst 0, 1) := by decide +kernel
theorem dX6_init_64 : decode cX6_init 64 = .ok (.istore_n 1, 1) := by decide +kernel
theorem dX6_init_65 : decode cX6_init 65 = .ok (.iload_n 1, 1) := by decide +kernel
theorem dX6_init_66 : decode cX6_init 66 = .ok (.iconst 2, 1) := by decide +kernel
theorem dX6_init_67 : decode cX6_init 67 = .ok (.if_icmp .ge 22, 3) := by decide +kernel
theorem dX6_init_70 : decode cX6_init 70 = .ok (.aload_n 0, 1) := by decide +kernel
theorem dX6_init_71 : decode cX6_init 71 = .ok (.getfield 23, 3) := by decide +kernel
theorem dX6_init_74 : decode cX6_init 74 = .ok (.iload_n 1, 1) := by decide +kernel
theorem dX6_init_75 : decode cX6_init 75 = .ok (.new 9, 3) := by decide +kernel
theorem dX6_init_78 : decode cX6_init 78 = .ok (.dup, 1) := by decide +kernel
theorem dX6_init_79 : decode cX6_init 79 = .ok (.invokespecial 11, 3) := by decide +kernel
theorem dX6_init_82 : decode cX6_init 82 = .ok (.aastore, 1) := by decide +kernel
theorem dX6_init_83 : decode cX6_init 83 = .ok (.iinc 1 1, 3) := by decide +kernel
theorem dX6_init_86 : decode cX6_init 86 = .ok (.goto (-21), 3) := by decide +kernel
theorem dX6_init_89 : decode cX6_init 89 = .ok (.aload_n 0, 1) := by decide +kernel
theorem dX6_init_90 : decode cX6_init 90 = .ok (.getfield 12, 3) := by decide +kernel
theorem dX6_init_93 : decode cX6_init 93 = .ok (.getfield 45, 3) := by decide +kernel
theorem dX6_init_96 : decode cX6_init 96 = .ok (.aload_n 0, 1) := by decide +kernel
theorem dX6_init_97 : decode cX6_init 97 = .ok (.getfield 12, 3) := by decide +kernel
theorem dX6_init_100 : decode cX6_init 100 = .ok (.getfield 49, 3) := by decide +kernel
theorem dX6_init_103 : decode cX6_init 103 = .ok (.iconst 0, 1) := by decide +kernel
theorem dX6_init_104 : decode cX6_init 104 = .ok (.iaload, 1) := by decide +kernel
theorem dX6_init_105 : decode cX6_init 105 = .ok (.invokevirtual 53, 3) := by decide +kernel
theorem dX6_init_108 : decode cX6_init 108 = .ok (.return_, 1) := by decide +kernel
theorem dX6_set_0 : decode cX6_set 0 = .ok (.iload_n 1, 1) := by decide +kernel
theorem dX6_set_1 : decode cX6_set 1 = .ok (.ifCond .lt 26, 3) := by decide +kernel
theorem dX6_set_4 : decode cX6_set 4 = .ok (.iload_n 1, 1) := by decide +kernel
theorem dX6_set_5 : decode cX6_set 5 = .ok (.iconst 4, 1) := by decide +kernel
theorem dX6_set_6 : decode cX6_set 6 = .ok (.if_icmp .ge 21, 3) := by decide +kernel
theorem dX6_set_9 : decode cX6_set 9 = .ok (.iload_n 2, 1) := by decide +kernel
theorem dX6_set_10 : decode cX6_set 10 = .ok (.getstatic 59, 3) := by decide +kernel
theorem dX6_set_13 : decode cX6_set 13 = .ok (.iload_n 1, 1) := by decide +kernel
theorem dX6_set_14 : decode cX6_set 14 = .ok (.iaload, 1) := by decide +kernel
theorem dX6_set_15 : decode cX6_set 15 = .ok (.if_icmp .lt 12, 3) := by decide +kernel
theorem dX6_set_18 : decode cX6_set 18 = .ok (.iload_n 2, 1) := by decide +kernel
theorem dX6_set_19 : decode cX6_set 19 = .ok (.getstatic 62, 3) := by decide +kernel
theorem dX6_set_22 : decode cX6_set 22 = .ok (.iload_n 1, 1) := by decide +kernel
theorem dX6_set_23 : decode cX6_set 23 = .ok (.iaload, 1) := by decide +kernel
theorem dX6_set_24 : decode cX6_set 24 = .ok (.if_icmp .le 6, 3) := by decide +kernel
theorem dX6_set_27 : decode cX6_set 27 = .ok (.bipush (-2), 2) := by decide +kernel
theorem dX6_set_29 : decode cX6_set 29 = .ok (.ireturn, 1) := by decide +kernel
theorem dX6_set_30 : decode cX6_set 30 = .ok (.aload_n 0, 1) := by decide +kernel
theorem dX6_set_31 : decode cX6_set 31 = .ok (.getfield 19, 3) := by decide +kernel
theorem dX6_set_34 : decode cX6_set 34 = .ok (.aload_n 0, 1) := by decide +kernel
theorem dX6_set_35 : decode cX6_set 35 = .ok (.getfield 12, 3) := by decide +kernel
theorem dX6_set_38 : decode cX6_set 38 = .ok (.invokevirtual 65, 3) := by decide +kernel
theorem dX6_set_41 : decode cX6_set 41 = .ok (.aload_n 0, 1) := by decide +kernel
theorem dX6_set_42 : decode cX6_set 42 = .ok (.getfield 12, 3) := by decide +kernel
theorem dX6_set_45 : decode cX6_set 45 = .ok (.getfield 49, 3) := by decide +kernel
theorem dX6_set_48 : decode cX6_set 48 = .ok (.iload_n 1, 1) := by decide +kernel
theorem dX6_set_49 : decode cX6_set 49 = .ok (.iaload, 1) := by decide +kernel
theorem dX6_set_50 : decode cX6_set 50 = .ok (.istore_n 3, 1) := by decide +kernel
theorem dX6_set_51 : decode cX6_set 51 = .ok (.aload_n 0, 1) := by decide +kernel
theorem dX6_set_52 : decode cX6_set 52 = .ok (.getfield 12, 3) := by decide +kernel
theorem dX6_set_55 : decode cX6_set 55 = .ok (.getfield 49, 3) := by decide +kernel
theorem dX6_set_58 : decode cX6_set 58 = .ok (.iload_n 1, 1) := by decide +kernel
theorem dX6_set_59 : decode cX6_set 59 = .ok (.iload_n 2, 1) := by decide +kernel
theorem dX6_set_60 : decode cX6_set 60 = .ok (.iastore, 1) := by decide +kernel
theorem dX6_set_61 : decode cX6_set 61 = .ok (.iload_n 3, 1) := by decide +kernel
theorem dX6_set_62 : decode cX6_set 62 = .ok (.ireturn, 1) := by decide +kernel
theorem dX6_begin_0 : decode cX6_begin 0 = .ok (.aload_n 0, 1) := by decide +kernel
theorem dX6_begin_1 : decode cX6_begin 1 = .ok (.getfield 19, 3) := by decide +kernel
theorem dX6_begin_4 : decode cX6_begin 4 = .ok (.aload_n 0, 1) := by decide +kernel
theorem dX6_begin_5 : decode cX6_begin 5 = .ok (.getfield 12, 3) := by decide +kernel
theorem dX6_begin_8 : decode cX6_begin 8 = .ok (.invokevirtual 65, 3) := by decide +kernel
theorem dX6_begin_11 : decode cX6_begin 11 = .ok (.aload_n 0, 1) := by decide +kernel
theorem dX6_begin_12 : decode cX6_begin 12 = .ok (.getfield 12, 3) := by decide +kernel
theorem dX6_begin_15 : decode cX6_begin 15 = .ok (.getfield 45, 3) := by decide +kernel
theorem dX6_begin_18 : decode cX6_begin 18 = .ok (.getfield 69, 3) := by decide +kernel
theorem dX6_begin_21 : decode cX6_begin 21 = .ok (.istore_n 1, 1) := by decide +kernel
theorem dX6_begin_22 : decode cX6_begin 22 = .ok (.aload_n 0, 1) := by decide +kernel
theorem dX6_begin_23 : decode cX6_begin 23 = .ok (.getfield 12, 3) := by decide +kernel
theorem dX6_begin_26 : decode cX6_begin 26 = .ok (.getfield 45, 3) := by decide +kernel
theorem dX6_begin_29 : decode cX6_begin 29 = .ok (.aload_n 0, 1) := by decide +kernel
theorem dX6_begin_30 : decode cX6_begin 30 = .ok (.getfield 12, 3) := by decide +kernel
theorem dX6_begin_33 : decode cX6_begin 33 = .ok (.getfield 49, 3) := by decide +kernel
theorem dX6_begin_36 : decode cX6_begin 36 = .ok (.iconst 0, 1) := by decide +kernel
theorem dX6_begin_37 : decode cX6_begin 37 = .ok (.iaload, 1) := by decide +kernel
theorem dX6_begin_38 : decode cX6_begin 38 = .ok (.invokevirtual 53, 3) := by decide +kernel
theorem dX6_begin_41 : decode cX6_begin 41 = .ok (.iload_n 1, 1) := by decide +kernel
theorem dX6_begin_42 : decode cX6_begin 42 = .ok (.ireturn, 1) := by decide +kernel
theorem dX6_move_0 : decode cX6_move 0 = .ok (.aload_n 0, 1) := by decide +kernel
theorem dX6_move_1 : decode cX6_move 1 = .ok (.iload_n 1, 1) := by decide +kernel
theorem dX6_move_2 : decode cX6_move 2 = .ok (.invokevirtual 73, 3) := by decide +kernel
theorem dX6_move_5 : decode cX6_move 5 = .ok (.istore_n 2, 1) := by decide +kernel
theorem dX6_move_6 : decode cX6_move 6 = .ok (.iload_n 2, 1) := by decide +kernel
theorem dX6_move_7 : decode cX6_move 7 = .ok (.ifCond .eq 5, 3) := by decide +kernel
theorem dX6_move_10 : decode cX6_move 10 = .ok (.iload_n 2, 1) := by decide +kernel
theorem dX6_move_11 : decode cX6_move 11 = .ok (.ireturn, 1) := by decide +kernel
theorem dX6_move_12 : decode cX6_move 12 = .ok (.aload_n 0, 1) := by decide +kernel
theorem dX6_move_13 : decode cX6_move 13 = .ok (.getfield 19, 3) := by decide +kernel
theorem dX6_move_16 : decode cX6_move 16 = .ok (.aload_n 0, 1) := by decide +kernel
theorem dX6_move_17 : decode cX6_move 17 = .ok (.getfield 12, 3) := by decide +kernel
theorem dX6_move_20 : decode cX6_move 20 = .ok (.invokevirtual 65, 3) := by decide +kernel
theorem dX6_move_23 : decode cX6_move 23 = .ok (.aload_n 0, 1) := by decide +kernel
theorem dX6_move_24 : decode cX6_move 24 = .ok (.getfield 12, 3) := by decide +kernel
theorem dX6_move_27 : decode cX6_move 27 = .ok (.iload_n 1, 1) := by decide +kernel
theorem dX6_move_28 : decode cX6_move 28 = .ok (.invokevirtual 77, 3) := by decide +kernel
theorem dX6_move_31 : decode cX6_move 31 = .ok (.aload_n 0, 1) := by decide +kernel
theorem dX6_move_32 : decode cX6_move 32 = .ok (.getfield 12, 3) := by decide +kernel
theorem dX6_move_35 : decode cX6_move 35 = .ok (.getfield 80, 3) := by decide +kernel
theorem dX6_move_38 : decode cX6_move 38 = .ok (.getfield 84, 3) := by decide +kernel
theorem dX6_move_41 : decode cX6_move 41 = .ok (.ireturn, 1) := by decide +kernel
theorem dX6_play_0 : decode cX6_play 0 = .ok (.iload_n 1, 1) := by decide +kernel
theorem dX6_play_1 : decode cX6_play 1 = .ok (.iconst 1, 1) := by decide +kernel
theorem dX6_play_2 : decode cX6_play 2 = .ok (.if_icmp .lt 8, 3) := by decide +kernel
theorem dX6_play_5 : decode cX6_play 5 = .ok (.iload_n 1, 1) := by decide +kernel
theorem dX6_play_6 : decode cX6_play 6 = .ok (.iconst 4, 1) := by decide +kernel
theorem dX6_play_7 : decode cX6_play 7 = .ok (.if_icmp .le 6, 3) := by decide +kernel
theorem dX6_play_10 : decode cX6_play 10 = .ok (.bipush (-2), 2) := by decide +kernel
theorem dX6_play_12 : decode cX6_play 12 = .ok (.ireturn, 1) := by decide +kernel
theorem dX6_play_13 : decode cX6_play 13 = .ok (.aload_n 0, 1) := by decide +kernel
theorem dX6_play_14 : decode cX6_play 14 = .ok (.getfield 41, 3) := by decide +kernel
theorem dX6_play_17 : decode cX6_play 17 = .ok (.aload_n 0, 1) := by decide +kernel
theorem dX6_play_18 : decode cX6_play 18 = .ok (.getfield 12, 3) := by decide +kernel
theorem dX6_play_21 : decode cX6_play 21 = .ok (.getfield 45, 3) := by decide +kernel
theorem dX6_play_24 : decode cX6_play 24 = .ok (.aload_n 0, 1) := by decide +kernel
theorem dX6_play_25 : decode cX6_play 25 = .ok (.getfield 12, 3) := by decide +kernel
theorem dX6_play_28 : decode cX6_play 28 = .ok (.getfield 49, 3) := by decide +kernel
theorem dX6_play_31 : decode cX6_play 31 = .ok (.iload_n 1, 1) := by decide +kernel
theorem dX6_play_32 : decode cX6_play 32 = .ok (.invokevirtual 89, 3) := by decide +kernel
theorem dX6_play_35 : decode cX6_play 35 = .ok (.istore_n 2, 1) := by decide +kernel
theorem dX6_play_36 : decode cX6_play 36 = .ok (.iload_n 2, 1) := by decide +kernel
theorem dX6_play_37 : decode cX6_play 37 = .ok (.bipush (-6), 2) := by decide +kernel
theorem dX6_play_39 : decode cX6_play 39 = .ok (.if_icmp .ne 6, 3) := by decide +kernel
theorem dX6_play_42 : decode cX6_play 42 = .ok (.bipush (-5), 2) := by decide +kernel
theorem dX6_play_44 : decode cX6_play 44 = .ok (.ireturn, 1) := by decide +kernel
theorem dX6_play_45 : decode cX6_play 45 = .ok (.aload_n 0, 1) := by decide +kernel
theorem dX6_play_46 : decode cX6_play 46 = .ok (.getfield 19, 3) := by decide +kernel
theorem dX6_play_49 : decode cX6_play 49 = .ok (.aload_n 0, 1) := by decide +kernel
theorem dX6_play_50 : decode cX6_play 50 = .ok (.getfield 12, 3) := by decide +kernel
theorem dX6_play_53 : decode cX6_play 53 = .ok (.invokevirtual 65, 3) := by decide +kernel
theorem dX6_play_56 : decode cX6_play 56 = .ok (.aload_n 0, 1) := by decide +kernel
theorem dX6_play_57 : decode cX6_play 57 = .ok (.getfield 12, 3) := by decide +kernel
theorem dX6_play_60 : decode cX6_play 60 = .ok (.iload_n 2, 1) := by decide +kernel
theorem dX6_play_61 : decode cX6_play 61 = .ok (.invokevirtual 77, 3) := by decide +kernel
theorem dX6_play_64 : decode cX6_play 64 = .ok (.iload_n 2, 1) := by decide +kernel
theorem dX6_play_65 : decode cX6_play 65 = .ok (.ireturn, 1) := by decide +kernel
theorem dX6_read_0 : decode cX6_read 0 = .ok (.aload_n 0, 1) := by decide +kernel
theorem dX6_read_1 : decode cX6_read 1 = .ok (.getfield 34, 3) := by decide +kernel
theorem dX6_read_4 : decode cX6_read 4 = .ok (.invokevirtual 93, 3) := by decide +kernel
theorem dX6_read_7 : decode cX6_read 7 = .ok (.bipush (-6), 2) := by decide +kernel
theorem dX6_read_9 : decode cX6_read 9 = .ok (.if_icmp .eq 6, 3) := by decide +kernel
theorem dX6_read_12 : decode cX6_read 12 = .ok (.bipush (-3), 2) := by decide +kernel
theorem dX6_read_14 : decode cX6_read 14 = .ok (.ireturn, 1) := by decide +kernel
theorem dX6_read_15 : decode cX6_read 15 = .ok (.aload_n 0, 1) := by decide +kernel
theorem dX6_read_16 : decode cX6_read 16 = .ok (.getfield 19, 3) := by decide +kernel
theorem dX6_read_19 : decode cX6_read 19 = .ok (.aload_n 0, 1) := by decide +kernel
theorem dX6_read_20 : decode cX6_read 20 = .ok (.getfield 12, 3) := by decide +kernel
theorem dX6_read_23 : decode cX6_read 23 = .ok (.invokevirtual 65, 3) := by decide +kernel
theorem dX6_read_26 : decode cX6_read 26 = .ok (.aload_n 0, 1) := by decide +kernel
theorem dX6_read_27 : decode cX6_read 27 = .ok (.getfield 12, 3) := by decide +kernel
theorem dX6_read_30 : decode cX6_read 30 = .ok (.getfield 45, 3) := by decide +kernel
theorem dX6_read_33 : decode cX6_read 33 = .ok (.aload_n 0, 1) := by decide +kernel
theorem dX6_read_34 : decode cX6_read 34 = .ok (.getfield 34, 3) := by decide +kernel
theorem dX6_read_37 : decode cX6_read 37 = .ok (.getfield 97, 3) := by decide +kernel
theorem dX6_read_40 : decode cX6_read 40 = .ok (.invokevirtual 100, 3) := by decide +kernel
theorem dX6_read_43 : decode cX6_read 43 = .ok (.aload_n 0, 1) := by decide +kernel
theorem dX6_read_44 : decode cX6_read 44 = .ok (.getfield 34, 3) := by decide +kernel
theorem dX6_read_47 : decode cX6_read 47 = .ok (.iconst 0, 1) := by decide +kernel
theorem dX6_read_48 : decode cX6_read 48 = .ok (.putfield 104, 3) := by decide +kernel
theorem dX6_read_51 : decode cX6_read 51 = .ok (.aload_n 0, 1) := by decide +kernel
theorem dX6_read_52 : decode cX6_read 52 = .ok (.getfield 12, 3) := by decide +kernel
theorem dX6_read_55 : decode cX6_read 55 = .ok (.getfield 45, 3) := by decide +kernel
theorem dX6_read_58 : decode cX6_read 58 = .ok (.invokevirtual 107, 3) := by decide +kernel
theorem dX6_read_61 : decode cX6_read 61 = .ok (.ireturn, 1) := by decide +kernel
theorem dX6_house_0 : decode cX6_house 0 = .ok (.iload_n 1, 1) := by decide +kernel
theorem dX6_house_1 : decode cX6_house 1 = .ok (.invokestatic 110, 3) := by decide +kernel
theorem dX6_house_4 : decode cX6_house 4 = .ok (.ifCond .ne 5, 3) := by decide +kernel
theorem dX6_house_7 : decode cX6_house 7 = .ok (.iconst (-1), 1) := by decide +kernel
theorem dX6_house_8 : decode cX6_house 8 = .ok (.ireturn, 1) := by decide +kernel
theorem dX6_house_9 : decode cX6_house 9 = .ok (.iload_n 2, 1) := by decide +kernel
theorem dX6_house_10 : decode cX6_house 10 = .ok (.tableswitch 79 0 2 #[26, 39, 52], 26) := by decide +kernel
theorem dX6_house_36 : decode cX6_house 36 = .ok (.aload_n 0, 1) := by decide +kernel
theorem dX6_house_37 : decode cX6_house 37 = .ok (.getfield 12, 3) := by decide +kernel
theorem dX6_house_40 : decode cX6_house 40 = .ok (.getfield 45, 3) := by decide +kernel
theorem dX6_house_43 : decode cX6_house 43 = .ok (.getfield 114, 3) := by decide +kernel
theorem dX6_house_46 : decode cX6_house 46 = .ok (.iload_n 1, 1) := by decide +kernel
theorem dX6_house_47 : decode cX6_house 47 = .ok (.iaload, 1) := by decide +kernel
theorem dX6_house_48 : decode cX6_house 48 = .ok (.ireturn, 1) := by decide +kernel
theorem dX6_house_49 : decode cX6_house 49 = .ok (.aload_n 0, 1) := by decide +kernel
theorem dX6_house_50 : decode cX6_house 50 = .ok (.getfield 12, 3) := by decide +kernel
theorem dX6_house_53 : decode cX6_house 53 = .ok (.getfield 45, 3) := by decide +kernel
theorem dX6_house_56 : decode cX6_house 56 = .ok (.getfield 117, 3) := by decide +kernel
theorem dX6_house_59 : decode cX6_house 59 = .ok (.iload_n 1, 1) := by decide +kernel
theorem dX6_house_60 : decode cX6_house 60 = .ok (.iaload, 1) := by decide +kernel
theorem dX6_house_61 : decode cX6_house 61 = .ok (.ireturn, 1) := by decide +kernel
theorem dX6_house_62 : decode cX6_house 62 = .ok (.aload_n 0, 1) := by decide +kernel
theorem dX6_house_63 : decode cX6_house 63 = .ok (.getfield 12, 3) := by decide +kernel
theorem dX6_house_66 : decode cX6_house 66 = .ok (.getfield 45, 3) := by decide +kernel
theorem dX6_house_69 : decode cX6_house 69 = .ok (.iload_n 1, 1) := by decide +kernel
theorem dX6_house_70 : decode cX6_house 70 = .ok (.aload_n 0, 1) := by decide +kernel
theorem dX6_house_71 : decode cX6_house 71 = .ok (.getfield 12, 3) := by decide +kernel
theorem dX6_house_74 : decode cX6_house 74 = .ok (.getfield 49, 3) := by decide +kernel
theorem dX6_house_77 : decode cX6_house 77 = .ok (.invokevirtual 120, 3) := by decide +kernel
theorem dX6_house_80 : decode cX6_house 80 = .ok (.ifCond .eq 7, 3) := by decide +kernel
theorem dX6_house_83 : decode cX6_house 83 = .ok (.iconst 1, 1) := by decide +kernel
theorem dX6_house_84 : decode cX6_house 84 = .ok (.goto 4, 3) := by decide +kernel
theorem dX6_house_87 : decode cX6_house 87 = .ok (.iconst 0, 1) := by decide +kernel
theorem dX6_house_88 : decode cX6_house 88 = .ok (.ireturn, 1) := by decide +kernel
theorem dX6_house_89 : decode cX6_house 89 = .ok (.bipush (-2), 2) := by decide +kernel
theorem dX6_house_91 : decode cX6_house 91 = .ok (.ireturn, 1) := by decide +kernel
theorem dX6_count_0 : decode cX6_count 0 = .ok (.aload_n 0, 1) := by decide +kernel
theorem dX6_count_1 : decode cX6_count 1 = .ok (.getfield 12, 3) := by decide +kernel
theorem dX6_count_4 : decode cX6_count 4 = .ok (.getfield 45, 3) := by decide +kernel
theorem dX6_count_7 : decode cX6_count 7 = .ok (.astore_n 2, 1) := by decide +kernel
theorem dX6_count_8 : decode cX6_count 8 = .ok (.iload_n 1, 1) := by decide +kernel
theorem dX6_count_9 : decode cX6_count 9 = .ok (.tableswitch 198 0 13 #[71, 76, 89, 106, 113, 120, 125, 130, 140, 150, 160, 170, 182, 190], 71) := by decide +kernel
theorem dX6_count_80 : decode cX6_count 80 = .ok (.aload_n 2, 1) := by decide +kernel
theorem dX6_count_81 : decode cX6_count 81 = .ok (.getfield 124, 3) := by decide +kernel
theorem dX6_count_84 : decode cX6_count 84 = .ok (.ireturn, 1) := by decide +kernel
theorem dX6_count_85 : decode cX6_count 85 = .ok (.aload_n 2, 1) := by decide +kernel
theorem dX6_count_86 : decode cX6_count 86 = .ok (.getfield 127, 3) := by decide +kernel
theorem dX6_count_89 : decode cX6_count 89 = .ok (.ifCond .eq 7, 3) := by decide +kernel
theorem dX6_count_92 : decode cX6_count 92 = .ok (.iconst 1, 1) := by decide +kernel
theorem dX6_count_93 : decode cX6_count 93 = .ok (.goto 4, 3) := by decide +kernel
theorem dX6_count_96 : decode cX6_count 96 = .ok (.iconst 0, 1) := by decide +kernel
theorem dX6_count_97 : decode cX6_count 97 = .ok (.ireturn, 1) := by decide +kernel
theorem dX6_count_98 : decode cX6_count 98 = .ok (.aload_n 2, 1) := by decide +kernel
theorem dX6_count_99 : decode cX6_count 99 = .ok (.getfield 127, 3) := by decide +kernel
theorem dX6_count_102 : decode cX6_count 102 = .ok (.ifCond .eq 10, 3) := by decide +kernel
theorem dX6_count_105 : decode cX6_count 105 = .ok (.aload_n 2, 1) := by decide +kernel
theorem dX6_count_106 : decode cX6_count 106 = .ok (.invokevirtual 131, 3) := by decide +kernel
theorem dX6_count_109 : decode cX6_count 109 = .ok (.goto 5, 3) := by decide +kernel
theorem dX6_count_112 : decode cX6_count 112 = .ok (.bipush (-6), 2) := by decide +kernel
theorem dX6_count_114 : decode cX6_count 114 = .ok (.ireturn, 1) := by decide +kernel
theorem dX6_count_115 : decode cX6_count 115 = .ok (.aload_n 2, 1) := by decide +kernel
theorem dX6_count_116 : decode cX6_count 116 = .ok (.getfield 134, 3) := by decide +kernel
theorem dX6_count_119 : decode cX6_count 119 = .ok (.iconst 0, 1) := by decide +kernel
theorem dX6_count_120 : decode cX6_count 120 = .ok (.iaload, 1) := by decide +kernel
theorem dX6_count_121 : decode cX6_count 121 = .ok (.ireturn, 1) := by decide +kernel
theorem dX6_count_122 : decode cX6_count 122 = .ok (.aload_n 2, 1) := by decide +kernel
theorem dX6_count_123 : decode cX6_count 123 = .ok (.getfield 134, 3) := by decide +kernel
theorem dX6_count_126 : decode cX6_count 126 = .ok (.iconst 1, 1) := by decide +kernel
theorem dX6_count_127 : decode cX6_count 127 = .ok (.iaload, 1) := by decide +kernel
theorem dX6_count_128 : decode cX6_count 128 = .ok (.ireturn, 1) := by decide +kernel
theorem dX6_count_129 : decode cX6_count 129 = .ok (.aload_n 2, 1) := by decide +kernel
theorem dX6_count_130 : decode cX6_count 130 = .ok (.invokevirtual 107, 3) := by decide +kernel
theorem dX6_count_133 : decode cX6_count 133 = .ok (.ireturn, 1) := by decide +kernel
theorem dX6_count_134 : decode cX6_count 134 = .ok (.aload_n 2, 1) := by decide +kernel
theorem dX6_count_135 : decode cX6_count 135 = .ok (.getfield 69, 3) := by decide +kernel
theorem dX6_count_138 : decode cX6_count 138 = .ok (.ireturn, 1) := by decide +kernel
theorem dX6_count_139 : decode cX6_count 139 = .ok (.aload_n 0, 1) := by decide +kernel
theorem dX6_count_140 : decode cX6_count 140 = .ok (.getfield 12, 3) := by decide +kernel
theorem dX6_count_143 : decode cX6_count 143 = .ok (.getfield 49, 3) := by decide +kernel
theorem dX6_count_146 : decode cX6_count 146 = .ok (.iconst 0, 1) := by decide +kernel
theorem dX6_count_147 : decode cX6_count 147 = .ok (.iaload, 1) := by decide +kernel
theorem dX6_count_148 : decode cX6_count 148 = .ok (.ireturn, 1) := by decide +kernel
theorem dX6_count_149 : decode cX6_count 149 = .ok (.aload_n 0, 1) := by decide +kernel
theorem dX6_count_150 : decode cX6_count 150 = .ok (.getfield 12, 3) := by decide +kernel
theorem dX6_count_153 : decode cX6_count 153 = .ok (.getfield 49, 3) := by decide +kernel
theorem dX6_count_156 : decode cX6_count 156 = .ok (.iconst 1, 1) := by decide +kernel
theorem dX6_count_157 : decode cX6_count 157 = .ok (.iaload, 1) := by decide +kernel
theorem dX6_count_158 : decode cX6_count 158 = .ok (.ireturn, 1) := by decide +kernel
theorem dX6_count_159 : decode cX6_count 159 = .ok (.aload_n 0, 1) := by decide +kernel
theorem dX6_count_160 : decode cX6_count 160 = .ok (.getfield 12, 3) := by decide +kernel
theorem dX6_count_163 : decode cX6_count 163 = .ok (.getfield 49, 3) := by decide +kernel
theorem dX6_count_166 : decode cX6_count 166 = .ok (.iconst 2, 1) := by decide +kernel
theorem dX6_count_167 : decode cX6_count 167 = .ok (.iaload, 1) := by decide +kernel
theorem dX6_count_168 : decode cX6_count 168 = .ok (.ireturn, 1) := by decide +kernel
theorem dX6_count_169 : decode cX6_count 169 = .ok (.aload_n 0, 1) := by decide +kernel
theorem dX6_count_170 : decode cX6_count 170 = .ok (.getfield 12, 3) := by decide +kernel
theorem dX6_count_173 : decode cX6_count 173 = .ok (.getfield 49, 3) := by decide +kernel
theorem dX6_count_176 : decode cX6_count 176 = .ok (.iconst 3, 1) := by decide +kernel
theorem dX6_count_177 : decode cX6_count 177 = .ok (.iaload, 1) := by decide +kernel
theorem dX6_count_178 : decode cX6_count 178 = .ok (.ireturn, 1) := by decide +kernel
theorem dX6_count_179 : decode cX6_count 179 = .ok (.aload_n 2, 1) := by decide +kernel
theorem dX6_count_180 : decode cX6_count 180 = .ok (.aload_n 0, 1) := by decide +kernel
theorem dX6_count_181 : decode cX6_count 181 = .ok (.getfield 12, 3) := by decide +kernel
theorem dX6_count_184 : decode cX6_count 184 = .ok (.getfield 49, 3) := by decide +kernel
theorem dX6_count_187 : decode cX6_count 187 = .ok (.invokevirtual 137, 3) := by decide +kernel
theorem dX6_count_190 : decode cX6_count 190 = .ok (.ireturn, 1) := by decide +kernel
theorem dX6_count_191 : decode cX6_count 191 = .ok (.aload_n 0, 1) := by decide +kernel
theorem dX6_count_192 : decode cX6_count 192 = .ok (.getfield 34, 3) := by decide +kernel
theorem dX6_count_195 : decode cX6_count 195 = .ok (.getfield 104, 3) := by decide +kernel
theorem dX6_count_198 : decode cX6_count 198 = .ok (.ireturn, 1) := by decide +kernel
theorem dX6_count_199 : decode cX6_count 199 = .ok (.aload_n 0, 1) := by decide +kernel
theorem dX6_count_200 : decode cX6_count 200 = .ok (.getfield 19, 3) := by decide +kernel
theorem dX6_count_203 : decode cX6_count 203 = .ok (.getfield 141, 3) := by decide +kernel
theorem dX6_count_206 : decode cX6_count 206 = .ok (.ireturn, 1) := by decide +kernel
theorem dX6_count_207 : decode cX6_count 207 = .ok (.bipush (-2), 2) := by decide +kernel
theorem dX6_count_209 : decode cX6_count 209 = .ok (.ireturn, 1) := by decide +kernel
theorem dX6_last_0 : decode cX6_last 0 = .ok (.iload_n 1, 1) := by decide +kernel
theorem dX6_last_1 : decode cX6_last 1 = .ok (.ifCond .lt 8, 3) := by decide +kernel
theorem dX6_last_4 : decode cX6_last 4 = .ok (.iload_n 1, 1) := by decide +kernel
theorem dX6_last_5 : decode cX6_last 5 = .ok (.iconst 4, 1) := by decide +kernel
theorem dX6_last_6 : decode cX6_last 6 = .ok (.if_icmp .le 6, 3) := by decide +kernel
theorem dX6_last_9 : decode cX6_last 9 = .ok (.bipush (-2), 2) := by decide +kernel
theorem dX6_last_11 : decode cX6_last 11 = .ok (.ireturn, 1) := by decide +kernel
theorem dX6_last_12 : decode cX6_last 12 = .ok (.aload_n 0, 1) := by decide +kernel
theorem dX6_last_13 : decode cX6_last 13 = .ok (.getfield 12, 3) := by decide +kernel
theorem dX6_last_16 : decode cX6_last 16 = .ok (.getfield 45, 3) := by decide +kernel
theorem dX6_last_19 : decode cX6_last 19 = .ok (.getfield 69, 3) := by decide +kernel
theorem dX6_last_22 : decode cX6_last 22 = .ok (.ifCond .ne 6, 3) := by decide +kernel
theorem dX6_last_25 : decode cX6_last 25 = .ok (.bipush (-6), 2) := by decide +kernel
theorem dX6_last_27 : decode cX6_last 27 = .ok (.ireturn, 1) := by decide +kernel
theorem dX6_last_28 : decode cX6_last 28 = .ok (.iload_n 1, 1) := by decide +kernel
theorem dX6_last_29 : decode cX6_last 29 = .ok (.tableswitch 75 0 3 #[31, 42, 53, 64], 31) := by decide +kernel
theorem dX6_last_60 : decode cX6_last 60 = .ok (.aload_n 0, 1) := by decide +kernel
theorem dX6_last_61 : decode cX6_last 61 = .ok (.getfield 12, 3) := by decide +kernel
theorem dX6_last_64 : decode cX6_last 64 = .ok (.getfield 80, 3) := by decide +kernel
theorem dX6_last_67 : decode cX6_last 67 = .ok (.getfield 144, 3) := by decide +kernel
theorem dX6_last_70 : decode cX6_last 70 = .ok (.ireturn, 1) := by decide +kernel
theorem dX6_last_71 : decode cX6_last 71 = .ok (.aload_n 0, 1) := by decide +kernel
theorem dX6_last_72 : decode cX6_last 72 = .ok (.getfield 12, 3) := by decide +kernel
theorem dX6_last_75 : decode cX6_last 75 = .ok (.getfield 80, 3) := by decide +kernel
theorem dX6_last_78 : decode cX6_last 78 = .ok (.getfield 84, 3) := by decide +kernel
theorem dX6_last_81 : decode cX6_last 81 = .ok (.ireturn, 1) := by decide +kernel
theorem dX6_last_82 : decode cX6_last 82 = .ok (.aload_n 0, 1) := by decide +kernel
theorem dX6_last_83 : decode cX6_last 83 = .ok (.getfield 12, 3) := by decide +kernel
theorem dX6_last_86 : decode cX6_last 86 = .ok (.getfield 80, 3) := by decide +kernel
theorem dX6_last_89 : decode cX6_last 89 = .ok (.getfield 147, 3) := by decide +kernel
theorem dX6_last_92 : decode cX6_last 92 = .ok (.ireturn, 1) := by decide +kernel
theorem dX6_last_93 : decode cX6_last 93 = .ok (.aload_n 0, 1) := by decide +kernel
theorem dX6_last_94 : decode cX6_last 94 = .ok (.getfield 12, 3) := by decide +kernel
theorem dX6_last_97 : decode cX6_last 97 = .ok (.getfield 80, 3) := by decide +kernel
theorem dX6_last_100 : decode cX6_last 100 = .ok (.getfield 150, 3) := by decide +kernel
theorem dX6_last_103 : decode cX6_last 103 = .ok (.ireturn, 1) := by decide +kernel
theorem dX6_last_104 : decode cX6_last 104 = .ok (.aload_n 0, 1) := by decide +kernel
theorem dX6_last_105 : decode cX6_last 105 = .ok (.getfield 12, 3) := by decide +kernel
theorem dX6_last_108 : decode cX6_last 108 = .ok (.getfield 80, 3) := by decide +kernel
theorem dX6_last_111 : decode cX6_last 111 = .ok (.getfield 153, 3) := by decide +kernel
theorem dX6_last_114 : decode cX6_last 114 = .ok (.ireturn, 1) := by decide +kernel
theorem dX6_moved_0 : decode cX6_moved 0 = .ok (.iload_n 1, 1) := by decide +kernel
theorem dX6_moved_1 : decode cX6_moved 1 = .ok (.ifCond .lt 24, 3) := by decide +kernel
theorem dX6_moved_4 : decode cX6_moved 4 = .ok (.iload_n 1, 1) := by decide +kernel
theorem dX6_moved_5 : decode cX6_moved 5 = .ok (.aload_n 0, 1) := by decide +kernel
theorem dX6_moved_6 : decode cX6_moved 6 = .ok (.getfield 12, 3) := by decide +kernel
theorem dX6_moved_9 : decode cX6_moved 9 = .ok (.getfield 45, 3) := by decide +kernel
theorem dX6_moved_12 : decode cX6_moved 12 = .ok (.getfield 69, 3) := by decide +kernel
theorem dX6_moved_15 : decode cX6_moved 15 = .ok (.if_icmp .ge 10, 3) := by decide +kernel
theorem dX6_moved_18 : decode cX6_moved 18 = .ok (.iload_n 1, 1) := by decide +kernel
theorem dX6_moved_19 : decode cX6_moved 19 = .ok (.sipush 300, 3) := by decide +kernel
theorem dX6_moved_22 : decode cX6_moved 22 = .ok (.if_icmp .lt 5, 3) := by decide +kernel
theorem dX6_moved_25 : decode cX6_moved 25 = .ok (.iconst (-1), 1) := by decide +kernel
theorem dX6_moved_26 : decode cX6_moved 26 = .ok (.ireturn, 1) := by decide +kernel
theorem dX6_moved_27 : decode cX6_moved 27 = .ok (.aload_n 0, 1) := by decide +kernel
theorem dX6_moved_28 : decode cX6_moved 28 = .ok (.getfield 12, 3) := by decide +kernel
theorem dX6_moved_31 : decode cX6_moved 31 = .ok (.getfield 156, 3) := by decide +kernel
theorem dX6_moved_34 : decode cX6_moved 34 = .ok (.iload_n 1, 1) := by decide +kernel
theorem dX6_moved_35 : decode cX6_moved 35 = .ok (.iaload, 1) := by decide +kernel
theorem dX6_moved_36 : decode cX6_moved 36 = .ok (.ireturn, 1) := by decide +kernel
theorem dX6_ifMove_0 : decode cX6_ifMove 0 = .ok (.aload_n 0, 1) := by decide +kernel
theorem dX6_ifMove_1 : decode cX6_ifMove 1 = .ok (.iload_n 1, 1) := by decide +kernel
theorem dX6_ifMove_2 : decode cX6_ifMove 2 = .ok (.invokevirtual 73, 3) := by decide +kernel
theorem dX6_ifMove_5 : decode cX6_ifMove 5 = .ok (.istore_n 3, 1) := by decide +kernel
theorem dX6_ifMove_6 : decode cX6_ifMove 6 = .ok (.iload_n 3, 1) := by decide +kernel
theorem dX6_ifMove_7 : decode cX6_ifMove 7 = .ok (.ifCond .eq 5, 3) := by decide +kernel
theorem dX6_ifMove_10 : decode cX6_ifMove 10 = .ok (.iload_n 3, 1) := by decide +kernel
theorem dX6_ifMove_11 : decode cX6_ifMove 11 = .ok (.ireturn, 1) := by decide +kernel
theorem dX6_ifMove_12 : decode cX6_ifMove 12 = .ok (.iload_n 2, 1) := by decide +kernel
theorem dX6_ifMove_13 : decode cX6_ifMove 13 = .ok (.ifCond .lt 9, 3) := by decide +kernel
theorem dX6_ifMove_16 : decode cX6_ifMove 16 = .ok (.iload_n 2, 1) := by decide +kernel
theorem dX6_ifMove_17 : decode cX6_ifMove 17 = .ok (.bipush 6, 2) := by decide +kernel
theorem dX6_ifMove_19 : decode cX6_ifMove 19 = .ok (.if_icmp .le 6, 3) := by decide +kernel
theorem dX6_ifMove_22 : decode cX6_ifMove 22 = .ok (.bipush (-2), 2) := by decide +kernel
theorem dX6_ifMove_24 : decode cX6_ifMove 24 = .ok (.ireturn, 1) := by decide +kernel
theorem dX6_ifMove_25 : decode cX6_ifMove 25 = .ok (.aload_n 0, 1) := by decide +kernel
theorem dX6_ifMove_26 : decode cX6_ifMove 26 = .ok (.getfield 41, 3) := by decide +kernel
theorem dX6_ifMove_29 : decode cX6_ifMove 29 = .ok (.getfield 159, 3) := by decide +kernel
theorem dX6_ifMove_32 : decode cX6_ifMove 32 = .ok (.astore 4, 2) := by decide +kernel
theorem dX6_ifMove_34 : decode cX6_ifMove 34 = .ok (.aload_n 0, 1) := by decide +kernel
theorem dX6_ifMove_35 : decode cX6_ifMove 35 = .ok (.getfield 41, 3) := by decide +kernel
theorem dX6_ifMove_38 : decode cX6_ifMove 38 = .ok (.getfield 162, 3) := by decide +kernel
theorem dX6_ifMove_41 : decode cX6_ifMove 41 = .ok (.astore 5, 2) := by decide +kernel
theorem dX6_ifMove_43 : decode cX6_ifMove 43 = .ok (.aload 4, 2) := by decide +kernel
theorem dX6_ifMove_45 : decode cX6_ifMove 45 = .ok (.aload_n 0, 1) := by decide +kernel
theorem dX6_ifMove_46 : decode cX6_ifMove 46 = .ok (.getfield 12, 3) := by decide +kernel
theorem dX6_ifMove_49 : decode cX6_ifMove 49 = .ok (.getfield 45, 3) := by decide +kernel
theorem dX6_ifMove_52 : decode cX6_ifMove 52 = .ok (.invokevirtual 165, 3) := by decide +kernel
theorem dX6_ifMove_55 : decode cX6_ifMove 55 = .ok (.aload 4, 2) := by decide +kernel
theorem dX6_ifMove_57 : decode cX6_ifMove 57 = .ok (.iload_n 1, 1) := by decide +kernel
theorem dX6_ifMove_58 : decode cX6_ifMove 58 = .ok (.aload_n 0, 1) := by decide +kernel
theorem dX6_ifMove_59 : decode cX6_ifMove 59 = .ok (.getfield 12, 3) := by decide +kernel
theorem dX6_ifMove_62 : decode cX6_ifMove 62 = .ok (.getfield 49, 3) := by decide +kernel
theorem dX6_ifMove_65 : decode cX6_ifMove 65 = .ok (.aload 5, 2) := by decide +kernel
theorem dX6_ifMove_67 : decode cX6_ifMove 67 = .ok (.invokevirtual 169, 3) := by decide +kernel
theorem dX6_ifMove_70 : decode cX6_ifMove 70 = .ok (.iload_n 2, 1) := by decide +kernel
theorem dX6_ifMove_71 : decode cX6_ifMove 71 = .ok (.tableswitch 84 0 5 #[37, 43, 49, 55, 61, 78], 37) := by decide +kernel
theorem dX6_ifMove_108 : decode cX6_ifMove 108 = .ok (.aload 5, 2) := by decide +kernel
theorem dX6_ifMove_110 : decode cX6_ifMove 110 = .ok (.getfield 84, 3) := by decide +kernel
theorem dX6_ifMove_113 : decode cX6_ifMove 113 = .ok (.ireturn, 1) := by decide +kernel
theorem dX6_ifMove_114 : decode cX6_ifMove 114 = .ok (.aload 5, 2) := by decide +kernel
theorem dX6_ifMove_116 : decode cX6_ifMove 116 = .ok (.getfield 147, 3) := by decide +kernel
theorem dX6_ifMove_119 : decode cX6_ifMove 119 = .ok (.ireturn, 1) := by decide +kernel
theorem dX6_ifMove_120 : decode cX6_ifMove 120 = .ok (.aload 5, 2) := by decide +kernel
theorem dX6_ifMove_122 : decode cX6_ifMove 122 = .ok (.getfield 150, 3) := by decide +kernel
theorem dX6_ifMove_125 : decode cX6_ifMove 125 = .ok (.ireturn, 1) := by decide +kernel
theorem dX6_ifMove_126 : decode cX6_ifMove 126 = .ok (.aload 5, 2) := by decide +kernel
theorem dX6_ifMove_128 : decode cX6_ifMove 128 = .ok (.getfield 153, 3) := by decide +kernel
theorem dX6_ifMove_131 : decode cX6_ifMove 131 = .ok (.ireturn, 1) := by decide +kernel
theorem dX6_ifMove_132 : decode cX6_ifMove 132 = .ok (.aload_n 0, 1) := by decide +kernel
theorem dX6_ifMove_133 : decode cX6_ifMove 133 = .ok (.getfield 12, 3) := by decide +kernel
theorem dX6_ifMove_136 : decode cX6_ifMove 136 = .ok (.getfield 45, 3) := by decide +kernel
theorem dX6_ifMove_139 : decode cX6_ifMove 139 = .ok (.aload 4, 2) := by decide +kernel
theorem dX6_ifMove_141 : decode cX6_ifMove 141 = .ok (.invokestatic 172, 3) := by decide +kernel
theorem dX6_ifMove_144 : decode cX6_ifMove 144 = .ok (.sipush 10000, 3) := by decide +kernel
theorem dX6_ifMove_147 : decode cX6_ifMove 147 = .ok (.iadd, 1) := by decide +kernel
theorem dX6_ifMove_148 : decode cX6_ifMove 148 = .ok (.ireturn, 1) := by decide +kernel
theorem dX6_ifMove_149 : decode cX6_ifMove 149 = .ok (.aload 4, 2) := by decide +kernel
theorem dX6_ifMove_151 : decode cX6_ifMove 151 = .ok (.getfield 124, 3) := by decide +kernel
theorem dX6_ifMove_154 : decode cX6_ifMove 154 = .ok (.ireturn, 1) := by decide +kernel
theorem dX6_ifMove_155 : decode cX6_ifMove 155 = .ok (.aload 4, 2) := by decide +kernel
theorem dX6_ifMove_157 : decode cX6_ifMove 157 = .ok (.getfield 127, 3) := by decide +kernel
theorem dX6_ifMove_160 : decode cX6_ifMove 160 = .ok (.ifCond .eq 7, 3) := by decide +kernel
theorem dX6_ifMove_163 : decode cX6_ifMove 163 = .ok (.iconst 1, 1) := by decide +kernel
theorem dX6_ifMove_164 : decode cX6_ifMove 164 = .ok (.goto 4, 3) := by decide +kernel
theorem dX6_ifMove_167 : decode cX6_ifMove 167 = .ok (.iconst 0, 1) := by decide +kernel
theorem dX6_ifMove_168 : decode cX6_ifMove 168 = .ok (.ireturn, 1) := by decide +kernel
theorem dX6_worth_0 : decode cX6_worth 0 = .ok (.iload_n 1, 1) := by decide +kernel
theorem dX6_worth_1 : decode cX6_worth 1 = .ok (.ifCond .lt 8, 3) := by decide +kernel
theorem dX6_worth_4 : decode cX6_worth 4 = .ok (.iload_n 1, 1) := by decide +kernel
theorem dX6_worth_5 : decode cX6_worth 5 = .ok (.iconst 4, 1) := by decide +kernel
theorem dX6_worth_6 : decode cX6_worth 6 = .ok (.if_icmp .le 6, 3) := by decide +kernel
theorem dX6_worth_9 : decode cX6_worth 9 = .ok (.bipush (-2), 2) := by decide +kernel
theorem dX6_worth_11 : decode cX6_worth 11 = .ok (.ireturn, 1) := by decide +kernel
theorem dX6_worth_12 : decode cX6_worth 12 = .ok (.aload_n 0, 1) := by decide +kernel
theorem dX6_worth_13 : decode cX6_worth 13 = .ok (.getfield 41, 3) := by decide +kernel
theorem dX6_worth_16 : decode cX6_worth 16 = .ok (.aload_n 0, 1) := by decide +kernel
theorem dX6_worth_17 : decode cX6_worth 17 = .ok (.getfield 12, 3) := by decide +kernel
theorem dX6_worth_20 : decode cX6_worth 20 = .ok (.getfield 45, 3) := by decide +kernel
theorem dX6_worth_23 : decode cX6_worth 23 = .ok (.aload_n 0, 1) := by decide +kernel
theorem dX6_worth_24 : decode cX6_worth 24 = .ok (.getfield 12, 3) := by decide +kernel
theorem dX6_worth_27 : decode cX6_worth 27 = .ok (.getfield 49, 3) := by decide +kernel
theorem dX6_worth_30 : decode cX6_worth 30 = .ok (.iload_n 1, 1) := by decide +kernel
theorem dX6_worth_31 : decode cX6_worth 31 = .ok (.invokevirtual 176, 3) := by decide +kernel
theorem dX6_worth_34 : decode cX6_worth 34 = .ok (.sipush 10000, 3) := by decide +kernel
theorem dX6_worth_37 : decode cX6_worth 37 = .ok (.iadd, 1) := by decide +kernel
theorem dX6_worth_38 : decode cX6_worth 38 = .ok (.ireturn, 1) := by decide +kernel
theorem dX6_best_0 : decode cX6_best 0 = .ok (.iload_n 1, 1) := by decide +kernel
theorem dX6_best_1 : decode cX6_best 1 = .ok (.iconst 1, 1) := by decide +kernel
theorem dX6_best_2 : decode cX6_best 2 = .ok (.if_icmp .lt 8, 3) := by decide +kernel
theorem dX6_best_5 : decode cX6_best 5 = .ok (.iload_n 1, 1) := by decide +kernel
theorem dX6_best_6 : decode cX6_best 6 = .ok (.iconst 4, 1) := by decide +kernel
theorem dX6_best_7 : decode cX6_best 7 = .ok (.if_icmp .le 6, 3) := by decide +kernel
theorem dX6_best_10 : decode cX6_best 10 = .ok (.bipush (-2), 2) := by decide +kernel
theorem dX6_best_12 : decode cX6_best 12 = .ok (.ireturn, 1) := by decide +kernel
theorem dX6_best_13 : decode cX6_best 13 = .ok (.aload_n 0, 1) := by decide +kernel
theorem dX6_best_14 : decode cX6_best 14 = .ok (.getfield 41, 3) := by decide +kernel
theorem dX6_best_17 : decode cX6_best 17 = .ok (.aload_n 0, 1) := by decide +kernel
theorem dX6_best_18 : decode cX6_best 18 = .ok (.getfield 12, 3) := by decide +kernel
theorem dX6_best_21 : decode cX6_best 21 = .ok (.getfield 45, 3) := by decide +kernel
theorem dX6_best_24 : decode cX6_best 24 = .ok (.aload_n 0, 1) := by decide +kernel
theorem dX6_best_25 : decode cX6_best 25 = .ok (.getfield 12, 3) := by decide +kernel
theorem dX6_best_28 : decode cX6_best 28 = .ok (.getfield 49, 3) := by decide +kernel
theorem dX6_best_31 : decode cX6_best 31 = .ok (.iload_n 1, 1) := by decide +kernel
theorem dX6_best_32 : decode cX6_best 32 = .ok (.invokevirtual 89, 3) := by decide +kernel
theorem dX6_best_35 : decode cX6_best 35 = .ok (.ireturn, 1) := by decide +kernel
theorem dX6_movesLeft_0 : decode cX6_movesLeft 0 = .ok (.iload_n 1, 1) := by decide +kernel
theorem dX6_movesLeft_1 : decode cX6_movesLeft 1 = .ok (.iconst 1, 1) := by decide +kernel
theorem dX6_movesLeft_2 : decode cX6_movesLeft 2 = .ok (.if_icmp .lt 8, 3) := by decide +kernel
theorem dX6_movesLeft_5 : decode cX6_movesLeft 5 = .ok (.iload_n 1, 1) := by decide +kernel
theorem dX6_movesLeft_6 : decode cX6_movesLeft 6 = .ok (.iconst 2, 1) := by decide +kernel
theorem dX6_movesLeft_7 : decode cX6_movesLeft 7 = .ok (.if_icmp .le 6, 3) := by decide +kernel
theorem dX6_movesLeft_10 : decode cX6_movesLeft 10 = .ok (.bipush (-2), 2) := by decide +kernel
theorem dX6_movesLeft_12 : decode cX6_movesLeft 12 = .ok (.ireturn, 1) := by decide +kernel
theorem dX6_movesLeft_13 : decode cX6_movesLeft 13 = .ok (.aload_n 0, 1) := by decide +kernel
theorem dX6_movesLeft_14 : decode cX6_movesLeft 14 = .ok (.getfield 41, 3) := by decide +kernel
theorem dX6_movesLeft_17 : decode cX6_movesLeft 17 = .ok (.aload_n 0, 1) := by decide +kernel
theorem dX6_movesLeft_18 : decode cX6_movesLeft 18 = .ok (.getfield 12, 3) := by decide +kernel
theorem dX6_movesLeft_21 : decode cX6_movesLeft 21 = .ok (.getfield 45, 3) := by decide +kernel
theorem dX6_movesLeft_24 : decode cX6_movesLeft 24 = .ok (.aload_n 0, 1) := by decide +kernel
theorem dX6_movesLeft_25 : decode cX6_movesLeft 25 = .ok (.getfield 12, 3) := by decide +kernel
theorem dX6_movesLeft_28 : decode cX6_movesLeft 28 = .ok (.getfield 49, 3) := by decide +kernel
theorem dX6_movesLeft_31 : decode cX6_movesLeft 31 = .ok (.iload_n 1, 1) := by decide +kernel
theorem dX6_movesLeft_32 : decode cX6_movesLeft 32 = .ok (.invokevirtual 179, 3) := by decide +kernel
theorem dX6_movesLeft_35 : decode cX6_movesLeft 35 = .ok (.ireturn, 1) := by decide +kernel
theorem dX6_put_0 : decode cX6_put 0 = .ok (.lload_n 1, 1) := by decide +kernel
theorem dX6_put_1 : decode cX6_put 1 = .ok (.invokestatic 182, 3) := by decide +kernel
theorem dX6_put_4 : decode cX6_put 4 = .ok (.istore_n 3, 1) := by decide +kernel
theorem dX6_put_5 : decode cX6_put 5 = .ok (.iload_n 3, 1) := by decide +kernel
theorem dX6_put_6 : decode cX6_put 6 = .ok (.ifCond .ne 6, 3) := by decide +kernel
theorem dX6_put_9 : decode cX6_put 9 = .ok (.bipush (-2), 2) := by decide +kernel
theorem dX6_put_11 : decode cX6_put 11 = .ok (.ireturn, 1) := by decide +kernel
theorem dX6_put_12 : decode cX6_put 12 = .ok (.aload_n 0, 1) := by decide +kernel
theorem dX6_put_13 : decode cX6_put 13 = .ok (.getfield 34, 3) := by decide +kernel
theorem dX6_put_16 : decode cX6_put 16 = .ok (.getfield 104, 3) := by decide +kernel
theorem dX6_put_19 : decode cX6_put 19 = .ok (.iload_n 3, 1) := by decide +kernel
theorem dX6_put_20 : decode cX6_put 20 = .ok (.iadd, 1) := by decide +kernel
theorem dX6_put_21 : decode cX6_put 21 = .ok (.bipush 60, 2) := by decide +kernel
theorem dX6_put_23 : decode cX6_put 23 = .ok (.if_icmp .le 6, 3) := by decide +kernel
theorem dX6_put_26 : decode cX6_put 26 = .ok (.bipush (-4), 2) := by decide +kernel
theorem dX6_put_28 : decode cX6_put 28 = .ok (.ireturn, 1) := by decide +kernel
theorem dX6_put_29 : decode cX6_put 29 = .ok (.aload_n 0, 1) := by decide +kernel
theorem dX6_put_30 : decode cX6_put 30 = .ok (.getfield 34, 3) := by decide +kernel
theorem dX6_put_33 : decode cX6_put 33 = .ok (.lload_n 1, 1) := by decide +kernel
theorem dX6_put_34 : decode cX6_put 34 = .ok (.iload_n 3, 1) := by decide +kernel
theorem dX6_put_35 : decode cX6_put 35 = .ok (.invokevirtual 186, 3) := by decide +kernel
theorem dX6_put_38 : decode cX6_put 38 = .ok (.aload_n 0, 1) := by decide +kernel
theorem dX6_put_39 : decode cX6_put 39 = .ok (.getfield 34, 3) := by decide +kernel
theorem dX6_put_42 : decode cX6_put 42 = .ok (.getfield 104, 3) := by decide +kernel
theorem dX6_put_45 : decode cX6_put 45 = .ok (.ireturn, 1) := by decide +kernel
theorem dX6_wipe_0 : decode cX6_wipe 0 = .ok (.aload_n 0, 1) := by decide +kernel
theorem dX6_wipe_1 : decode cX6_wipe 1 = .ok (.getfield 34, 3) := by decide +kernel
theorem dX6_wipe_4 : decode cX6_wipe 4 = .ok (.getfield 104, 3) := by decide +kernel
theorem dX6_wipe_7 : decode cX6_wipe 7 = .ok (.istore_n 1, 1) := by decide +kernel
theorem dX6_wipe_8 : decode cX6_wipe 8 = .ok (.aload_n 0, 1) := by decide +kernel
theorem dX6_wipe_9 : decode cX6_wipe 9 = .ok (.getfield 34, 3) := by decide +kernel
theorem dX6_wipe_12 : decode cX6_wipe 12 = .ok (.iconst 0, 1) := by decide +kernel
theorem dX6_wipe_13 : decode cX6_wipe 13 = .ok (.putfield 104, 3) := by decide +kernel
theorem dX6_wipe_16 : decode cX6_wipe 16 = .ok (.iload_n 1, 1) := by decide +kernel
theorem dX6_wipe_17 : decode cX6_wipe 17 = .ok (.ireturn, 1) := by decide +kernel
theorem dX6_fault_0 : decode cX6_fault 0 = .ok (.aload_n 0, 1) := by decide +kernel
theorem dX6_fault_1 : decode cX6_fault 1 = .ok (.getfield 34, 3) := by decide +kernel
theorem dX6_fault_4 : decode cX6_fault 4 = .ok (.invokevirtual 93, 3) := by decide +kernel
theorem dX6_fault_7 : decode cX6_fault 7 = .ok (.ireturn, 1) := by decide +kernel
theorem dX6_undo_0 : decode cX6_undo 0 = .ok (.aload_n 0, 1) := by decide +kernel
theorem dX6_undo_1 : decode cX6_undo 1 = .ok (.getfield 19, 3) := by decide +kernel
theorem dX6_undo_4 : decode cX6_undo 4 = .ok (.getfield 141, 3) := by decide +kernel
theorem dX6_undo_7 : decode cX6_undo 7 = .ok (.ifCond .ne 6, 3) := by decide +kernel
theorem dX6_undo_10 : decode cX6_undo 10 = .ok (.bipush (-5), 2) := by decide +kernel
theorem dX6_undo_12 : decode cX6_undo 12 = .ok (.ireturn, 1) := by decide +kernel
theorem dX6_undo_13 : decode cX6_undo 13 = .ok (.aload_n 0, 1) := by decide +kernel
theorem dX6_undo_14 : decode cX6_undo 14 = .ok (.getfield 19, 3) := by decide +kernel
theorem dX6_undo_17 : decode cX6_undo 17 = .ok (.aload_n 0, 1) := by decide +kernel
theorem dX6_undo_18 : decode cX6_undo 18 = .ok (.getfield 12, 3) := by decide +kernel
theorem dX6_undo_21 : decode cX6_undo 21 = .ok (.invokevirtual 190, 3) := by decide +kernel
theorem dX6_undo_24 : decode cX6_undo 24 = .ok (.aload_n 0, 1) := by decide +kernel
theorem dX6_undo_25 : decode cX6_undo 25 = .ok (.getfield 19, 3) := by decide +kernel
theorem dX6_undo_28 : decode cX6_undo 28 = .ok (.getfield 141, 3) := by decide +kernel
theorem dX6_undo_31 : decode cX6_undo 31 = .ok (.ireturn, 1) := by decide +kernel
theorem dX6_save_0 : decode cX6_save 0 = .ok (.iload_n 1, 1) := by decide +kernel
theorem dX6_save_1 : decode cX6_save 1 = .ok (.invokestatic 193, 3) := by decide +kernel
theorem dX6_save_4 : decode cX6_save 4 = .ok (.ifCond .ne 6, 3) := by decide +kernel
theorem dX6_save_7 : decode cX6_save 7 = .ok (.bipush (-2), 2) := by decide +kernel
theorem dX6_save_9 : decode cX6_save 9 = .ok (.ireturn, 1) := by decide +kernel
theorem dX6_save_10 : decode cX6_save 10 = .ok (.aload_n 0, 1) := by decide +kernel
theorem dX6_save_11 : decode cX6_save 11 = .ok (.getfield 23, 3) := by decide +kernel
theorem dX6_save_14 : decode cX6_save 14 = .ok (.iload_n 1, 1) := by decide +kernel
theorem dX6_save_15 : decode cX6_save 15 = .ok (.aaload, 1) := by decide +kernel
theorem dX6_save_16 : decode cX6_save 16 = .ok (.aload_n 0, 1) := by decide +kernel
theorem dX6_save_17 : decode cX6_save 17 = .ok (.getfield 12, 3) := by decide +kernel
theorem dX6_save_20 : decode cX6_save 20 = .ok (.invokevirtual 196, 3) := by decide +kernel
theorem dX6_save_23 : decode cX6_save 23 = .ok (.aload_n 0, 1) := by decide +kernel
theorem dX6_save_24 : decode cX6_save 24 = .ok (.getfield 27, 3) := by decide +kernel
theorem dX6_save_27 : decode cX6_save 27 = .ok (.iload_n 1, 1) := by decide +kernel
theorem dX6_save_28 : decode cX6_save 28 = .ok (.iconst 1, 1) := by decide +kernel
theorem dX6_save_29 : decode cX6_save 29 = .ok (.bastore, 1) := by decide +kernel
theorem dX6_save_30 : decode cX6_save 30 = .ok (.aload_n 0, 1) := by decide +kernel
theorem dX6_save_31 : decode cX6_save 31 = .ok (.getfield 12, 3) := by decide +kernel
theorem dX6_save_34 : decode cX6_save 34 = .ok (.getfield 45, 3) := by decide +kernel
theorem dX6_save_37 : decode cX6_save 37 = .ok (.getfield 69, 3) := by decide +kernel
theorem dX6_save_40 : decode cX6_save 40 = .ok (.ireturn, 1) := by decide +kernel
theorem dX6_restore_0 : decode cX6_restore 0 = .ok (.iload_n 1, 1) := by decide +kernel
theorem dX6_restore_1 : decode cX6_restore 1 = .ok (.invokestatic 193, 3) := by decide +kernel
theorem dX6_restore_4 : decode cX6_restore 4 = .ok (.ifCond .ne 6, 3) := by decide +kernel
theorem dX6_restore_7 : decode cX6_restore 7 = .ok (.bipush (-2), 2) := by decide +kernel
theorem dX6_restore_9 : decode cX6_restore 9 = .ok (.ireturn, 1) := by decide +kernel
theorem dX6_restore_10 : decode cX6_restore 10 = .ok (.aload_n 0, 1) := by decide +kernel
theorem dX6_restore_11 : decode cX6_restore 11 = .ok (.getfield 27, 3) := by decide +kernel
theorem dX6_restore_14 : decode cX6_restore 14 = .ok (.iload_n 1, 1) := by decide +kernel
theorem dX6_restore_15 : decode cX6_restore 15 = .ok (.baload, 1) := by decide +kernel
theorem dX6_restore_16 : decode cX6_restore 16 = .ok (.ifCond .ne 6, 3) := by decide +kernel
theorem dX6_restore_19 : decode cX6_restore 19 = .ok (.bipush (-5), 2) := by decide +kernel
theorem dX6_restore_21 : decode cX6_restore 21 = .ok (.ireturn, 1) := by decide +kernel
theorem dX6_restore_22 : decode cX6_restore 22 = .ok (.aload_n 0, 1) := by decide +kernel
theorem dX6_restore_23 : decode cX6_restore 23 = .ok (.getfield 19, 3) := by decide +kernel
theorem dX6_restore_26 : decode cX6_restore 26 = .ok (.aload_n 0, 1) := by decide +kernel
theorem dX6_restore_27 : decode cX6_restore 27 = .ok (.getfield 12, 3) := by decide +kernel
theorem dX6_restore_30 : decode cX6_restore 30 = .ok (.invokevirtual 65, 3) := by decide +kernel
theorem dX6_restore_33 : decode cX6_restore 33 = .ok (.aload_n 0, 1) := by decide +kernel
theorem dX6_restore_34 : decode cX6_restore 34 = .ok (.getfield 12, 3) := by decide +kernel
theorem dX6_restore_37 : decode cX6_restore 37 = .ok (.aload_n 0, 1) := by decide +kernel
theorem dX6_restore_38 : decode cX6_restore 38 = .ok (.getfield 23, 3) := by decide +kernel
theorem dX6_restore_41 : decode cX6_restore 41 = .ok (.iload_n 1, 1) := by decide +kernel
theorem dX6_restore_42 : decode cX6_restore 42 = .ok (.aaload, 1) := by decide +kernel
theorem dX6_restore_43 : decode cX6_restore 43 = .ok (.invokevirtual 196, 3) := by decide +kernel
theorem dX6_restore_46 : decode cX6_restore 46 = .ok (.aload_n 0, 1) := by decide +kernel
theorem dX6_restore_47 : decode cX6_restore 47 = .ok (.getfield 12, 3) := by decide +kernel
theorem dX6_restore_50 : decode cX6_restore 50 = .ok (.getfield 45, 3) := by decide +kernel
theorem dX6_restore_53 : decode cX6_restore 53 = .ok (.getfield 69, 3) := by decide +kernel
theorem dX6_restore_56 : decode cX6_restore 56 = .ok (.ireturn, 1) := by decide +kernel
theorem dX6_isHouse_0 : decode cX6_isHouse 0 = .ok (.iload_n 0, 1) := by decide +kernel
theorem dX6_isHouse_1 : decode cX6_isHouse 1 = .ok (.ifCond .lt 13, 3) := by decide +kernel
theorem dX6_isHouse_4 : decode cX6_isHouse 4 = .ok (.iload_n 0, 1) := by decide +kernel
theorem dX6_isHouse_5 : decode cX6_isHouse 5 = .ok (.bipush 12, 2) := by decide +kernel
theorem dX6_isHouse_7 : decode cX6_isHouse 7 = .ok (.if_icmp .ge 7, 3) := by decide +kernel
theorem dX6_isHouse_10 : decode cX6_isHouse 10 = .ok (.iconst 1, 1) := by decide +kernel
theorem dX6_isHouse_11 : decode cX6_isHouse 11 = .ok (.goto 4, 3) := by decide +kernel
theorem dX6_isHouse_14 : decode cX6_isHouse 14 = .ok (.iconst 0, 1) := by decide +kernel
theorem dX6_isHouse_15 : decode cX6_isHouse 15 = .ok (.ireturn, 1) := by decide +kernel
theorem dX6_isSlot_0 : decode cX6_isSlot 0 = .ok (.iload_n 0, 1) := by decide +kernel
theorem dX6_isSlot_1 : decode cX6_isSlot 1 = .ok (.ifCond .lt 12, 3) := by decide +kernel
theorem dX6_isSlot_4 : decode cX6_isSlot 4 = .ok (.iload_n 0, 1) := by decide +kernel
theorem dX6_isSlot_5 : decode cX6_isSlot 5 = .ok (.iconst 2, 1) := by decide +kernel
theorem dX6_isSlot_6 : decode cX6_isSlot 6 = .ok (.if_icmp .ge 7, 3) := by decide +kernel
theorem dX6_isSlot_9 : decode cX6_isSlot 9 = .ok (.iconst 1, 1) := by decide +kernel
theorem dX6_isSlot_10 : decode cX6_isSlot 10 = .ok (.goto 4, 3) := by decide +kernel
theorem dX6_isSlot_13 : decode cX6_isSlot 13 = .ok (.iconst 0, 1) := by decide +kernel
theorem dX6_isSlot_14 : decode cX6_isSlot 14 = .ok (.ireturn, 1) := by decide +kernel
theorem dX6_errorOfMove_0 : decode cX6_errorOfMove 0 = .ok (.iload_n 1, 1) := by decide +kernel
theorem dX6_errorOfMove_1 : decode cX6_errorOfMove 1 = .ok (.invokestatic 110, 3) := by decide +kernel
theorem dX6_errorOfMove_4 : decode cX6_errorOfMove 4 = .ok (.ifCond .ne 5, 3) := by decide +kernel
theorem dX6_errorOfMove_7 : decode cX6_errorOfMove 7 = .ok (.iconst (-1), 1) := by decide +kernel
theorem dX6_errorOfMove_8 : decode cX6_errorOfMove 8 = .ok (.ireturn, 1) := by decide +kernel
theorem dX6_errorOfMove_9 : decode cX6_errorOfMove 9 = .ok (.aload_n 0, 1) := by decide +kernel
theorem dX6_errorOfMove_10 : decode cX6_errorOfMove 10 = .ok (.getfield 12, 3) := by decide +kernel
theorem dX6_errorOfMove_13 : decode cX6_errorOfMove 13 = .ok (.getfield 45, 3) := by decide +kernel
theorem dX6_errorOfMove_16 : decode cX6_errorOfMove 16 = .ok (.iload_n 1, 1) := by decide +kernel
theorem dX6_errorOfMove_17 : decode cX6_errorOfMove 17 = .ok (.invokevirtual 198, 3) := by decide +kernel
theorem dX6_errorOfMove_20 : decode cX6_errorOfMove 20 = .ok (.ifCond .eq 7, 3) := by decide +kernel
theorem dX6_errorOfMove_23 : decode cX6_errorOfMove 23 = .ok (.iconst 0, 1) := by decide +kernel
theorem dX6_errorOfMove_24 : decode cX6_errorOfMove 24 = .ok (.goto 5, 3) := by decide +kernel
theorem dX6_errorOfMove_27 : decode cX6_errorOfMove 27 = .ok (.bipush (-5), 2) := by decide +kernel
theorem dX6_errorOfMove_29 : decode cX6_errorOfMove 29 = .ok (.ireturn, 1) := by decide +kernel
theorem dX6_storeGain_0 : decode cX6_storeGain 0 = .ok (.aload_n 1, 1) := by decide +kernel
theorem dX6_storeGain_1 : decode cX6_storeGain 1 = .ok (.getfield 134, 3) := by decide +kernel
theorem dX6_storeGain_4 : decode cX6_storeGain 4 = .ok (.aload_n 0, 1) := by decide +kernel
theorem dX6_storeGain_5 : decode cX6_storeGain 5 = .ok (.getfield 124, 3) := by decide +kernel
theorem dX6_storeGain_8 : decode cX6_storeGain 8 = .ok (.iaload, 1) := by decide +kernel
theorem dX6_storeGain_9 : decode cX6_storeGain 9 = .ok (.aload_n 0, 1) := by decide +kernel
theorem dX6_storeGain_10 : decode cX6_storeGain 10 = .ok (.getfield 134, 3) := by decide +kernel
theorem dX6_storeGain_13 : decode cX6_storeGain 13 = .ok (.aload_n 0, 1) := by decide +kernel
theorem dX6_storeGain_14 : decode cX6_storeGain 14 = .ok (.getfield 124, 3) := by decide +kernel
theorem dX6_storeGain_17 : decode cX6_storeGain 17 = .ok (.iaload, 1) := by decide +kernel
theorem dX6_storeGain_18 : decode cX6_storeGain 18 = .ok (.isub, 1) := by decide +kernel
theorem dX6_storeGain_19 : decode cX6_storeGain 19 = .ok (.ireturn, 1) := by decide +kernel
theorem dX7_init_0 : decode cX7_init 0 = .ok (.aload_n 0, 1) := by decide +kernel
theorem dX7_init_1 : decode cX7_init 1 = .ok (.invokespecial 1, 3) := by decide +kernel
theorem dX7_init_4 : decode cX7_init 4 = .ok (.aload_n 0, 1) := by decide +kernel
theorem dX7_init_5 : decode cX7_init 5 = .ok (.sipush 340, 3) := by decide +kernel
theorem dX7_init_8 : decode cX7_init 8 = .ok (.newarray .int, 2) := by decide +kernel
theorem dX7_init_10 : decode cX7_init 10 = .ok (.putfield 7, 3) := by decide +kernel
theorem dX7_init_13 : decode cX7_init 13 = .ok (.aload_n 0, 1) := by decide +kernel
theorem dX7_init_14 : decode cX7_init 14 = .ok (.sipush 2040, 3) := by decide +kernel
theorem dX7_init_17 : decode cX7_init 17 = .ok (.newarray .int, 2) := by decide +kernel
theorem dX7_init_19 : decode cX7_init 19 = .ok (.putfield 13, 3) := by decide +kernel
theorem dX7_init_22 : decode cX7_init 22 = .ok (.aload_n 0, 1) := by decide +kernel
theorem dX7_init_23 : decode cX7_init 23 = .ok (.sipush 680, 3) := by decide +kernel
theorem dX7_init_26 : decode cX7_init 26 = .ok (.newarray .int, 2) := by decide +kernel
theorem dX7_init_28 : decode cX7_init 28 = .ok (.putfield 16, 3) := by decide +kernel
theorem dX7_init_31 : decode cX7_init 31 = .ok (.aload_n 0, 1) := by decide +kernel
theorem dX7_init_32 : decode cX7_init 32 = .ok (.iconst 2, 1) := by decide +kernel
theorem dX7_init_33 : decode cX7_init 33 = .ok (.newarray .int, 2) := by decide +kernel
theorem dX7_init_35 : decode cX7_init 35 = .ok (.putfield 19, 3) := by decide +kernel
theorem dX7_init_38 : decode cX7_init 38 = .ok (.aload_n 0, 1) := by decide +kernel
theorem dX7_init_39 : decode cX7_init 39 = .ok (.sipush 280, 3) := by decide +kernel
theorem dX7_init_42 : decode cX7_init 42 = .ok (.newarray .int, 2) := by decide +kernel
theorem dX7_init_44 : decode cX7_init 44 = .ok (.putfield 22, 3) := by decide +kernel
theorem dX7_init_47 : decode cX7_init 47 = .ok (.aload_n 0, 1) := by decide +kernel
theorem dX7_init_48 : decode cX7_init 48 = .ok (.bipush 7, 2) := by decide +kernel
theorem dX7_init_50 : decode cX7_init 50 = .ok (.newarray .int, 2) := by decide +kernel
theorem dX7_init_52 : decode cX7_init 52 = .ok (.putfield 25, 3) := by decide +kernel
theorem dX7_init_55 : decode cX7_init 55 = .ok (.aload_n 0, 1) := by decide +kernel
theorem dX7_init_56 : decode cX7_init 56 = .ok (.bipush 7, 2) := by decide +kernel
theorem dX7_init_58 : decode cX7_init 58 = .ok (.newarray .int, 2) := by decide +kernel
theorem dX7_init_60 : decode cX7_init 60 = .ok (.putfield 28, 3) := by decide +kernel
theorem dX7_init_63 : decode cX7_init 63 = .ok (.aload_n 0, 1) := by decide +kernel
theorem dX7_init_64 : decode cX7_init 64 = .ok (.bipush 7, 2) := by decide +kernel
theorem dX7_init_66 : decode cX7_init 66 = .ok (.newarray .int, 2) := by decide +kernel
theorem dX7_init_68 : decode cX7_init 68 = .ok (.putfield 31, 3) := by decide +kernel
theorem dX7_init_71 : decode cX7_init 71 = .ok (.aload_n 0, 1) := by decide +kernel
theorem dX7_init_72 : decode cX7_init 72 = .ok (.bipush 60, 2) := by decide +kernel
theorem dX7_init_74 : decode cX7_init 74 = .ok (.newarray .int, 2) := by decide +kernel
theorem dX7_init_76 : decode cX7_init 76 = .ok (.putfield 34, 3) := by decide +kernel
theorem dX7_init_79 : decode cX7_init 79 = .ok (.aload_n 0, 1) := by decide +kernel
theorem dX7_init_80 : decode cX7_init 80 = .ok (.bipush 15, 2) := by decide +kernel
theorem dX7_init_82 : decode cX7_init 82 = .ok (.newarray .int, 2) := by decide +kernel
theorem dX7_init_84 : decode cX7_init 84 = .ok (.putfield 37, 3) := by decide +kernel
theorem dX7_init_87 : decode cX7_init 87 = .ok (.aload_n 0, 1) := by decide +kernel
theorem dX7_init_88 : decode cX7_init 88 = .ok (.getfield 7, 3) := by decide +kernel
theorem dX7_init_91 : decode cX7_init 91 = .ok (.bipush 34, 2) := by decide +kernel
theorem dX7_init_93 : decode cX7_init 93 = .ok (.iconst 4, 1) := by decide +kernel
theorem dX7_init_94 : decode cX7_init 94 = .ok (.iastore, 1) := by decide +kernel
theorem dX7_init_95 : decode cX7_init 95 = .ok (.aload_n 0, 1) := by decide +kernel
theorem dX7_init_96 : decode cX7_init 96 = .ok (.getfield 7, 3) := by decide +kernel
theorem dX7_init_99 : decode cX7_init 99 = .ok (.bipush 35, 2) := by decide +kernel
theorem dX7_init_101 : decode cX7_init 101 = .ok (.iconst 3, 1) := by decide +kernel
theorem dX7_init_102 : decode cX7_init 102 = .ok (.iastore, 1) := by decide +kernel
theorem dX7_init_103 : decode cX7_init 103 = .ok (.aload_n 0, 1) := by decide +kernel
theorem dX7_init_104 : decode cX7_init 104 = .ok (.getfield 7, 3) := by decide +kernel
theorem dX7_init_107 : decode cX7_init 107 = .ok (.bipush 36, 2) := by decide +kernel
theorem dX7_init_109 : decode cX7_init 109 = .ok (.bipush 6, 2) := by decide +kernel
theorem dX7_init_111 : decode cX7_init 111 = .ok (.iastore, 1) := by decide +kernel
theorem dX7_init_112 : decode cX7_init 112 = .ok (.aload_n 0, 1) := by decide +kernel
theorem dX7_init_113 : decode cX7_init 113 = .ok (.getfield 7, 3) := by decide +kernel
theorem dX7_init_116 : decode cX7_init 116 = .ok (.bipush 37, 2) := by decide +kernel
theorem dX7_init_118 : decode cX7_init 118 = .ok (.iconst 1, 1) := by decide +kernel
theorem dX7_init_119 : decode cX7_init 119 = .ok (.iastore, 1) := by decide +kernel
theorem dX7_init_120 : decode cX7_init 120 = .ok (.aload_n 0, 1) := by decide +kernel
theorem dX7_init_121 : decode cX7_init 121 = .ok (.invokevirtual 40, 3) := by decide +kernel
theorem dX7_init_124 : decode cX7_init 124 = .ok (.return_, 1) := by decide +kernel
theorem dX7_in_0 : decode cX7_in 0 = .ok (.lload_n 0, 1) := by decide +kernel
theorem dX7_in_1 : decode cX7_in 1 = .ok (.lload_n 2, 1) := by decide +kernel
theorem dX7_in_2 : decode cX7_in 2 = .ok (.lcmp, 1) := by decide +kernel
theorem dX7_in_3 : decode cX7_in 3 = .ok (.ifCond .lt 14, 3) := by decide +kernel
theorem dX7_in_6 : decode cX7_in 6 = .ok (.lload_n 0, 1) := by decide +kernel
theorem dX7_in_7 : decode cX7_in 7 = .ok (.lload 4, 2) := by decide +kernel
theorem dX7_in_9 : decode cX7_in 9 = .ok (.lcmp, 1) := by decide +kernel
theorem dX7_in_10 : decode cX7_in 10 = .ok (.ifCond .gt 7, 3) := by decide +kernel
theorem dX7_in_13 : decode cX7_in 13 = .ok (.iconst 1, 1) := by decide +kernel
theorem dX7_in_14 : decode cX7_in 14 = .ok (.goto 4, 3) := by decide +kernel
theorem dX7_in_17 : decode cX7_in 17 = .ok (.iconst 0, 1) := by decide +kernel
theorem dX7_in_18 : decode cX7_in 18 = .ok (.ireturn, 1) := by decide +kernel
theorem dX7_record_0 : decode cX7_record 0 = .ok (.aload_n 0, 1) := by decide +kernel
theorem dX7_record_1 : decode cX7_record 1 = .ok (.getfield 43, 3) := by decide +kernel
theorem dX7_record_4 : decode cX7_record 4 = .ok (.bipush 6, 2) := by decide +kernel
theorem dX7_record_6 : decode cX7_record 6 = .ok (.if_icmp .ne 44, 3) := by decide +kernel
theorem dX7_record_9 : decode cX7_record 9 = .ok (.iconst 0, 1) := by decide +kernel
theorem dX7_record_10 : decode cX7_record 10 = .ok (.istore_n 1, 1) := by decide +kernel
theorem dX7_record_11 : decode cX7_record 11 = .ok (.iload_n 1, 1) := by decide +kernel
theorem dX7_record_12 : decode cX7_record 12 = .ok (.sipush 1700, 3) := by decide +kernel
theorem dX7_record_15 : decode cX7_record 15 = .ok (.if_icmp .ge 25, 3) := by decide +kernel
theorem dX7_record_18 : decode cX7_record 18 = .ok (.aload_n 0, 1) := by decide +kernel
theorem dX7_record_19 : decode cX7_record 19 = .ok (.getfield 13, 3) := by decide +kernel
theorem dX7_record_22 : decode cX7_record 22 = .ok (.iload_n 1, 1) := by decide +kernel
theorem dX7_record_23 : decode cX7_record 23 = .ok (.aload_n 0, 1) := by decide +kernel
theorem dX7_record_24 : decode cX7_record 24 = .ok (.getfield 13, 3) := by decide +kernel
theorem dX7_record_27 : decode cX7_record 27 = .ok (.iload_n 1, 1) := by decide +kernel
theorem dX7_record_28 : decode cX7_record 28 = .ok (.sipush 340, 3) := by decide +kernel
theorem dX7_record_31 : decode cX7_record 31 = .ok (.iadd, 1) := by decide +kernel
theorem dX7_record_32 : decode cX7_record 32 = .ok (.iaload, 1) := by decide +kernel
theorem dX7_record_33 : decode cX7_record 33 = .ok (.iastore, 1) := by decide +kernel
theorem dX7_record_34 : decode cX7_record 34 = .ok (.iinc 1 1, 3) := by decide +kernel
theorem dX7_record_37 : decode cX7_record 37 = .ok (.goto (-26), 3) := by decide +kernel
theorem dX7_record_40 : decode cX7_record 40 = .ok (.aload_n 0, 1) := by decide +kernel
theorem dX7_record_41 : decode cX7_record 41 = .ok (.dup, 1) := by decide +kernel
theorem dX7_record_42 : decode cX7_record 42 = .ok (.getfield 43, 3) := by decide +kernel
theorem dX7_record_45 : decode cX7_record 45 = .ok (.iconst 1, 1) := by decide +kernel
theorem dX7_record_46 : decode cX7_record 46 = .ok (.isub, 1) := by decide +kernel
theorem dX7_record_47 : decode cX7_record 47 = .ok (.putfield 43, 3) := by decide +kernel
theorem dX7_record_50 : decode cX7_record 50 = .ok (.iconst 0, 1) := by decide +kernel
theorem dX7_record_51 : decode cX7_record 51 = .ok (.istore_n 1, 1) := by decide +kernel
theorem dX7_record_52 : decode cX7_record 52 = .ok (.iload_n 1, 1) := by decide +kernel
theorem dX7_record_53 : decode cX7_record 53 = .ok (.sipush 340, 3) := by decide +kernel
theorem dX7_record_56 : decode cX7_record 56 = .ok (.if_icmp .ge 30, 3) := by decide +kernel
theorem dX7_record_59 : decode cX7_record 59 = .ok (.aload_n 0, 1) := by decide +kernel
theorem dX7_record_60 : decode cX7_record 60 = .ok (.getfield 13, 3) := by decide +kernel
theorem dX7_record_63 : decode cX7_record 63 = .ok (.sipush 340, 3) := by decide +kernel
theorem dX7_record_66 : decode cX7_record 66 = .ok (.aload_n 0, 1) := by decide +kernel
theorem dX7_record_67 : decode cX7_record 67 = .ok (.getfield 43, 3) := by decide +kernel
theorem dX7_record_70 : decode cX7_record 70 = .ok (.imul, 1) := by decide +kernel
theorem dX7_record_71 : decode cX7_record 71 = .ok (.iload_n 1, 1) := by decide +kernel
theorem dX7_record_72 : decode cX7_record 72 = .ok (.iadd, 1) := by decide +kernel
theorem dX7_record_73 : decode cX7_record 73 = .ok (.aload_n 0, 1) := by decide +kernel
theorem dX7_record_74 : decode cX7_record 74 = .ok (.getfield 7, 3) := by decide +kernel
theorem dX7_record_77 : decode cX7_record 77 = .ok (.iload_n 1, 1) := by decide +kernel
theorem dX7_record_78 : decode cX7_record 78 = .ok (.iaload, 1) := by decide +kernel
theorem dX7_record_79 : decode cX7_record 79 = .ok (.iastore, 1) := by decide +kernel
theorem dX7_record_80 : decode cX7_record 80 = .ok (.iinc 1 1, 3) := by decide +kernel
theorem dX7_record_83 : decode cX7_record 83 = .ok (.goto (-31), 3) := by decide +kernel
theorem dX7_record_86 : decode cX7_record 86 = .ok (.aload_n 0, 1) := by decide +kernel
theorem dX7_record_87 : decode cX7_record 87 = .ok (.dup, 1) := by decide +kernel
theorem dX7_record_88 : decode cX7_record 88 = .ok (.getfield 43, 3) := by decide +kernel
theorem dX7_record_91 : decode cX7_record 91 = .ok (.iconst 1, 1) := by decide +kernel
theorem dX7_record_92 : decode cX7_record 92 = .ok (.iadd, 1) := by decide +kernel
theorem dX7_record_93 : decode cX7_record 93 = .ok (.putfield 43, 3) := by decide +kernel
theorem dX7_record_96 : decode cX7_record 96 = .ok (.return_, 1) := by decide +kernel
theorem dX7_empties_0 : decode cX7_empties 0 = .ok (.iconst 0, 1) := by decide +kernel
theorem dX7_empties_1 : decode cX7_empties 1 = .ok (.istore_n 1, 1) := by decide +kernel
theorem dX7_empties_2 : decode cX7_empties 2 = .ok (.iload_n 1, 1) := by decide +kernel
theorem dX7_empties_3 : decode cX7_empties 3 = .ok (.bipush 34, 2) := by decide +kernel
theorem dX7_empties_5 : decode cX7_empties 5 = .ok (.if_icmp .ge 16, 3) := by decide +kernel
theorem dX7_empties_8 : decode cX7_empties 8 = .ok (.aload_n 0, 1) := by decide +kernel
theorem dX7_empties_9 : decode cX7_empties 9 = .ok (.getfield 7, 3) := by decide +kernel
theorem dX7_empties_12 : decode cX7_empties 12 = .ok (.iload_n 1, 1) := by decide +kernel
theorem dX7_empties_13 : decode cX7_empties 13 = .ok (.iconst 0, 1) := by decide +kernel
theorem dX7_empties_14 : decode cX7_empties 14 = .ok (.iastore, 1) := by decide +kernel
theorem dX7_empties_15 : decode cX7_empties 15 = .ok (.iinc 1 1, 3) := by decide +kernel
theorem dX7_empties_18 : decode cX7_empties 18 = .ok (.goto (-16), 3) := by decide +kernel
theorem dX7_empties_21 : decode cX7_empties 21 = .ok (.bipush 40, 2) := by decide +kernel
theorem dX7_empties_23 : decode cX7_empties 23 = .ok (.istore_n 1, 1) := by decide +kernel
theorem dX7_empties_24 : decode cX7_empties 24 = .ok (.iload_n 1, 1) := by decide +kernel
theorem dX7_empties_25 : decode cX7_empties 25 = .ok (.sipush 340, 3) := by decide +kernel
theorem dX7_empties_28 : decode cX7_empties 28 = .ok (.if_icmp .ge 16, 3) := by decide +kernel
theorem dX7_empties_31 : decode cX7_empties 31 = .ok (.aload_n 0, 1) := by decide +kernel
theorem dX7_empties_32 : decode cX7_empties 32 = .ok (.getfield 7, 3) := by decide +kernel
theorem dX7_empties_35 : decode cX7_empties 35 = .ok (.iload_n 1, 1) := by decide +kernel
theorem dX7_empties_36 : decode cX7_empties 36 = .ok (.iconst 0, 1) := by decide +kernel
theorem dX7_empties_37 : decode cX7_empties 37 = .ok (.iastore, 1) := by decide +kernel
theorem dX7_empties_38 : decode cX7_empties 38 = .ok (.iinc 1 1, 3) := by decide +kernel
theorem dX7_empties_41 : decode cX7_empties 41 = .ok (.goto (-17), 3) := by decide +kernel
theorem dX7_empties_44 : decode cX7_empties 44 = .ok (.return_, 1) := by decide +kernel
theorem dX7_anew_0 : decode cX7_anew 0 = .ok (.aload_n 0, 1) := by decide +kernel
theorem dX7_anew_1 : decode cX7_anew 1 = .ok (.invokevirtual 47, 3) := by decide +kernel
theorem dX7_anew_4 : decode cX7_anew 4 = .ok (.iconst 0, 1) := by decide +kernel
theorem dX7_anew_5 : decode cX7_anew 5 = .ok (.istore_n 1, 1) := by decide +kernel
theorem dX7_anew_6 : decode cX7_anew 6 = .ok (.iload_n 1, 1) := by decide +kernel
theorem dX7_anew_7 : decode cX7_anew 7 = .ok (.bipush 12, 2) := by decide +kernel
theorem dX7_anew_9 : decode cX7_anew 9 = .ok (.if_icmp .ge 24, 3) := by decide +kernel
theorem dX7_anew_12 : decode cX7_anew 12 = .ok (.aload_n 0, 1) := by decide +kernel
theorem dX7_anew_13 : decode cX7_anew 13 = .ok (.getfield 7, 3) := by decide +kernel
theorem dX7_anew_16 : decode cX7_anew 16 = .ok (.iconst 0, 1) := by decide +kernel
theorem dX7_anew_17 : decode cX7_anew 17 = .ok (.iload_n 1, 1) := by decide +kernel
theorem dX7_anew_18 : decode cX7_anew 18 = .ok (.iadd, 1) := by decide +kernel
theorem dX7_anew_19 : decode cX7_anew 19 = .ok (.aload_n 0, 1) := by decide +kernel
theorem dX7_anew_20 : decode cX7_anew 20 = .ok (.getfield 7, 3) := by decide +kernel
theorem dX7_anew_23 : decode cX7_anew 23 = .ok (.bipush 34, 2) := by decide +kernel
theorem dX7_anew_25 : decode cX7_anew 25 = .ok (.iaload, 1) := by decide +kernel
theorem dX7_anew_26 : decode cX7_anew 26 = .ok (.iastore, 1) := by decide +kernel
theorem dX7_anew_27 : decode cX7_anew 27 = .ok (.iinc 1 1, 3) := by decide +kernel
theorem dX7_anew_30 : decode cX7_anew 30 = .ok (.goto (-24), 3) := by decide +kernel
theorem dX7_anew_33 : decode cX7_anew 33 = .ok (.return_, 1) := by decide +kernel
theorem dX7_owner_0 : decode cX7_owner 0 = .ok (.iload_n 0, 1) := by decide +kernel
theorem dX7_owner_1 : decode cX7_owner 1 = .ok (.bipush 6, 2) := by decide +kernel
theorem dX7_owner_3 : decode cX7_owner 3 = .ok (.idiv, 1) := by decide +kernel
theorem dX7_owner_4 : decode cX7_owner 4 = .ok (.ireturn, 1) := by decide +kernel
theorem dX7_total_0 : decode cX7_total 0 = .ok (.aload_n 0, 1) := by decide +kernel
theorem dX7_total_1 : decode cX7_total 1 = .ok (.iload_n 1, 1) := by decide +kernel
theorem dX7_total_2 : decode cX7_total 2 = .ok (.bipush 24, 2) := by decide +kernel
theorem dX7_total_4 : decode cX7_total 4 = .ok (.iadd, 1) := by decide +kernel
theorem dX7_total_5 : decode cX7_total 5 = .ok (.iaload, 1) := by decide +kernel
theorem dX7_total_6 : decode cX7_total 6 = .ok (.aload_n 0, 1) := by decide +kernel
theorem dX7_total_7 : decode cX7_total 7 = .ok (.iload_n 1, 1) := by decide +kernel
theorem dX7_total_8 : decode cX7_total 8 = .ok (.bipush 24, 2) := by decide +kernel
theorem dX7_total_10 : decode cX7_total 10 = .ok (.iadd, 1) := by decide +kernel
theorem dX7_total_11 : decode cX7_total 11 = .ok (.iconst 1, 1) := by decide +kernel
theorem dX7_total_12 : decode cX7_total 12 = .ok (.iadd, 1) := by decide +kernel
theorem dX7_total_13 : decode cX7_total 13 = .ok (.iaload, 1) := by decide +kernel
theorem dX7_total_14 : decode cX7_total 14 = .ok (.iadd, 1) := by decide +kernel
theorem dX7_total_15 : decode cX7_total 15 = .ok (.istore_n 2, 1) := by decide +kernel
theorem dX7_total_16 : decode cX7_total 16 = .ok (.iconst 0, 1) := by decide +kernel
theorem dX7_total_17 : decode cX7_total 17 = .ok (.istore_n 3, 1) := by decide +kernel
theorem dX7_total_18 : decode cX7_total 18 = .ok (.iload_n 3, 1) := by decide +kernel
theorem dX7_total_19 : decode cX7_total 19 = .ok (.bipush 12, 2) := by decide +kernel
theorem dX7_total_21 : decode cX7_total 21 = .ok (.if_icmp .ge 19, 3) := by decide +kernel
theorem dX7_total_24 : decode cX7_total 24 = .ok (.iload_n 2, 1) := by decide +kernel
theorem dX7_total_25 : decode cX7_total 25 = .ok (.aload_n 0, 1) := by decide +kernel
theorem dX7_total_26 : decode cX7_total 26 = .ok (.iload_n 1, 1) := by decide +kernel
theorem dX7_total_27 : decode cX7_total 27 = .ok (.iconst 0, 1) := by decide +kernel
theorem dX7_total_28 : decode cX7_total 28 = .ok (.iadd, 1) := by decide +kernel
theorem dX7_total_29 : decode cX7_total 29 = .ok (.iload_n 3, 1) := by decide +kernel
theorem dX7_total_30 : decode cX7_total 30 = .ok (.iadd, 1) := by decide +kernel
theorem dX7_total_31 : decode cX7_total 31 = .ok (.iaload, 1) := by decide +kernel
theorem dX7_total_32 : decode cX7_total 32 = .ok (.iadd, 1) := by decide +kernel
theorem dX7_total_33 : decode cX7_total 33 = .ok (.istore_n 2, 1) := by decide +kernel
theorem dX7_total_34 : decode cX7_total 34 = .ok (.iinc 3 1, 3) := by decide +kernel
theorem dX7_total_37 : decode cX7_total 37 = .ok (.goto (-19), 3) := by decide +kernel
theorem dX7_total_40 : decode cX7_total 40 = .ok (.iload_n 2, 1) := by decide +kernel
theorem dX7_total_41 : decode cX7_total 41 = .ok (.ireturn, 1) := by decide +kernel
theorem dX7_seedsOf_0 : decode cX7_seedsOf 0 = .ok (.iconst 0, 1) := by decide +kernel
theorem dX7_seedsOf_1 : decode cX7_seedsOf 1 = .ok (.istore_n 3, 1) := by decide +kernel
theorem dX7_seedsOf_2 : decode cX7_seedsOf 2 = .ok (.bipush 6, 2) := by decide +kernel
theorem dX7_seedsOf_4 : decode cX7_seedsOf 4 = .ok (.iload_n 2, 1) := by decide +kernel
theorem dX7_seedsOf_5 : decode cX7_seedsOf 5 = .ok (.imul, 1) := by decide +kernel
theorem dX7_seedsOf_6 : decode cX7_seedsOf 6 = .ok (.istore 4, 2) := by decide +kernel
theorem dX7_seedsOf_8 : decode cX7_seedsOf 8 = .ok (.iload 4, 2) := by decide +kernel
theorem dX7_seedsOf_10 : decode cX7_seedsOf 10 = .ok (.bipush 6, 2) := by decide +kernel
theorem dX7_seedsOf_12 : decode cX7_seedsOf 12 = .ok (.iload_n 2, 1) := by decide +kernel
theorem dX7_seedsOf_13 : decode cX7_seedsOf 13 = .ok (.imul, 1) := by decide +kernel
theorem dX7_seedsOf_14 : decode cX7_seedsOf 14 = .ok (.bipush 6, 2) := by decide +kernel
theorem dX7_seedsOf_16 : decode cX7_seedsOf 16 = .ok (.iadd, 1) := by decide +kernel
theorem dX7_seedsOf_17 : decode cX7_seedsOf 17 = .ok (.if_icmp .ge 20, 3) := by decide +kernel
theorem dX7_seedsOf_20 : decode cX7_seedsOf 20 = .ok (.iload_n 3, 1) := by decide +kernel
theorem dX7_seedsOf_21 : decode cX7_seedsOf 21 = .ok (.aload_n 0, 1) := by decide +kernel
theorem dX7_seedsOf_22 : decode cX7_seedsOf 22 = .ok (.iload_n 1, 1) := by decide +kernel
theorem dX7_seedsOf_23 : decode cX7_seedsOf 23 = .ok (.iconst 0, 1) := by decide +kernel
theorem dX7_seedsOf_24 : decode cX7_seedsOf 24 = .ok (.iadd, 1) := by decide +kernel
theorem dX7_seedsOf_25 : decode cX7_seedsOf 25 = .ok (.iload 4, 2) := by decide +kernel
theorem dX7_seedsOf_27 : decode cX7_seedsOf 27 = .ok (.iadd, 1) := by decide +kernel
theorem dX7_seedsOf_28 : decode cX7_seedsOf 28 = .ok (.iaload, 1) := by decide +kernel
theorem dX7_seedsOf_29 : decode cX7_seedsOf 29 = .ok (.iadd, 1) := by decide +kernel
theorem dX7_seedsOf_30 : decode cX7_seedsOf 30 = .ok (.istore_n 3, 1) := by decide +kernel
theorem dX7_seedsOf_31 : decode cX7_seedsOf 31 = .ok (.iinc 4 1, 3) := by decide +kernel
theorem dX7_seedsOf_34 : decode cX7_seedsOf 34 = .ok (.goto (-26), 3) := by decide +kernel
theorem dX7_seedsOf_37 : decode cX7_seedsOf 37 = .ok (.iload_n 3, 1) := by decide +kernel
theorem dX7_seedsOf_38 : decode cX7_seedsOf 38 = .ok (.ireturn, 1) := by decide +kernel
theorem dX7_isHostile_0 : decode cX7_isHostile 0 = .ok (.aload_n 0, 1) := by decide +kernel
theorem dX7_isHostile_1 : decode cX7_isHostile 1 = .ok (.iload_n 1, 1) := by decide +kernel
theorem dX7_isHostile_2 : decode cX7_isHostile 2 = .ok (.bipush 12, 2) := by decide +kernel
theorem dX7_isHostile_4 : decode cX7_isHostile 4 = .ok (.iadd, 1) := by decide +kernel
theorem dX7_isHostile_5 : decode cX7_isHostile 5 = .ok (.iload_n 2, 1) := by decide +kernel
theorem dX7_isHostile_6 : decode cX7_isHostile 6 = .ok (.iadd, 1) := by decide +kernel
theorem dX7_isHostile_7 : decode cX7_isHostile 7 = .ok (.iaload, 1) := by decide +kernel
theorem dX7_isHostile_8 : decode cX7_isHostile 8 = .ok (.aload_n 0, 1) := by decide +kernel
theorem dX7_isHostile_9 : decode cX7_isHostile 9 = .ok (.iload_n 1, 1) := by decide +kernel
theorem dX7_isHostile_10 : decode cX7_isHostile 10 = .ok (.bipush 34, 2) := by decide +kernel
theorem dX7_isHostile_12 : decode cX7_isHostile 12 = .ok (.iadd, 1) := by decide +kernel
theorem dX7_isHostile_13 : decode cX7_isHostile 13 = .ok (.iconst 1, 1) := by decide +kernel
theorem dX7_isHostile_14 : decode cX7_isHostile 14 = .ok (.iadd, 1) := by decide +kernel
theorem dX7_isHostile_15 : decode cX7_isHostile 15 = .ok (.iaload, 1) := by decide +kernel
theorem dX7_isHostile_16 : decode cX7_isHostile 16 = .ok (.if_icmp .lt 7, 3) := by decide +kernel
theorem dX7_isHostile_19 : decode cX7_isHostile 19 = .ok (.iconst 1, 1) := by decide +kernel
theorem dX7_isHostile_20 : decode cX7_isHostile 20 = .ok (.goto 4, 3) := by decide +kernel
theorem dX7_isHostile_23 : decode cX7_isHostile 23 = .ok (.iconst 0, 1) := by decide +kernel
theorem dX7_isHostile_24 : decode cX7_isHostile 24 = .ok (.ireturn, 1) := by decide +kernel
theorem dX7_ends_0 : decode cX7_ends 0 = .ok (.aload_n 0, 1) := by decide +kernel
theorem dX7_ends_1 : decode cX7_ends 1 = .ok (.iload_n 1, 1) := by decide +kernel
theorem dX7_ends_2 : decode cX7_ends 2 = .ok (.invokestatic 50, 3) := by decide +kernel
theorem dX7_ends_5 : decode cX7_ends 5 = .ok (.istore_n 2, 1) := by decide +kernel
theorem dX7_ends_6 : decode cX7_ends 6 = .ok (.aload_n 0, 1) := by decide +kernel
theorem dX7_ends_7 : decode cX7_ends 7 = .ok (.iload_n 1, 1) := by decide +kernel
theorem dX7_ends_8 : decode cX7_ends 8 = .ok (.iconst 0, 1) := by decide +kernel
theorem dX7_ends_9 : decode cX7_ends 9 = .ok (.invokestatic 54, 3) := by decide +kernel
theorem dX7_ends_12 : decode cX7_ends 12 = .ok (.aload_n 0, 1) := by decide +kernel
theorem dX7_ends_13 : decode cX7_ends 13 = .ok (.iload_n 1, 1) := by decide +kernel
theorem dX7_ends_14 : decode cX7_ends 14 = .ok (.iconst 1, 1) := by decide +kernel
theorem dX7_ends_15 : decode cX7_ends 15 = .ok (.invokestatic 54, 3) := by decide +kernel
theorem dX7_ends_18 : decode cX7_ends 18 = .ok (.iadd, 1) := by decide +kernel
theorem dX7_ends_19 : decode cX7_ends 19 = .ok (.ifCond .eq 41, 3) := by decide +kernel
theorem dX7_ends_22 : decode cX7_ends 22 = .ok (.aload_n 0, 1) := by decide +kernel
theorem dX7_ends_23 : decode cX7_ends 23 = .ok (.iload_n 1, 1) := by decide +kernel
theorem dX7_ends_24 : decode cX7_ends 24 = .ok (.bipush 28, 2) := by decide +kernel
theorem dX7_ends_26 : decode cX7_ends 26 = .ok (.iadd, 1) := by decide +kernel
theorem dX7_ends_27 : decode cX7_ends 27 = .ok (.iaload, 1) := by decide +kernel
theorem dX7_ends_28 : decode cX7_ends 28 = .ok (.sipush 300, 3) := by decide +kernel
theorem dX7_ends_31 : decode cX7_ends 31 = .ok (.if_icmp .eq 29, 3) := by decide +kernel
theorem dX7_ends_34 : decode cX7_ends 34 = .ok (.iconst 2, 1) := by decide +kernel
theorem dX7_ends_35 : decode cX7_ends 35 = .ok (.aload_n 0, 1) := by decide +kernel
theorem dX7_ends_36 : decode cX7_ends 36 = .ok (.iload_n 1, 1) := by decide +kernel
theorem dX7_ends_37 : decode cX7_ends 37 = .ok (.bipush 24, 2) := by decide +kernel
theorem dX7_ends_39 : decode cX7_ends 39 = .ok (.iadd, 1) := by decide +kernel
theorem dX7_ends_40 : decode cX7_ends 40 = .ok (.iaload, 1) := by decide +kernel
theorem dX7_ends_41 : decode cX7_ends 41 = .ok (.imul, 1) := by decide +kernel
theorem dX7_ends_42 : decode cX7_ends 42 = .ok (.iload_n 2, 1) := by decide +kernel
theorem dX7_ends_43 : decode cX7_ends 43 = .ok (.if_icmp .gt 17, 3) := by decide +kernel
theorem dX7_ends_46 : decode cX7_ends 46 = .ok (.iconst 2, 1) := by decide +kernel
theorem dX7_ends_47 : decode cX7_ends 47 = .ok (.aload_n 0, 1) := by decide +kernel
theorem dX7_ends_48 : decode cX7_ends 48 = .ok (.iload_n 1, 1) := by decide +kernel
theorem dX7_ends_49 : decode cX7_ends 49 = .ok (.bipush 24, 2) := by decide +kernel
theorem dX7_ends_51 : decode cX7_ends 51 = .ok (.iadd, 1) := by decide +kernel
theorem dX7_ends_52 : decode cX7_ends 52 = .ok (.iconst 1, 1) := by decide +kernel
theorem dX7_ends_53 : decode cX7_ends 53 = .ok (.iadd, 1) := by decide +kernel
theorem dX7_ends_54 : decode cX7_ends 54 = .ok (.iaload, 1) := by decide +kernel
theorem dX7_ends_55 : decode cX7_ends 55 = .ok (.imul, 1) := by decide +kernel
theorem dX7_ends_56 : decode cX7_ends 56 = .ok (.iload_n 2, 1) := by decide +kernel
theorem dX7_ends_57 : decode cX7_ends 57 = .ok (.if_icmp .le 7, 3) := by decide +kernel
theorem dX7_ends_60 : decode cX7_ends 60 = .ok (.iconst 1, 1) := by decide +kernel
theorem dX7_ends_61 : decode cX7_ends 61 = .ok (.goto 4, 3) := by decide +kernel
theorem dX7_ends_64 : decode cX7_ends 64 = .ok (.iconst 0, 1) := by decide +kernel
theorem dX7_ends_65 : decode cX7_ends 65 = .ok (.istore_n 3, 1) := by decide +kernel
theorem dX7_ends_66 : decode cX7_ends 66 = .ok (.iconst 0, 1) := by decide +kernel
theorem dX7_ends_67 : decode cX7_ends 67 = .ok (.istore 4, 2) := by decide +kernel
theorem dX7_ends_69 : decode cX7_ends 69 = .ok (.iload 4, 2) := by decide +kernel
theorem dX7_ends_71 : decode cX7_ends 71 = .ok (.bipush 12, 2) := by decide +kernel
theorem dX7_ends_73 : decode cX7_ends 73 = .ok (.if_icmp .ge 45, 3) := by decide +kernel
theorem dX7_ends_76 : decode cX7_ends 76 = .ok (.iload_n 3, 1) := by decide +kernel
theorem dX7_ends_77 : decode cX7_ends 77 = .ok (.ifCond .eq 41, 3) := by decide +kernel
theorem dX7_ends_80 : decode cX7_ends 80 = .ok (.aload_n 0, 1) := by decide +kernel
theorem dX7_ends_81 : decode cX7_ends 81 = .ok (.iload_n 1, 1) := by decide +kernel
theorem dX7_ends_82 : decode cX7_ends 82 = .ok (.bipush 24, 2) := by decide +kernel
theorem dX7_ends_84 : decode cX7_ends 84 = .ok (.iadd, 1) := by decide +kernel
theorem dX7_ends_85 : decode cX7_ends 85 = .ok (.iload 4, 2) := by decide +kernel
theorem dX7_ends_87 : decode cX7_ends 87 = .ok (.invokestatic 58, 3) := by decide +kernel
theorem dX7_ends_90 : decode cX7_ends 90 = .ok (.iadd, 1) := by decide +kernel
theorem dX7_ends_91 : decode cX7_ends 91 = .ok (.dup2, 1) := by decide +kernel
theorem dX7_ends_92 : decode cX7_ends 92 = .ok (.iaload, 1) := by decide +kernel
theorem dX7_ends_93 : decode cX7_ends 93 = .ok (.aload_n 0, 1) := by decide +kernel
theorem dX7_ends_94 : decode cX7_ends 94 = .ok (.iload_n 1, 1) := by decide +kernel
theorem dX7_ends_95 : decode cX7_ends 95 = .ok (.iconst 0, 1) := by decide +kernel
theorem dX7_ends_96 : decode cX7_ends 96 = .ok (.iadd, 1) := by decide +kernel
theorem dX7_ends_97 : decode cX7_ends 97 = .ok (.iload 4, 2) := by decide +kernel
theorem dX7_ends_99 : decode cX7_ends 99 = .ok (.iadd, 1) := by decide +kernel
theorem dX7_ends_100 : decode cX7_ends 100 = .ok (.iaload, 1) := by decide +kernel
theorem dX7_ends_101 : decode cX7_ends 101 = .ok (.iadd, 1) := by decide +kernel
theorem dX7_ends_102 : decode cX7_ends 102 = .ok (.iastore, 1) := by decide +kernel
theorem dX7_ends_103 : decode cX7_ends 103 = .ok (.aload_n 0, 1) := by decide +kernel
theorem dX7_ends_104 : decode cX7_ends 104 = .ok (.iload_n 1, 1) := by decide +kernel
theorem dX7_ends_105 : decode cX7_ends 105 = .ok (.iconst 0, 1) := by decide +kernel
theorem dX7_ends_106 : decode cX7_ends 106 = .ok (.iadd, 1) := by decide +kernel
theorem dX7_ends_107 : decode cX7_ends 107 = .ok (.iload 4, 2) := by decide +kernel
theorem dX7_ends_109 : decode cX7_ends 109 = .ok (.iadd, 1) := by decide +kernel
theorem dX7_ends_110 : decode cX7_ends 110 = .ok (.iconst 0, 1) := by decide +kernel
theorem dX7_ends_111 : decode cX7_ends 111 = .ok (.iastore, 1) := by decide +kernel
theorem dX7_ends_112 : decode cX7_ends 112 = .ok (.iinc 4 1, 3) := by decide +kernel
theorem dX7_ends_115 : decode cX7_ends 115 = .ok (.goto (-46), 3) := by decide +kernel
theorem dX7_ends_118 : decode cX7_ends 118 = .ok (.aload_n 0, 1) := by decide +kernel
theorem dX7_ends_119 : decode cX7_ends 119 = .ok (.iload_n 1, 1) := by decide +kernel
theorem dX7_ends_120 : decode cX7_ends 120 = .ok (.bipush 27, 2) := by decide +kernel
theorem dX7_ends_122 : decode cX7_ends 122 = .ok (.iadd, 1) := by decide +kernel
theorem dX7_ends_123 : decode cX7_ends 123 = .ok (.iload_n 3, 1) := by decide +kernel
theorem dX7_ends_124 : decode cX7_ends 124 = .ok (.ifCond .eq 7, 3) := by decide +kernel
theorem dX7_ends_127 : decode cX7_ends 127 = .ok (.iconst 1, 1) := by decide +kernel
theorem dX7_ends_128 : decode cX7_ends 128 = .ok (.goto 4, 3) := by decide +kernel
theorem dX7_ends_131 : decode cX7_ends 131 = .ok (.iconst 0, 1) := by decide +kernel
theorem dX7_ends_132 : decode cX7_ends 132 = .ok (.iastore, 1) := by decide +kernel
theorem dX7_ends_133 : decode cX7_ends 133 = .ok (.iload_n 3, 1) := by decide +kernel
theorem dX7_ends_134 : decode cX7_ends 134 = .ok (.ireturn, 1) := by decide +kernel
theorem dX7_sows_0 : decode cX7_sows 0 = .ok (.aload_n 0, 1) := by decide +kernel
theorem dX7_sows_1 : decode cX7_sows 1 = .ok (.iload_n 1, 1) := by decide +kernel
theorem dX7_sows_2 : decode cX7_sows 2 = .ok (.iconst 0, 1) := by decide +kernel
theorem dX7_sows_3 : decode cX7_sows 3 = .ok (.iadd, 1) := by decide +kernel
theorem dX7_sows_4 : decode cX7_sows 4 = .ok (.iload_n 2, 1) := by decide +kernel
theorem dX7_sows_5 : decode cX7_sows 5 = .ok (.iadd, 1) := by decide +kernel
theorem dX7_sows_6 : decode cX7_sows 6 = .ok (.iaload, 1) := by decide +kernel
theorem dX7_sows_7 : decode cX7_sows 7 = .ok (.istore 4, 2) := by decide +kernel
theorem dX7_sows_9 : decode cX7_sows 9 = .ok (.aload_n 0, 1) := by decide +kernel
theorem dX7_sows_10 : decode cX7_sows 10 = .ok (.iload_n 1, 1) := by decide +kernel
theorem dX7_sows_11 : decode cX7_sows 11 = .ok (.iconst 0, 1) := by decide +kernel
theorem dX7_sows_12 : decode cX7_sows 12 = .ok (.iadd, 1) := by decide +kernel
theorem dX7_sows_13 : decode cX7_sows 13 = .ok (.iload_n 2, 1) := by decide +kernel
theorem dX7_sows_14 : decode cX7_sows 14 = .ok (.iadd, 1) := by decide +kernel
theorem dX7_sows_15 : decode cX7_sows 15 = .ok (.iconst 0, 1) := by decide +kernel
theorem dX7_sows_16 : decode cX7_sows 16 = .ok (.iastore, 1) := by decide +kernel
theorem dX7_sows_17 : decode cX7_sows 17 = .ok (.iload_n 2, 1) := by decide +kernel
theorem dX7_sows_18 : decode cX7_sows 18 = .ok (.istore 5, 2) := by decide +kernel
theorem dX7_sows_20 : decode cX7_sows 20 = .ok (.iload 4, 2) := by decide +kernel
theorem dX7_sows_22 : decode cX7_sows 22 = .ok (.ifCond .le 107, 3) := by decide +kernel
theorem dX7_sows_25 : decode cX7_sows 25 = .ok (.iload 5, 2) := by decide +kernel
theorem dX7_sows_27 : decode cX7_sows 27 = .ok (.iconst 1, 1) := by decide +kernel
theorem dX7_sows_28 : decode cX7_sows 28 = .ok (.iadd, 1) := by decide +kernel
theorem dX7_sows_29 : decode cX7_sows 29 = .ok (.bipush 12, 2) := by decide +kernel
theorem dX7_sows_31 : decode cX7_sows 31 = .ok (.irem, 1) := by decide +kernel
theorem dX7_sows_32 : decode cX7_sows 32 = .ok (.istore 5, 2) := by decide +kernel
theorem dX7_sows_34 : decode cX7_sows 34 = .ok (.iload 5, 2) := by decide +kernel
theorem dX7_sows_36 : decode cX7_sows 36 = .ok (.iload_n 2, 1) := by decide +kernel
theorem dX7_sows_37 : decode cX7_sows 37 = .ok (.if_icmp .eq (-17), 3) := by decide +kernel
theorem dX7_sows_40 : decode cX7_sows 40 = .ok (.aload_n 0, 1) := by decide +kernel
theorem dX7_sows_41 : decode cX7_sows 41 = .ok (.iload_n 1, 1) := by decide +kernel
theorem dX7_sows_42 : decode cX7_sows 42 = .ok (.bipush 34, 2) := by decide +kernel
theorem dX7_sows_44 : decode cX7_sows 44 = .ok (.iadd, 1) := by decide +kernel
theorem dX7_sows_45 : decode cX7_sows 45 = .ok (.iconst 3, 1) := by decide +kernel
theorem dX7_sows_46 : decode cX7_sows 46 = .ok (.iadd, 1) := by decide +kernel
theorem dX7_sows_47 : decode cX7_sows 47 = .ok (.iaload, 1) := by decide +kernel
theorem dX7_sows_48 : decode cX7_sows 48 = .ok (.istore 6, 2) := by decide +kernel
theorem dX7_sows_50 : decode cX7_sows 50 = .ok (.iload 5, 2) := by decide +kernel
theorem dX7_sows_52 : decode cX7_sows 52 = .ok (.invokestatic 58, 3) := by decide +kernel
theorem dX7_sows_55 : decode cX7_sows 55 = .ok (.iload_n 3, 1) := by decide +kernel
theorem dX7_sows_56 : decode cX7_sows 56 = .ok (.if_icmp .eq 55, 3) := by decide +kernel
theorem dX7_sows_59 : decode cX7_sows 59 = .ok (.aload_n 0, 1) := by decide +kernel
theorem dX7_sows_60 : decode cX7_sows 60 = .ok (.iload_n 1, 1) := by decide +kernel
theorem dX7_sows_61 : decode cX7_sows 61 = .ok (.iload 5, 2) := by decide +kernel
theorem dX7_sows_63 : decode cX7_sows 63 = .ok (.invokestatic 62, 3) := by decide +kernel
theorem dX7_sows_66 : decode cX7_sows 66 = .ok (.ifCond .eq 45, 3) := by decide +kernel
theorem dX7_sows_69 : decode cX7_sows 69 = .ok (.iload 4, 2) := by decide +kernel
theorem dX7_sows_71 : decode cX7_sows 71 = .ok (.iload 6, 2) := by decide +kernel
theorem dX7_sows_73 : decode cX7_sows 73 = .ok (.if_icmp .le 38, 3) := by decide +kernel
theorem dX7_sows_76 : decode cX7_sows 76 = .ok (.iload 4, 2) := by decide +kernel
theorem dX7_sows_78 : decode cX7_sows 78 = .ok (.iload 6, 2) := by decide +kernel
theorem dX7_sows_80 : decode cX7_sows 80 = .ok (.isub, 1) := by decide +kernel
theorem dX7_sows_81 : decode cX7_sows 81 = .ok (.istore 4, 2) := by decide +kernel
theorem dX7_sows_83 : decode cX7_sows 83 = .ok (.aload_n 0, 1) := by decide +kernel
theorem dX7_sows_84 : decode cX7_sows 84 = .ok (.iload_n 1, 1) := by decide +kernel
theorem dX7_sows_85 : decode cX7_sows 85 = .ok (.bipush 24, 2) := by decide +kernel
theorem dX7_sows_87 : decode cX7_sows 87 = .ok (.iadd, 1) := by decide +kernel
theorem dX7_sows_88 : decode cX7_sows 88 = .ok (.iconst 1, 1) := by decide +kernel
theorem dX7_sows_89 : decode cX7_sows 89 = .ok (.iadd, 1) := by decide +kernel
theorem dX7_sows_90 : decode cX7_sows 90 = .ok (.iload_n 3, 1) := by decide +kernel
theorem dX7_sows_91 : decode cX7_sows 91 = .ok (.isub, 1) := by decide +kernel
theorem dX7_sows_92 : decode cX7_sows 92 = .ok (.dup2, 1) := by decide +kernel
theorem dX7_sows_93 : decode cX7_sows 93 = .ok (.iaload, 1) := by decide +kernel
theorem dX7_sows_94 : decode cX7_sows 94 = .ok (.iload 6, 2) := by decide +kernel
theorem dX7_sows_96 : decode cX7_sows 96 = .ok (.iadd, 1) := by decide +kernel
theorem dX7_sows_97 : decode cX7_sows 97 = .ok (.iastore, 1) := by decide +kernel
theorem dX7_sows_98 : decode cX7_sows 98 = .ok (.aload_n 0, 1) := by decide +kernel
theorem dX7_sows_99 : decode cX7_sows 99 = .ok (.iload_n 1, 1) := by decide +kernel
theorem dX7_sows_100 : decode cX7_sows 100 = .ok (.bipush 29, 2) := by decide +kernel
theorem dX7_sows_102 : decode cX7_sows 102 = .ok (.iadd, 1) := by decide +kernel
theorem dX7_sows_103 : decode cX7_sows 103 = .ok (.iconst 4, 1) := by decide +kernel
theorem dX7_sows_104 : decode cX7_sows 104 = .ok (.iadd, 1) := by decide +kernel
theorem dX7_sows_105 : decode cX7_sows 105 = .ok (.dup2, 1) := by decide +kernel
theorem dX7_sows_106 : decode cX7_sows 106 = .ok (.iaload, 1) := by decide +kernel
theorem dX7_sows_107 : decode cX7_sows 107 = .ok (.iload 6, 2) := by decide +kernel
theorem dX7_sows_109 : decode cX7_sows 109 = .ok (.iadd, 1) := by decide +kernel
theorem dX7_sows_110 : decode cX7_sows 110 = .ok (.iastore, 1) := by decide +kernel
theorem dX7_sows_111 : decode cX7_sows 111 = .ok (.aload_n 0, 1) := by decide +kernel
theorem dX7_sows_112 : decode cX7_sows 112 = .ok (.iload_n 1, 1) := by decide +kernel
theorem dX7_sows_113 : decode cX7_sows 113 = .ok (.iconst 0, 1) := by decide +kernel
theorem dX7_sows_114 : decode cX7_sows 114 = .ok (.iadd, 1) := by decide +kernel
theorem dX7_sows_115 : decode cX7_sows 115 = .ok (.iload 5, 2) := by decide +kernel
theorem dX7_sows_117 : decode cX7_sows 117 = .ok (.iadd, 1) := by decide +kernel
theorem dX7_sows_118 : decode cX7_sows 118 = .ok (.dup2, 1) := by decide +kernel
theorem dX7_sows_119 : decode cX7_sows 119 = .ok (.iaload, 1) := by decide +kernel
theorem dX7_sows_120 : decode cX7_sows 120 = .ok (.iconst 1, 1) := by decide +kernel
theorem dX7_sows_121 : decode cX7_sows 121 = .ok (.iadd, 1) := by decide +kernel
theorem dX7_sows_122 : decode cX7_sows 122 = .ok (.iastore, 1) := by decide +kernel
theorem dX7_sows_123 : decode cX7_sows 123 = .ok (.iinc 4 (-1), 3) := by decide +kernel
theorem dX7_sows_126 : decode cX7_sows 126 = .ok (.goto (-106), 3) := by decide +kernel
theorem dX7_sows_129 : decode cX7_sows 129 = .ok (.iload 5, 2) := by decide +kernel
theorem dX7_sows_131 : decode cX7_sows 131 = .ok (.ireturn, 1) := by decide +kernel
theorem dX7_captures_0 : decode cX7_captures 0 = .ok (.bipush 11, 2) := by decide +kernel
theorem dX7_captures_2 : decode cX7_captures 2 = .ok (.iload_n 2, 1) := by decide +kernel
theorem dX7_captures_3 : decode cX7_captures 3 = .ok (.isub, 1) := by decide +kernel
theorem dX7_captures_4 : decode cX7_captures 4 = .ok (.istore 4, 2) := by decide +kernel
theorem dX7_captures_6 : decode cX7_captures 6 = .ok (.aload_n 0, 1) := by decide +kernel
theorem dX7_captures_7 : decode cX7_captures 7 = .ok (.iload_n 1, 1) := by decide +kernel
theorem dX7_captures_8 : decode cX7_captures 8 = .ok (.iconst 0, 1) := by decide +kernel
theorem dX7_captures_9 : decode cX7_captures 9 = .ok (.iadd, 1) := by decide +kernel
theorem dX7_captures_10 : decode cX7_captures 10 = .ok (.iload_n 2, 1) := by decide +kernel
theorem dX7_captures_11 : decode cX7_captures 11 = .ok (.iadd, 1) := by decide +kernel
theorem dX7_captures_12 : decode cX7_captures 12 = .ok (.iaload, 1) := by decide +kernel
theorem dX7_captures_13 : decode cX7_captures 13 = .ok (.aload_n 0, 1) := by decide +kernel
theorem dX7_captures_14 : decode cX7_captures 14 = .ok (.iload_n 1, 1) := by decide +kernel
theorem dX7_captures_15 : decode cX7_captures 15 = .ok (.iconst 0, 1) := by decide +kernel
theorem dX7_captures_16 : decode cX7_captures 16 = .ok (.iadd, 1) := by decide +kernel
theorem dX7_captures_17 : decode cX7_captures 17 = .ok (.iload 4, 2) := by decide +kernel
theorem dX7_captures_19 : decode cX7_captures 19 = .ok (.iadd, 1) := by decide +kernel
theorem dX7_captures_20 : decode cX7_captures 20 = .ok (.iaload, 1) := by decide +kernel
theorem dX7_captures_21 : decode cX7_captures 21 = .ok (.iadd, 1) := by decide +kernel
theorem dX7_captures_22 : decode cX7_captures 22 = .ok (.istore 5, 2) := by decide +kernel
theorem dX7_captures_24 : decode cX7_captures 24 = .ok (.aload_n 0, 1) := by decide +kernel
theorem dX7_captures_25 : decode cX7_captures 25 = .ok (.iload_n 1, 1) := by decide +kernel
theorem dX7_captures_26 : decode cX7_captures 26 = .ok (.bipush 24, 2) := by decide +kernel
theorem dX7_captures_28 : decode cX7_captures 28 = .ok (.iadd, 1) := by decide +kernel
theorem dX7_captures_29 : decode cX7_captures 29 = .ok (.iload_n 3, 1) := by decide +kernel
theorem dX7_captures_30 : decode cX7_captures 30 = .ok (.iadd, 1) := by decide +kernel
theorem dX7_captures_31 : decode cX7_captures 31 = .ok (.dup2, 1) := by decide +kernel
theorem dX7_captures_32 : decode cX7_captures 32 = .ok (.iaload, 1) := by decide +kernel
theorem dX7_captures_33 : decode cX7_captures 33 = .ok (.iload 5, 2) := by decide +kernel
theorem dX7_captures_35 : decode cX7_captures 35 = .ok (.iadd, 1) := by decide +kernel
theorem dX7_captures_36 : decode cX7_captures 36 = .ok (.iastore, 1) := by decide +kernel
theorem dX7_captures_37 : decode cX7_captures 37 = .ok (.aload_n 0, 1) := by decide +kernel
theorem dX7_captures_38 : decode cX7_captures 38 = .ok (.iload_n 1, 1) := by decide +kernel
theorem dX7_captures_39 : decode cX7_captures 39 = .ok (.iconst 0, 1) := by decide +kernel
theorem dX7_captures_40 : decode cX7_captures 40 = .ok (.iadd, 1) := by decide +kernel
theorem dX7_captures_41 : decode cX7_captures 41 = .ok (.iload_n 2, 1) := by decide +kernel
theorem dX7_captures_42 : decode cX7_captures 42 = .ok (.iadd, 1) := by decide +kernel
theorem dX7_captures_43 : decode cX7_captures 43 = .ok (.iconst 0, 1) := by decide +kernel
theorem dX7_captures_44 : decode cX7_captures 44 = .ok (.iastore, 1) := by decide +kernel
theorem dX7_captures_45 : decode cX7_captures 45 = .ok (.aload_n 0, 1) := by decide +kernel
theorem dX7_captures_46 : decode cX7_captures 46 = .ok (.iload_n 1, 1) := by decide +kernel
theorem dX7_captures_47 : decode cX7_captures 47 = .ok (.iconst 0, 1) := by decide +kernel
theorem dX7_captures_48 : decode cX7_captures 48 = .ok (.iadd, 1) := by decide +kernel
theorem dX7_captures_49 : decode cX7_captures 49 = .ok (.iload 4, 2) := by decide +kernel
theorem dX7_captures_51 : decode cX7_captures 51 = .ok (.iadd, 1) := by decide +kernel
theorem dX7_captures_52 : decode cX7_captures 52 = .ok (.iconst 0, 1) := by decide +kernel
theorem dX7_captures_53 : decode cX7_captures 53 = .ok (.iastore, 1) := by decide +kernel
theorem dX7_captures_54 : decode cX7_captures 54 = .ok (.aload_n 0, 1) := by decide +kernel
theorem dX7_captures_55 : decode cX7_captures 55 = .ok (.iload_n 1, 1) := by decide +kernel
theorem dX7_captures_56 : decode cX7_captures 56 = .ok (.bipush 12, 2) := by decide +kernel
theorem dX7_captures_58 : decode cX7_captures 58 = .ok (.iadd, 1) := by decide +kernel
theorem dX7_captures_59 : decode cX7_captures 59 = .ok (.iload 4, 2) := by decide +kernel
theorem dX7_captures_61 : decode cX7_captures 61 = .ok (.iadd, 1) := by decide +kernel
theorem dX7_captures_62 : decode cX7_captures 62 = .ok (.iconst 0, 1) := by decide +kernel
theorem dX7_captures_63 : decode cX7_captures 63 = .ok (.iastore, 1) := by decide +kernel
theorem dX7_captures_64 : decode cX7_captures 64 = .ok (.aload_n 0, 1) := by decide +kernel
theorem dX7_captures_65 : decode cX7_captures 65 = .ok (.iload_n 1, 1) := by decide +kernel
theorem dX7_captures_66 : decode cX7_captures 66 = .ok (.bipush 29, 2) := by decide +kernel
theorem dX7_captures_68 : decode cX7_captures 68 = .ok (.iadd, 1) := by decide +kernel
theorem dX7_captures_69 : decode cX7_captures 69 = .ok (.iconst 3, 1) := by decide +kernel
theorem dX7_captures_70 : decode cX7_captures 70 = .ok (.iadd, 1) := by decide +kernel
theorem dX7_captures_71 : decode cX7_captures 71 = .ok (.iload 5, 2) := by decide +kernel
theorem dX7_captures_73 : decode cX7_captures 73 = .ok (.iastore, 1) := by decide +kernel
theorem dX7_captures_74 : decode cX7_captures 74 = .ok (.return_, 1) := by decide +kernel
theorem dX7_moves_0 : decode cX7_moves 0 = .ok (.aload_n 0, 1) := by decide +kernel
theorem dX7_moves_1 : decode cX7_moves 1 = .ok (.iload_n 1, 1) := by decide +kernel
theorem dX7_moves_2 : decode cX7_moves 2 = .ok (.bipush 26, 2) := by decide +kernel
theorem dX7_moves_4 : decode cX7_moves 4 = .ok (.iadd, 1) := by decide +kernel
theorem dX7_moves_5 : decode cX7_moves 5 = .ok (.iaload, 1) := by decide +kernel
theorem dX7_moves_6 : decode cX7_moves 6 = .ok (.istore_n 3, 1) := by decide +kernel
theorem dX7_moves_7 : decode cX7_moves 7 = .ok (.iconst 0, 1) := by decide +kernel
theorem dX7_moves_8 : decode cX7_moves 8 = .ok (.istore 4, 2) := by decide +kernel
theorem dX7_moves_10 : decode cX7_moves 10 = .ok (.iload 4, 2) := by decide +kernel
theorem dX7_moves_12 : decode cX7_moves 12 = .ok (.iconst 5, 1) := by decide +kernel
theorem dX7_moves_13 : decode cX7_moves 13 = .ok (.if_icmp .ge 19, 3) := by decide +kernel
theorem dX7_moves_16 : decode cX7_moves 16 = .ok (.aload_n 0, 1) := by decide +kernel
theorem dX7_moves_17 : decode cX7_moves 17 = .ok (.iload_n 1, 1) := by decide +kernel
theorem dX7_moves_18 : decode cX7_moves 18 = .ok (.bipush 29, 2) := by decide +kernel
theorem dX7_moves_20 : decode cX7_moves 20 = .ok (.iadd, 1) := by decide +kernel
theorem dX7_moves_21 : decode cX7_moves 21 = .ok (.iload 4, 2) := by decide +kernel
theorem dX7_moves_23 : decode cX7_moves 23 = .ok (.iadd, 1) := by decide +kernel
theorem dX7_moves_24 : decode cX7_moves 24 = .ok (.iconst 0, 1) := by decide +kernel
theorem dX7_moves_25 : decode cX7_moves 25 = .ok (.iastore, 1) := by decide +kernel
theorem dX7_moves_26 : decode cX7_moves 26 = .ok (.iinc 4 1, 3) := by decide +kernel
theorem dX7_moves_29 : decode cX7_moves 29 = .ok (.goto (-19), 3) := by decide +kernel
theorem dX7_moves_32 : decode cX7_moves 32 = .ok (.iload_n 2, 1) := by decide +kernel
theorem dX7_moves_33 : decode cX7_moves 33 = .ok (.istore 4, 2) := by decide +kernel
theorem dX7_moves_35 : decode cX7_moves 35 = .ok (.iconst 1, 1) := by decide +kernel
theorem dX7_moves_36 : decode cX7_moves 36 = .ok (.istore 5, 2) := by decide +kernel
theorem dX7_moves_38 : decode cX7_moves 38 = .ok (.iload 5, 2) := by decide +kernel
theorem dX7_moves_40 : decode cX7_moves 40 = .ok (.ifCond .eq 148, 3) := by decide +kernel
theorem dX7_moves_43 : decode cX7_moves 43 = .ok (.aload_n 0, 1) := by decide +kernel
theorem dX7_moves_44 : decode cX7_moves 44 = .ok (.iload_n 1, 1) := by decide +kernel
theorem dX7_moves_45 : decode cX7_moves 45 = .ok (.iload 4, 2) := by decide +kernel
theorem dX7_moves_47 : decode cX7_moves 47 = .ok (.iload_n 3, 1) := by decide +kernel
theorem dX7_moves_48 : decode cX7_moves 48 = .ok (.invokestatic 66, 3) := by decide +kernel
theorem dX7_moves_51 : decode cX7_moves 51 = .ok (.istore 4, 2) := by decide +kernel
theorem dX7_moves_53 : decode cX7_moves 53 = .ok (.aload_n 0, 1) := by decide +kernel
theorem dX7_moves_54 : decode cX7_moves 54 = .ok (.iload_n 1, 1) := by decide +kernel
theorem dX7_moves_55 : decode cX7_moves 55 = .ok (.bipush 29, 2) := by decide +kernel
theorem dX7_moves_57 : decode cX7_moves 57 = .ok (.iadd, 1) := by decide +kernel
theorem dX7_moves_58 : decode cX7_moves 58 = .ok (.iconst 1, 1) := by decide +kernel
theorem dX7_moves_59 : decode cX7_moves 59 = .ok (.iadd, 1) := by decide +kernel
theorem dX7_moves_60 : decode cX7_moves 60 = .ok (.dup2, 1) := by decide +kernel
theorem dX7_moves_61 : decode cX7_moves 61 = .ok (.iaload, 1) := by decide +kernel
theorem dX7_moves_62 : decode cX7_moves 62 = .ok (.iconst 1, 1) := by decide +kernel
theorem dX7_moves_63 : decode cX7_moves 63 = .ok (.iadd, 1) := by decide +kernel
theorem dX7_moves_64 : decode cX7_moves 64 = .ok (.iastore, 1) := by decide +kernel
theorem dX7_moves_65 : decode cX7_moves 65 = .ok (.aload_n 0, 1) := by decide +kernel
theorem dX7_moves_66 : decode cX7_moves 66 = .ok (.iload_n 1, 1) := by decide +kernel
theorem dX7_moves_67 : decode cX7_moves 67 = .ok (.iconst 0, 1) := by decide +kernel
theorem dX7_moves_68 : decode cX7_moves 68 = .ok (.iadd, 1) := by decide +kernel
theorem dX7_moves_69 : decode cX7_moves 69 = .ok (.iload 4, 2) := by decide +kernel
theorem dX7_moves_71 : decode cX7_moves 71 = .ok (.iadd, 1) := by decide +kernel
theorem dX7_moves_72 : decode cX7_moves 72 = .ok (.iaload, 1) := by decide +kernel
theorem dX7_moves_73 : decode cX7_moves 73 = .ok (.iconst 1, 1) := by decide +kernel
theorem dX7_moves_74 : decode cX7_moves 74 = .ok (.if_icmp .le 7, 3) := by decide +kernel
theorem dX7_moves_77 : decode cX7_moves 77 = .ok (.iconst 1, 1) := by decide +kernel
theorem dX7_moves_78 : decode cX7_moves 78 = .ok (.goto 4, 3) := by decide +kernel
theorem dX7_moves_81 : decode cX7_moves 81 = .ok (.iconst 0, 1) := by decide +kernel
theorem dX7_moves_82 : decode cX7_moves 82 = .ok (.istore 6, 2) := by decide +kernel
theorem dX7_moves_84 : decode cX7_moves 84 = .ok (.aload_n 0, 1) := by decide +kernel
theorem dX7_moves_85 : decode cX7_moves 85 = .ok (.iload_n 1, 1) := by decide +kernel
theorem dX7_moves_86 : decode cX7_moves 86 = .ok (.iload 4, 2) := by decide +kernel
theorem dX7_moves_88 : decode cX7_moves 88 = .ok (.invokestatic 62, 3) := by decide +kernel
theorem dX7_moves_91 : decode cX7_moves 91 = .ok (.istore 7, 2) := by decide +kernel
theorem dX7_moves_93 : decode cX7_moves 93 = .ok (.aload_n 0, 1) := by decide +kernel
theorem dX7_moves_94 : decode cX7_moves 94 = .ok (.iload_n 1, 1) := by decide +kernel
theorem dX7_moves_95 : decode cX7_moves 95 = .ok (.bipush 12, 2) := by decide +kernel
theorem dX7_moves_97 : decode cX7_moves 97 = .ok (.iadd, 1) := by decide +kernel
theorem dX7_moves_98 : decode cX7_moves 98 = .ok (.iload 4, 2) := by decide +kernel
theorem dX7_moves_100 : decode cX7_moves 100 = .ok (.iadd, 1) := by decide +kernel
theorem dX7_moves_101 : decode cX7_moves 101 = .ok (.dup2, 1) := by decide +kernel
theorem dX7_moves_102 : decode cX7_moves 102 = .ok (.iaload, 1) := by decide +kernel
theorem dX7_moves_103 : decode cX7_moves 103 = .ok (.iconst 1, 1) := by decide +kernel
theorem dX7_moves_104 : decode cX7_moves 104 = .ok (.iadd, 1) := by decide +kernel
theorem dX7_moves_105 : decode cX7_moves 105 = .ok (.iastore, 1) := by decide +kernel
theorem dX7_moves_106 : decode cX7_moves 106 = .ok (.iload 6, 2) := by decide +kernel
theorem dX7_moves_108 : decode cX7_moves 108 = .ok (.ifCond .eq 31, 3) := by decide +kernel
theorem dX7_moves_111 : decode cX7_moves 111 = .ok (.iload 7, 2) := by decide +kernel
theorem dX7_moves_113 : decode cX7_moves 113 = .ok (.ifCond .ne 26, 3) := by decide +kernel
theorem dX7_moves_116 : decode cX7_moves 116 = .ok (.aload_n 0, 1) := by decide +kernel
theorem dX7_moves_117 : decode cX7_moves 117 = .ok (.iload_n 1, 1) := by decide +kernel
theorem dX7_moves_118 : decode cX7_moves 118 = .ok (.bipush 29, 2) := by decide +kernel
theorem dX7_moves_120 : decode cX7_moves 120 = .ok (.iadd, 1) := by decide +kernel
theorem dX7_moves_121 : decode cX7_moves 121 = .ok (.iconst 1, 1) := by decide +kernel
theorem dX7_moves_122 : decode cX7_moves 122 = .ok (.iadd, 1) := by decide +kernel
theorem dX7_moves_123 : decode cX7_moves 123 = .ok (.iaload, 1) := by decide +kernel
theorem dX7_moves_124 : decode cX7_moves 124 = .ok (.aload_n 0, 1) := by decide +kernel
theorem dX7_moves_125 : decode cX7_moves 125 = .ok (.iload_n 1, 1) := by decide +kernel
theorem dX7_moves_126 : decode cX7_moves 126 = .ok (.bipush 34, 2) := by decide +kernel
theorem dX7_moves_128 : decode cX7_moves 128 = .ok (.iadd, 1) := by decide +kernel
theorem dX7_moves_129 : decode cX7_moves 129 = .ok (.iconst 2, 1) := by decide +kernel
theorem dX7_moves_130 : decode cX7_moves 130 = .ok (.iadd, 1) := by decide +kernel
theorem dX7_moves_131 : decode cX7_moves 131 = .ok (.iaload, 1) := by decide +kernel
theorem dX7_moves_132 : decode cX7_moves 132 = .ok (.if_icmp .gt 7, 3) := by decide +kernel
theorem dX7_moves_135 : decode cX7_moves 135 = .ok (.iconst 1, 1) := by decide +kernel
theorem dX7_moves_136 : decode cX7_moves 136 = .ok (.goto 4, 3) := by decide +kernel
theorem dX7_moves_139 : decode cX7_moves 139 = .ok (.iconst 0, 1) := by decide +kernel
theorem dX7_moves_140 : decode cX7_moves 140 = .ok (.istore 5, 2) := by decide +kernel
theorem dX7_moves_142 : decode cX7_moves 142 = .ok (.iload 5, 2) := by decide +kernel
theorem dX7_moves_144 : decode cX7_moves 144 = .ok (.ifCond .ne 41, 3) := by decide +kernel
theorem dX7_moves_147 : decode cX7_moves 147 = .ok (.iload 6, 2) := by decide +kernel
theorem dX7_moves_149 : decode cX7_moves 149 = .ok (.ifCond .ne 36, 3) := by decide +kernel
theorem dX7_moves_152 : decode cX7_moves 152 = .ok (.iload 4, 2) := by decide +kernel
theorem dX7_moves_154 : decode cX7_moves 154 = .ok (.invokestatic 58, 3) := by decide +kernel
theorem dX7_moves_157 : decode cX7_moves 157 = .ok (.iload_n 3, 1) := by decide +kernel
theorem dX7_moves_158 : decode cX7_moves 158 = .ok (.if_icmp .ne 27, 3) := by decide +kernel
theorem dX7_moves_161 : decode cX7_moves 161 = .ok (.aload_n 0, 1) := by decide +kernel
theorem dX7_moves_162 : decode cX7_moves 162 = .ok (.iload_n 1, 1) := by decide +kernel
theorem dX7_moves_163 : decode cX7_moves 163 = .ok (.iconst 0, 1) := by decide +kernel
theorem dX7_moves_164 : decode cX7_moves 164 = .ok (.iadd, 1) := by decide +kernel
theorem dX7_moves_165 : decode cX7_moves 165 = .ok (.bipush 12, 2) := by decide +kernel
theorem dX7_moves_167 : decode cX7_moves 167 = .ok (.iadd, 1) := by decide +kernel
theorem dX7_moves_168 : decode cX7_moves 168 = .ok (.iconst 1, 1) := by decide +kernel
theorem dX7_moves_169 : decode cX7_moves 169 = .ok (.isub, 1) := by decide +kernel
theorem dX7_moves_170 : decode cX7_moves 170 = .ok (.iload 4, 2) := by decide +kernel
theorem dX7_moves_172 : decode cX7_moves 172 = .ok (.isub, 1) := by decide +kernel
theorem dX7_moves_173 : decode cX7_moves 173 = .ok (.iaload, 1) := by decide +kernel
theorem dX7_moves_174 : decode cX7_moves 174 = .ok (.ifCond .le 11, 3) := by decide +kernel
theorem dX7_moves_177 : decode cX7_moves 177 = .ok (.aload_n 0, 1) := by decide +kernel
theorem dX7_moves_178 : decode cX7_moves 178 = .ok (.iload_n 1, 1) := by decide +kernel
theorem dX7_moves_179 : decode cX7_moves 179 = .ok (.iload 4, 2) := by decide +kernel
theorem dX7_moves_181 : decode cX7_moves 181 = .ok (.iload_n 3, 1) := by decide +kernel
theorem dX7_moves_182 : decode cX7_moves 182 = .ok (.invokestatic 70, 3) := by decide +kernel
theorem dX7_moves_185 : decode cX7_moves 185 = .ok (.goto (-147), 3) := by decide +kernel
theorem dX7_moves_188 : decode cX7_moves 188 = .ok (.aload_n 0, 1) := by decide +kernel
theorem dX7_moves_189 : decode cX7_moves 189 = .ok (.iload_n 1, 1) := by decide +kernel
theorem dX7_moves_190 : decode cX7_moves 190 = .ok (.bipush 29, 2) := by decide +kernel
theorem dX7_moves_192 : decode cX7_moves 192 = .ok (.iadd, 1) := by decide +kernel
theorem dX7_moves_193 : decode cX7_moves 193 = .ok (.iload_n 2, 1) := by decide +kernel
theorem dX7_moves_194 : decode cX7_moves 194 = .ok (.iastore, 1) := by decide +kernel
theorem dX7_moves_195 : decode cX7_moves 195 = .ok (.aload_n 0, 1) := by decide +kernel
theorem dX7_moves_196 : decode cX7_moves 196 = .ok (.iload_n 1, 1) := by decide +kernel
theorem dX7_moves_197 : decode cX7_moves 197 = .ok (.bipush 29, 2) := by decide +kernel
theorem dX7_moves_199 : decode cX7_moves 199 = .ok (.iadd, 1) := by decide +kernel
theorem dX7_moves_200 : decode cX7_moves 200 = .ok (.iconst 2, 1) := by decide +kernel
theorem dX7_moves_201 : decode cX7_moves 201 = .ok (.iadd, 1) := by decide +kernel
theorem dX7_moves_202 : decode cX7_moves 202 = .ok (.iload 4, 2) := by decide +kernel
theorem dX7_moves_204 : decode cX7_moves 204 = .ok (.iastore, 1) := by decide +kernel
theorem dX7_moves_205 : decode cX7_moves 205 = .ok (.aload_n 0, 1) := by decide +kernel
theorem dX7_moves_206 : decode cX7_moves 206 = .ok (.iload_n 1, 1) := by decide +kernel
theorem dX7_moves_207 : decode cX7_moves 207 = .ok (.bipush 28, 2) := by decide +kernel
theorem dX7_moves_209 : decode cX7_moves 209 = .ok (.iadd, 1) := by decide +kernel
theorem dX7_moves_210 : decode cX7_moves 210 = .ok (.dup2, 1) := by decide +kernel
theorem dX7_moves_211 : decode cX7_moves 211 = .ok (.iaload, 1) := by decide +kernel
theorem dX7_moves_212 : decode cX7_moves 212 = .ok (.iconst 1, 1) := by decide +kernel
theorem dX7_moves_213 : decode cX7_moves 213 = .ok (.iadd, 1) := by decide +kernel
theorem dX7_moves_214 : decode cX7_moves 214 = .ok (.iastore, 1) := by decide +kernel
theorem dX7_moves_215 : decode cX7_moves 215 = .ok (.aload_n 0, 1) := by decide +kernel
theorem dX7_moves_216 : decode cX7_moves 216 = .ok (.iload_n 1, 1) := by decide +kernel
theorem dX7_moves_217 : decode cX7_moves 217 = .ok (.invokestatic 74, 3) := by decide +kernel
theorem dX7_moves_220 : decode cX7_moves 220 = .ok (.istore 6, 2) := by decide +kernel
theorem dX7_moves_222 : decode cX7_moves 222 = .ok (.aload_n 0, 1) := by decide +kernel
theorem dX7_moves_223 : decode cX7_moves 223 = .ok (.iload_n 1, 1) := by decide +kernel
theorem dX7_moves_224 : decode cX7_moves 224 = .ok (.bipush 26, 2) := by decide +kernel
theorem dX7_moves_226 : decode cX7_moves 226 = .ok (.iadd, 1) := by decide +kernel
theorem dX7_moves_227 : decode cX7_moves 227 = .ok (.iload 6, 2) := by decide +kernel
theorem dX7_moves_229 : decode cX7_moves 229 = .ok (.ifCond .ne 14, 3) := by decide +kernel
theorem dX7_moves_232 : decode cX7_moves 232 = .ok (.aload_n 0, 1) := by decide +kernel
theorem dX7_moves_233 : decode cX7_moves 233 = .ok (.iload_n 1, 1) := by decide +kernel
theorem dX7_moves_234 : decode cX7_moves 234 = .ok (.iconst 1, 1) := by decide +kernel
theorem dX7_moves_235 : decode cX7_moves 235 = .ok (.iload_n 3, 1) := by decide +kernel
theorem dX7_moves_236 : decode cX7_moves 236 = .ok (.isub, 1) := by decide +kernel
theorem dX7_moves_237 : decode cX7_moves 237 = .ok (.invokestatic 54, 3) := by decide +kernel
theorem dX7_moves_240 : decode cX7_moves 240 = .ok (.ifCond .le 9, 3) := by decide +kernel
theorem dX7_moves_243 : decode cX7_moves 243 = .ok (.iconst 1, 1) := by decide +kernel
theorem dX7_moves_244 : decode cX7_moves 244 = .ok (.iload_n 3, 1) := by decide +kernel
theorem dX7_moves_245 : decode cX7_moves 245 = .ok (.isub, 1) := by decide +kernel
theorem dX7_moves_246 : decode cX7_moves 246 = .ok (.goto 4, 3) := by decide +kernel
theorem dX7_moves_249 : decode cX7_moves 249 = .ok (.iload_n 3, 1) := by decide +kernel
theorem dX7_moves_250 : decode cX7_moves 250 = .ok (.iastore, 1) := by decide +kernel
theorem dX7_moves_251 : decode cX7_moves 251 = .ok (.return_, 1) := by decide +kernel
theorem dX7_canMove_0 : decode cX7_canMove 0 = .ok (.aload_n 0, 1) := by decide +kernel
theorem dX7_canMove_1 : decode cX7_canMove 1 = .ok (.iload_n 1, 1) := by decide +kernel
theorem dX7_canMove_2 : decode cX7_canMove 2 = .ok (.bipush 27, 2) := by decide +kernel
theorem dX7_canMove_4 : decode cX7_canMove 4 = .ok (.iadd, 1) := by decide +kernel
theorem dX7_canMove_5 : decode cX7_canMove 5 = .ok (.iaload, 1) := by decide +kernel
theorem dX7_canMove_6 : decode cX7_canMove 6 = .ok (.ifCond .ne 30, 3) := by decide +kernel
theorem dX7_canMove_9 : decode cX7_canMove 9 = .ok (.iload_n 2, 1) := by decide +kernel
theorem dX7_canMove_10 : decode cX7_canMove 10 = .ok (.invokestatic 58, 3) := by decide +kernel
theorem dX7_canMove_13 : decode cX7_canMove 13 = .ok (.aload_n 0, 1) := by decide +kernel
theorem dX7_canMove_14 : decode cX7_canMove 14 = .ok (.iload_n 1, 1) := by decide +kernel
theorem dX7_canMove_15 : decode cX7_canMove 15 = .ok (.bipush 26, 2) := by decide +kernel
theorem dX7_canMove_17 : decode cX7_canMove 17 = .ok (.iadd, 1) := by decide +kernel
theorem dX7_canMove_18 : decode cX7_canMove 18 = .ok (.iaload, 1) := by decide +kernel
theorem dX7_canMove_19 : decode cX7_canMove 19 = .ok (.if_icmp .ne 17, 3) := by decide +kernel
theorem dX7_canMove_22 : decode cX7_canMove 22 = .ok (.aload_n 0, 1) := by decide +kernel
theorem dX7_canMove_23 : decode cX7_canMove 23 = .ok (.iload_n 1, 1) := by decide +kernel
theorem dX7_canMove_24 : decode cX7_canMove 24 = .ok (.iconst 0, 1) := by decide +kernel
theorem dX7_canMove_25 : decode cX7_canMove 25 = .ok (.iadd, 1) := by decide +kernel
theorem dX7_canMove_26 : decode cX7_canMove 26 = .ok (.iload_n 2, 1) := by decide +kernel
theorem dX7_canMove_27 : decode cX7_canMove 27 = .ok (.iadd, 1) := by decide +kernel
theorem dX7_canMove_28 : decode cX7_canMove 28 = .ok (.iaload, 1) := by decide +kernel
theorem dX7_canMove_29 : decode cX7_canMove 29 = .ok (.ifCond .le 7, 3) := by decide +kernel
theorem dX7_canMove_32 : decode cX7_canMove 32 = .ok (.iconst 1, 1) := by decide +kernel
theorem dX7_canMove_33 : decode cX7_canMove 33 = .ok (.goto 4, 3) := by decide +kernel
theorem dX7_canMove_36 : decode cX7_canMove 36 = .ok (.iconst 0, 1) := by decide +kernel
theorem dX7_canMove_37 : decode cX7_canMove 37 = .ok (.ireturn, 1) := by decide +kernel
theorem dX7_copy_0 : decode cX7_copy 0 = .ok (.iconst 0, 1) := by decide +kernel
theorem dX7_copy_1 : decode cX7_copy 1 = .ok (.istore 4, 2) := by decide +kernel
theorem dX7_copy_3 : decode cX7_copy 3 = .ok (.iload 4, 2) := by decide +kernel
theorem dX7_copy_5 : decode cX7_copy 5 = .ok (.bipush 40, 2) := by decide +kernel
theorem dX7_copy_7 : decode cX7_copy 7 = .ok (.if_icmp .ge 24, 3) := by decide +kernel
theorem dX7_copy_10 : decode cX7_copy 10 = .ok (.aload_n 0, 1) := by decide +kernel
theorem dX7_copy_11 : decode cX7_copy 11 = .ok (.getfield 22, 3) := by decide +kernel
theorem dX7_copy_14 : decode cX7_copy 14 = .ok (.iload_n 3, 1) := by decide +kernel
theorem dX7_copy_15 : decode cX7_copy 15 = .ok (.iload 4, 2) := by decide +kernel
theorem dX7_copy_17 : decode cX7_copy 17 = .ok (.iadd, 1) := by decide +kernel
theorem dX7_copy_18 : decode cX7_copy 18 = .ok (.aload_n 1, 1) := by decide +kernel
theorem dX7_copy_19 : decode cX7_copy 19 = .ok (.iload_n 2, 1) := by decide +kernel
theorem dX7_copy_20 : decode cX7_copy 20 = .ok (.iload 4, 2) := by decide +kernel
theorem dX7_copy_22 : decode cX7_copy 22 = .ok (.iadd, 1) := by decide +kernel
theorem dX7_copy_23 : decode cX7_copy 23 = .ok (.iaload, 1) := by decide +kernel
theorem dX7_copy_24 : decode cX7_copy 24 = .ok (.iastore, 1) := by decide +kernel
theorem dX7_copy_25 : decode cX7_copy 25 = .ok (.iinc 4 1, 3) := by decide +kernel
theorem dX7_copy_28 : decode cX7_copy 28 = .ok (.goto (-25), 3) := by decide +kernel
theorem dX7_copy_31 : decode cX7_copy 31 = .ok (.return_, 1) := by decide +kernel
theorem dX7_ahead_0 : decode cX7_ahead 0 = .ok (.bipush 40, 2) := by decide +kernel
theorem dX7_ahead_2 : decode cX7_ahead 2 = .ok (.iload_n 1, 1) := by decide +kernel
theorem dX7_ahead_3 : decode cX7_ahead 3 = .ok (.imul, 1) := by decide +kernel
theorem dX7_ahead_4 : decode cX7_ahead 4 = .ok (.istore_n 2, 1) := by decide +kernel
theorem dX7_ahead_5 : decode cX7_ahead 5 = .ok (.aload_n 0, 1) := by decide +kernel
theorem dX7_ahead_6 : decode cX7_ahead 6 = .ok (.getfield 22, 3) := by decide +kernel
theorem dX7_ahead_9 : decode cX7_ahead 9 = .ok (.iload_n 2, 1) := by decide +kernel
theorem dX7_ahead_10 : decode cX7_ahead 10 = .ok (.bipush 26, 2) := by decide +kernel
theorem dX7_ahead_12 : decode cX7_ahead 12 = .ok (.iadd, 1) := by decide +kernel
theorem dX7_ahead_13 : decode cX7_ahead 13 = .ok (.iaload, 1) := by decide +kernel
theorem dX7_ahead_14 : decode cX7_ahead 14 = .ok (.istore_n 3, 1) := by decide +kernel
theorem dX7_ahead_15 : decode cX7_ahead 15 = .ok (.aload_n 0, 1) := by decide +kernel
theorem dX7_ahead_16 : decode cX7_ahead 16 = .ok (.getfield 22, 3) := by decide +kernel
theorem dX7_ahead_19 : decode cX7_ahead 19 = .ok (.iload_n 2, 1) := by decide +kernel
theorem dX7_ahead_20 : decode cX7_ahead 20 = .ok (.bipush 24, 2) := by decide +kernel
theorem dX7_ahead_22 : decode cX7_ahead 22 = .ok (.iadd, 1) := by decide +kernel
theorem dX7_ahead_23 : decode cX7_ahead 23 = .ok (.iload_n 3, 1) := by decide +kernel
theorem dX7_ahead_24 : decode cX7_ahead 24 = .ok (.iadd, 1) := by decide +kernel
theorem dX7_ahead_25 : decode cX7_ahead 25 = .ok (.iaload, 1) := by decide +kernel
theorem dX7_ahead_26 : decode cX7_ahead 26 = .ok (.aload_n 0, 1) := by decide +kernel
theorem dX7_ahead_27 : decode cX7_ahead 27 = .ok (.getfield 22, 3) := by decide +kernel
theorem dX7_ahead_30 : decode cX7_ahead 30 = .ok (.iload_n 2, 1) := by decide +kernel
theorem dX7_ahead_31 : decode cX7_ahead 31 = .ok (.bipush 24, 2) := by decide +kernel
theorem dX7_ahead_33 : decode cX7_ahead 33 = .ok (.iadd, 1) := by decide +kernel
theorem dX7_ahead_34 : decode cX7_ahead 34 = .ok (.iconst 1, 1) := by decide +kernel
theorem dX7_ahead_35 : decode cX7_ahead 35 = .ok (.iadd, 1) := by decide +kernel
theorem dX7_ahead_36 : decode cX7_ahead 36 = .ok (.iload_n 3, 1) := by decide +kernel
theorem dX7_ahead_37 : decode cX7_ahead 37 = .ok (.isub, 1) := by decide +kernel
theorem dX7_ahead_38 : decode cX7_ahead 38 = .ok (.iaload, 1) := by decide +kernel
theorem dX7_ahead_39 : decode cX7_ahead 39 = .ok (.isub, 1) := by decide +kernel
theorem dX7_ahead_40 : decode cX7_ahead 40 = .ok (.ireturn, 1) := by decide +kernel
theorem dX7_worthOf_0 : decode cX7_worthOf 0 = .ok (.iload_n 1, 1) := by decide +kernel
theorem dX7_worthOf_1 : decode cX7_worthOf 1 = .ok (.istore_n 3, 1) := by decide +kernel
theorem dX7_worthOf_2 : decode cX7_worthOf 2 = .ok (.aload_n 0, 1) := by decide +kernel
theorem dX7_worthOf_3 : decode cX7_worthOf 3 = .ok (.getfield 25, 3) := by decide +kernel
theorem dX7_worthOf_6 : decode cX7_worthOf 6 = .ok (.iload_n 3, 1) := by decide +kernel
theorem dX7_worthOf_7 : decode cX7_worthOf 7 = .ok (.iconst (-1), 1) := by decide +kernel
theorem dX7_worthOf_8 : decode cX7_worthOf 8 = .ok (.iastore, 1) := by decide +kernel
theorem dX7_worthOf_9 : decode cX7_worthOf 9 = .ok (.aload_n 0, 1) := by decide +kernel
theorem dX7_worthOf_10 : decode cX7_worthOf 10 = .ok (.getfield 31, 3) := by decide +kernel
theorem dX7_worthOf_13 : decode cX7_worthOf 13 = .ok (.iload_n 3, 1) := by decide +kernel
theorem dX7_worthOf_14 : decode cX7_worthOf 14 = .ok (.bipush (-6), 2) := by decide +kernel
theorem dX7_worthOf_16 : decode cX7_worthOf 16 = .ok (.iastore, 1) := by decide +kernel
theorem dX7_worthOf_17 : decode cX7_worthOf 17 = .ok (.bipush 40, 2) := by decide +kernel
theorem dX7_worthOf_19 : decode cX7_worthOf 19 = .ok (.iload_n 3, 1) := by decide +kernel
theorem dX7_worthOf_20 : decode cX7_worthOf 20 = .ok (.imul, 1) := by decide +kernel
theorem dX7_worthOf_21 : decode cX7_worthOf 21 = .ok (.istore 4, 2) := by decide +kernel
theorem dX7_worthOf_23 : decode cX7_worthOf 23 = .ok (.aload_n 0, 1) := by decide +kernel
theorem dX7_worthOf_24 : decode cX7_worthOf 24 = .ok (.getfield 22, 3) := by decide +kernel
theorem dX7_worthOf_27 : decode cX7_worthOf 27 = .ok (.iload 4, 2) := by decide +kernel
theorem dX7_worthOf_29 : decode cX7_worthOf 29 = .ok (.bipush 27, 2) := by decide +kernel
theorem dX7_worthOf_31 : decode cX7_worthOf 31 = .ok (.iadd, 1) := by decide +kernel
theorem dX7_worthOf_32 : decode cX7_worthOf 32 = .ok (.iaload, 1) := by decide +kernel
theorem dX7_worthOf_33 : decode cX7_worthOf 33 = .ok (.iconst 1, 1) := by decide +kernel
theorem dX7_worthOf_34 : decode cX7_worthOf 34 = .ok (.if_icmp .eq 10, 3) := by decide +kernel
theorem dX7_worthOf_37 : decode cX7_worthOf 37 = .ok (.iload_n 3, 1) := by decide +kernel
theorem dX7_worthOf_38 : decode cX7_worthOf 38 = .ok (.iload_n 1, 1) := by decide +kernel
theorem dX7_worthOf_39 : decode cX7_worthOf 39 = .ok (.iload_n 2, 1) := by decide +kernel
theorem dX7_worthOf_40 : decode cX7_worthOf 40 = .ok (.iadd, 1) := by decide +kernel
theorem dX7_worthOf_41 : decode cX7_worthOf 41 = .ok (.if_icmp .ne 7, 3) := by decide +kernel
theorem dX7_worthOf_44 : decode cX7_worthOf 44 = .ok (.iconst 1, 1) := by decide +kernel
theorem dX7_worthOf_45 : decode cX7_worthOf 45 = .ok (.goto 4, 3) := by decide +kernel
theorem dX7_worthOf_48 : decode cX7_worthOf 48 = .ok (.iconst 0, 1) := by decide +kernel
theorem dX7_worthOf_49 : decode cX7_worthOf 49 = .ok (.istore 5, 2) := by decide +kernel
theorem dX7_worthOf_51 : decode cX7_worthOf 51 = .ok (.aload_n 0, 1) := by decide +kernel
theorem dX7_worthOf_52 : decode cX7_worthOf 52 = .ok (.getfield 25, 3) := by decide +kernel
theorem dX7_worthOf_55 : decode cX7_worthOf 55 = .ok (.iload_n 3, 1) := by decide +kernel
theorem dX7_worthOf_56 : decode cX7_worthOf 56 = .ok (.iaload, 1) := by decide +kernel
theorem dX7_worthOf_57 : decode cX7_worthOf 57 = .ok (.iconst 1, 1) := by decide +kernel
theorem dX7_worthOf_58 : decode cX7_worthOf 58 = .ok (.iadd, 1) := by decide +kernel
theorem dX7_worthOf_59 : decode cX7_worthOf 59 = .ok (.istore 6, 2) := by decide +kernel
theorem dX7_worthOf_61 : decode cX7_worthOf 61 = .ok (.iload 5, 2) := by decide +kernel
theorem dX7_worthOf_63 : decode cX7_worthOf 63 = .ok (.ifCond .ne 30, 3) := by decide +kernel
theorem dX7_worthOf_66 : decode cX7_worthOf 66 = .ok (.iload 6, 2) := by decide +kernel
theorem dX7_worthOf_68 : decode cX7_worthOf 68 = .ok (.bipush 12, 2) := by decide +kernel
theorem dX7_worthOf_70 : decode cX7_worthOf 70 = .ok (.if_icmp .ge 23, 3) := by decide +kernel
theorem dX7_worthOf_73 : decode cX7_worthOf 73 = .ok (.aload_n 0, 1) := by decide +kernel
theorem dX7_worthOf_74 : decode cX7_worthOf 74 = .ok (.getfield 22, 3) := by decide +kernel
theorem dX7_worthOf_77 : decode cX7_worthOf 77 = .ok (.iload 4, 2) := by decide +kernel
theorem dX7_worthOf_79 : decode cX7_worthOf 79 = .ok (.iload 6, 2) := by decide +kernel
theorem dX7_worthOf_81 : decode cX7_worthOf 81 = .ok (.invokestatic 78, 3) := by decide +kernel
theorem dX7_worthOf_84 : decode cX7_worthOf 84 = .ok (.ifCond .ne 9, 3) := by decide +kernel
theorem dX7_worthOf_87 : decode cX7_worthOf 87 = .ok (.iinc 6 1, 3) := by decide +kernel
theorem dX7_worthOf_90 : decode cX7_worthOf 90 = .ok (.goto (-29), 3) := by decide +kernel
theorem dX7_worthOf_93 : decode cX7_worthOf 93 = .ok (.iload 5, 2) := by decide +kernel
theorem dX7_worthOf_95 : decode cX7_worthOf 95 = .ok (.ifCond .ne 68, 3) := by decide +kernel
theorem dX7_worthOf_98 : decode cX7_worthOf 98 = .ok (.iload 6, 2) := by decide +kernel
theorem dX7_worthOf_100 : decode cX7_worthOf 100 = .ok (.bipush 12, 2) := by decide +kernel
theorem dX7_worthOf_102 : decode cX7_worthOf 102 = .ok (.if_icmp .ge 61, 3) := by decide +kernel
theorem dX7_worthOf_105 : decode cX7_worthOf 105 = .ok (.aload_n 0, 1) := by decide +kernel
theorem dX7_worthOf_106 : decode cX7_worthOf 106 = .ok (.getfield 25, 3) := by decide +kernel
theorem dX7_worthOf_109 : decode cX7_worthOf 109 = .ok (.iload_n 3, 1) := by decide +kernel
theorem dX7_worthOf_110 : decode cX7_worthOf 110 = .ok (.iload 6, 2) := by decide +kernel
theorem dX7_worthOf_112 : decode cX7_worthOf 112 = .ok (.iastore, 1) := by decide +kernel
theorem dX7_worthOf_113 : decode cX7_worthOf 113 = .ok (.aload_n 0, 1) := by decide +kernel
theorem dX7_worthOf_114 : decode cX7_worthOf 114 = .ok (.aload_n 0, 1) := by decide +kernel
theorem dX7_worthOf_115 : decode cX7_worthOf 115 = .ok (.getfield 22, 3) := by decide +kernel
theorem dX7_worthOf_118 : decode cX7_worthOf 118 = .ok (.iload 4, 2) := by decide +kernel
theorem dX7_worthOf_120 : decode cX7_worthOf 120 = .ok (.iload 4, 2) := by decide +kernel
theorem dX7_worthOf_122 : decode cX7_worthOf 122 = .ok (.bipush 40, 2) := by decide +kernel
theorem dX7_worthOf_124 : decode cX7_worthOf 124 = .ok (.iadd, 1) := by decide +kernel
theorem dX7_worthOf_125 : decode cX7_worthOf 125 = .ok (.invokevirtual 81, 3) := by decide +kernel
theorem dX7_worthOf_128 : decode cX7_worthOf 128 = .ok (.aload_n 0, 1) := by decide +kernel
theorem dX7_worthOf_129 : decode cX7_worthOf 129 = .ok (.getfield 22, 3) := by decide +kernel
theorem dX7_worthOf_132 : decode cX7_worthOf 132 = .ok (.iload 4, 2) := by decide +kernel
theorem dX7_worthOf_134 : decode cX7_worthOf 134 = .ok (.bipush 40, 2) := by decide +kernel
theorem dX7_worthOf_136 : decode cX7_worthOf 136 = .ok (.iadd, 1) := by decide +kernel
theorem dX7_worthOf_137 : decode cX7_worthOf 137 = .ok (.iload 6, 2) := by decide +kernel
theorem dX7_worthOf_139 : decode cX7_worthOf 139 = .ok (.invokestatic 85, 3) := by decide +kernel
theorem dX7_worthOf_142 : decode cX7_worthOf 142 = .ok (.iinc 3 1, 3) := by decide +kernel
theorem dX7_worthOf_145 : decode cX7_worthOf 145 = .ok (.aload_n 0, 1) := by decide +kernel
theorem dX7_worthOf_146 : decode cX7_worthOf 146 = .ok (.getfield 25, 3) := by decide +kernel
theorem dX7_worthOf_149 : decode cX7_worthOf 149 = .ok (.iload_n 3, 1) := by decide +kernel
theorem dX7_worthOf_150 : decode cX7_worthOf 150 = .ok (.iconst (-1), 1) := by decide +kernel
theorem dX7_worthOf_151 : decode cX7_worthOf 151 = .ok (.iastore, 1) := by decide +kernel
theorem dX7_worthOf_152 : decode cX7_worthOf 152 = .ok (.aload_n 0, 1) := by decide +kernel
theorem dX7_worthOf_153 : decode cX7_worthOf 153 = .ok (.getfield 31, 3) := by decide +kernel
theorem dX7_worthOf_156 : decode cX7_worthOf 156 = .ok (.iload_n 3, 1) := by decide +kernel
theorem dX7_worthOf_157 : decode cX7_worthOf 157 = .ok (.bipush (-6), 2) := by decide +kernel
theorem dX7_worthOf_159 : decode cX7_worthOf 159 = .ok (.iastore, 1) := by decide +kernel
theorem dX7_worthOf_160 : decode cX7_worthOf 160 = .ok (.goto 147, 3) := by decide +kernel
theorem dX7_worthOf_163 : decode cX7_worthOf 163 = .ok (.iload 5, 2) := by decide +kernel
theorem dX7_worthOf_165 : decode cX7_worthOf 165 = .ok (.ifCond .eq 11, 3) := by decide +kernel
theorem dX7_worthOf_168 : decode cX7_worthOf 168 = .ok (.aload_n 0, 1) := by decide +kernel
theorem dX7_worthOf_169 : decode cX7_worthOf 169 = .ok (.iload_n 3, 1) := by decide +kernel
theorem dX7_worthOf_170 : decode cX7_worthOf 170 = .ok (.invokevirtual 88, 3) := by decide +kernel
theorem dX7_worthOf_173 : decode cX7_worthOf 173 = .ok (.goto 9, 3) := by decide +kernel
theorem dX7_worthOf_176 : decode cX7_worthOf 176 = .ok (.aload_n 0, 1) := by decide +kernel
theorem dX7_worthOf_177 : decode cX7_worthOf 177 = .ok (.getfield 28, 3) := by decide +kernel
theorem dX7_worthOf_180 : decode cX7_worthOf 180 = .ok (.iload_n 3, 1) := by decide +kernel
theorem dX7_worthOf_181 : decode cX7_worthOf 181 = .ok (.iaload, 1) := by decide +kernel
theorem dX7_worthOf_182 : decode cX7_worthOf 182 = .ok (.istore 7, 2) := by decide +kernel
theorem dX7_worthOf_184 : decode cX7_worthOf 184 = .ok (.iload_n 3, 1) := by decide +kernel
theorem dX7_worthOf_185 : decode cX7_worthOf 185 = .ok (.iload_n 1, 1) := by decide +kernel
theorem dX7_worthOf_186 : decode cX7_worthOf 186 = .ok (.if_icmp .ne 6, 3) := by decide +kernel
theorem dX7_worthOf_189 : decode cX7_worthOf 189 = .ok (.iload 7, 2) := by decide +kernel
theorem dX7_worthOf_191 : decode cX7_worthOf 191 = .ok (.ireturn, 1) := by decide +kernel
theorem dX7_worthOf_192 : decode cX7_worthOf 192 = .ok (.iinc 3 (-1), 3) := by decide +kernel
theorem dX7_worthOf_195 : decode cX7_worthOf 195 = .ok (.aload_n 0, 1) := by decide +kernel
theorem dX7_worthOf_196 : decode cX7_worthOf 196 = .ok (.getfield 22, 3) := by decide +kernel
theorem dX7_worthOf_199 : decode cX7_worthOf 199 = .ok (.bipush 40, 2) := by decide +kernel
theorem dX7_worthOf_201 : decode cX7_worthOf 201 = .ok (.iload_n 3, 1) := by decide +kernel
theorem dX7_worthOf_202 : decode cX7_worthOf 202 = .ok (.imul, 1) := by decide +kernel
theorem dX7_worthOf_203 : decode cX7_worthOf 203 = .ok (.bipush 26, 2) := by decide +kernel
theorem dX7_worthOf_205 : decode cX7_worthOf 205 = .ok (.iadd, 1) := by decide +kernel
theorem dX7_worthOf_206 : decode cX7_worthOf 206 = .ok (.iaload, 1) := by decide +kernel
theorem dX7_worthOf_207 : decode cX7_worthOf 207 = .ok (.aload_n 0, 1) := by decide +kernel
theorem dX7_worthOf_208 : decode cX7_worthOf 208 = .ok (.getfield 22, 3) := by decide +kernel
theorem dX7_worthOf_211 : decode cX7_worthOf 211 = .ok (.iload 4, 2) := by decide +kernel
theorem dX7_worthOf_213 : decode cX7_worthOf 213 = .ok (.bipush 26, 2) := by decide +kernel
theorem dX7_worthOf_215 : decode cX7_worthOf 215 = .ok (.iadd, 1) := by decide +kernel
theorem dX7_worthOf_216 : decode cX7_worthOf 216 = .ok (.iaload, 1) := by decide +kernel
theorem dX7_worthOf_217 : decode cX7_worthOf 217 = .ok (.if_icmp .ne 8, 3) := by decide +kernel
theorem dX7_worthOf_220 : decode cX7_worthOf 220 = .ok (.iload 7, 2) := by decide +kernel
theorem dX7_worthOf_222 : decode cX7_worthOf 222 = .ok (.goto 6, 3) := by decide +kernel
theorem dX7_worthOf_225 : decode cX7_worthOf 225 = .ok (.iload 7, 2) := by decide +kernel
theorem dX7_worthOf_227 : decode cX7_worthOf 227 = .ok (.ineg, 1) := by decide +kernel
theorem dX7_worthOf_228 : decode cX7_worthOf 228 = .ok (.istore 8, 2) := by decide +kernel
theorem dX7_worthOf_230 : decode cX7_worthOf 230 = .ok (.aload_n 0, 1) := by decide +kernel
theorem dX7_worthOf_231 : decode cX7_worthOf 231 = .ok (.getfield 31, 3) := by decide +kernel
theorem dX7_worthOf_234 : decode cX7_worthOf 234 = .ok (.iload_n 3, 1) := by decide +kernel
theorem dX7_worthOf_235 : decode cX7_worthOf 235 = .ok (.iaload, 1) := by decide +kernel
theorem dX7_worthOf_236 : decode cX7_worthOf 236 = .ok (.bipush (-6), 2) := by decide +kernel
theorem dX7_worthOf_238 : decode cX7_worthOf 238 = .ok (.if_icmp .eq 14, 3) := by decide +kernel
theorem dX7_worthOf_241 : decode cX7_worthOf 241 = .ok (.iload 8, 2) := by decide +kernel
theorem dX7_worthOf_243 : decode cX7_worthOf 243 = .ok (.aload_n 0, 1) := by decide +kernel
theorem dX7_worthOf_244 : decode cX7_worthOf 244 = .ok (.getfield 28, 3) := by decide +kernel
theorem dX7_worthOf_247 : decode cX7_worthOf 247 = .ok (.iload_n 3, 1) := by decide +kernel
theorem dX7_worthOf_248 : decode cX7_worthOf 248 = .ok (.iaload, 1) := by decide +kernel
theorem dX7_worthOf_249 : decode cX7_worthOf 249 = .ok (.if_icmp .le 7, 3) := by decide +kernel
theorem dX7_worthOf_252 : decode cX7_worthOf 252 = .ok (.iconst 1, 1) := by decide +kernel
theorem dX7_worthOf_253 : decode cX7_worthOf 253 = .ok (.goto 4, 3) := by decide +kernel
theorem dX7_worthOf_256 : decode cX7_worthOf 256 = .ok (.iconst 0, 1) := by decide +kernel
theorem dX7_worthOf_257 : decode cX7_worthOf 257 = .ok (.istore 9, 2) := by decide +kernel
theorem dX7_worthOf_259 : decode cX7_worthOf 259 = .ok (.aload_n 0, 1) := by decide +kernel
theorem dX7_worthOf_260 : decode cX7_worthOf 260 = .ok (.getfield 28, 3) := by decide +kernel
theorem dX7_worthOf_263 : decode cX7_worthOf 263 = .ok (.iload_n 3, 1) := by decide +kernel
theorem dX7_worthOf_264 : decode cX7_worthOf 264 = .ok (.iload 9, 2) := by decide +kernel
theorem dX7_worthOf_266 : decode cX7_worthOf 266 = .ok (.ifCond .eq 8, 3) := by decide +kernel
theorem dX7_worthOf_269 : decode cX7_worthOf 269 = .ok (.iload 8, 2) := by decide +kernel
theorem dX7_worthOf_271 : decode cX7_worthOf 271 = .ok (.goto 9, 3) := by decide +kernel
theorem dX7_worthOf_274 : decode cX7_worthOf 274 = .ok (.aload_n 0, 1) := by decide +kernel
theorem dX7_worthOf_275 : decode cX7_worthOf 275 = .ok (.getfield 28, 3) := by decide +kernel
theorem dX7_worthOf_278 : decode cX7_worthOf 278 = .ok (.iload_n 3, 1) := by decide +kernel
theorem dX7_worthOf_279 : decode cX7_worthOf 279 = .ok (.iaload, 1) := by decide +kernel
theorem dX7_worthOf_280 : decode cX7_worthOf 280 = .ok (.iastore, 1) := by decide +kernel
theorem dX7_worthOf_281 : decode cX7_worthOf 281 = .ok (.aload_n 0, 1) := by decide +kernel
theorem dX7_worthOf_282 : decode cX7_worthOf 282 = .ok (.getfield 31, 3) := by decide +kernel
theorem dX7_worthOf_285 : decode cX7_worthOf 285 = .ok (.iload_n 3, 1) := by decide +kernel
theorem dX7_worthOf_286 : decode cX7_worthOf 286 = .ok (.iload 9, 2) := by decide +kernel
theorem dX7_worthOf_288 : decode cX7_worthOf 288 = .ok (.ifCond .eq 12, 3) := by decide +kernel
theorem dX7_worthOf_291 : decode cX7_worthOf 291 = .ok (.aload_n 0, 1) := by decide +kernel
theorem dX7_worthOf_292 : decode cX7_worthOf 292 = .ok (.getfield 25, 3) := by decide +kernel
theorem dX7_worthOf_295 : decode cX7_worthOf 295 = .ok (.iload_n 3, 1) := by decide +kernel
theorem dX7_worthOf_296 : decode cX7_worthOf 296 = .ok (.iaload, 1) := by decide +kernel
theorem dX7_worthOf_297 : decode cX7_worthOf 297 = .ok (.goto 9, 3) := by decide +kernel
theorem dX7_worthOf_300 : decode cX7_worthOf 300 = .ok (.aload_n 0, 1) := by decide +kernel
theorem dX7_worthOf_301 : decode cX7_worthOf 301 = .ok (.getfield 31, 3) := by decide +kernel
theorem dX7_worthOf_304 : decode cX7_worthOf 304 = .ok (.iload_n 3, 1) := by decide +kernel
theorem dX7_worthOf_305 : decode cX7_worthOf 305 = .ok (.iaload, 1) := by decide +kernel
theorem dX7_worthOf_306 : decode cX7_worthOf 306 = .ok (.iastore, 1) := by decide +kernel
theorem dX7_worthOf_307 : decode cX7_worthOf 307 = .ok (.goto (-290), 3) := by decide +kernel
theorem dX7_bestOf_0 : decode cX7_bestOf 0 = .ok (.aload_n 0, 1) := by decide +kernel
theorem dX7_bestOf_1 : decode cX7_bestOf 1 = .ok (.iload_n 1, 1) := by decide +kernel
theorem dX7_bestOf_2 : decode cX7_bestOf 2 = .ok (.iload_n 2, 1) := by decide +kernel
theorem dX7_bestOf_3 : decode cX7_bestOf 3 = .ok (.invokevirtual 91, 3) := by decide +kernel
theorem dX7_bestOf_6 : decode cX7_bestOf 6 = .ok (.istore_n 3, 1) := by decide +kernel
theorem dX7_bestOf_7 : decode cX7_bestOf 7 = .ok (.aload_n 0, 1) := by decide +kernel
theorem dX7_bestOf_8 : decode cX7_bestOf 8 = .ok (.getfield 31, 3) := by decide +kernel
theorem dX7_bestOf_11 : decode cX7_bestOf 11 = .ok (.iload_n 1, 1) := by decide +kernel
theorem dX7_bestOf_12 : decode cX7_bestOf 12 = .ok (.iaload, 1) := by decide +kernel
theorem dX7_bestOf_13 : decode cX7_bestOf 13 = .ok (.ireturn, 1) := by decide +kernel
theorem dX7_isSetting_0 : decode cX7_isSetting 0 = .ok (.iload_n 0, 1) := by decide +kernel
theorem dX7_isSetting_1 : decode cX7_isSetting 1 = .ok (.ifCond .eq 8, 3) := by decide +kernel
theorem dX7_isSetting_4 : decode cX7_isSetting 4 = .ok (.iload_n 0, 1) := by decide +kernel
theorem dX7_isSetting_5 : decode cX7_isSetting 5 = .ok (.iconst 1, 1) := by decide +kernel
theorem dX7_isSetting_6 : decode cX7_isSetting 6 = .ok (.if_icmp .ne 15, 3) := by decide +kernel
theorem dX7_isSetting_9 : decode cX7_isSetting 9 = .ok (.iload_n 1, 1) := by decide +kernel
theorem dX7_isSetting_10 : decode cX7_isSetting 10 = .ok (.i2l, 1) := by decide +kernel
theorem dX7_isSetting_11 : decode cX7_isSetting 11 = .ok (.lconst 1, 1) := by decide +kernel
theorem dX7_isSetting_12 : decode cX7_isSetting 12 = .ok (.ldc2_w 95, 3) := by decide +kernel
theorem dX7_isSetting_15 : decode cX7_isSetting 15 = .ok (.invokestatic 97, 3) := by decide +kernel
theorem dX7_isSetting_18 : decode cX7_isSetting 18 = .ok (.goto 42, 3) := by decide +kernel
theorem dX7_isSetting_21 : decode cX7_isSetting 21 = .ok (.iload_n 0, 1) := by decide +kernel
theorem dX7_isSetting_22 : decode cX7_isSetting 22 = .ok (.iconst 2, 1) := by decide +kernel
theorem dX7_isSetting_23 : decode cX7_isSetting 23 = .ok (.if_icmp .ne 15, 3) := by decide +kernel
theorem dX7_isSetting_26 : decode cX7_isSetting 26 = .ok (.iload_n 1, 1) := by decide +kernel
theorem dX7_isSetting_27 : decode cX7_isSetting 27 = .ok (.i2l, 1) := by decide +kernel
theorem dX7_isSetting_28 : decode cX7_isSetting 28 = .ok (.lconst 0, 1) := by decide +kernel
theorem dX7_isSetting_29 : decode cX7_isSetting 29 = .ok (.ldc2_w 101, 3) := by decide +kernel
theorem dX7_isSetting_32 : decode cX7_isSetting 32 = .ok (.invokestatic 97, 3) := by decide +kernel
theorem dX7_isSetting_35 : decode cX7_isSetting 35 = .ok (.goto 25, 3) := by decide +kernel
theorem dX7_isSetting_38 : decode cX7_isSetting 38 = .ok (.iload_n 0, 1) := by decide +kernel
theorem dX7_isSetting_39 : decode cX7_isSetting 39 = .ok (.iconst 3, 1) := by decide +kernel
theorem dX7_isSetting_40 : decode cX7_isSetting 40 = .ok (.if_icmp .ne 19, 3) := by decide +kernel
theorem dX7_isSetting_43 : decode cX7_isSetting 43 = .ok (.iload_n 1, 1) := by decide +kernel
theorem dX7_isSetting_44 : decode cX7_isSetting 44 = .ok (.i2l, 1) := by decide +kernel
theorem dX7_isSetting_45 : decode cX7_isSetting 45 = .ok (.lconst 0, 1) := by decide +kernel
theorem dX7_isSetting_46 : decode cX7_isSetting 46 = .ok (.ldc2_w 103, 3) := by decide +kernel
theorem dX7_isSetting_49 : decode cX7_isSetting 49 = .ok (.invokestatic 97, 3) := by decide +kernel
theorem dX7_isSetting_52 : decode cX7_isSetting 52 = .ok (.ifCond .eq 7, 3) := by decide +kernel
theorem dX7_isSetting_55 : decode cX7_isSetting 55 = .ok (.iconst 1, 1) := by decide +kernel
theorem dX7_isSetting_56 : decode cX7_isSetting 56 = .ok (.goto 4, 3) := by decide +kernel
theorem dX7_isSetting_59 : decode cX7_isSetting 59 = .ok (.iconst 0, 1) := by decide +kernel
theorem dX7_isSetting_60 : decode cX7_isSetting 60 = .ok (.ireturn, 1) := by decide +kernel
theorem dX7_set_0 : decode cX7_set 0 = .ok (.iload_n 1, 1) := by decide +kernel
theorem dX7_set_1 : decode cX7_set 1 = .ok (.iload_n 2, 1) := by decide +kernel
theorem dX7_set_2 : decode cX7_set 2 = .ok (.invokestatic 105, 3) := by decide +kernel
theorem dX7_set_5 : decode cX7_set 5 = .ok (.ifCond .ne 6, 3) := by decide +kernel
theorem dX7_set_8 : decode cX7_set 8 = .ok (.bipush (-2), 2) := by decide +kernel
theorem dX7_set_10 : decode cX7_set 10 = .ok (.ireturn, 1) := by decide +kernel
theorem dX7_set_11 : decode cX7_set 11 = .ok (.aload_n 0, 1) := by decide +kernel
theorem dX7_set_12 : decode cX7_set 12 = .ok (.invokevirtual 109, 3) := by decide +kernel
theorem dX7_set_15 : decode cX7_set 15 = .ok (.aload_n 0, 1) := by decide +kernel
theorem dX7_set_16 : decode cX7_set 16 = .ok (.getfield 7, 3) := by decide +kernel
theorem dX7_set_19 : decode cX7_set 19 = .ok (.bipush 34, 2) := by decide +kernel
theorem dX7_set_21 : decode cX7_set 21 = .ok (.iload_n 1, 1) := by decide +kernel
theorem dX7_set_22 : decode cX7_set 22 = .ok (.iadd, 1) := by decide +kernel
theorem dX7_set_23 : decode cX7_set 23 = .ok (.iaload, 1) := by decide +kernel
theorem dX7_set_24 : decode cX7_set 24 = .ok (.istore_n 3, 1) := by decide +kernel
theorem dX7_set_25 : decode cX7_set 25 = .ok (.aload_n 0, 1) := by decide +kernel
theorem dX7_set_26 : decode cX7_set 26 = .ok (.getfield 7, 3) := by decide +kernel
theorem dX7_set_29 : decode cX7_set 29 = .ok (.bipush 34, 2) := by decide +kernel
theorem dX7_set_31 : decode cX7_set 31 = .ok (.iload_n 1, 1) := by decide +kernel
theorem dX7_set_32 : decode cX7_set 32 = .ok (.iadd, 1) := by decide +kernel
theorem dX7_set_33 : decode cX7_set 33 = .ok (.iload_n 2, 1) := by decide +kernel
theorem dX7_set_34 : decode cX7_set 34 = .ok (.iastore, 1) := by decide +kernel
theorem dX7_set_35 : decode cX7_set 35 = .ok (.iload_n 3, 1) := by decide +kernel
theorem dX7_set_36 : decode cX7_set 36 = .ok (.ireturn, 1) := by decide +kernel
theorem dX7_begin_0 : decode cX7_begin 0 = .ok (.aload_n 0, 1) := by decide +kernel
theorem dX7_begin_1 : decode cX7_begin 1 = .ok (.invokevirtual 109, 3) := by decide +kernel
theorem dX7_begin_4 : decode cX7_begin 4 = .ok (.aload_n 0, 1) := by decide +kernel
theorem dX7_begin_5 : decode cX7_begin 5 = .ok (.getfield 7, 3) := by decide +kernel
theorem dX7_begin_8 : decode cX7_begin 8 = .ok (.bipush 28, 2) := by decide +kernel
theorem dX7_begin_10 : decode cX7_begin 10 = .ok (.iaload, 1) := by decide +kernel
theorem dX7_begin_11 : decode cX7_begin 11 = .ok (.istore_n 1, 1) := by decide +kernel
theorem dX7_begin_12 : decode cX7_begin 12 = .ok (.aload_n 0, 1) := by decide +kernel
theorem dX7_begin_13 : decode cX7_begin 13 = .ok (.invokevirtual 40, 3) := by decide +kernel
theorem dX7_begin_16 : decode cX7_begin 16 = .ok (.iload_n 1, 1) := by decide +kernel
theorem dX7_begin_17 : decode cX7_begin 17 = .ok (.ireturn, 1) := by decide +kernel
theorem dX7_isHouse_0 : decode cX7_isHouse 0 = .ok (.iload_n 0, 1) := by decide +kernel
theorem dX7_isHouse_1 : decode cX7_isHouse 1 = .ok (.i2l, 1) := by decide +kernel
theorem dX7_isHouse_2 : decode cX7_isHouse 2 = .ok (.lconst 0, 1) := by decide +kernel
theorem dX7_isHouse_3 : decode cX7_isHouse 3 = .ok (.ldc2_w 112, 3) := by decide +kernel
theorem dX7_isHouse_6 : decode cX7_isHouse 6 = .ok (.invokestatic 97, 3) := by decide +kernel
theorem dX7_isHouse_9 : decode cX7_isHouse 9 = .ok (.ireturn, 1) := by decide +kernel
theorem dX7_makes_0 : decode cX7_makes 0 = .ok (.aload_n 0, 1) := by decide +kernel
theorem dX7_makes_1 : decode cX7_makes 1 = .ok (.getfield 7, 3) := by decide +kernel
theorem dX7_makes_4 : decode cX7_makes 4 = .ok (.bipush 40, 2) := by decide +kernel
theorem dX7_makes_6 : decode cX7_makes 6 = .ok (.aload_n 0, 1) := by decide +kernel
theorem dX7_makes_7 : decode cX7_makes 7 = .ok (.getfield 7, 3) := by decide +kernel
theorem dX7_makes_10 : decode cX7_makes 10 = .ok (.bipush 28, 2) := by decide +kernel
theorem dX7_makes_12 : decode cX7_makes 12 = .ok (.iaload, 1) := by decide +kernel
theorem dX7_makes_13 : decode cX7_makes 13 = .ok (.iadd, 1) := by decide +kernel
theorem dX7_makes_14 : decode cX7_makes 14 = .ok (.iload_n 1, 1) := by decide +kernel
theorem dX7_makes_15 : decode cX7_makes 15 = .ok (.iastore, 1) := by decide +kernel
theorem dX7_makes_16 : decode cX7_makes 16 = .ok (.aload_n 0, 1) := by decide +kernel
theorem dX7_makes_17 : decode cX7_makes 17 = .ok (.getfield 7, 3) := by decide +kernel
theorem dX7_makes_20 : decode cX7_makes 20 = .ok (.iconst 0, 1) := by decide +kernel
theorem dX7_makes_21 : decode cX7_makes 21 = .ok (.iload_n 1, 1) := by decide +kernel
theorem dX7_makes_22 : decode cX7_makes 22 = .ok (.invokestatic 85, 3) := by decide +kernel
theorem dX7_makes_25 : decode cX7_makes 25 = .ok (.return_, 1) := by decide +kernel
theorem dX7_move_0 : decode cX7_move 0 = .ok (.iload_n 1, 1) := by decide +kernel
theorem dX7_move_1 : decode cX7_move 1 = .ok (.invokestatic 114, 3) := by decide +kernel
theorem dX7_move_4 : decode cX7_move 4 = .ok (.ifCond .ne 5, 3) := by decide +kernel
theorem dX7_move_7 : decode cX7_move 7 = .ok (.iconst (-1), 1) := by decide +kernel
theorem dX7_move_8 : decode cX7_move 8 = .ok (.ireturn, 1) := by decide +kernel
theorem dX7_move_9 : decode cX7_move 9 = .ok (.aload_n 0, 1) := by decide +kernel
theorem dX7_move_10 : decode cX7_move 10 = .ok (.getfield 7, 3) := by decide +kernel
theorem dX7_move_13 : decode cX7_move 13 = .ok (.iconst 0, 1) := by decide +kernel
theorem dX7_move_14 : decode cX7_move 14 = .ok (.iload_n 1, 1) := by decide +kernel
theorem dX7_move_15 : decode cX7_move 15 = .ok (.invokestatic 78, 3) := by decide +kernel
theorem dX7_move_18 : decode cX7_move 18 = .ok (.ifCond .ne 6, 3) := by decide +kernel
theorem dX7_move_21 : decode cX7_move 21 = .ok (.bipush (-5), 2) := by decide +kernel
theorem dX7_move_23 : decode cX7_move 23 = .ok (.ireturn, 1) := by decide +kernel
theorem dX7_move_24 : decode cX7_move 24 = .ok (.aload_n 0, 1) := by decide +kernel
theorem dX7_move_25 : decode cX7_move 25 = .ok (.invokevirtual 109, 3) := by decide +kernel
theorem dX7_move_28 : decode cX7_move 28 = .ok (.aload_n 0, 1) := by decide +kernel
theorem dX7_move_29 : decode cX7_move 29 = .ok (.iload_n 1, 1) := by decide +kernel
theorem dX7_move_30 : decode cX7_move 30 = .ok (.invokevirtual 118, 3) := by decide +kernel
theorem dX7_move_33 : decode cX7_move 33 = .ok (.aload_n 0, 1) := by decide +kernel
theorem dX7_move_34 : decode cX7_move 34 = .ok (.getfield 7, 3) := by decide +kernel
theorem dX7_move_37 : decode cX7_move 37 = .ok (.bipush 30, 2) := by decide +kernel
theorem dX7_move_39 : decode cX7_move 39 = .ok (.iaload, 1) := by decide +kernel
theorem dX7_move_40 : decode cX7_move 40 = .ok (.ireturn, 1) := by decide +kernel
theorem dX7_play_0 : decode cX7_play 0 = .ok (.iload_n 1, 1) := by decide +kernel
theorem dX7_play_1 : decode cX7_play 1 = .ok (.i2l, 1) := by decide +kernel
theorem dX7_play_2 : decode cX7_play 2 = .ok (.lconst 1, 1) := by decide +kernel
theorem dX7_play_3 : decode cX7_play 3 = .ok (.ldc2_w 122, 3) := by decide +kernel
theorem dX7_play_6 : decode cX7_play 6 = .ok (.invokestatic 97, 3) := by decide +kernel
theorem dX7_play_9 : decode cX7_play 9 = .ok (.ifCond .ne 6, 3) := by decide +kernel
theorem dX7_play_12 : decode cX7_play 12 = .ok (.bipush (-2), 2) := by decide +kernel
theorem dX7_play_14 : decode cX7_play 14 = .ok (.ireturn, 1) := by decide +kernel
theorem dX7_play_15 : decode cX7_play 15 = .ok (.aload_n 0, 1) := by decide +kernel
theorem dX7_play_16 : decode cX7_play 16 = .ok (.getfield 7, 3) := by decide +kernel
theorem dX7_play_19 : decode cX7_play 19 = .ok (.bipush 27, 2) := by decide +kernel
theorem dX7_play_21 : decode cX7_play 21 = .ok (.iaload, 1) := by decide +kernel
theorem dX7_play_22 : decode cX7_play 22 = .ok (.iconst 1, 1) := by decide +kernel
theorem dX7_play_23 : decode cX7_play 23 = .ok (.if_icmp .ne 6, 3) := by decide +kernel
theorem dX7_play_26 : decode cX7_play 26 = .ok (.bipush (-5), 2) := by decide +kernel
theorem dX7_play_28 : decode cX7_play 28 = .ok (.ireturn, 1) := by decide +kernel
theorem dX7_play_29 : decode cX7_play 29 = .ok (.aload_n 0, 1) := by decide +kernel
theorem dX7_play_30 : decode cX7_play 30 = .ok (.invokevirtual 109, 3) := by decide +kernel
theorem dX7_play_33 : decode cX7_play 33 = .ok (.aload_n 0, 1) := by decide +kernel
theorem dX7_play_34 : decode cX7_play 34 = .ok (.aload_n 0, 1) := by decide +kernel
theorem dX7_play_35 : decode cX7_play 35 = .ok (.getfield 7, 3) := by decide +kernel
theorem dX7_play_38 : decode cX7_play 38 = .ok (.iconst 0, 1) := by decide +kernel
theorem dX7_play_39 : decode cX7_play 39 = .ok (.iconst 0, 1) := by decide +kernel
theorem dX7_play_40 : decode cX7_play 40 = .ok (.invokevirtual 81, 3) := by decide +kernel
theorem dX7_play_43 : decode cX7_play 43 = .ok (.aload_n 0, 1) := by decide +kernel
theorem dX7_play_44 : decode cX7_play 44 = .ok (.iconst 0, 1) := by decide +kernel
theorem dX7_play_45 : decode cX7_play 45 = .ok (.iload_n 1, 1) := by decide +kernel
theorem dX7_play_46 : decode cX7_play 46 = .ok (.invokevirtual 124, 3) := by decide +kernel
theorem dX7_play_49 : decode cX7_play 49 = .ok (.istore_n 2, 1) := by decide +kernel
theorem dX7_play_50 : decode cX7_play 50 = .ok (.aload_n 0, 1) := by decide +kernel
theorem dX7_play_51 : decode cX7_play 51 = .ok (.iload_n 2, 1) := by decide +kernel
theorem dX7_play_52 : decode cX7_play 52 = .ok (.invokevirtual 118, 3) := by decide +kernel
theorem dX7_play_55 : decode cX7_play 55 = .ok (.iload_n 2, 1) := by decide +kernel
theorem dX7_play_56 : decode cX7_play 56 = .ok (.ireturn, 1) := by decide +kernel
theorem dX7_takes_0 : decode cX7_takes 0 = .ok (.aload_n 0, 1) := by decide +kernel
theorem dX7_takes_1 : decode cX7_takes 1 = .ok (.getfield 127, 3) := by decide +kernel
theorem dX7_takes_4 : decode cX7_takes 4 = .ok (.aload_n 0, 1) := by decide +kernel
theorem dX7_takes_5 : decode cX7_takes 5 = .ok (.getfield 130, 3) := by decide +kernel
theorem dX7_takes_8 : decode cX7_takes 8 = .ok (.if_icmp .ge 20, 3) := by decide +kernel
theorem dX7_takes_11 : decode cX7_takes 11 = .ok (.aload_n 0, 1) := by decide +kernel
theorem dX7_takes_12 : decode cX7_takes 12 = .ok (.getfield 34, 3) := by decide +kernel
theorem dX7_takes_15 : decode cX7_takes 15 = .ok (.aload_n 0, 1) := by decide +kernel
theorem dX7_takes_16 : decode cX7_takes 16 = .ok (.getfield 127, 3) := by decide +kernel
theorem dX7_takes_19 : decode cX7_takes 19 = .ok (.iaload, 1) := by decide +kernel
theorem dX7_takes_20 : decode cX7_takes 20 = .ok (.iload_n 1, 1) := by decide +kernel
theorem dX7_takes_21 : decode cX7_takes 21 = .ok (.if_icmp .ne 7, 3) := by decide +kernel
theorem dX7_takes_24 : decode cX7_takes 24 = .ok (.iconst 1, 1) := by decide +kernel
theorem dX7_takes_25 : decode cX7_takes 25 = .ok (.goto 4, 3) := by decide +kernel
theorem dX7_takes_28 : decode cX7_takes 28 = .ok (.iconst 0, 1) := by decide +kernel
theorem dX7_takes_29 : decode cX7_takes 29 = .ok (.istore_n 2, 1) := by decide +kernel
theorem dX7_takes_30 : decode cX7_takes 30 = .ok (.aload_n 0, 1) := by decide +kernel
theorem dX7_takes_31 : decode cX7_takes 31 = .ok (.dup, 1) := by decide +kernel
theorem dX7_takes_32 : decode cX7_takes 32 = .ok (.getfield 127, 3) := by decide +kernel
theorem dX7_takes_35 : decode cX7_takes 35 = .ok (.iload_n 2, 1) := by decide +kernel
theorem dX7_takes_36 : decode cX7_takes 36 = .ok (.ifCond .eq 7, 3) := by decide +kernel
theorem dX7_takes_39 : decode cX7_takes 39 = .ok (.iconst 1, 1) := by decide +kernel
theorem dX7_takes_40 : decode cX7_takes 40 = .ok (.goto 4, 3) := by decide +kernel
theorem dX7_takes_43 : decode cX7_takes 43 = .ok (.iconst 0, 1) := by decide +kernel
theorem dX7_takes_44 : decode cX7_takes 44 = .ok (.iadd, 1) := by decide +kernel
theorem dX7_takes_45 : decode cX7_takes 45 = .ok (.putfield 127, 3) := by decide +kernel
theorem dX7_takes_48 : decode cX7_takes 48 = .ok (.iload_n 2, 1) := by decide +kernel
theorem dX7_takes_49 : decode cX7_takes 49 = .ok (.ireturn, 1) := by decide +kernel
theorem dX7_isDigit_0 : decode cX7_isDigit 0 = .ok (.aload_n 0, 1) := by decide +kernel
theorem dX7_isDigit_1 : decode cX7_isDigit 1 = .ok (.getfield 127, 3) := by decide +kernel
theorem dX7_isDigit_4 : decode cX7_isDigit 4 = .ok (.aload_n 0, 1) := by decide +kernel
theorem dX7_isDigit_5 : decode cX7_isDigit 5 = .ok (.getfield 130, 3) := by decide +kernel
theorem dX7_isDigit_8 : decode cX7_isDigit 8 = .ok (.if_icmp .ge 29, 3) := by decide +kernel
theorem dX7_isDigit_11 : decode cX7_isDigit 11 = .ok (.aload_n 0, 1) := by decide +kernel
theorem dX7_isDigit_12 : decode cX7_isDigit 12 = .ok (.getfield 34, 3) := by decide +kernel
theorem dX7_isDigit_15 : decode cX7_isDigit 15 = .ok (.aload_n 0, 1) := by decide +kernel
theorem dX7_isDigit_16 : decode cX7_isDigit 16 = .ok (.getfield 127, 3) := by decide +kernel
theorem dX7_isDigit_19 : decode cX7_isDigit 19 = .ok (.iaload, 1) := by decide +kernel
theorem dX7_isDigit_20 : decode cX7_isDigit 20 = .ok (.i2l, 1) := by decide +kernel
theorem dX7_isDigit_21 : decode cX7_isDigit 21 = .ok (.ldc2_w 133, 3) := by decide +kernel
theorem dX7_isDigit_24 : decode cX7_isDigit 24 = .ok (.ldc2_w 135, 3) := by decide +kernel
theorem dX7_isDigit_27 : decode cX7_isDigit 27 = .ok (.invokestatic 97, 3) := by decide +kernel
theorem dX7_isDigit_30 : decode cX7_isDigit 30 = .ok (.ifCond .eq 7, 3) := by decide +kernel
theorem dX7_isDigit_33 : decode cX7_isDigit 33 = .ok (.iconst 1, 1) := by decide +kernel
theorem dX7_isDigit_34 : decode cX7_isDigit 34 = .ok (.goto 4, 3) := by decide +kernel
theorem dX7_isDigit_37 : decode cX7_isDigit 37 = .ok (.iconst 0, 1) := by decide +kernel
theorem dX7_isDigit_38 : decode cX7_isDigit 38 = .ok (.ireturn, 1) := by decide +kernel
theorem dX7_readsNumber_0 : decode cX7_readsNumber 0 = .ok (.aload_n 0, 1) := by decide +kernel
theorem dX7_readsNumber_1 : decode cX7_readsNumber 1 = .ok (.invokevirtual 137, 3) := by decide +kernel
theorem dX7_readsNumber_4 : decode cX7_readsNumber 4 = .ok (.ifCond .ne 5, 3) := by decide +kernel
theorem dX7_readsNumber_7 : decode cX7_readsNumber 7 = .ok (.iconst 0, 1) := by decide +kernel
theorem dX7_readsNumber_8 : decode cX7_readsNumber 8 = .ok (.ireturn, 1) := by decide +kernel
theorem dX7_readsNumber_9 : decode cX7_readsNumber 9 = .ok (.aload_n 0, 1) := by decide +kernel
theorem dX7_readsNumber_10 : decode cX7_readsNumber 10 = .ok (.getfield 37, 3) := by decide +kernel
theorem dX7_readsNumber_13 : decode cX7_readsNumber 13 = .ok (.iload_n 1, 1) := by decide +kernel
theorem dX7_readsNumber_14 : decode cX7_readsNumber 14 = .ok (.aload_n 0, 1) := by decide +kernel
theorem dX7_readsNumber_15 : decode cX7_readsNumber 15 = .ok (.getfield 34, 3) := by decide +kernel
theorem dX7_readsNumber_18 : decode cX7_readsNumber 18 = .ok (.aload_n 0, 1) := by decide +kernel
theorem dX7_readsNumber_19 : decode cX7_readsNumber 19 = .ok (.getfield 127, 3) := by decide +kernel
theorem dX7_readsNumber_22 : decode cX7_readsNumber 22 = .ok (.iaload, 1) := by decide +kernel
theorem dX7_readsNumber_23 : decode cX7_readsNumber 23 = .ok (.bipush 48, 2) := by decide +kernel
theorem dX7_readsNumber_25 : decode cX7_readsNumber 25 = .ok (.isub, 1) := by decide +kernel
theorem dX7_readsNumber_26 : decode cX7_readsNumber 26 = .ok (.iastore, 1) := by decide +kernel
theorem dX7_readsNumber_27 : decode cX7_readsNumber 27 = .ok (.aload_n 0, 1) := by decide +kernel
theorem dX7_readsNumber_28 : decode cX7_readsNumber 28 = .ok (.dup, 1) := by decide +kernel
theorem dX7_readsNumber_29 : decode cX7_readsNumber 29 = .ok (.getfield 127, 3) := by decide +kernel
theorem dX7_readsNumber_32 : decode cX7_readsNumber 32 = .ok (.iconst 1, 1) := by decide +kernel
theorem dX7_readsNumber_33 : decode cX7_readsNumber 33 = .ok (.iadd, 1) := by decide +kernel
theorem dX7_readsNumber_34 : decode cX7_readsNumber 34 = .ok (.putfield 127, 3) := by decide +kernel
theorem dX7_readsNumber_37 : decode cX7_readsNumber 37 = .ok (.aload_n 0, 1) := by decide +kernel
theorem dX7_readsNumber_38 : decode cX7_readsNumber 38 = .ok (.getfield 37, 3) := by decide +kernel
theorem dX7_readsNumber_41 : decode cX7_readsNumber 41 = .ok (.iload_n 1, 1) := by decide +kernel
theorem dX7_readsNumber_42 : decode cX7_readsNumber 42 = .ok (.iaload, 1) := by decide +kernel
theorem dX7_readsNumber_43 : decode cX7_readsNumber 43 = .ok (.ifCond .le 48, 3) := by decide +kernel
theorem dX7_readsNumber_46 : decode cX7_readsNumber 46 = .ok (.aload_n 0, 1) := by decide +kernel
theorem dX7_readsNumber_47 : decode cX7_readsNumber 47 = .ok (.invokevirtual 137, 3) := by decide +kernel
theorem dX7_readsNumber_50 : decode cX7_readsNumber 50 = .ok (.ifCond .eq 41, 3) := by decide +kernel
theorem dX7_readsNumber_53 : decode cX7_readsNumber 53 = .ok (.aload_n 0, 1) := by decide +kernel
theorem dX7_readsNumber_54 : decode cX7_readsNumber 54 = .ok (.getfield 37, 3) := by decide +kernel
theorem dX7_readsNumber_57 : decode cX7_readsNumber 57 = .ok (.iload_n 1, 1) := by decide +kernel
theorem dX7_readsNumber_58 : decode cX7_readsNumber 58 = .ok (.bipush 10, 2) := by decide +kernel
theorem dX7_readsNumber_60 : decode cX7_readsNumber 60 = .ok (.aload_n 0, 1) := by decide +kernel
theorem dX7_readsNumber_61 : decode cX7_readsNumber 61 = .ok (.getfield 37, 3) := by decide +kernel
theorem dX7_readsNumber_64 : decode cX7_readsNumber 64 = .ok (.iload_n 1, 1) := by decide +kernel
theorem dX7_readsNumber_65 : decode cX7_readsNumber 65 = .ok (.iaload, 1) := by decide +kernel
theorem dX7_readsNumber_66 : decode cX7_readsNumber 66 = .ok (.imul, 1) := by decide +kernel
theorem dX7_readsNumber_67 : decode cX7_readsNumber 67 = .ok (.aload_n 0, 1) := by decide +kernel
theorem dX7_readsNumber_68 : decode cX7_readsNumber 68 = .ok (.getfield 34, 3) := by decide +kernel
theorem dX7_readsNumber_71 : decode cX7_readsNumber 71 = .ok (.aload_n 0, 1) := by decide +kernel
theorem dX7_readsNumber_72 : decode cX7_readsNumber 72 = .ok (.getfield 127, 3) := by decide +kernel
theorem dX7_readsNumber_75 : decode cX7_readsNumber 75 = .ok (.iaload, 1) := by decide +kernel
theorem dX7_readsNumber_76 : decode cX7_readsNumber 76 = .ok (.iadd, 1) := by decide +kernel
theorem dX7_readsNumber_77 : decode cX7_readsNumber 77 = .ok (.bipush 48, 2) := by decide +kernel
theorem dX7_readsNumber_79 : decode cX7_readsNumber 79 = .ok (.isub, 1) := by decide +kernel
theorem dX7_readsNumber_80 : decode cX7_readsNumber 80 = .ok (.iastore, 1) := by decide +kernel
theorem dX7_readsNumber_81 : decode cX7_readsNumber 81 = .ok (.aload_n 0, 1) := by decide +kernel
theorem dX7_readsNumber_82 : decode cX7_readsNumber 82 = .ok (.dup, 1) := by decide +kernel
theorem dX7_readsNumber_83 : decode cX7_readsNumber 83 = .ok (.getfield 127, 3) := by decide +kernel
theorem dX7_readsNumber_86 : decode cX7_readsNumber 86 = .ok (.iconst 1, 1) := by decide +kernel
theorem dX7_readsNumber_87 : decode cX7_readsNumber 87 = .ok (.iadd, 1) := by decide +kernel
theorem dX7_readsNumber_88 : decode cX7_readsNumber 88 = .ok (.putfield 127, 3) := by decide +kernel
theorem dX7_readsNumber_91 : decode cX7_readsNumber 91 = .ok (.iconst 1, 1) := by decide +kernel
theorem dX7_readsNumber_92 : decode cX7_readsNumber 92 = .ok (.ireturn, 1) := by decide +kernel
theorem dX7_faultOf_0 : decode cX7_faultOf 0 = .ok (.aload_n 0, 1) := by decide +kernel
theorem dX7_faultOf_1 : decode cX7_faultOf 1 = .ok (.iconst 0, 1) := by decide +kernel
theorem dX7_faultOf_2 : decode cX7_faultOf 2 = .ok (.putfield 127, 3) := by decide +kernel
theorem dX7_faultOf_5 : decode cX7_faultOf 5 = .ok (.iconst 0, 1) := by decide +kernel
theorem dX7_faultOf_6 : decode cX7_faultOf 6 = .ok (.istore_n 1, 1) := by decide +kernel
theorem dX7_faultOf_7 : decode cX7_faultOf 7 = .ok (.iload_n 1, 1) := by decide +kernel
theorem dX7_faultOf_8 : decode cX7_faultOf 8 = .ok (.bipush 14, 2) := by decide +kernel
theorem dX7_faultOf_10 : decode cX7_faultOf 10 = .ok (.if_icmp .ge 48, 3) := by decide +kernel
theorem dX7_faultOf_13 : decode cX7_faultOf 13 = .ok (.aload_n 0, 1) := by decide +kernel
theorem dX7_faultOf_14 : decode cX7_faultOf 14 = .ok (.iload_n 1, 1) := by decide +kernel
theorem dX7_faultOf_15 : decode cX7_faultOf 15 = .ok (.invokevirtual 141, 3) := by decide +kernel
theorem dX7_faultOf_18 : decode cX7_faultOf 18 = .ok (.ifCond .eq 29, 3) := by decide +kernel
theorem dX7_faultOf_21 : decode cX7_faultOf 21 = .ok (.aload_n 0, 1) := by decide +kernel
theorem dX7_faultOf_22 : decode cX7_faultOf 22 = .ok (.iload_n 1, 1) := by decide +kernel
theorem dX7_faultOf_23 : decode cX7_faultOf 23 = .ok (.bipush 11, 2) := by decide +kernel
theorem dX7_faultOf_25 : decode cX7_faultOf 25 = .ok (.if_icmp .eq 9, 3) := by decide +kernel
theorem dX7_faultOf_28 : decode cX7_faultOf 28 = .ok (.iload_n 1, 1) := by decide +kernel
theorem dX7_faultOf_29 : decode cX7_faultOf 29 = .ok (.bipush 13, 2) := by decide +kernel
theorem dX7_faultOf_31 : decode cX7_faultOf 31 = .ok (.if_icmp .ne 8, 3) := by decide +kernel
theorem dX7_faultOf_34 : decode cX7_faultOf 34 = .ok (.bipush 47, 2) := by decide +kernel
theorem dX7_faultOf_36 : decode cX7_faultOf 36 = .ok (.goto 5, 3) := by decide +kernel
theorem dX7_faultOf_39 : decode cX7_faultOf 39 = .ok (.bipush 44, 2) := by decide +kernel
theorem dX7_faultOf_41 : decode cX7_faultOf 41 = .ok (.invokevirtual 144, 3) := by decide +kernel
theorem dX7_faultOf_44 : decode cX7_faultOf 44 = .ok (.ifCond .ne 8, 3) := by decide +kernel
theorem dX7_faultOf_47 : decode cX7_faultOf 47 = .ok (.aload_n 0, 1) := by decide +kernel
theorem dX7_faultOf_48 : decode cX7_faultOf 48 = .ok (.getfield 127, 3) := by decide +kernel
theorem dX7_faultOf_51 : decode cX7_faultOf 51 = .ok (.ireturn, 1) := by decide +kernel
theorem dX7_faultOf_52 : decode cX7_faultOf 52 = .ok (.iinc 1 1, 3) := by decide +kernel
theorem dX7_faultOf_55 : decode cX7_faultOf 55 = .ok (.goto (-48), 3) := by decide +kernel
theorem dX7_faultOf_58 : decode cX7_faultOf 58 = .ok (.aload_n 0, 1) := by decide +kernel
theorem dX7_faultOf_59 : decode cX7_faultOf 59 = .ok (.getfield 127, 3) := by decide +kernel
theorem dX7_faultOf_62 : decode cX7_faultOf 62 = .ok (.aload_n 0, 1) := by decide +kernel
theorem dX7_faultOf_63 : decode cX7_faultOf 63 = .ok (.getfield 130, 3) := by decide +kernel
theorem dX7_faultOf_66 : decode cX7_faultOf 66 = .ok (.if_icmp .eq 25, 3) := by decide +kernel
theorem dX7_faultOf_69 : decode cX7_faultOf 69 = .ok (.aload_n 0, 1) := by decide +kernel
theorem dX7_faultOf_70 : decode cX7_faultOf 70 = .ok (.getfield 34, 3) := by decide +kernel
theorem dX7_faultOf_73 : decode cX7_faultOf 73 = .ok (.aload_n 0, 1) := by decide +kernel
theorem dX7_faultOf_74 : decode cX7_faultOf 74 = .ok (.getfield 127, 3) := by decide +kernel
theorem dX7_faultOf_77 : decode cX7_faultOf 77 = .ok (.iaload, 1) := by decide +kernel
theorem dX7_faultOf_78 : decode cX7_faultOf 78 = .ok (.i2l, 1) := by decide +kernel
theorem dX7_faultOf_79 : decode cX7_faultOf 79 = .ok (.ldc2_w 133, 3) := by decide +kernel
theorem dX7_faultOf_82 : decode cX7_faultOf 82 = .ok (.ldc2_w 147, 3) := by decide +kernel
theorem dX7_faultOf_85 : decode cX7_faultOf 85 = .ok (.invokestatic 97, 3) := by decide +kernel
theorem dX7_faultOf_88 : decode cX7_faultOf 88 = .ok (.ifCond .ne 8, 3) := by decide +kernel
theorem dX7_faultOf_91 : decode cX7_faultOf 91 = .ok (.aload_n 0, 1) := by decide +kernel
theorem dX7_faultOf_92 : decode cX7_faultOf 92 = .ok (.getfield 127, 3) := by decide +kernel
theorem dX7_faultOf_95 : decode cX7_faultOf 95 = .ok (.ireturn, 1) := by decide +kernel
theorem dX7_faultOf_96 : decode cX7_faultOf 96 = .ok (.aload_n 0, 1) := by decide +kernel
theorem dX7_faultOf_97 : decode cX7_faultOf 97 = .ok (.getfield 37, 3) := by decide +kernel
theorem dX7_faultOf_100 : decode cX7_faultOf 100 = .ok (.bipush 14, 2) := by decide +kernel
theorem dX7_faultOf_102 : decode cX7_faultOf 102 = .ok (.aload_n 0, 1) := by decide +kernel
theorem dX7_faultOf_103 : decode cX7_faultOf 103 = .ok (.getfield 34, 3) := by decide +kernel
theorem dX7_faultOf_106 : decode cX7_faultOf 106 = .ok (.aload_n 0, 1) := by decide +kernel
theorem dX7_faultOf_107 : decode cX7_faultOf 107 = .ok (.getfield 127, 3) := by decide +kernel
theorem dX7_faultOf_110 : decode cX7_faultOf 110 = .ok (.iaload, 1) := by decide +kernel
theorem dX7_faultOf_111 : decode cX7_faultOf 111 = .ok (.bipush 48, 2) := by decide +kernel
theorem dX7_faultOf_113 : decode cX7_faultOf 113 = .ok (.isub, 1) := by decide +kernel
theorem dX7_faultOf_114 : decode cX7_faultOf 114 = .ok (.iastore, 1) := by decide +kernel
theorem dX7_faultOf_115 : decode cX7_faultOf 115 = .ok (.aload_n 0, 1) := by decide +kernel
theorem dX7_faultOf_116 : decode cX7_faultOf 116 = .ok (.dup, 1) := by decide +kernel
theorem dX7_faultOf_117 : decode cX7_faultOf 117 = .ok (.getfield 127, 3) := by decide +kernel
theorem dX7_faultOf_120 : decode cX7_faultOf 120 = .ok (.iconst 1, 1) := by decide +kernel
theorem dX7_faultOf_121 : decode cX7_faultOf 121 = .ok (.iadd, 1) := by decide +kernel
theorem dX7_faultOf_122 : decode cX7_faultOf 122 = .ok (.putfield 127, 3) := by decide +kernel
theorem dX7_faultOf_125 : decode cX7_faultOf 125 = .ok (.aload_n 0, 1) := by decide +kernel
theorem dX7_faultOf_126 : decode cX7_faultOf 126 = .ok (.getfield 127, 3) := by decide +kernel
theorem dX7_faultOf_129 : decode cX7_faultOf 129 = .ok (.aload_n 0, 1) := by decide +kernel
theorem dX7_faultOf_130 : decode cX7_faultOf 130 = .ok (.getfield 130, 3) := by decide +kernel
theorem dX7_faultOf_133 : decode cX7_faultOf 133 = .ok (.if_icmp .ne 8, 3) := by decide +kernel
theorem dX7_faultOf_136 : decode cX7_faultOf 136 = .ok (.bipush (-6), 2) := by decide +kernel
theorem dX7_faultOf_138 : decode cX7_faultOf 138 = .ok (.goto 7, 3) := by decide +kernel
theorem dX7_faultOf_141 : decode cX7_faultOf 141 = .ok (.aload_n 0, 1) := by decide +kernel
theorem dX7_faultOf_142 : decode cX7_faultOf 142 = .ok (.getfield 127, 3) := by decide +kernel
theorem dX7_faultOf_145 : decode cX7_faultOf 145 = .ok (.ireturn, 1) := by decide +kernel
theorem dX7_read_0 : decode cX7_read 0 = .ok (.aload_n 0, 1) := by decide +kernel
theorem dX7_read_1 : decode cX7_read 1 = .ok (.invokevirtual 149, 3) := by decide +kernel
theorem dX7_read_4 : decode cX7_read 4 = .ok (.bipush (-6), 2) := by decide +kernel
theorem dX7_read_6 : decode cX7_read 6 = .ok (.if_icmp .eq 6, 3) := by decide +kernel
theorem dX7_read_9 : decode cX7_read 9 = .ok (.bipush (-3), 2) := by decide +kernel
theorem dX7_read_11 : decode cX7_read 11 = .ok (.ireturn, 1) := by decide +kernel
theorem dX7_read_12 : decode cX7_read 12 = .ok (.aload_n 0, 1) := by decide +kernel
theorem dX7_read_13 : decode cX7_read 13 = .ok (.invokevirtual 109, 3) := by decide +kernel
theorem dX7_read_16 : decode cX7_read 16 = .ok (.aload_n 0, 1) := by decide +kernel
theorem dX7_read_17 : decode cX7_read 17 = .ok (.invokevirtual 47, 3) := by decide +kernel
theorem dX7_read_20 : decode cX7_read 20 = .ok (.iconst 0, 1) := by decide +kernel
theorem dX7_read_21 : decode cX7_read 21 = .ok (.istore_n 1, 1) := by decide +kernel
theorem dX7_read_22 : decode cX7_read 22 = .ok (.iload_n 1, 1) := by decide +kernel
theorem dX7_read_23 : decode cX7_read 23 = .ok (.bipush 12, 2) := by decide +kernel
theorem dX7_read_25 : decode cX7_read 25 = .ok (.if_icmp .ge 23, 3) := by decide +kernel
theorem dX7_read_28 : decode cX7_read 28 = .ok (.aload_n 0, 1) := by decide +kernel
theorem dX7_read_29 : decode cX7_read 29 = .ok (.getfield 7, 3) := by decide +kernel
theorem dX7_read_32 : decode cX7_read 32 = .ok (.iconst 0, 1) := by decide +kernel
theorem dX7_read_33 : decode cX7_read 33 = .ok (.iload_n 1, 1) := by decide +kernel
theorem dX7_read_34 : decode cX7_read 34 = .ok (.iadd, 1) := by decide +kernel
theorem dX7_read_35 : decode cX7_read 35 = .ok (.aload_n 0, 1) := by decide +kernel
theorem dX7_read_36 : decode cX7_read 36 = .ok (.getfield 37, 3) := by decide +kernel
theorem dX7_read_39 : decode cX7_read 39 = .ok (.iload_n 1, 1) := by decide +kernel
theorem dX7_read_40 : decode cX7_read 40 = .ok (.iaload, 1) := by decide +kernel
theorem dX7_read_41 : decode cX7_read 41 = .ok (.iastore, 1) := by decide +kernel
theorem dX7_read_42 : decode cX7_read 42 = .ok (.iinc 1 1, 3) := by decide +kernel
theorem dX7_read_45 : decode cX7_read 45 = .ok (.goto (-23), 3) := by decide +kernel
theorem dX7_read_48 : decode cX7_read 48 = .ok (.aload_n 0, 1) := by decide +kernel
theorem dX7_read_49 : decode cX7_read 49 = .ok (.getfield 7, 3) := by decide +kernel
theorem dX7_read_52 : decode cX7_read 52 = .ok (.bipush 24, 2) := by decide +kernel
theorem dX7_read_54 : decode cX7_read 54 = .ok (.aload_n 0, 1) := by decide +kernel
theorem dX7_read_55 : decode cX7_read 55 = .ok (.getfield 37, 3) := by decide +kernel
theorem dX7_read_58 : decode cX7_read 58 = .ok (.bipush 12, 2) := by decide +kernel
theorem dX7_read_60 : decode cX7_read 60 = .ok (.iaload, 1) := by decide +kernel
theorem dX7_read_61 : decode cX7_read 61 = .ok (.iastore, 1) := by decide +kernel
theorem dX7_read_62 : decode cX7_read 62 = .ok (.aload_n 0, 1) := by decide +kernel
theorem dX7_read_63 : decode cX7_read 63 = .ok (.getfield 7, 3) := by decide +kernel
theorem dX7_read_66 : decode cX7_read 66 = .ok (.bipush 25, 2) := by decide +kernel
theorem dX7_read_68 : decode cX7_read 68 = .ok (.aload_n 0, 1) := by decide +kernel
theorem dX7_read_69 : decode cX7_read 69 = .ok (.getfield 37, 3) := by decide +kernel
theorem dX7_read_72 : decode cX7_read 72 = .ok (.bipush 13, 2) := by decide +kernel
theorem dX7_read_74 : decode cX7_read 74 = .ok (.iaload, 1) := by decide +kernel
theorem dX7_read_75 : decode cX7_read 75 = .ok (.iastore, 1) := by decide +kernel
theorem dX7_read_76 : decode cX7_read 76 = .ok (.aload_n 0, 1) := by decide +kernel
theorem dX7_read_77 : decode cX7_read 77 = .ok (.getfield 7, 3) := by decide +kernel
theorem dX7_read_80 : decode cX7_read 80 = .ok (.bipush 26, 2) := by decide +kernel
theorem dX7_read_82 : decode cX7_read 82 = .ok (.aload_n 0, 1) := by decide +kernel
theorem dX7_read_83 : decode cX7_read 83 = .ok (.getfield 37, 3) := by decide +kernel
theorem dX7_read_86 : decode cX7_read 86 = .ok (.bipush 14, 2) := by decide +kernel
theorem dX7_read_88 : decode cX7_read 88 = .ok (.iaload, 1) := by decide +kernel
theorem dX7_read_89 : decode cX7_read 89 = .ok (.iastore, 1) := by decide +kernel
theorem dX7_read_90 : decode cX7_read 90 = .ok (.aload_n 0, 1) := by decide +kernel
theorem dX7_read_91 : decode cX7_read 91 = .ok (.iconst 0, 1) := by decide +kernel
theorem dX7_read_92 : decode cX7_read 92 = .ok (.putfield 130, 3) := by decide +kernel
theorem dX7_read_95 : decode cX7_read 95 = .ok (.aload_n 0, 1) := by decide +kernel
theorem dX7_read_96 : decode cX7_read 96 = .ok (.getfield 7, 3) := by decide +kernel
theorem dX7_read_99 : decode cX7_read 99 = .ok (.iconst 0, 1) := by decide +kernel
theorem dX7_read_100 : decode cX7_read 100 = .ok (.invokestatic 74, 3) := by decide +kernel
theorem dX7_read_103 : decode cX7_read 103 = .ok (.istore_n 1, 1) := by decide +kernel
theorem dX7_read_104 : decode cX7_read 104 = .ok (.iload_n 1, 1) := by decide +kernel
theorem dX7_read_105 : decode cX7_read 105 = .ok (.ifCond .ne 37, 3) := by decide +kernel
theorem dX7_read_108 : decode cX7_read 108 = .ok (.aload_n 0, 1) := by decide +kernel
theorem dX7_read_109 : decode cX7_read 109 = .ok (.getfield 7, 3) := by decide +kernel
theorem dX7_read_112 : decode cX7_read 112 = .ok (.iconst 0, 1) := by decide +kernel
theorem dX7_read_113 : decode cX7_read 113 = .ok (.aload_n 0, 1) := by decide +kernel
theorem dX7_read_114 : decode cX7_read 114 = .ok (.getfield 7, 3) := by decide +kernel
theorem dX7_read_117 : decode cX7_read 117 = .ok (.bipush 26, 2) := by decide +kernel
theorem dX7_read_119 : decode cX7_read 119 = .ok (.iaload, 1) := by decide +kernel
theorem dX7_read_120 : decode cX7_read 120 = .ok (.invokestatic 54, 3) := by decide +kernel
theorem dX7_read_123 : decode cX7_read 123 = .ok (.ifCond .ne 19, 3) := by decide +kernel
theorem dX7_read_126 : decode cX7_read 126 = .ok (.aload_n 0, 1) := by decide +kernel
theorem dX7_read_127 : decode cX7_read 127 = .ok (.getfield 7, 3) := by decide +kernel
theorem dX7_read_130 : decode cX7_read 130 = .ok (.bipush 26, 2) := by decide +kernel
theorem dX7_read_132 : decode cX7_read 132 = .ok (.iconst 1, 1) := by decide +kernel
theorem dX7_read_133 : decode cX7_read 133 = .ok (.aload_n 0, 1) := by decide +kernel
theorem dX7_read_134 : decode cX7_read 134 = .ok (.getfield 7, 3) := by decide +kernel
theorem dX7_read_137 : decode cX7_read 137 = .ok (.bipush 26, 2) := by decide +kernel
theorem dX7_read_139 : decode cX7_read 139 = .ok (.iaload, 1) := by decide +kernel
theorem dX7_read_140 : decode cX7_read 140 = .ok (.isub, 1) := by decide +kernel
theorem dX7_read_141 : decode cX7_read 141 = .ok (.iastore, 1) := by decide +kernel
theorem dX7_read_142 : decode cX7_read 142 = .ok (.aload_n 0, 1) := by decide +kernel
theorem dX7_read_143 : decode cX7_read 143 = .ok (.getfield 7, 3) := by decide +kernel
theorem dX7_read_146 : decode cX7_read 146 = .ok (.iconst 0, 1) := by decide +kernel
theorem dX7_read_147 : decode cX7_read 147 = .ok (.invokestatic 50, 3) := by decide +kernel
theorem dX7_read_150 : decode cX7_read 150 = .ok (.ireturn, 1) := by decide +kernel
theorem dX7_house_0 : decode cX7_house 0 = .ok (.iload_n 1, 1) := by decide +kernel
theorem dX7_house_1 : decode cX7_house 1 = .ok (.invokestatic 114, 3) := by decide +kernel
theorem dX7_house_4 : decode cX7_house 4 = .ok (.ifCond .ne 5, 3) := by decide +kernel
theorem dX7_house_7 : decode cX7_house 7 = .ok (.iconst (-1), 1) := by decide +kernel
theorem dX7_house_8 : decode cX7_house 8 = .ok (.ireturn, 1) := by decide +kernel
theorem dX7_house_9 : decode cX7_house 9 = .ok (.iload_n 2, 1) := by decide +kernel
theorem dX7_house_10 : decode cX7_house 10 = .ok (.i2l, 1) := by decide +kernel
theorem dX7_house_11 : decode cX7_house 11 = .ok (.lconst 0, 1) := by decide +kernel
theorem dX7_house_12 : decode cX7_house 12 = .ok (.ldc2_w 153, 3) := by decide +kernel
theorem dX7_house_15 : decode cX7_house 15 = .ok (.invokestatic 97, 3) := by decide +kernel
theorem dX7_house_18 : decode cX7_house 18 = .ok (.ifCond .ne 6, 3) := by decide +kernel
theorem dX7_house_21 : decode cX7_house 21 = .ok (.bipush (-2), 2) := by decide +kernel
theorem dX7_house_23 : decode cX7_house 23 = .ok (.ireturn, 1) := by decide +kernel
theorem dX7_house_24 : decode cX7_house 24 = .ok (.iload_n 2, 1) := by decide +kernel
theorem dX7_house_25 : decode cX7_house 25 = .ok (.ifCond .ne 14, 3) := by decide +kernel
theorem dX7_house_28 : decode cX7_house 28 = .ok (.aload_n 0, 1) := by decide +kernel
theorem dX7_house_29 : decode cX7_house 29 = .ok (.getfield 7, 3) := by decide +kernel
theorem dX7_house_32 : decode cX7_house 32 = .ok (.iconst 0, 1) := by decide +kernel
theorem dX7_house_33 : decode cX7_house 33 = .ok (.iload_n 1, 1) := by decide +kernel
theorem dX7_house_34 : decode cX7_house 34 = .ok (.iadd, 1) := by decide +kernel
theorem dX7_house_35 : decode cX7_house 35 = .ok (.iaload, 1) := by decide +kernel
theorem dX7_house_36 : decode cX7_house 36 = .ok (.goto 37, 3) := by decide +kernel
theorem dX7_house_39 : decode cX7_house 39 = .ok (.iload_n 2, 1) := by decide +kernel
theorem dX7_house_40 : decode cX7_house 40 = .ok (.iconst 1, 1) := by decide +kernel
theorem dX7_house_41 : decode cX7_house 41 = .ok (.if_icmp .ne 15, 3) := by decide +kernel
theorem dX7_house_44 : decode cX7_house 44 = .ok (.aload_n 0, 1) := by decide +kernel
theorem dX7_house_45 : decode cX7_house 45 = .ok (.getfield 7, 3) := by decide +kernel
theorem dX7_house_48 : decode cX7_house 48 = .ok (.bipush 12, 2) := by decide +kernel
theorem dX7_house_50 : decode cX7_house 50 = .ok (.iload_n 1, 1) := by decide +kernel
theorem dX7_house_51 : decode cX7_house 51 = .ok (.iadd, 1) := by decide +kernel
theorem dX7_house_52 : decode cX7_house 52 = .ok (.iaload, 1) := by decide +kernel
theorem dX7_house_53 : decode cX7_house 53 = .ok (.goto 20, 3) := by decide +kernel
theorem dX7_house_56 : decode cX7_house 56 = .ok (.aload_n 0, 1) := by decide +kernel
theorem dX7_house_57 : decode cX7_house 57 = .ok (.getfield 7, 3) := by decide +kernel
theorem dX7_house_60 : decode cX7_house 60 = .ok (.iconst 0, 1) := by decide +kernel
theorem dX7_house_61 : decode cX7_house 61 = .ok (.iload_n 1, 1) := by decide +kernel
theorem dX7_house_62 : decode cX7_house 62 = .ok (.invokestatic 62, 3) := by decide +kernel
theorem dX7_house_65 : decode cX7_house 65 = .ok (.ifCond .eq 7, 3) := by decide +kernel
theorem dX7_house_68 : decode cX7_house 68 = .ok (.iconst 1, 1) := by decide +kernel
theorem dX7_house_69 : decode cX7_house 69 = .ok (.goto 4, 3) := by decide +kernel
theorem dX7_house_72 : decode cX7_house 72 = .ok (.iconst 0, 1) := by decide +kernel
theorem dX7_house_73 : decode cX7_house 73 = .ok (.ireturn, 1) := by decide +kernel
theorem dX7_winner_0 : decode cX7_winner 0 = .ok (.aload_n 0, 1) := by decide +kernel
theorem dX7_winner_1 : decode cX7_winner 1 = .ok (.getfield 7, 3) := by decide +kernel
theorem dX7_winner_4 : decode cX7_winner 4 = .ok (.bipush 27, 2) := by decide +kernel
theorem dX7_winner_6 : decode cX7_winner 6 = .ok (.iaload, 1) := by decide +kernel
theorem dX7_winner_7 : decode cX7_winner 7 = .ok (.ifCond .ne 6, 3) := by decide +kernel
theorem dX7_winner_10 : decode cX7_winner 10 = .ok (.bipush (-6), 2) := by decide +kernel
theorem dX7_winner_12 : decode cX7_winner 12 = .ok (.ireturn, 1) := by decide +kernel
theorem dX7_winner_13 : decode cX7_winner 13 = .ok (.aload_n 0, 1) := by decide +kernel
theorem dX7_winner_14 : decode cX7_winner 14 = .ok (.getfield 7, 3) := by decide +kernel
theorem dX7_winner_17 : decode cX7_winner 17 = .ok (.bipush 24, 2) := by decide +kernel
theorem dX7_winner_19 : decode cX7_winner 19 = .ok (.iaload, 1) := by decide +kernel
theorem dX7_winner_20 : decode cX7_winner 20 = .ok (.aload_n 0, 1) := by decide +kernel
theorem dX7_winner_21 : decode cX7_winner 21 = .ok (.getfield 7, 3) := by decide +kernel
theorem dX7_winner_24 : decode cX7_winner 24 = .ok (.bipush 25, 2) := by decide +kernel
theorem dX7_winner_26 : decode cX7_winner 26 = .ok (.iaload, 1) := by decide +kernel
theorem dX7_winner_27 : decode cX7_winner 27 = .ok (.if_icmp .le 7, 3) := by decide +kernel
theorem dX7_winner_30 : decode cX7_winner 30 = .ok (.iconst 0, 1) := by decide +kernel
theorem dX7_winner_31 : decode cX7_winner 31 = .ok (.goto 25, 3) := by decide +kernel
theorem dX7_winner_34 : decode cX7_winner 34 = .ok (.aload_n 0, 1) := by decide +kernel
theorem dX7_winner_35 : decode cX7_winner 35 = .ok (.getfield 7, 3) := by decide +kernel
theorem dX7_winner_38 : decode cX7_winner 38 = .ok (.bipush 24, 2) := by decide +kernel
theorem dX7_winner_40 : decode cX7_winner 40 = .ok (.iaload, 1) := by decide +kernel
theorem dX7_winner_41 : decode cX7_winner 41 = .ok (.aload_n 0, 1) := by decide +kernel
theorem dX7_winner_42 : decode cX7_winner 42 = .ok (.getfield 7, 3) := by decide +kernel
theorem dX7_winner_45 : decode cX7_winner 45 = .ok (.bipush 25, 2) := by decide +kernel
theorem dX7_winner_47 : decode cX7_winner 47 = .ok (.iaload, 1) := by decide +kernel
theorem dX7_winner_48 : decode cX7_winner 48 = .ok (.if_icmp .ge 7, 3) := by decide +kernel
theorem dX7_winner_51 : decode cX7_winner 51 = .ok (.iconst 1, 1) := by decide +kernel
theorem dX7_winner_52 : decode cX7_winner 52 = .ok (.goto 4, 3) := by decide +kernel
theorem dX7_winner_55 : decode cX7_winner 55 = .ok (.iconst 2, 1) := by decide +kernel
theorem dX7_winner_56 : decode cX7_winner 56 = .ok (.ireturn, 1) := by decide +kernel
theorem dX7_hostiles_0 : decode cX7_hostiles 0 = .ok (.iconst 0, 1) := by decide +kernel
theorem dX7_hostiles_1 : decode cX7_hostiles 1 = .ok (.istore_n 1, 1) := by decide +kernel
theorem dX7_hostiles_2 : decode cX7_hostiles 2 = .ok (.iconst 0, 1) := by decide +kernel
theorem dX7_hostiles_3 : decode cX7_hostiles 3 = .ok (.istore_n 2, 1) := by decide +kernel
theorem dX7_hostiles_4 : decode cX7_hostiles 4 = .ok (.iload_n 2, 1) := by decide +kernel
theorem dX7_hostiles_5 : decode cX7_hostiles 5 = .ok (.bipush 12, 2) := by decide +kernel
theorem dX7_hostiles_7 : decode cX7_hostiles 7 = .ok (.if_icmp .ge 29, 3) := by decide +kernel
theorem dX7_hostiles_10 : decode cX7_hostiles 10 = .ok (.iload_n 1, 1) := by decide +kernel
theorem dX7_hostiles_11 : decode cX7_hostiles 11 = .ok (.aload_n 0, 1) := by decide +kernel
theorem dX7_hostiles_12 : decode cX7_hostiles 12 = .ok (.getfield 7, 3) := by decide +kernel
theorem dX7_hostiles_15 : decode cX7_hostiles 15 = .ok (.iconst 0, 1) := by decide +kernel
theorem dX7_hostiles_16 : decode cX7_hostiles 16 = .ok (.iload_n 2, 1) := by decide +kernel
theorem dX7_hostiles_17 : decode cX7_hostiles 17 = .ok (.invokestatic 62, 3) := by decide +kernel
theorem dX7_hostiles_20 : decode cX7_hostiles 20 = .ok (.ifCond .eq 7, 3) := by decide +kernel
theorem dX7_hostiles_23 : decode cX7_hostiles 23 = .ok (.iconst 1, 1) := by decide +kernel
theorem dX7_hostiles_24 : decode cX7_hostiles 24 = .ok (.goto 4, 3) := by decide +kernel
theorem dX7_hostiles_27 : decode cX7_hostiles 27 = .ok (.iconst 0, 1) := by decide +kernel
theorem dX7_hostiles_28 : decode cX7_hostiles 28 = .ok (.iadd, 1) := by decide +kernel
theorem dX7_hostiles_29 : decode cX7_hostiles 29 = .ok (.istore_n 1, 1) := by decide +kernel
theorem dX7_hostiles_30 : decode cX7_hostiles 30 = .ok (.iinc 2 1, 3) := by decide +kernel
theorem dX7_hostiles_33 : decode cX7_hostiles 33 = .ok (.goto (-29), 3) := by decide +kernel
theorem dX7_hostiles_36 : decode cX7_hostiles 36 = .ok (.iload_n 1, 1) := by decide +kernel
theorem dX7_hostiles_37 : decode cX7_hostiles 37 = .ok (.ireturn, 1) := by decide +kernel
theorem dX7_count_0 : decode cX7_count 0 = .ok (.iload_n 1, 1) := by decide +kernel
theorem dX7_count_1 : decode cX7_count 1 = .ok (.i2l, 1) := by decide +kernel
theorem dX7_count_2 : decode cX7_count 2 = .ok (.ldc2_w 155, 3) := by decide +kernel
theorem dX7_count_5 : decode cX7_count 5 = .ok (.ldc2_w 157, 3) := by decide +kernel
theorem dX7_count_8 : decode cX7_count 8 = .ok (.invokestatic 97, 3) := by decide +kernel
theorem dX7_count_11 : decode cX7_count 11 = .ok (.ifCond .eq 16, 3) := by decide +kernel
theorem dX7_count_14 : decode cX7_count 14 = .ok (.aload_n 0, 1) := by decide +kernel
theorem dX7_count_15 : decode cX7_count 15 = .ok (.getfield 7, 3) := by decide +kernel
theorem dX7_count_18 : decode cX7_count 18 = .ok (.bipush 34, 2) := by decide +kernel
theorem dX7_count_20 : decode cX7_count 20 = .ok (.iload_n 1, 1) := by decide +kernel
theorem dX7_count_21 : decode cX7_count 21 = .ok (.iadd, 1) := by decide +kernel
theorem dX7_count_22 : decode cX7_count 22 = .ok (.bipush 7, 2) := by decide +kernel
theorem dX7_count_24 : decode cX7_count 24 = .ok (.isub, 1) := by decide +kernel
theorem dX7_count_25 : decode cX7_count 25 = .ok (.iaload, 1) := by decide +kernel
theorem dX7_count_26 : decode cX7_count 26 = .ok (.ireturn, 1) := by decide +kernel
theorem dX7_count_27 : decode cX7_count 27 = .ok (.iload_n 1, 1) := by decide +kernel
theorem dX7_count_28 : decode cX7_count 28 = .ok (.tableswitch 137 0 13 #[72, 80, 88, 93, 93, 105, 114, 137, 137, 137, 137, 122, 127, 132], 72) := by decide +kernel
theorem dX7_count_100 : decode cX7_count 100 = .ok (.aload_n 0, 1) := by decide +kernel
theorem dX7_count_101 : decode cX7_count 101 = .ok (.getfield 7, 3) := by decide +kernel
theorem dX7_count_104 : decode cX7_count 104 = .ok (.bipush 26, 2) := by decide +kernel
theorem dX7_count_106 : decode cX7_count 106 = .ok (.iaload, 1) := by decide +kernel
theorem dX7_count_107 : decode cX7_count 107 = .ok (.ireturn, 1) := by decide +kernel
theorem dX7_count_108 : decode cX7_count 108 = .ok (.aload_n 0, 1) := by decide +kernel
theorem dX7_count_109 : decode cX7_count 109 = .ok (.getfield 7, 3) := by decide +kernel
theorem dX7_count_112 : decode cX7_count 112 = .ok (.bipush 27, 2) := by decide +kernel
theorem dX7_count_114 : decode cX7_count 114 = .ok (.iaload, 1) := by decide +kernel
theorem dX7_count_115 : decode cX7_count 115 = .ok (.ireturn, 1) := by decide +kernel
theorem dX7_count_116 : decode cX7_count 116 = .ok (.aload_n 0, 1) := by decide +kernel
theorem dX7_count_117 : decode cX7_count 117 = .ok (.invokevirtual 159, 3) := by decide +kernel
theorem dX7_count_120 : decode cX7_count 120 = .ok (.ireturn, 1) := by decide +kernel
theorem dX7_count_121 : decode cX7_count 121 = .ok (.aload_n 0, 1) := by decide +kernel
theorem dX7_count_122 : decode cX7_count 122 = .ok (.getfield 7, 3) := by decide +kernel
theorem dX7_count_125 : decode cX7_count 125 = .ok (.bipush 24, 2) := by decide +kernel
theorem dX7_count_127 : decode cX7_count 127 = .ok (.iload_n 1, 1) := by decide +kernel
theorem dX7_count_128 : decode cX7_count 128 = .ok (.iadd, 1) := by decide +kernel
theorem dX7_count_129 : decode cX7_count 129 = .ok (.iconst 3, 1) := by decide +kernel
theorem dX7_count_130 : decode cX7_count 130 = .ok (.isub, 1) := by decide +kernel
theorem dX7_count_131 : decode cX7_count 131 = .ok (.iaload, 1) := by decide +kernel
theorem dX7_count_132 : decode cX7_count 132 = .ok (.ireturn, 1) := by decide +kernel
theorem dX7_count_133 : decode cX7_count 133 = .ok (.aload_n 0, 1) := by decide +kernel
theorem dX7_count_134 : decode cX7_count 134 = .ok (.getfield 7, 3) := by decide +kernel
theorem dX7_count_137 : decode cX7_count 137 = .ok (.iconst 0, 1) := by decide +kernel
theorem dX7_count_138 : decode cX7_count 138 = .ok (.invokestatic 50, 3) := by decide +kernel
theorem dX7_count_141 : decode cX7_count 141 = .ok (.ireturn, 1) := by decide +kernel
theorem dX7_count_142 : decode cX7_count 142 = .ok (.aload_n 0, 1) := by decide +kernel
theorem dX7_count_143 : decode cX7_count 143 = .ok (.getfield 7, 3) := by decide +kernel
theorem dX7_count_146 : decode cX7_count 146 = .ok (.bipush 28, 2) := by decide +kernel
theorem dX7_count_148 : decode cX7_count 148 = .ok (.iaload, 1) := by decide +kernel
theorem dX7_count_149 : decode cX7_count 149 = .ok (.ireturn, 1) := by decide +kernel
theorem dX7_count_150 : decode cX7_count 150 = .ok (.aload_n 0, 1) := by decide +kernel
theorem dX7_count_151 : decode cX7_count 151 = .ok (.invokevirtual 162, 3) := by decide +kernel
theorem dX7_count_154 : decode cX7_count 154 = .ok (.ireturn, 1) := by decide +kernel
theorem dX7_count_155 : decode cX7_count 155 = .ok (.aload_n 0, 1) := by decide +kernel
theorem dX7_count_156 : decode cX7_count 156 = .ok (.getfield 130, 3) := by decide +kernel
theorem dX7_count_159 : decode cX7_count 159 = .ok (.ireturn, 1) := by decide +kernel
theorem dX7_count_160 : decode cX7_count 160 = .ok (.aload_n 0, 1) := by decide +kernel
theorem dX7_count_161 : decode cX7_count 161 = .ok (.getfield 43, 3) := by decide +kernel
theorem dX7_count_164 : decode cX7_count 164 = .ok (.ireturn, 1) := by decide +kernel
theorem dX7_count_165 : decode cX7_count 165 = .ok (.bipush (-2), 2) := by decide +kernel
theorem dX7_count_167 : decode cX7_count 167 = .ok (.ireturn, 1) := by decide +kernel
theorem dX7_last_0 : decode cX7_last 0 = .ok (.iload_n 1, 1) := by decide +kernel
theorem dX7_last_1 : decode cX7_last 1 = .ok (.i2l, 1) := by decide +kernel
theorem dX7_last_2 : decode cX7_last 2 = .ok (.lconst 0, 1) := by decide +kernel
theorem dX7_last_3 : decode cX7_last 3 = .ok (.ldc2_w 122, 3) := by decide +kernel
theorem dX7_last_6 : decode cX7_last 6 = .ok (.invokestatic 97, 3) := by decide +kernel
theorem dX7_last_9 : decode cX7_last 9 = .ok (.ifCond .ne 8, 3) := by decide +kernel
theorem dX7_last_12 : decode cX7_last 12 = .ok (.bipush (-2), 2) := by decide +kernel
theorem dX7_last_14 : decode cX7_last 14 = .ok (.goto 27, 3) := by decide +kernel
theorem dX7_last_17 : decode cX7_last 17 = .ok (.aload_n 0, 1) := by decide +kernel
theorem dX7_last_18 : decode cX7_last 18 = .ok (.getfield 7, 3) := by decide +kernel
theorem dX7_last_21 : decode cX7_last 21 = .ok (.bipush 28, 2) := by decide +kernel
theorem dX7_last_23 : decode cX7_last 23 = .ok (.iaload, 1) := by decide +kernel
theorem dX7_last_24 : decode cX7_last 24 = .ok (.ifCond .ne 8, 3) := by decide +kernel
theorem dX7_last_27 : decode cX7_last 27 = .ok (.bipush (-6), 2) := by decide +kernel
theorem dX7_last_29 : decode cX7_last 29 = .ok (.goto 12, 3) := by decide +kernel
theorem dX7_last_32 : decode cX7_last 32 = .ok (.aload_n 0, 1) := by decide +kernel
theorem dX7_last_33 : decode cX7_last 33 = .ok (.getfield 7, 3) := by decide +kernel
theorem dX7_last_36 : decode cX7_last 36 = .ok (.bipush 29, 2) := by decide +kernel
theorem dX7_last_38 : decode cX7_last 38 = .ok (.iload_n 1, 1) := by decide +kernel
theorem dX7_last_39 : decode cX7_last 39 = .ok (.iadd, 1) := by decide +kernel
theorem dX7_last_40 : decode cX7_last 40 = .ok (.iaload, 1) := by decide +kernel
theorem dX7_last_41 : decode cX7_last 41 = .ok (.ireturn, 1) := by decide +kernel
theorem dX7_moved_0 : decode cX7_moved 0 = .ok (.iload_n 1, 1) := by decide +kernel
theorem dX7_moved_1 : decode cX7_moved 1 = .ok (.i2l, 1) := by decide +kernel
theorem dX7_moved_2 : decode cX7_moved 2 = .ok (.lconst 0, 1) := by decide +kernel
theorem dX7_moved_3 : decode cX7_moved 3 = .ok (.aload_n 0, 1) := by decide +kernel
theorem dX7_moved_4 : decode cX7_moved 4 = .ok (.getfield 7, 3) := by decide +kernel
theorem dX7_moved_7 : decode cX7_moved 7 = .ok (.bipush 28, 2) := by decide +kernel
theorem dX7_moved_9 : decode cX7_moved 9 = .ok (.iaload, 1) := by decide +kernel
theorem dX7_moved_10 : decode cX7_moved 10 = .ok (.i2l, 1) := by decide +kernel
theorem dX7_moved_11 : decode cX7_moved 11 = .ok (.lconst 1, 1) := by decide +kernel
theorem dX7_moved_12 : decode cX7_moved 12 = .ok (.lsub, 1) := by decide +kernel
theorem dX7_moved_13 : decode cX7_moved 13 = .ok (.invokestatic 97, 3) := by decide +kernel
theorem dX7_moved_16 : decode cX7_moved 16 = .ok (.ifCond .eq 15, 3) := by decide +kernel
theorem dX7_moved_19 : decode cX7_moved 19 = .ok (.aload_n 0, 1) := by decide +kernel
theorem dX7_moved_20 : decode cX7_moved 20 = .ok (.getfield 7, 3) := by decide +kernel
theorem dX7_moved_23 : decode cX7_moved 23 = .ok (.bipush 40, 2) := by decide +kernel
theorem dX7_moved_25 : decode cX7_moved 25 = .ok (.iload_n 1, 1) := by decide +kernel
theorem dX7_moved_26 : decode cX7_moved 26 = .ok (.iadd, 1) := by decide +kernel
theorem dX7_moved_27 : decode cX7_moved 27 = .ok (.iaload, 1) := by decide +kernel
theorem dX7_moved_28 : decode cX7_moved 28 = .ok (.goto 4, 3) := by decide +kernel
theorem dX7_moved_31 : decode cX7_moved 31 = .ok (.iconst (-1), 1) := by decide +kernel
theorem dX7_moved_32 : decode cX7_moved 32 = .ok (.ireturn, 1) := by decide +kernel
theorem dX7_ifMove_0 : decode cX7_ifMove 0 = .ok (.iload_n 1, 1) := by decide +kernel
theorem dX7_ifMove_1 : decode cX7_ifMove 1 = .ok (.invokestatic 114, 3) := by decide +kernel
theorem dX7_ifMove_4 : decode cX7_ifMove 4 = .ok (.ifCond .ne 5, 3) := by decide +kernel
theorem dX7_ifMove_7 : decode cX7_ifMove 7 = .ok (.iconst (-1), 1) := by decide +kernel
theorem dX7_ifMove_8 : decode cX7_ifMove 8 = .ok (.ireturn, 1) := by decide +kernel
theorem dX7_ifMove_9 : decode cX7_ifMove 9 = .ok (.aload_n 0, 1) := by decide +kernel
theorem dX7_ifMove_10 : decode cX7_ifMove 10 = .ok (.getfield 7, 3) := by decide +kernel
theorem dX7_ifMove_13 : decode cX7_ifMove 13 = .ok (.iconst 0, 1) := by decide +kernel
theorem dX7_ifMove_14 : decode cX7_ifMove 14 = .ok (.iload_n 1, 1) := by decide +kernel
theorem dX7_ifMove_15 : decode cX7_ifMove 15 = .ok (.invokestatic 78, 3) := by decide +kernel
theorem dX7_ifMove_18 : decode cX7_ifMove 18 = .ok (.ifCond .ne 6, 3) := by decide +kernel
theorem dX7_ifMove_21 : decode cX7_ifMove 21 = .ok (.bipush (-5), 2) := by decide +kernel
theorem dX7_ifMove_23 : decode cX7_ifMove 23 = .ok (.ireturn, 1) := by decide +kernel
theorem dX7_ifMove_24 : decode cX7_ifMove 24 = .ok (.iload_n 2, 1) := by decide +kernel
theorem dX7_ifMove_25 : decode cX7_ifMove 25 = .ok (.i2l, 1) := by decide +kernel
theorem dX7_ifMove_26 : decode cX7_ifMove 26 = .ok (.lconst 0, 1) := by decide +kernel
theorem dX7_ifMove_27 : decode cX7_ifMove 27 = .ok (.ldc2_w 165, 3) := by decide +kernel
theorem dX7_ifMove_30 : decode cX7_ifMove 30 = .ok (.invokestatic 97, 3) := by decide +kernel
theorem dX7_ifMove_33 : decode cX7_ifMove 33 = .ok (.ifCond .ne 6, 3) := by decide +kernel
theorem dX7_ifMove_36 : decode cX7_ifMove 36 = .ok (.bipush (-2), 2) := by decide +kernel
theorem dX7_ifMove_38 : decode cX7_ifMove 38 = .ok (.ireturn, 1) := by decide +kernel
theorem dX7_ifMove_39 : decode cX7_ifMove 39 = .ok (.aload_n 0, 1) := by decide +kernel
theorem dX7_ifMove_40 : decode cX7_ifMove 40 = .ok (.aload_n 0, 1) := by decide +kernel
theorem dX7_ifMove_41 : decode cX7_ifMove 41 = .ok (.getfield 7, 3) := by decide +kernel
theorem dX7_ifMove_44 : decode cX7_ifMove 44 = .ok (.iconst 0, 1) := by decide +kernel
theorem dX7_ifMove_45 : decode cX7_ifMove 45 = .ok (.iconst 0, 1) := by decide +kernel
theorem dX7_ifMove_46 : decode cX7_ifMove 46 = .ok (.invokevirtual 81, 3) := by decide +kernel
theorem dX7_ifMove_49 : decode cX7_ifMove 49 = .ok (.aload_n 0, 1) := by decide +kernel
theorem dX7_ifMove_50 : decode cX7_ifMove 50 = .ok (.getfield 22, 3) := by decide +kernel
theorem dX7_ifMove_53 : decode cX7_ifMove 53 = .ok (.iconst 0, 1) := by decide +kernel
theorem dX7_ifMove_54 : decode cX7_ifMove 54 = .ok (.iload_n 1, 1) := by decide +kernel
theorem dX7_ifMove_55 : decode cX7_ifMove 55 = .ok (.invokestatic 85, 3) := by decide +kernel
theorem dX7_ifMove_58 : decode cX7_ifMove 58 = .ok (.aload_n 0, 1) := by decide +kernel
theorem dX7_ifMove_59 : decode cX7_ifMove 59 = .ok (.getfield 7, 3) := by decide +kernel
theorem dX7_ifMove_62 : decode cX7_ifMove 62 = .ok (.bipush 26, 2) := by decide +kernel
theorem dX7_ifMove_64 : decode cX7_ifMove 64 = .ok (.iaload, 1) := by decide +kernel
theorem dX7_ifMove_65 : decode cX7_ifMove 65 = .ok (.istore_n 3, 1) := by decide +kernel
theorem dX7_ifMove_66 : decode cX7_ifMove 66 = .ok (.iload_n 2, 1) := by decide +kernel
theorem dX7_ifMove_67 : decode cX7_ifMove 67 = .ok (.iconst 4, 1) := by decide +kernel
theorem dX7_ifMove_68 : decode cX7_ifMove 68 = .ok (.if_icmp .ge 15, 3) := by decide +kernel
theorem dX7_ifMove_71 : decode cX7_ifMove 71 = .ok (.aload_n 0, 1) := by decide +kernel
theorem dX7_ifMove_72 : decode cX7_ifMove 72 = .ok (.getfield 22, 3) := by decide +kernel
theorem dX7_ifMove_75 : decode cX7_ifMove 75 = .ok (.bipush 30, 2) := by decide +kernel
theorem dX7_ifMove_77 : decode cX7_ifMove 77 = .ok (.iload_n 2, 1) := by decide +kernel
theorem dX7_ifMove_78 : decode cX7_ifMove 78 = .ok (.iadd, 1) := by decide +kernel
theorem dX7_ifMove_79 : decode cX7_ifMove 79 = .ok (.iaload, 1) := by decide +kernel
theorem dX7_ifMove_80 : decode cX7_ifMove 80 = .ok (.goto 56, 3) := by decide +kernel
theorem dX7_ifMove_83 : decode cX7_ifMove 83 = .ok (.iload_n 2, 1) := by decide +kernel
theorem dX7_ifMove_84 : decode cX7_ifMove 84 = .ok (.iconst 4, 1) := by decide +kernel
theorem dX7_ifMove_85 : decode cX7_ifMove 85 = .ok (.if_icmp .ne 29, 3) := by decide +kernel
theorem dX7_ifMove_88 : decode cX7_ifMove 88 = .ok (.aload_n 0, 1) := by decide +kernel
theorem dX7_ifMove_89 : decode cX7_ifMove 89 = .ok (.getfield 22, 3) := by decide +kernel
theorem dX7_ifMove_92 : decode cX7_ifMove 92 = .ok (.bipush 24, 2) := by decide +kernel
theorem dX7_ifMove_94 : decode cX7_ifMove 94 = .ok (.iload_n 3, 1) := by decide +kernel
theorem dX7_ifMove_95 : decode cX7_ifMove 95 = .ok (.iadd, 1) := by decide +kernel
theorem dX7_ifMove_96 : decode cX7_ifMove 96 = .ok (.iaload, 1) := by decide +kernel
theorem dX7_ifMove_97 : decode cX7_ifMove 97 = .ok (.aload_n 0, 1) := by decide +kernel
theorem dX7_ifMove_98 : decode cX7_ifMove 98 = .ok (.getfield 7, 3) := by decide +kernel
theorem dX7_ifMove_101 : decode cX7_ifMove 101 = .ok (.bipush 24, 2) := by decide +kernel
theorem dX7_ifMove_103 : decode cX7_ifMove 103 = .ok (.iload_n 3, 1) := by decide +kernel
theorem dX7_ifMove_104 : decode cX7_ifMove 104 = .ok (.iadd, 1) := by decide +kernel
theorem dX7_ifMove_105 : decode cX7_ifMove 105 = .ok (.iaload, 1) := by decide +kernel
theorem dX7_ifMove_106 : decode cX7_ifMove 106 = .ok (.isub, 1) := by decide +kernel
theorem dX7_ifMove_107 : decode cX7_ifMove 107 = .ok (.sipush 10000, 3) := by decide +kernel
theorem dX7_ifMove_110 : decode cX7_ifMove 110 = .ok (.iadd, 1) := by decide +kernel
theorem dX7_ifMove_111 : decode cX7_ifMove 111 = .ok (.goto 25, 3) := by decide +kernel
theorem dX7_ifMove_114 : decode cX7_ifMove 114 = .ok (.iload_n 2, 1) := by decide +kernel
theorem dX7_ifMove_115 : decode cX7_ifMove 115 = .ok (.iconst 5, 1) := by decide +kernel
theorem dX7_ifMove_116 : decode cX7_ifMove 116 = .ok (.if_icmp .ne 13, 3) := by decide +kernel
theorem dX7_ifMove_119 : decode cX7_ifMove 119 = .ok (.aload_n 0, 1) := by decide +kernel
theorem dX7_ifMove_120 : decode cX7_ifMove 120 = .ok (.getfield 22, 3) := by decide +kernel
theorem dX7_ifMove_123 : decode cX7_ifMove 123 = .ok (.bipush 26, 2) := by decide +kernel
theorem dX7_ifMove_125 : decode cX7_ifMove 125 = .ok (.iaload, 1) := by decide +kernel
theorem dX7_ifMove_126 : decode cX7_ifMove 126 = .ok (.goto 10, 3) := by decide +kernel
theorem dX7_ifMove_129 : decode cX7_ifMove 129 = .ok (.aload_n 0, 1) := by decide +kernel
theorem dX7_ifMove_130 : decode cX7_ifMove 130 = .ok (.getfield 22, 3) := by decide +kernel
theorem dX7_ifMove_133 : decode cX7_ifMove 133 = .ok (.bipush 27, 2) := by decide +kernel
theorem dX7_ifMove_135 : decode cX7_ifMove 135 = .ok (.iaload, 1) := by decide +kernel
theorem dX7_ifMove_136 : decode cX7_ifMove 136 = .ok (.ireturn, 1) := by decide +kernel
theorem dX7_worth_0 : decode cX7_worth 0 = .ok (.iload_n 1, 1) := by decide +kernel
theorem dX7_worth_1 : decode cX7_worth 1 = .ok (.i2l, 1) := by decide +kernel
theorem dX7_worth_2 : decode cX7_worth 2 = .ok (.lconst 0, 1) := by decide +kernel
theorem dX7_worth_3 : decode cX7_worth 3 = .ok (.ldc2_w 122, 3) := by decide +kernel
theorem dX7_worth_6 : decode cX7_worth 6 = .ok (.invokestatic 97, 3) := by decide +kernel
theorem dX7_worth_9 : decode cX7_worth 9 = .ok (.ifCond .ne 6, 3) := by decide +kernel
theorem dX7_worth_12 : decode cX7_worth 12 = .ok (.bipush (-2), 2) := by decide +kernel
theorem dX7_worth_14 : decode cX7_worth 14 = .ok (.ireturn, 1) := by decide +kernel
theorem dX7_worth_15 : decode cX7_worth 15 = .ok (.aload_n 0, 1) := by decide +kernel
theorem dX7_worth_16 : decode cX7_worth 16 = .ok (.aload_n 0, 1) := by decide +kernel
theorem dX7_worth_17 : decode cX7_worth 17 = .ok (.getfield 7, 3) := by decide +kernel
theorem dX7_worth_20 : decode cX7_worth 20 = .ok (.iconst 0, 1) := by decide +kernel
theorem dX7_worth_21 : decode cX7_worth 21 = .ok (.iconst 0, 1) := by decide +kernel
theorem dX7_worth_22 : decode cX7_worth 22 = .ok (.invokevirtual 81, 3) := by decide +kernel
theorem dX7_worth_25 : decode cX7_worth 25 = .ok (.aload_n 0, 1) := by decide +kernel
theorem dX7_worth_26 : decode cX7_worth 26 = .ok (.iconst 0, 1) := by decide +kernel
theorem dX7_worth_27 : decode cX7_worth 27 = .ok (.iload_n 1, 1) := by decide +kernel
theorem dX7_worth_28 : decode cX7_worth 28 = .ok (.invokevirtual 91, 3) := by decide +kernel
theorem dX7_worth_31 : decode cX7_worth 31 = .ok (.sipush 10000, 3) := by decide +kernel
theorem dX7_worth_34 : decode cX7_worth 34 = .ok (.iadd, 1) := by decide +kernel
theorem dX7_worth_35 : decode cX7_worth 35 = .ok (.ireturn, 1) := by decide +kernel
theorem dX7_best_0 : decode cX7_best 0 = .ok (.iload_n 1, 1) := by decide +kernel
theorem dX7_best_1 : decode cX7_best 1 = .ok (.i2l, 1) := by decide +kernel
theorem dX7_best_2 : decode cX7_best 2 = .ok (.lconst 1, 1) := by decide +kernel
theorem dX7_best_3 : decode cX7_best 3 = .ok (.ldc2_w 122, 3) := by decide +kernel
theorem dX7_best_6 : decode cX7_best 6 = .ok (.invokestatic 97, 3) := by decide +kernel
theorem dX7_best_9 : decode cX7_best 9 = .ok (.ifCond .ne 6, 3) := by decide +kernel
theorem dX7_best_12 : decode cX7_best 12 = .ok (.bipush (-2), 2) := by decide +kernel
theorem dX7_best_14 : decode cX7_best 14 = .ok (.ireturn, 1) := by decide +kernel
theorem dX7_best_15 : decode cX7_best 15 = .ok (.aload_n 0, 1) := by decide +kernel
theorem dX7_best_16 : decode cX7_best 16 = .ok (.aload_n 0, 1) := by decide +kernel
theorem dX7_best_17 : decode cX7_best 17 = .ok (.getfield 7, 3) := by decide +kernel
theorem dX7_best_20 : decode cX7_best 20 = .ok (.iconst 0, 1) := by decide +kernel
theorem dX7_best_21 : decode cX7_best 21 = .ok (.iconst 0, 1) := by decide +kernel
theorem dX7_best_22 : decode cX7_best 22 = .ok (.invokevirtual 81, 3) := by decide +kernel
theorem dX7_best_25 : decode cX7_best 25 = .ok (.aload_n 0, 1) := by decide +kernel
theorem dX7_best_26 : decode cX7_best 26 = .ok (.iconst 0, 1) := by decide +kernel
theorem dX7_best_27 : decode cX7_best 27 = .ok (.iload_n 1, 1) := by decide +kernel
theorem dX7_best_28 : decode cX7_best 28 = .ok (.invokevirtual 124, 3) := by decide +kernel
theorem dX7_best_31 : decode cX7_best 31 = .ok (.ireturn, 1) := by decide +kernel
theorem dX7_movesLeft_0 : decode cX7_movesLeft 0 = .ok (.iload_n 1, 1) := by decide +kernel
theorem dX7_movesLeft_1 : decode cX7_movesLeft 1 = .ok (.i2l, 1) := by decide +kernel
theorem dX7_movesLeft_2 : decode cX7_movesLeft 2 = .ok (.lconst 1, 1) := by decide +kernel
theorem dX7_movesLeft_3 : decode cX7_movesLeft 3 = .ok (.ldc2_w 153, 3) := by decide +kernel
theorem dX7_movesLeft_6 : decode cX7_movesLeft 6 = .ok (.invokestatic 97, 3) := by decide +kernel
theorem dX7_movesLeft_9 : decode cX7_movesLeft 9 = .ok (.ifCond .ne 6, 3) := by decide +kernel
theorem dX7_movesLeft_12 : decode cX7_movesLeft 12 = .ok (.bipush (-2), 2) := by decide +kernel
theorem dX7_movesLeft_14 : decode cX7_movesLeft 14 = .ok (.ireturn, 1) := by decide +kernel
theorem dX7_movesLeft_15 : decode cX7_movesLeft 15 = .ok (.aload_n 0, 1) := by decide +kernel
theorem dX7_movesLeft_16 : decode cX7_movesLeft 16 = .ok (.aload_n 0, 1) := by decide +kernel
theorem dX7_movesLeft_17 : decode cX7_movesLeft 17 = .ok (.getfield 7, 3) := by decide +kernel
theorem dX7_movesLeft_20 : decode cX7_movesLeft 20 = .ok (.iconst 0, 1) := by decide +kernel
theorem dX7_movesLeft_21 : decode cX7_movesLeft 21 = .ok (.iconst 0, 1) := by decide +kernel
theorem dX7_movesLeft_22 : decode cX7_movesLeft 22 = .ok (.invokevirtual 81, 3) := by decide +kernel
theorem dX7_movesLeft_25 : decode cX7_movesLeft 25 = .ok (.iconst 0, 1) := by decide +kernel
theorem dX7_movesLeft_26 : decode cX7_movesLeft 26 = .ok (.istore_n 2, 1) := by decide +kernel
theorem dX7_movesLeft_27 : decode cX7_movesLeft 27 = .ok (.aload_n 0, 1) := by decide +kernel
theorem dX7_movesLeft_28 : decode cX7_movesLeft 28 = .ok (.getfield 22, 3) := by decide +kernel
theorem dX7_movesLeft_31 : decode cX7_movesLeft 31 = .ok (.bipush 27, 2) := by decide +kernel
theorem dX7_movesLeft_33 : decode cX7_movesLeft 33 = .ok (.iaload, 1) := by decide +kernel
theorem dX7_movesLeft_34 : decode cX7_movesLeft 34 = .ok (.ifCond .ne 23, 3) := by decide +kernel
theorem dX7_movesLeft_37 : decode cX7_movesLeft 37 = .ok (.aload_n 0, 1) := by decide +kernel
theorem dX7_movesLeft_38 : decode cX7_movesLeft 38 = .ok (.getfield 22, 3) := by decide +kernel
theorem dX7_movesLeft_41 : decode cX7_movesLeft 41 = .ok (.iconst 0, 1) := by decide +kernel
theorem dX7_movesLeft_42 : decode cX7_movesLeft 42 = .ok (.aload_n 0, 1) := by decide +kernel
theorem dX7_movesLeft_43 : decode cX7_movesLeft 43 = .ok (.iconst 0, 1) := by decide +kernel
theorem dX7_movesLeft_44 : decode cX7_movesLeft 44 = .ok (.iload_n 1, 1) := by decide +kernel
theorem dX7_movesLeft_45 : decode cX7_movesLeft 45 = .ok (.invokevirtual 124, 3) := by decide +kernel
theorem dX7_movesLeft_48 : decode cX7_movesLeft 48 = .ok (.invokestatic 85, 3) := by decide +kernel
theorem dX7_movesLeft_51 : decode cX7_movesLeft 51 = .ok (.iinc 2 1, 3) := by decide +kernel
theorem dX7_movesLeft_54 : decode cX7_movesLeft 54 = .ok (.goto (-27), 3) := by decide +kernel
theorem dX7_movesLeft_57 : decode cX7_movesLeft 57 = .ok (.iload_n 2, 1) := by decide +kernel
theorem dX7_movesLeft_58 : decode cX7_movesLeft 58 = .ok (.ireturn, 1) := by decide +kernel
theorem dX7_put_0 : decode cX7_put 0 = .ok (.iconst 0, 1) := by decide +kernel
theorem dX7_put_1 : decode cX7_put 1 = .ok (.istore_n 3, 1) := by decide +kernel
theorem dX7_put_2 : decode cX7_put 2 = .ok (.iconst 1, 1) := by decide +kernel
theorem dX7_put_3 : decode cX7_put 3 = .ok (.istore 4, 2) := by decide +kernel
theorem dX7_put_5 : decode cX7_put 5 = .ok (.lload_n 1, 1) := by decide +kernel
theorem dX7_put_6 : decode cX7_put 6 = .ok (.lstore 5, 2) := by decide +kernel
theorem dX7_put_8 : decode cX7_put 8 = .ok (.iload_n 3, 1) := by decide +kernel
theorem dX7_put_9 : decode cX7_put 9 = .ok (.bipush 8, 2) := by decide +kernel
theorem dX7_put_11 : decode cX7_put 11 = .ok (.if_icmp .ge 57, 3) := by decide +kernel
theorem dX7_put_14 : decode cX7_put 14 = .ok (.lload 5, 2) := by decide +kernel
theorem dX7_put_16 : decode cX7_put 16 = .ok (.ldc2_w 167, 3) := by decide +kernel
theorem dX7_put_19 : decode cX7_put 19 = .ok (.land, 1) := by decide +kernel
theorem dX7_put_20 : decode cX7_put 20 = .ok (.lconst 0, 1) := by decide +kernel
theorem dX7_put_21 : decode cX7_put 21 = .ok (.lcmp, 1) := by decide +kernel
theorem dX7_put_22 : decode cX7_put 22 = .ok (.ifCond .eq 46, 3) := by decide +kernel
theorem dX7_put_25 : decode cX7_put 25 = .ok (.iload 4, 2) := by decide +kernel
theorem dX7_put_27 : decode cX7_put 27 = .ok (.ifCond .eq 25, 3) := by decide +kernel
theorem dX7_put_30 : decode cX7_put 30 = .ok (.lload 5, 2) := by decide +kernel
theorem dX7_put_32 : decode cX7_put 32 = .ok (.ldc2_w 167, 3) := by decide +kernel
theorem dX7_put_35 : decode cX7_put 35 = .ok (.land, 1) := by decide +kernel
theorem dX7_put_36 : decode cX7_put 36 = .ok (.ldc2_w 169, 3) := by decide +kernel
theorem dX7_put_39 : decode cX7_put 39 = .ok (.ldc2_w 171, 3) := by decide +kernel
theorem dX7_put_42 : decode cX7_put 42 = .ok (.invokestatic 97, 3) := by decide +kernel
theorem dX7_put_45 : decode cX7_put 45 = .ok (.ifCond .eq 7, 3) := by decide +kernel
theorem dX7_put_48 : decode cX7_put 48 = .ok (.iconst 1, 1) := by decide +kernel
theorem dX7_put_49 : decode cX7_put 49 = .ok (.goto 4, 3) := by decide +kernel
theorem dX7_put_52 : decode cX7_put 52 = .ok (.iconst 0, 1) := by decide +kernel
theorem dX7_put_53 : decode cX7_put 53 = .ok (.istore 4, 2) := by decide +kernel
theorem dX7_put_55 : decode cX7_put 55 = .ok (.lload 5, 2) := by decide +kernel
theorem dX7_put_57 : decode cX7_put 57 = .ok (.bipush 8, 2) := by decide +kernel
theorem dX7_put_59 : decode cX7_put 59 = .ok (.lushr, 1) := by decide +kernel
theorem dX7_put_60 : decode cX7_put 60 = .ok (.lstore 5, 2) := by decide +kernel
theorem dX7_put_62 : decode cX7_put 62 = .ok (.iinc 3 1, 3) := by decide +kernel
theorem dX7_put_65 : decode cX7_put 65 = .ok (.goto (-57), 3) := by decide +kernel
theorem dX7_put_68 : decode cX7_put 68 = .ok (.iload_n 3, 1) := by decide +kernel
theorem dX7_put_69 : decode cX7_put 69 = .ok (.ifCond .eq 15, 3) := by decide +kernel
theorem dX7_put_72 : decode cX7_put 72 = .ok (.lload 5, 2) := by decide +kernel
theorem dX7_put_74 : decode cX7_put 74 = .ok (.lconst 0, 1) := by decide +kernel
theorem dX7_put_75 : decode cX7_put 75 = .ok (.lcmp, 1) := by decide +kernel
theorem dX7_put_76 : decode cX7_put 76 = .ok (.ifCond .ne 8, 3) := by decide +kernel
theorem dX7_put_79 : decode cX7_put 79 = .ok (.iload 4, 2) := by decide +kernel
theorem dX7_put_81 : decode cX7_put 81 = .ok (.ifCond .ne 6, 3) := by decide +kernel
theorem dX7_put_84 : decode cX7_put 84 = .ok (.bipush (-2), 2) := by decide +kernel
theorem dX7_put_86 : decode cX7_put 86 = .ok (.ireturn, 1) := by decide +kernel
theorem dX7_put_87 : decode cX7_put 87 = .ok (.aload_n 0, 1) := by decide +kernel
theorem dX7_put_88 : decode cX7_put 88 = .ok (.getfield 130, 3) := by decide +kernel
theorem dX7_put_91 : decode cX7_put 91 = .ok (.iload_n 3, 1) := by decide +kernel
theorem dX7_put_92 : decode cX7_put 92 = .ok (.iadd, 1) := by decide +kernel
theorem dX7_put_93 : decode cX7_put 93 = .ok (.bipush 60, 2) := by decide +kernel
theorem dX7_put_95 : decode cX7_put 95 = .ok (.if_icmp .le 6, 3) := by decide +kernel
theorem dX7_put_98 : decode cX7_put 98 = .ok (.bipush (-4), 2) := by decide +kernel
theorem dX7_put_100 : decode cX7_put 100 = .ok (.ireturn, 1) := by decide +kernel
theorem dX7_put_101 : decode cX7_put 101 = .ok (.iload_n 3, 1) := by decide +kernel
theorem dX7_put_102 : decode cX7_put 102 = .ok (.iconst 1, 1) := by decide +kernel
theorem dX7_put_103 : decode cX7_put 103 = .ok (.isub, 1) := by decide +kernel
theorem dX7_put_104 : decode cX7_put 104 = .ok (.istore 7, 2) := by decide +kernel
theorem dX7_put_106 : decode cX7_put 106 = .ok (.iload 7, 2) := by decide +kernel
theorem dX7_put_108 : decode cX7_put 108 = .ok (.ifCond .lt 40, 3) := by decide +kernel
theorem dX7_put_111 : decode cX7_put 111 = .ok (.aload_n 0, 1) := by decide +kernel
theorem dX7_put_112 : decode cX7_put 112 = .ok (.getfield 34, 3) := by decide +kernel
theorem dX7_put_115 : decode cX7_put 115 = .ok (.aload_n 0, 1) := by decide +kernel
theorem dX7_put_116 : decode cX7_put 116 = .ok (.getfield 130, 3) := by decide +kernel
theorem dX7_put_119 : decode cX7_put 119 = .ok (.lload_n 1, 1) := by decide +kernel
theorem dX7_put_120 : decode cX7_put 120 = .ok (.bipush 8, 2) := by decide +kernel
theorem dX7_put_122 : decode cX7_put 122 = .ok (.iload 7, 2) := by decide +kernel
theorem dX7_put_124 : decode cX7_put 124 = .ok (.imul, 1) := by decide +kernel
theorem dX7_put_125 : decode cX7_put 125 = .ok (.lushr, 1) := by decide +kernel
theorem dX7_put_126 : decode cX7_put 126 = .ok (.ldc2_w 167, 3) := by decide +kernel
theorem dX7_put_129 : decode cX7_put 129 = .ok (.land, 1) := by decide +kernel
theorem dX7_put_130 : decode cX7_put 130 = .ok (.l2i, 1) := by decide +kernel
theorem dX7_put_131 : decode cX7_put 131 = .ok (.iastore, 1) := by decide +kernel
theorem dX7_put_132 : decode cX7_put 132 = .ok (.aload_n 0, 1) := by decide +kernel
theorem dX7_put_133 : decode cX7_put 133 = .ok (.dup, 1) := by decide +kernel
theorem dX7_put_134 : decode cX7_put 134 = .ok (.getfield 130, 3) := by decide +kernel
theorem dX7_put_137 : decode cX7_put 137 = .ok (.iconst 1, 1) := by decide +kernel
theorem dX7_put_138 : decode cX7_put 138 = .ok (.iadd, 1) := by decide +kernel
theorem dX7_put_139 : decode cX7_put 139 = .ok (.putfield 130, 3) := by decide +kernel
theorem dX7_put_142 : decode cX7_put 142 = .ok (.iinc 7 (-1), 3) := by decide +kernel
theorem dX7_put_145 : decode cX7_put 145 = .ok (.goto (-39), 3) := by decide +kernel
theorem dX7_put_148 : decode cX7_put 148 = .ok (.aload_n 0, 1) := by decide +kernel
theorem dX7_put_149 : decode cX7_put 149 = .ok (.getfield 130, 3) := by decide +kernel
theorem dX7_put_152 : decode cX7_put 152 = .ok (.ireturn, 1) := by decide +kernel
theorem dX7_wipe_0 : decode cX7_wipe 0 = .ok (.aload_n 0, 1) := by decide +kernel
theorem dX7_wipe_1 : decode cX7_wipe 1 = .ok (.getfield 130, 3) := by decide +kernel
theorem dX7_wipe_4 : decode cX7_wipe 4 = .ok (.istore_n 1, 1) := by decide +kernel
theorem dX7_wipe_5 : decode cX7_wipe 5 = .ok (.aload_n 0, 1) := by decide +kernel
theorem dX7_wipe_6 : decode cX7_wipe 6 = .ok (.iconst 0, 1) := by decide +kernel
theorem dX7_wipe_7 : decode cX7_wipe 7 = .ok (.putfield 130, 3) := by decide +kernel
theorem dX7_wipe_10 : decode cX7_wipe 10 = .ok (.iload_n 1, 1) := by decide +kernel
theorem dX7_wipe_11 : decode cX7_wipe 11 = .ok (.ireturn, 1) := by decide +kernel
theorem dX7_fault_0 : decode cX7_fault 0 = .ok (.aload_n 0, 1) := by decide +kernel
theorem dX7_fault_1 : decode cX7_fault 1 = .ok (.invokevirtual 149, 3) := by decide +kernel
theorem dX7_fault_4 : decode cX7_fault 4 = .ok (.ireturn, 1) := by decide +kernel
theorem dX7_undo_0 : decode cX7_undo 0 = .ok (.aload_n 0, 1) := by decide +kernel
theorem dX7_undo_1 : decode cX7_undo 1 = .ok (.getfield 43, 3) := by decide +kernel
theorem dX7_undo_4 : decode cX7_undo 4 = .ok (.ifCond .ne 6, 3) := by decide +kernel
theorem dX7_undo_7 : decode cX7_undo 7 = .ok (.bipush (-5), 2) := by decide +kernel
theorem dX7_undo_9 : decode cX7_undo 9 = .ok (.ireturn, 1) := by decide +kernel
theorem dX7_undo_10 : decode cX7_undo 10 = .ok (.aload_n 0, 1) := by decide +kernel
theorem dX7_undo_11 : decode cX7_undo 11 = .ok (.dup, 1) := by decide +kernel
theorem dX7_undo_12 : decode cX7_undo 12 = .ok (.getfield 43, 3) := by decide +kernel
theorem dX7_undo_15 : decode cX7_undo 15 = .ok (.iconst 1, 1) := by decide +kernel
theorem dX7_undo_16 : decode cX7_undo 16 = .ok (.isub, 1) := by decide +kernel
theorem dX7_undo_17 : decode cX7_undo 17 = .ok (.putfield 43, 3) := by decide +kernel
theorem dX7_undo_20 : decode cX7_undo 20 = .ok (.iconst 0, 1) := by decide +kernel
theorem dX7_undo_21 : decode cX7_undo 21 = .ok (.istore_n 1, 1) := by decide +kernel
theorem dX7_undo_22 : decode cX7_undo 22 = .ok (.iload_n 1, 1) := by decide +kernel
theorem dX7_undo_23 : decode cX7_undo 23 = .ok (.sipush 340, 3) := by decide +kernel
theorem dX7_undo_26 : decode cX7_undo 26 = .ok (.if_icmp .ge 30, 3) := by decide +kernel
theorem dX7_undo_29 : decode cX7_undo 29 = .ok (.aload_n 0, 1) := by decide +kernel
theorem dX7_undo_30 : decode cX7_undo 30 = .ok (.getfield 7, 3) := by decide +kernel
theorem dX7_undo_33 : decode cX7_undo 33 = .ok (.iload_n 1, 1) := by decide +kernel
theorem dX7_undo_34 : decode cX7_undo 34 = .ok (.aload_n 0, 1) := by decide +kernel
theorem dX7_undo_35 : decode cX7_undo 35 = .ok (.getfield 13, 3) := by decide +kernel
theorem dX7_undo_38 : decode cX7_undo 38 = .ok (.sipush 340, 3) := by decide +kernel
theorem dX7_undo_41 : decode cX7_undo 41 = .ok (.aload_n 0, 1) := by decide +kernel
theorem dX7_undo_42 : decode cX7_undo 42 = .ok (.getfield 43, 3) := by decide +kernel
theorem dX7_undo_45 : decode cX7_undo 45 = .ok (.imul, 1) := by decide +kernel
theorem dX7_undo_46 : decode cX7_undo 46 = .ok (.iload_n 1, 1) := by decide +kernel
theorem dX7_undo_47 : decode cX7_undo 47 = .ok (.iadd, 1) := by decide +kernel
theorem dX7_undo_48 : decode cX7_undo 48 = .ok (.iaload, 1) := by decide +kernel
theorem dX7_undo_49 : decode cX7_undo 49 = .ok (.iastore, 1) := by decide +kernel
theorem dX7_undo_50 : decode cX7_undo 50 = .ok (.iinc 1 1, 3) := by decide +kernel
theorem dX7_undo_53 : decode cX7_undo 53 = .ok (.goto (-31), 3) := by decide +kernel
theorem dX7_undo_56 : decode cX7_undo 56 = .ok (.aload_n 0, 1) := by decide +kernel
theorem dX7_undo_57 : decode cX7_undo 57 = .ok (.getfield 43, 3) := by decide +kernel
theorem dX7_undo_60 : decode cX7_undo 60 = .ok (.ireturn, 1) := by decide +kernel
theorem dX7_save_0 : decode cX7_save 0 = .ok (.iload_n 1, 1) := by decide +kernel
theorem dX7_save_1 : decode cX7_save 1 = .ok (.i2l, 1) := by decide +kernel
theorem dX7_save_2 : decode cX7_save 2 = .ok (.lconst 0, 1) := by decide +kernel
theorem dX7_save_3 : decode cX7_save 3 = .ok (.lconst 1, 1) := by decide +kernel
theorem dX7_save_4 : decode cX7_save 4 = .ok (.invokestatic 97, 3) := by decide +kernel
theorem dX7_save_7 : decode cX7_save 7 = .ok (.ifCond .ne 6, 3) := by decide +kernel
theorem dX7_save_10 : decode cX7_save 10 = .ok (.bipush (-2), 2) := by decide +kernel
theorem dX7_save_12 : decode cX7_save 12 = .ok (.ireturn, 1) := by decide +kernel
theorem dX7_save_13 : decode cX7_save 13 = .ok (.iconst 0, 1) := by decide +kernel
theorem dX7_save_14 : decode cX7_save 14 = .ok (.istore_n 2, 1) := by decide +kernel
theorem dX7_save_15 : decode cX7_save 15 = .ok (.iload_n 2, 1) := by decide +kernel
theorem dX7_save_16 : decode cX7_save 16 = .ok (.sipush 340, 3) := by decide +kernel
theorem dX7_save_19 : decode cX7_save 19 = .ok (.if_icmp .ge 27, 3) := by decide +kernel
theorem dX7_save_22 : decode cX7_save 22 = .ok (.aload_n 0, 1) := by decide +kernel
theorem dX7_save_23 : decode cX7_save 23 = .ok (.getfield 16, 3) := by decide +kernel
theorem dX7_save_26 : decode cX7_save 26 = .ok (.sipush 340, 3) := by decide +kernel
theorem dX7_save_29 : decode cX7_save 29 = .ok (.iload_n 1, 1) := by decide +kernel
theorem dX7_save_30 : decode cX7_save 30 = .ok (.imul, 1) := by decide +kernel
theorem dX7_save_31 : decode cX7_save 31 = .ok (.iload_n 2, 1) := by decide +kernel
theorem dX7_save_32 : decode cX7_save 32 = .ok (.iadd, 1) := by decide +kernel
theorem dX7_save_33 : decode cX7_save 33 = .ok (.aload_n 0, 1) := by decide +kernel
theorem dX7_save_34 : decode cX7_save 34 = .ok (.getfield 7, 3) := by decide +kernel
theorem dX7_save_37 : decode cX7_save 37 = .ok (.iload_n 2, 1) := by decide +kernel
theorem dX7_save_38 : decode cX7_save 38 = .ok (.iaload, 1) := by decide +kernel
theorem dX7_save_39 : decode cX7_save 39 = .ok (.iastore, 1) := by decide +kernel
theorem dX7_save_40 : decode cX7_save 40 = .ok (.iinc 2 1, 3) := by decide +kernel
theorem dX7_save_43 : decode cX7_save 43 = .ok (.goto (-28), 3) := by decide +kernel
theorem dX7_save_46 : decode cX7_save 46 = .ok (.aload_n 0, 1) := by decide +kernel
theorem dX7_save_47 : decode cX7_save 47 = .ok (.getfield 19, 3) := by decide +kernel
theorem dX7_save_50 : decode cX7_save 50 = .ok (.iload_n 1, 1) := by decide +kernel
theorem dX7_save_51 : decode cX7_save 51 = .ok (.iconst 1, 1) := by decide +kernel
theorem dX7_save_52 : decode cX7_save 52 = .ok (.iastore, 1) := by decide +kernel
theorem dX7_save_53 : decode cX7_save 53 = .ok (.aload_n 0, 1) := by decide +kernel
theorem dX7_save_54 : decode cX7_save 54 = .ok (.getfield 7, 3) := by decide +kernel
theorem dX7_save_57 : decode cX7_save 57 = .ok (.bipush 28, 2) := by decide +kernel
theorem dX7_save_59 : decode cX7_save 59 = .ok (.iaload, 1) := by decide +kernel
theorem dX7_save_60 : decode cX7_save 60 = .ok (.ireturn, 1) := by decide +kernel
theorem dX7_restore_0 : decode cX7_restore 0 = .ok (.iload_n 1, 1) := by decide +kernel
theorem dX7_restore_1 : decode cX7_restore 1 = .ok (.i2l, 1) := by decide +kernel
theorem dX7_restore_2 : decode cX7_restore 2 = .ok (.lconst 0, 1) := by decide +kernel
theorem dX7_restore_3 : decode cX7_restore 3 = .ok (.lconst 1, 1) := by decide +kernel
theorem dX7_restore_4 : decode cX7_restore 4 = .ok (.invokestatic 97, 3) := by decide +kernel
theorem dX7_restore_7 : decode cX7_restore 7 = .ok (.ifCond .ne 6, 3) := by decide +kernel
theorem dX7_restore_10 : decode cX7_restore 10 = .ok (.bipush (-2), 2) := by decide +kernel
theorem dX7_restore_12 : decode cX7_restore 12 = .ok (.ireturn, 1) := by decide +kernel
theorem dX7_restore_13 : decode cX7_restore 13 = .ok (.aload_n 0, 1) := by decide +kernel
theorem dX7_restore_14 : decode cX7_restore 14 = .ok (.getfield 19, 3) := by decide +kernel
theorem dX7_restore_17 : decode cX7_restore 17 = .ok (.iload_n 1, 1) := by decide +kernel
theorem dX7_restore_18 : decode cX7_restore 18 = .ok (.iaload, 1) := by decide +kernel
theorem dX7_restore_19 : decode cX7_restore 19 = .ok (.ifCond .ne 6, 3) := by decide +kernel
theorem dX7_restore_22 : decode cX7_restore 22 = .ok (.bipush (-5), 2) := by decide +kernel
theorem dX7_restore_24 : decode cX7_restore 24 = .ok (.ireturn, 1) := by decide +kernel
theorem dX7_restore_25 : decode cX7_restore 25 = .ok (.aload_n 0, 1) := by decide +kernel
theorem dX7_restore_26 : decode cX7_restore 26 = .ok (.invokevirtual 109, 3) := by decide +kernel
theorem dX7_restore_29 : decode cX7_restore 29 = .ok (.iconst 0, 1) := by decide +kernel
theorem dX7_restore_30 : decode cX7_restore 30 = .ok (.istore_n 2, 1) := by decide +kernel
theorem dX7_restore_31 : decode cX7_restore 31 = .ok (.iload_n 2, 1) := by decide +kernel
theorem dX7_restore_32 : decode cX7_restore 32 = .ok (.sipush 340, 3) := by decide +kernel
theorem dX7_restore_35 : decode cX7_restore 35 = .ok (.if_icmp .ge 27, 3) := by decide +kernel
theorem dX7_restore_38 : decode cX7_restore 38 = .ok (.aload_n 0, 1) := by decide +kernel
theorem dX7_restore_39 : decode cX7_restore 39 = .ok (.getfield 7, 3) := by decide +kernel
theorem dX7_restore_42 : decode cX7_restore 42 = .ok (.iload_n 2, 1) := by decide +kernel
theorem dX7_restore_43 : decode cX7_restore 43 = .ok (.aload_n 0, 1) := by decide +kernel
theorem dX7_restore_44 : decode cX7_restore 44 = .ok (.getfield 16, 3) := by decide +kernel
theorem dX7_restore_47 : decode cX7_restore 47 = .ok (.sipush 340, 3) := by decide +kernel
theorem dX7_restore_50 : decode cX7_restore 50 = .ok (.iload_n 1, 1) := by decide +kernel
theorem dX7_restore_51 : decode cX7_restore 51 = .ok (.imul, 1) := by decide +kernel
theorem dX7_restore_52 : decode cX7_restore 52 = .ok (.iload_n 2, 1) := by decide +kernel
theorem dX7_restore_53 : decode cX7_restore 53 = .ok (.iadd, 1) := by decide +kernel
theorem dX7_restore_54 : decode cX7_restore 54 = .ok (.iaload, 1) := by decide +kernel
theorem dX7_restore_55 : decode cX7_restore 55 = .ok (.iastore, 1) := by decide +kernel
theorem dX7_restore_56 : decode cX7_restore 56 = .ok (.iinc 2 1, 3) := by decide +kernel
theorem dX7_restore_59 : decode cX7_restore 59 = .ok (.goto (-28), 3) := by decide +kernel
theorem dX7_restore_62 : decode cX7_restore 62 = .ok (.aload_n 0, 1) := by decide +kernel
theorem dX7_restore_63 : decode cX7_restore 63 = .ok (.getfield 7, 3) := by decide +kernel
theorem dX7_restore_66 : decode cX7_restore 66 = .ok (.bipush 28, 2) := by decide +kernel
theorem dX7_restore_68 : decode cX7_restore 68 = .ok (.iaload, 1) := by decide +kernel
theorem dX7_restore_69 : decode cX7_restore 69 = .ok (.ireturn, 1) := by decide +kernel
theorem dJ9_max_7cf53_0 : decode cJ9_max_7cf53 0 = .ok (.iload_n 0, 1) := by decide +kernel
theorem dJ9_max_7cf53_1 : decode cJ9_max_7cf53 1 = .ok (.iload_n 1, 1) := by decide +kernel
theorem dJ9_max_7cf53_2 : decode cJ9_max_7cf53 2 = .ok (.if_icmp .lt 7, 3) := by decide +kernel
theorem dJ9_max_7cf53_5 : decode cJ9_max_7cf53 5 = .ok (.iload_n 0, 1) := by decide +kernel
theorem dJ9_max_7cf53_6 : decode cJ9_max_7cf53 6 = .ok (.goto 4, 3) := by decide +kernel
theorem dJ9_max_7cf53_9 : decode cJ9_max_7cf53 9 = .ok (.iload_n 1, 1) := by decide +kernel
theorem dJ9_max_7cf53_10 : decode cJ9_max_7cf53 10 = .ok (.ireturn, 1) := by decide +kernel
theorem dL_law_0 : decode cL_law 0 = .ok (.new 7, 3) := by decide +kernel
theorem dL_law_3 : decode cL_law 3 = .ok (.dup, 1) := by decide +kernel
theorem dL_law_4 : decode cL_law 4 = .ok (.invokespecial 9, 3) := by decide +kernel
theorem dL_law_7 : decode cL_law 7 = .ok (.astore_n 1, 1) := by decide +kernel
theorem dL_law_8 : decode cL_law 8 = .ok (.new 10, 3) := by decide +kernel
theorem dL_law_11 : decode cL_law 11 = .ok (.dup, 1) := by decide +kernel
theorem dL_law_12 : decode cL_law 12 = .ok (.invokespecial 12, 3) := by decide +kernel
theorem dL_law_15 : decode cL_law 15 = .ok (.astore_n 2, 1) := by decide +kernel
theorem dL_law_16 : decode cL_law 16 = .ok (.iconst 0, 1) := by decide +kernel
theorem dL_law_17 : decode cL_law 17 = .ok (.istore_n 3, 1) := by decide +kernel
theorem dL_law_18 : decode cL_law 18 = .ok (.iload_n 3, 1) := by decide +kernel
theorem dL_law_19 : decode cL_law 19 = .ok (.aload_n 0, 1) := by decide +kernel
theorem dL_law_20 : decode cL_law 20 = .ok (.arraylength, 1) := by decide +kernel
theorem dL_law_21 : decode cL_law 21 = .ok (.iconst 3, 1) := by decide +kernel
theorem dL_law_22 : decode cL_law 22 = .ok (.isub, 1) := by decide +kernel
theorem dL_law_23 : decode cL_law 23 = .ok (.if_icmp .gt 554, 3) := by decide +kernel
theorem dL_law_26 : decode cL_law 26 = .ok (.aload_n 0, 1) := by decide +kernel
theorem dL_law_27 : decode cL_law 27 = .ok (.iload_n 3, 1) := by decide +kernel
theorem dL_law_28 : decode cL_law 28 = .ok (.iaload, 1) := by decide +kernel
theorem dL_law_29 : decode cL_law 29 = .ok (.bipush 31, 2) := by decide +kernel
theorem dL_law_31 : decode cL_law 31 = .ok (.iand, 1) := by decide +kernel
theorem dL_law_32 : decode cL_law 32 = .ok (.tableswitch 539 0 18 #[92, 125, 138, 161, 184, 197, 230, 253, 276, 299, 332, 355, 378, 401, 454, 467, 480, 493, 516], 92) := by decide +kernel
theorem dL_law_124 : decode cL_law 124 = .ok (.aload_n 1, 1) := by decide +kernel
theorem dL_law_125 : decode cL_law 125 = .ok (.aload_n 0, 1) := by decide +kernel
theorem dL_law_126 : decode cL_law 126 = .ok (.iload_n 3, 1) := by decide +kernel
theorem dL_law_127 : decode cL_law 127 = .ok (.iconst 1, 1) := by decide +kernel
theorem dL_law_128 : decode cL_law 128 = .ok (.iadd, 1) := by decide +kernel
theorem dL_law_129 : decode cL_law 129 = .ok (.iaload, 1) := by decide +kernel
theorem dL_law_130 : decode cL_law 130 = .ok (.aload_n 0, 1) := by decide +kernel
theorem dL_law_131 : decode cL_law 131 = .ok (.iload_n 3, 1) := by decide +kernel
theorem dL_law_132 : decode cL_law 132 = .ok (.iconst 2, 1) := by decide +kernel
theorem dL_law_133 : decode cL_law 133 = .ok (.iadd, 1) := by decide +kernel
theorem dL_law_134 : decode cL_law 134 = .ok (.iaload, 1) := by decide +kernel
theorem dL_law_135 : decode cL_law 135 = .ok (.invokevirtual 13, 3) := by decide +kernel
theorem dL_law_138 : decode cL_law 138 = .ok (.aload_n 2, 1) := by decide +kernel
theorem dL_law_139 : decode cL_law 139 = .ok (.aload_n 0, 1) := by decide +kernel
theorem dL_law_140 : decode cL_law 140 = .ok (.iload_n 3, 1) := by decide +kernel
theorem dL_law_141 : decode cL_law 141 = .ok (.iconst 1, 1) := by decide +kernel
theorem dL_law_142 : decode cL_law 142 = .ok (.iadd, 1) := by decide +kernel
theorem dL_law_143 : decode cL_law 143 = .ok (.iaload, 1) := by decide +kernel
theorem dL_law_144 : decode cL_law 144 = .ok (.aload_n 0, 1) := by decide +kernel
theorem dL_law_145 : decode cL_law 145 = .ok (.iload_n 3, 1) := by decide +kernel
theorem dL_law_146 : decode cL_law 146 = .ok (.iconst 2, 1) := by decide +kernel
theorem dL_law_147 : decode cL_law 147 = .ok (.iadd, 1) := by decide +kernel
theorem dL_law_148 : decode cL_law 148 = .ok (.iaload, 1) := by decide +kernel
theorem dL_law_149 : decode cL_law 149 = .ok (.invokevirtual 17, 3) := by decide +kernel
theorem dL_law_152 : decode cL_law 152 = .ok (.if_icmp .eq 419, 3) := by decide +kernel
theorem dL_law_155 : decode cL_law 155 = .ok (.iconst 0, 1) := by decide +kernel
theorem dL_law_156 : decode cL_law 156 = .ok (.ireturn, 1) := by decide +kernel
theorem dL_law_157 : decode cL_law 157 = .ok (.aload_n 1, 1) := by decide +kernel
theorem dL_law_158 : decode cL_law 158 = .ok (.invokevirtual 18, 3) := by decide +kernel
theorem dL_law_161 : decode cL_law 161 = .ok (.aload_n 2, 1) := by decide +kernel
theorem dL_law_162 : decode cL_law 162 = .ok (.invokevirtual 22, 3) := by decide +kernel
theorem dL_law_165 : decode cL_law 165 = .ok (.if_icmp .eq 406, 3) := by decide +kernel
theorem dL_law_168 : decode cL_law 168 = .ok (.iconst 0, 1) := by decide +kernel
theorem dL_law_169 : decode cL_law 169 = .ok (.ireturn, 1) := by decide +kernel
theorem dL_law_170 : decode cL_law 170 = .ok (.aload_n 1, 1) := by decide +kernel
theorem dL_law_171 : decode cL_law 171 = .ok (.aload_n 0, 1) := by decide +kernel
theorem dL_law_172 : decode cL_law 172 = .ok (.iload_n 3, 1) := by decide +kernel
theorem dL_law_173 : decode cL_law 173 = .ok (.iconst 1, 1) := by decide +kernel
theorem dL_law_174 : decode cL_law 174 = .ok (.iadd, 1) := by decide +kernel
theorem dL_law_175 : decode cL_law 175 = .ok (.iaload, 1) := by decide +kernel
theorem dL_law_176 : decode cL_law 176 = .ok (.invokevirtual 23, 3) := by decide +kernel
theorem dL_law_179 : decode cL_law 179 = .ok (.aload_n 2, 1) := by decide +kernel
theorem dL_law_180 : decode cL_law 180 = .ok (.aload_n 0, 1) := by decide +kernel
theorem dL_law_181 : decode cL_law 181 = .ok (.iload_n 3, 1) := by decide +kernel
theorem dL_law_182 : decode cL_law 182 = .ok (.iconst 1, 1) := by decide +kernel
theorem dL_law_183 : decode cL_law 183 = .ok (.iadd, 1) := by decide +kernel
theorem dL_law_184 : decode cL_law 184 = .ok (.iaload, 1) := by decide +kernel
theorem dL_law_185 : decode cL_law 185 = .ok (.invokevirtual 27, 3) := by decide +kernel
theorem dL_law_188 : decode cL_law 188 = .ok (.if_icmp .eq 383, 3) := by decide +kernel
theorem dL_law_191 : decode cL_law 191 = .ok (.iconst 0, 1) := by decide +kernel
theorem dL_law_192 : decode cL_law 192 = .ok (.ireturn, 1) := by decide +kernel
theorem dL_law_193 : decode cL_law 193 = .ok (.aload_n 1, 1) := by decide +kernel
theorem dL_law_194 : decode cL_law 194 = .ok (.aload_n 0, 1) := by decide +kernel
theorem dL_law_195 : decode cL_law 195 = .ok (.iload_n 3, 1) := by decide +kernel
theorem dL_law_196 : decode cL_law 196 = .ok (.iconst 1, 1) := by decide +kernel
theorem dL_law_197 : decode cL_law 197 = .ok (.iadd, 1) := by decide +kernel
theorem dL_law_198 : decode cL_law 198 = .ok (.iaload, 1) := by decide +kernel
theorem dL_law_199 : decode cL_law 199 = .ok (.invokevirtual 28, 3) := by decide +kernel
theorem dL_law_202 : decode cL_law 202 = .ok (.aload_n 2, 1) := by decide +kernel
theorem dL_law_203 : decode cL_law 203 = .ok (.aload_n 0, 1) := by decide +kernel
theorem dL_law_204 : decode cL_law 204 = .ok (.iload_n 3, 1) := by decide +kernel
theorem dL_law_205 : decode cL_law 205 = .ok (.iconst 1, 1) := by decide +kernel
theorem dL_law_206 : decode cL_law 206 = .ok (.iadd, 1) := by decide +kernel
theorem dL_law_207 : decode cL_law 207 = .ok (.iaload, 1) := by decide +kernel
theorem dL_law_208 : decode cL_law 208 = .ok (.invokevirtual 31, 3) := by decide +kernel
theorem dL_law_211 : decode cL_law 211 = .ok (.if_icmp .eq 360, 3) := by decide +kernel
theorem dL_law_214 : decode cL_law 214 = .ok (.iconst 0, 1) := by decide +kernel
theorem dL_law_215 : decode cL_law 215 = .ok (.ireturn, 1) := by decide +kernel
theorem dL_law_216 : decode cL_law 216 = .ok (.aload_n 1, 1) := by decide +kernel
theorem dL_law_217 : decode cL_law 217 = .ok (.invokevirtual 32, 3) := by decide +kernel
theorem dL_law_220 : decode cL_law 220 = .ok (.aload_n 2, 1) := by decide +kernel
theorem dL_law_221 : decode cL_law 221 = .ok (.invokevirtual 35, 3) := by decide +kernel
theorem dL_law_224 : decode cL_law 224 = .ok (.if_icmp .eq 347, 3) := by decide +kernel
theorem dL_law_227 : decode cL_law 227 = .ok (.iconst 0, 1) := by decide +kernel
theorem dL_law_228 : decode cL_law 228 = .ok (.ireturn, 1) := by decide +kernel
theorem dL_law_229 : decode cL_law 229 = .ok (.aload_n 1, 1) := by decide +kernel
theorem dL_law_230 : decode cL_law 230 = .ok (.aload_n 0, 1) := by decide +kernel
theorem dL_law_231 : decode cL_law 231 = .ok (.iload_n 3, 1) := by decide +kernel
theorem dL_law_232 : decode cL_law 232 = .ok (.iconst 1, 1) := by decide +kernel
theorem dL_law_233 : decode cL_law 233 = .ok (.iadd, 1) := by decide +kernel
theorem dL_law_234 : decode cL_law 234 = .ok (.iaload, 1) := by decide +kernel
theorem dL_law_235 : decode cL_law 235 = .ok (.aload_n 0, 1) := by decide +kernel
theorem dL_law_236 : decode cL_law 236 = .ok (.iload_n 3, 1) := by decide +kernel
theorem dL_law_237 : decode cL_law 237 = .ok (.iconst 2, 1) := by decide +kernel
theorem dL_law_238 : decode cL_law 238 = .ok (.iadd, 1) := by decide +kernel
theorem dL_law_239 : decode cL_law 239 = .ok (.iaload, 1) := by decide +kernel
theorem dL_law_240 : decode cL_law 240 = .ok (.invokevirtual 36, 3) := by decide +kernel
theorem dL_law_243 : decode cL_law 243 = .ok (.aload_n 2, 1) := by decide +kernel
theorem dL_law_244 : decode cL_law 244 = .ok (.aload_n 0, 1) := by decide +kernel
theorem dL_law_245 : decode cL_law 245 = .ok (.iload_n 3, 1) := by decide +kernel
theorem dL_law_246 : decode cL_law 246 = .ok (.iconst 1, 1) := by decide +kernel
theorem dL_law_247 : decode cL_law 247 = .ok (.iadd, 1) := by decide +kernel
theorem dL_law_248 : decode cL_law 248 = .ok (.iaload, 1) := by decide +kernel
theorem dL_law_249 : decode cL_law 249 = .ok (.aload_n 0, 1) := by decide +kernel
theorem dL_law_250 : decode cL_law 250 = .ok (.iload_n 3, 1) := by decide +kernel
theorem dL_law_251 : decode cL_law 251 = .ok (.iconst 2, 1) := by decide +kernel
theorem dL_law_252 : decode cL_law 252 = .ok (.iadd, 1) := by decide +kernel
theorem dL_law_253 : decode cL_law 253 = .ok (.iaload, 1) := by decide +kernel
theorem dL_law_254 : decode cL_law 254 = .ok (.invokevirtual 39, 3) := by decide +kernel
theorem dL_law_257 : decode cL_law 257 = .ok (.if_icmp .eq 314, 3) := by decide +kernel
theorem dL_law_260 : decode cL_law 260 = .ok (.iconst 0, 1) := by decide +kernel
theorem dL_law_261 : decode cL_law 261 = .ok (.ireturn, 1) := by decide +kernel
theorem dL_law_262 : decode cL_law 262 = .ok (.aload_n 1, 1) := by decide +kernel
theorem dL_law_263 : decode cL_law 263 = .ok (.aload_n 0, 1) := by decide +kernel
theorem dL_law_264 : decode cL_law 264 = .ok (.iload_n 3, 1) := by decide +kernel
theorem dL_law_265 : decode cL_law 265 = .ok (.iconst 1, 1) := by decide +kernel
theorem dL_law_266 : decode cL_law 266 = .ok (.iadd, 1) := by decide +kernel
theorem dL_law_267 : decode cL_law 267 = .ok (.iaload, 1) := by decide +kernel
theorem dL_law_268 : decode cL_law 268 = .ok (.invokevirtual 40, 3) := by decide +kernel
theorem dL_law_271 : decode cL_law 271 = .ok (.aload_n 2, 1) := by decide +kernel
theorem dL_law_272 : decode cL_law 272 = .ok (.aload_n 0, 1) := by decide +kernel
theorem dL_law_273 : decode cL_law 273 = .ok (.iload_n 3, 1) := by decide +kernel
theorem dL_law_274 : decode cL_law 274 = .ok (.iconst 1, 1) := by decide +kernel
theorem dL_law_275 : decode cL_law 275 = .ok (.iadd, 1) := by decide +kernel
theorem dL_law_276 : decode cL_law 276 = .ok (.iaload, 1) := by decide +kernel
theorem dL_law_277 : decode cL_law 277 = .ok (.invokevirtual 43, 3) := by decide +kernel
theorem dL_law_280 : decode cL_law 280 = .ok (.if_icmp .eq 291, 3) := by decide +kernel
theorem dL_law_283 : decode cL_law 283 = .ok (.iconst 0, 1) := by decide +kernel
theorem dL_law_284 : decode cL_law 284 = .ok (.ireturn, 1) := by decide +kernel
theorem dL_law_285 : decode cL_law 285 = .ok (.aload_n 1, 1) := by decide +kernel
theorem dL_law_286 : decode cL_law 286 = .ok (.aload_n 0, 1) := by decide +kernel
theorem dL_law_287 : decode cL_law 287 = .ok (.iload_n 3, 1) := by decide +kernel
theorem dL_law_288 : decode cL_law 288 = .ok (.iconst 1, 1) := by decide +kernel
theorem dL_law_289 : decode cL_law 289 = .ok (.iadd, 1) := by decide +kernel
theorem dL_law_290 : decode cL_law 290 = .ok (.iaload, 1) := by decide +kernel
theorem dL_law_291 : decode cL_law 291 = .ok (.invokevirtual 44, 3) := by decide +kernel
theorem dL_law_294 : decode cL_law 294 = .ok (.aload_n 2, 1) := by decide +kernel
theorem dL_law_295 : decode cL_law 295 = .ok (.aload_n 0, 1) := by decide +kernel
theorem dL_law_296 : decode cL_law 296 = .ok (.iload_n 3, 1) := by decide +kernel
theorem dL_law_297 : decode cL_law 297 = .ok (.iconst 1, 1) := by decide +kernel
theorem dL_law_298 : decode cL_law 298 = .ok (.iadd, 1) := by decide +kernel
theorem dL_law_299 : decode cL_law 299 = .ok (.iaload, 1) := by decide +kernel
theorem dL_law_300 : decode cL_law 300 = .ok (.invokevirtual 47, 3) := by decide +kernel
theorem dL_law_303 : decode cL_law 303 = .ok (.if_icmp .eq 268, 3) := by decide +kernel
theorem dL_law_306 : decode cL_law 306 = .ok (.iconst 0, 1) := by decide +kernel
theorem dL_law_307 : decode cL_law 307 = .ok (.ireturn, 1) := by decide +kernel
theorem dL_law_308 : decode cL_law 308 = .ok (.aload_n 1, 1) := by decide +kernel
theorem dL_law_309 : decode cL_law 309 = .ok (.aload_n 0, 1) := by decide +kernel
theorem dL_law_310 : decode cL_law 310 = .ok (.iload_n 3, 1) := by decide +kernel
theorem dL_law_311 : decode cL_law 311 = .ok (.iconst 1, 1) := by decide +kernel
theorem dL_law_312 : decode cL_law 312 = .ok (.iadd, 1) := by decide +kernel
theorem dL_law_313 : decode cL_law 313 = .ok (.iaload, 1) := by decide +kernel
theorem dL_law_314 : decode cL_law 314 = .ok (.invokevirtual 48, 3) := by decide +kernel
theorem dL_law_317 : decode cL_law 317 = .ok (.aload_n 2, 1) := by decide +kernel
theorem dL_law_318 : decode cL_law 318 = .ok (.aload_n 0, 1) := by decide +kernel
theorem dL_law_319 : decode cL_law 319 = .ok (.iload_n 3, 1) := by decide +kernel
theorem dL_law_320 : decode cL_law 320 = .ok (.iconst 1, 1) := by decide +kernel
theorem dL_law_321 : decode cL_law 321 = .ok (.iadd, 1) := by decide +kernel
theorem dL_law_322 : decode cL_law 322 = .ok (.iaload, 1) := by decide +kernel
theorem dL_law_323 : decode cL_law 323 = .ok (.invokevirtual 51, 3) := by decide +kernel
theorem dL_law_326 : decode cL_law 326 = .ok (.if_icmp .eq 245, 3) := by decide +kernel
theorem dL_law_329 : decode cL_law 329 = .ok (.iconst 0, 1) := by decide +kernel
theorem dL_law_330 : decode cL_law 330 = .ok (.ireturn, 1) := by decide +kernel
theorem dL_law_331 : decode cL_law 331 = .ok (.aload_n 1, 1) := by decide +kernel
theorem dL_law_332 : decode cL_law 332 = .ok (.aload_n 0, 1) := by decide +kernel
theorem dL_law_333 : decode cL_law 333 = .ok (.iload_n 3, 1) := by decide +kernel
theorem dL_law_334 : decode cL_law 334 = .ok (.iconst 1, 1) := by decide +kernel
theorem dL_law_335 : decode cL_law 335 = .ok (.iadd, 1) := by decide +kernel
theorem dL_law_336 : decode cL_law 336 = .ok (.iaload, 1) := by decide +kernel
theorem dL_law_337 : decode cL_law 337 = .ok (.aload_n 0, 1) := by decide +kernel
theorem dL_law_338 : decode cL_law 338 = .ok (.iload_n 3, 1) := by decide +kernel
theorem dL_law_339 : decode cL_law 339 = .ok (.iconst 2, 1) := by decide +kernel
theorem dL_law_340 : decode cL_law 340 = .ok (.iadd, 1) := by decide +kernel
theorem dL_law_341 : decode cL_law 341 = .ok (.iaload, 1) := by decide +kernel
theorem dL_law_342 : decode cL_law 342 = .ok (.invokevirtual 52, 3) := by decide +kernel
theorem dL_law_345 : decode cL_law 345 = .ok (.aload_n 2, 1) := by decide +kernel
theorem dL_law_346 : decode cL_law 346 = .ok (.aload_n 0, 1) := by decide +kernel
theorem dL_law_347 : decode cL_law 347 = .ok (.iload_n 3, 1) := by decide +kernel
theorem dL_law_348 : decode cL_law 348 = .ok (.iconst 1, 1) := by decide +kernel
theorem dL_law_349 : decode cL_law 349 = .ok (.iadd, 1) := by decide +kernel
theorem dL_law_350 : decode cL_law 350 = .ok (.iaload, 1) := by decide +kernel
theorem dL_law_351 : decode cL_law 351 = .ok (.aload_n 0, 1) := by decide +kernel
theorem dL_law_352 : decode cL_law 352 = .ok (.iload_n 3, 1) := by decide +kernel
theorem dL_law_353 : decode cL_law 353 = .ok (.iconst 2, 1) := by decide +kernel
theorem dL_law_354 : decode cL_law 354 = .ok (.iadd, 1) := by decide +kernel
theorem dL_law_355 : decode cL_law 355 = .ok (.iaload, 1) := by decide +kernel
theorem dL_law_356 : decode cL_law 356 = .ok (.invokevirtual 55, 3) := by decide +kernel
theorem dL_law_359 : decode cL_law 359 = .ok (.if_icmp .eq 212, 3) := by decide +kernel
theorem dL_law_362 : decode cL_law 362 = .ok (.iconst 0, 1) := by decide +kernel
theorem dL_law_363 : decode cL_law 363 = .ok (.ireturn, 1) := by decide +kernel
theorem dL_law_364 : decode cL_law 364 = .ok (.aload_n 1, 1) := by decide +kernel
theorem dL_law_365 : decode cL_law 365 = .ok (.aload_n 0, 1) := by decide +kernel
theorem dL_law_366 : decode cL_law 366 = .ok (.iload_n 3, 1) := by decide +kernel
theorem dL_law_367 : decode cL_law 367 = .ok (.iconst 1, 1) := by decide +kernel
theorem dL_law_368 : decode cL_law 368 = .ok (.iadd, 1) := by decide +kernel
theorem dL_law_369 : decode cL_law 369 = .ok (.iaload, 1) := by decide +kernel
theorem dL_law_370 : decode cL_law 370 = .ok (.invokevirtual 56, 3) := by decide +kernel
theorem dL_law_373 : decode cL_law 373 = .ok (.aload_n 2, 1) := by decide +kernel
theorem dL_law_374 : decode cL_law 374 = .ok (.aload_n 0, 1) := by decide +kernel
theorem dL_law_375 : decode cL_law 375 = .ok (.iload_n 3, 1) := by decide +kernel
theorem dL_law_376 : decode cL_law 376 = .ok (.iconst 1, 1) := by decide +kernel
theorem dL_law_377 : decode cL_law 377 = .ok (.iadd, 1) := by decide +kernel
theorem dL_law_378 : decode cL_law 378 = .ok (.iaload, 1) := by decide +kernel
theorem dL_law_379 : decode cL_law 379 = .ok (.invokevirtual 59, 3) := by decide +kernel
theorem dL_law_382 : decode cL_law 382 = .ok (.if_icmp .eq 189, 3) := by decide +kernel
theorem dL_law_385 : decode cL_law 385 = .ok (.iconst 0, 1) := by decide +kernel
theorem dL_law_386 : decode cL_law 386 = .ok (.ireturn, 1) := by decide +kernel
theorem dL_law_387 : decode cL_law 387 = .ok (.aload_n 1, 1) := by decide +kernel
theorem dL_law_388 : decode cL_law 388 = .ok (.aload_n 0, 1) := by decide +kernel
theorem dL_law_389 : decode cL_law 389 = .ok (.iload_n 3, 1) := by decide +kernel
theorem dL_law_390 : decode cL_law 390 = .ok (.iconst 1, 1) := by decide +kernel
theorem dL_law_391 : decode cL_law 391 = .ok (.iadd, 1) := by decide +kernel
theorem dL_law_392 : decode cL_law 392 = .ok (.iaload, 1) := by decide +kernel
theorem dL_law_393 : decode cL_law 393 = .ok (.invokevirtual 60, 3) := by decide +kernel
theorem dL_law_396 : decode cL_law 396 = .ok (.aload_n 2, 1) := by decide +kernel
theorem dL_law_397 : decode cL_law 397 = .ok (.aload_n 0, 1) := by decide +kernel
theorem dL_law_398 : decode cL_law 398 = .ok (.iload_n 3, 1) := by decide +kernel
theorem dL_law_399 : decode cL_law 399 = .ok (.iconst 1, 1) := by decide +kernel
theorem dL_law_400 : decode cL_law 400 = .ok (.iadd, 1) := by decide +kernel
theorem dL_law_401 : decode cL_law 401 = .ok (.iaload, 1) := by decide +kernel
theorem dL_law_402 : decode cL_law 402 = .ok (.invokevirtual 63, 3) := by decide +kernel
theorem dL_law_405 : decode cL_law 405 = .ok (.if_icmp .eq 166, 3) := by decide +kernel
theorem dL_law_408 : decode cL_law 408 = .ok (.iconst 0, 1) := by decide +kernel
theorem dL_law_409 : decode cL_law 409 = .ok (.ireturn, 1) := by decide +kernel
theorem dL_law_410 : decode cL_law 410 = .ok (.aload_n 1, 1) := by decide +kernel
theorem dL_law_411 : decode cL_law 411 = .ok (.aload_n 0, 1) := by decide +kernel
theorem dL_law_412 : decode cL_law 412 = .ok (.iload_n 3, 1) := by decide +kernel
theorem dL_law_413 : decode cL_law 413 = .ok (.iconst 1, 1) := by decide +kernel
theorem dL_law_414 : decode cL_law 414 = .ok (.iadd, 1) := by decide +kernel
theorem dL_law_415 : decode cL_law 415 = .ok (.iaload, 1) := by decide +kernel
theorem dL_law_416 : decode cL_law 416 = .ok (.invokevirtual 64, 3) := by decide +kernel
theorem dL_law_419 : decode cL_law 419 = .ok (.aload_n 2, 1) := by decide +kernel
theorem dL_law_420 : decode cL_law 420 = .ok (.aload_n 0, 1) := by decide +kernel
theorem dL_law_421 : decode cL_law 421 = .ok (.iload_n 3, 1) := by decide +kernel
theorem dL_law_422 : decode cL_law 422 = .ok (.iconst 1, 1) := by decide +kernel
theorem dL_law_423 : decode cL_law 423 = .ok (.iadd, 1) := by decide +kernel
theorem dL_law_424 : decode cL_law 424 = .ok (.iaload, 1) := by decide +kernel
theorem dL_law_425 : decode cL_law 425 = .ok (.invokevirtual 67, 3) := by decide +kernel
theorem dL_law_428 : decode cL_law 428 = .ok (.if_icmp .eq 143, 3) := by decide +kernel
theorem dL_law_431 : decode cL_law 431 = .ok (.iconst 0, 1) := by decide +kernel
theorem dL_law_432 : decode cL_law 432 = .ok (.ireturn, 1) := by decide +kernel
theorem dL_law_433 : decode cL_law 433 = .ok (.aload_n 1, 1) := by decide +kernel
theorem dL_law_434 : decode cL_law 434 = .ok (.aload_n 0, 1) := by decide +kernel
theorem dL_law_435 : decode cL_law 435 = .ok (.iload_n 3, 1) := by decide +kernel
theorem dL_law_436 : decode cL_law 436 = .ok (.iconst 1, 1) := by decide +kernel
theorem dL_law_437 : decode cL_law 437 = .ok (.iadd, 1) := by decide +kernel
theorem dL_law_438 : decode cL_law 438 = .ok (.iaload, 1) := by decide +kernel
theorem dL_law_439 : decode cL_law 439 = .ok (.i2l, 1) := by decide +kernel
theorem dL_law_440 : decode cL_law 440 = .ok (.bipush 32, 2) := by decide +kernel
theorem dL_law_442 : decode cL_law 442 = .ok (.lshl, 1) := by decide +kernel
theorem dL_law_443 : decode cL_law 443 = .ok (.aload_n 0, 1) := by decide +kernel
theorem dL_law_444 : decode cL_law 444 = .ok (.iload_n 3, 1) := by decide +kernel
theorem dL_law_445 : decode cL_law 445 = .ok (.iconst 2, 1) := by decide +kernel
theorem dL_law_446 : decode cL_law 446 = .ok (.iadd, 1) := by decide +kernel
theorem dL_law_447 : decode cL_law 447 = .ok (.iaload, 1) := by decide +kernel
theorem dL_law_448 : decode cL_law 448 = .ok (.i2l, 1) := by decide +kernel
theorem dL_law_449 : decode cL_law 449 = .ok (.ldc2_w 68, 3) := by decide +kernel
theorem dL_law_452 : decode cL_law 452 = .ok (.land, 1) := by decide +kernel
theorem dL_law_453 : decode cL_law 453 = .ok (.lor, 1) := by decide +kernel
theorem dL_law_454 : decode cL_law 454 = .ok (.invokevirtual 70, 3) := by decide +kernel
theorem dL_law_457 : decode cL_law 457 = .ok (.aload_n 2, 1) := by decide +kernel
theorem dL_law_458 : decode cL_law 458 = .ok (.aload_n 0, 1) := by decide +kernel
theorem dL_law_459 : decode cL_law 459 = .ok (.iload_n 3, 1) := by decide +kernel
theorem dL_law_460 : decode cL_law 460 = .ok (.iconst 1, 1) := by decide +kernel
theorem dL_law_461 : decode cL_law 461 = .ok (.iadd, 1) := by decide +kernel
theorem dL_law_462 : decode cL_law 462 = .ok (.iaload, 1) := by decide +kernel
theorem dL_law_463 : decode cL_law 463 = .ok (.i2l, 1) := by decide +kernel
theorem dL_law_464 : decode cL_law 464 = .ok (.bipush 32, 2) := by decide +kernel
theorem dL_law_466 : decode cL_law 466 = .ok (.lshl, 1) := by decide +kernel
theorem dL_law_467 : decode cL_law 467 = .ok (.aload_n 0, 1) := by decide +kernel
theorem dL_law_468 : decode cL_law 468 = .ok (.iload_n 3, 1) := by decide +kernel
theorem dL_law_469 : decode cL_law 469 = .ok (.iconst 2, 1) := by decide +kernel
theorem dL_law_470 : decode cL_law 470 = .ok (.iadd, 1) := by decide +kernel
theorem dL_law_471 : decode cL_law 471 = .ok (.iaload, 1) := by decide +kernel
theorem dL_law_472 : decode cL_law 472 = .ok (.i2l, 1) := by decide +kernel
theorem dL_law_473 : decode cL_law 473 = .ok (.ldc2_w 68, 3) := by decide +kernel
theorem dL_law_476 : decode cL_law 476 = .ok (.land, 1) := by decide +kernel
theorem dL_law_477 : decode cL_law 477 = .ok (.lor, 1) := by decide +kernel
theorem dL_law_478 : decode cL_law 478 = .ok (.invokevirtual 74, 3) := by decide +kernel
theorem dL_law_481 : decode cL_law 481 = .ok (.if_icmp .eq 90, 3) := by decide +kernel
theorem dL_law_484 : decode cL_law 484 = .ok (.iconst 0, 1) := by decide +kernel
theorem dL_law_485 : decode cL_law 485 = .ok (.ireturn, 1) := by decide +kernel
theorem dL_law_486 : decode cL_law 486 = .ok (.aload_n 1, 1) := by decide +kernel
theorem dL_law_487 : decode cL_law 487 = .ok (.invokevirtual 75, 3) := by decide +kernel
theorem dL_law_490 : decode cL_law 490 = .ok (.aload_n 2, 1) := by decide +kernel
theorem dL_law_491 : decode cL_law 491 = .ok (.invokevirtual 78, 3) := by decide +kernel
theorem dL_law_494 : decode cL_law 494 = .ok (.if_icmp .eq 77, 3) := by decide +kernel
theorem dL_law_497 : decode cL_law 497 = .ok (.iconst 0, 1) := by decide +kernel
theorem dL_law_498 : decode cL_law 498 = .ok (.ireturn, 1) := by decide +kernel
theorem dL_law_499 : decode cL_law 499 = .ok (.aload_n 1, 1) := by decide +kernel
theorem dL_law_500 : decode cL_law 500 = .ok (.invokevirtual 79, 3) := by decide +kernel
theorem dL_law_503 : decode cL_law 503 = .ok (.aload_n 2, 1) := by decide +kernel
theorem dL_law_504 : decode cL_law 504 = .ok (.invokevirtual 82, 3) := by decide +kernel
theorem dL_law_507 : decode cL_law 507 = .ok (.if_icmp .eq 64, 3) := by decide +kernel
theorem dL_law_510 : decode cL_law 510 = .ok (.iconst 0, 1) := by decide +kernel
theorem dL_law_511 : decode cL_law 511 = .ok (.ireturn, 1) := by decide +kernel
theorem dL_law_512 : decode cL_law 512 = .ok (.aload_n 1, 1) := by decide +kernel
theorem dL_law_513 : decode cL_law 513 = .ok (.invokevirtual 83, 3) := by decide +kernel
theorem dL_law_516 : decode cL_law 516 = .ok (.aload_n 2, 1) := by decide +kernel
theorem dL_law_517 : decode cL_law 517 = .ok (.invokevirtual 86, 3) := by decide +kernel
theorem dL_law_520 : decode cL_law 520 = .ok (.if_icmp .eq 51, 3) := by decide +kernel
theorem dL_law_523 : decode cL_law 523 = .ok (.iconst 0, 1) := by decide +kernel
theorem dL_law_524 : decode cL_law 524 = .ok (.ireturn, 1) := by decide +kernel
theorem dL_law_525 : decode cL_law 525 = .ok (.aload_n 1, 1) := by decide +kernel
theorem dL_law_526 : decode cL_law 526 = .ok (.aload_n 0, 1) := by decide +kernel
theorem dL_law_527 : decode cL_law 527 = .ok (.iload_n 3, 1) := by decide +kernel
theorem dL_law_528 : decode cL_law 528 = .ok (.iconst 1, 1) := by decide +kernel
theorem dL_law_529 : decode cL_law 529 = .ok (.iadd, 1) := by decide +kernel
theorem dL_law_530 : decode cL_law 530 = .ok (.iaload, 1) := by decide +kernel
theorem dL_law_531 : decode cL_law 531 = .ok (.invokevirtual 87, 3) := by decide +kernel
theorem dL_law_534 : decode cL_law 534 = .ok (.aload_n 2, 1) := by decide +kernel
theorem dL_law_535 : decode cL_law 535 = .ok (.aload_n 0, 1) := by decide +kernel
theorem dL_law_536 : decode cL_law 536 = .ok (.iload_n 3, 1) := by decide +kernel
theorem dL_law_537 : decode cL_law 537 = .ok (.iconst 1, 1) := by decide +kernel
theorem dL_law_538 : decode cL_law 538 = .ok (.iadd, 1) := by decide +kernel
theorem dL_law_539 : decode cL_law 539 = .ok (.iaload, 1) := by decide +kernel
theorem dL_law_540 : decode cL_law 540 = .ok (.invokevirtual 90, 3) := by decide +kernel
theorem dL_law_543 : decode cL_law 543 = .ok (.if_icmp .eq 28, 3) := by decide +kernel
theorem dL_law_546 : decode cL_law 546 = .ok (.iconst 0, 1) := by decide +kernel
theorem dL_law_547 : decode cL_law 547 = .ok (.ireturn, 1) := by decide +kernel
theorem dL_law_548 : decode cL_law 548 = .ok (.aload_n 1, 1) := by decide +kernel
theorem dL_law_549 : decode cL_law 549 = .ok (.aload_n 0, 1) := by decide +kernel
theorem dL_law_550 : decode cL_law 550 = .ok (.iload_n 3, 1) := by decide +kernel
theorem dL_law_551 : decode cL_law 551 = .ok (.iconst 1, 1) := by decide +kernel
theorem dL_law_552 : decode cL_law 552 = .ok (.iadd, 1) := by decide +kernel
theorem dL_law_553 : decode cL_law 553 = .ok (.iaload, 1) := by decide +kernel
theorem dL_law_554 : decode cL_law 554 = .ok (.invokevirtual 91, 3) := by decide +kernel
theorem dL_law_557 : decode cL_law 557 = .ok (.aload_n 2, 1) := by decide +kernel
theorem dL_law_558 : decode cL_law 558 = .ok (.aload_n 0, 1) := by decide +kernel
theorem dL_law_559 : decode cL_law 559 = .ok (.iload_n 3, 1) := by decide +kernel
theorem dL_law_560 : decode cL_law 560 = .ok (.iconst 1, 1) := by decide +kernel
theorem dL_law_561 : decode cL_law 561 = .ok (.iadd, 1) := by decide +kernel
theorem dL_law_562 : decode cL_law 562 = .ok (.iaload, 1) := by decide +kernel
theorem dL_law_563 : decode cL_law 563 = .ok (.invokevirtual 94, 3) := by decide +kernel
theorem dL_law_566 : decode cL_law 566 = .ok (.if_icmp .eq 5, 3) := by decide +kernel
theorem dL_law_569 : decode cL_law 569 = .ok (.iconst 0, 1) := by decide +kernel
theorem dL_law_570 : decode cL_law 570 = .ok (.ireturn, 1) := by decide +kernel
theorem dL_law_571 : decode cL_law 571 = .ok (.iinc 3 3, 3) := by decide +kernel
theorem dL_law_574 : decode cL_law 574 = .ok (.goto (-556), 3) := by decide +kernel
theorem dL_law_577 : decode cL_law 577 = .ok (.iconst 1, 1) := by decide +kernel
theorem dL_law_578 : decode cL_law 578 = .ok (.ireturn, 1) := by decide +kernel
abbrev vwCl : List vw_C := [(RX0, TX0, 3), (RX1, TX1, 3), (RX2, TX2, 3), (RX3, TX3, 6), (RX4, TX4, 5), (RX5, TX5, 4), (RX6, TX6, 6), (RX7, TX7, 13)]

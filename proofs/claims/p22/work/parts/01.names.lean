/-! ===== BEGIN printed: names, fields, word lists, decode rows ===== -/
def RX0 : String := "HostileHouses$History"
def TX0 : u_T := fun k => match k with
  | 0 => ("HostileHouses$History", "states", "[LHostileHouses$State;", true)
  | 1 => ("HostileHouses$History", "oldest", "I", false)
  | _ => ("HostileHouses$History", "size", "I", false)
def tyX0 : Nat → FieldType := fun k => match k with
  | 0 => .array (.object "HostileHouses$State")
  | 1 => .int
  | _ => .int
abbrev wsX00 : List Cond := u_ws RX0 TX0 3
theorem nmX0 : ∀ a, a < 3 → ∀ b, b < 3 → a ≠ b → (TX0 a).2.1 ≠ (TX0 b).2.1 := by decide +kernel
theorem tyX0_ok : ∀ k, k < 3 → parseFieldDescriptor (TX0 k).2.2.1 = some (tyX0 k) := by decide +kernel
abbrev cX0_init : ByteArray := prog_2_method_1_code
def yX0_init : MethodName := ⟨RX0, "<init>", "()V"⟩
abbrev cX0_remember : ByteArray := prog_2_method_2_code
def yX0_remember : MethodName := ⟨RX0, "remember", "(LHostileHouses$State;)V"⟩
abbrev cX0_takeBack : ByteArray := prog_2_method_3_code
def yX0_takeBack : MethodName := ⟨RX0, "takeBack", "(LHostileHouses$State;)V"⟩
def RX1 : String := "HostileHouses$Lookahead"
def TX1 : u_T := fun k => match k with
  | 0 => ("HostileHouses$Lookahead", "trial", "LHostileHouses$Position;", true)
  | 1 => ("HostileHouses$Lookahead", "report", "LHostileHouses$Report;", true)
  | _ => ("HostileHouses$Lookahead", "behind", "[LHostileHouses$Position;", true)
def tyX1 : Nat → FieldType := fun k => match k with
  | 0 => .object "HostileHouses$Position"
  | 1 => .object "HostileHouses$Report"
  | _ => .array (.object "HostileHouses$Position")
abbrev wsX10 : List Cond := u_ws RX1 TX1 3
theorem nmX1 : ∀ a, a < 3 → ∀ b, b < 3 → a ≠ b → (TX1 a).2.1 ≠ (TX1 b).2.1 := by decide +kernel
theorem tyX1_ok : ∀ k, k < 3 → parseFieldDescriptor (TX1 k).2.2.1 = some (tyX1 k) := by decide +kernel
abbrev cX1_init : ByteArray := prog_3_method_1_code
def yX1_init : MethodName := ⟨RX1, "<init>", "()V"⟩
abbrev cX1_valueOf : ByteArray := prog_3_method_2_code
def yX1_valueOf : MethodName := ⟨RX1, "valueOf", "(LHostileHouses$Position;[II)I"⟩
abbrev cX1_bestHouse : ByteArray := prog_3_method_3_code
def yX1_bestHouse : MethodName := ⟨RX1, "bestHouse", "(LHostileHouses$Position;[II)I"⟩
abbrev cX1_valueBehind : ByteArray := prog_3_method_4_code
def yX1_valueBehind : MethodName := ⟨RX1, "valueBehind", "(LHostileHouses$Position;I[II)I"⟩
abbrev cX1_movesToTheEnd : ByteArray := prog_3_method_5_code
def yX1_movesToTheEnd : MethodName := ⟨RX1, "movesToTheEnd", "(LHostileHouses$Position;[II)I"⟩
def RX2 : String := "HostileHouses$Pad"
def TX2 : u_T := fun k => match k with
  | 0 => ("HostileHouses$Pad", "text", "[C", true)
  | 1 => ("HostileHouses$Pad", "numbers", "[I", true)
  | _ => ("HostileHouses$Pad", "length", "I", false)
def tyX2 : Nat → FieldType := fun k => match k with
  | 0 => .array .char
  | 1 => .array .int
  | _ => .int
abbrev wsX20 : List Cond := u_ws RX2 TX2 3
theorem nmX2 : ∀ a, a < 3 → ∀ b, b < 3 → a ≠ b → (TX2 a).2.1 ≠ (TX2 b).2.1 := by decide +kernel
theorem tyX2_ok : ∀ k, k < 3 → parseFieldDescriptor (TX2 k).2.2.1 = some (tyX2 k) := by decide +kernel
abbrev cX2_init : ByteArray := prog_4_method_1_code
def yX2_init : MethodName := ⟨RX2, "<init>", "()V"⟩
abbrev cX2_charactersIn : ByteArray := prog_4_method_2_code
def yX2_charactersIn : MethodName := ⟨RX2, "charactersIn", "(J)I"⟩
abbrev cX2_append : ByteArray := prog_4_method_3_code
def yX2_append : MethodName := ⟨RX2, "append", "(JI)V"⟩
abbrev cX2_scan : ByteArray := prog_4_method_4_code
def yX2_scan : MethodName := ⟨RX2, "scan", "()I"⟩
abbrev cX2_digitFits : ByteArray := prog_4_method_5_code
def yX2_digitFits : MethodName := ⟨RX2, "digitFits", "(CII)Z"⟩
abbrev cX2_signBehind : ByteArray := prog_4_method_6_code
def yX2_signBehind : MethodName := ⟨RX2, "signBehind", "(I)C"⟩
def RX3 : String := "HostileHouses$Position"
def TX3 : u_T := fun k => match k with
  | 0 => ("HostileHouses$Position", "seeds", "[I", true)
  | 1 => ("HostileHouses$Position", "visits", "[I", true)
  | 2 => ("HostileHouses$Position", "stores", "[I", true)
  | 3 => ("HostileHouses$Position", "player", "I", false)
  | 4 => ("HostileHouses$Position", "over", "Z", false)
  | _ => ("HostileHouses$Position", "moves", "I", false)
def tyX3 : Nat → FieldType := fun k => match k with
  | 0 => .array .int
  | 1 => .array .int
  | 2 => .array .int
  | 3 => .int
  | 4 => .boolean
  | _ => .int
abbrev wsX30 : List Cond := u_ws RX3 TX3 6
theorem nmX3 : ∀ a, a < 6 → ∀ b, b < 6 → a ≠ b → (TX3 a).2.1 ≠ (TX3 b).2.1 := by decide +kernel
theorem tyX3_ok : ∀ k, k < 6 → parseFieldDescriptor (TX3 k).2.2.1 = some (tyX3 k) := by decide +kernel
abbrev cX3_init : ByteArray := prog_5_method_1_code
def yX3_init : MethodName := ⟨RX3, "<init>", "()V"⟩
abbrev cX3_copyFrom : ByteArray := prog_5_method_2_code
def yX3_copyFrom : MethodName := ⟨RX3, "copyFrom", "(LHostileHouses$Position;)V"⟩
abbrev cX3_fill : ByteArray := prog_5_method_3_code
def yX3_fill : MethodName := ⟨RX3, "fill", "(I)V"⟩
abbrev cX3_fillFrom : ByteArray := prog_5_method_4_code
def yX3_fillFrom : MethodName := ⟨RX3, "fillFrom", "([I)V"⟩
abbrev cX3_startGame : ByteArray := prog_5_method_5_code
def yX3_startGame : MethodName := ⟨RX3, "startGame", "()V"⟩
abbrev cX3_ownerOf : ByteArray := prog_5_method_6_code
def yX3_ownerOf : MethodName := ⟨RX3, "ownerOf", "(I)I"⟩
abbrev cX3_houseBehind : ByteArray := prog_5_method_7_code
def yX3_houseBehind : MethodName := ⟨RX3, "houseBehind", "(I)I"⟩
abbrev cX3_isHostile : ByteArray := prog_5_method_8_code
def yX3_isHostile : MethodName := ⟨RX3, "isHostile", "(I[I)Z"⟩
abbrev cX3_hostileHouses : ByteArray := prog_5_method_9_code
def yX3_hostileHouses : MethodName := ⟨RX3, "hostileHouses", "([I)I"⟩
abbrev cX3_canMoveFrom : ByteArray := prog_5_method_10_code
def yX3_canMoveFrom : MethodName := ⟨RX3, "canMoveFrom", "(I)Z"⟩
abbrev cX3_seedsInHousesOf : ByteArray := prog_5_method_11_code
def yX3_seedsInHousesOf : MethodName := ⟨RX3, "seedsInHousesOf", "(I)I"⟩
abbrev cX3_allSeeds : ByteArray := prog_5_method_12_code
def yX3_allSeeds : MethodName := ⟨RX3, "allSeeds", "()I"⟩
abbrev cX3_winner : ByteArray := prog_5_method_13_code
def yX3_winner : MethodName := ⟨RX3, "winner", "()I"⟩
abbrev cX3_lead : ByteArray := prog_5_method_14_code
def yX3_lead : MethodName := ⟨RX3, "lead", "()I"⟩
abbrev cX3_makeMove : ByteArray := prog_5_method_15_code
def yX3_makeMove : MethodName := ⟨RX3, "makeMove", "(I[ILHostileHouses$Report;)V"⟩
abbrev cX3_sowLap : ByteArray := prog_5_method_16_code
def yX3_sowLap : MethodName := ⟨RX3, "sowLap", "(I[ILHostileHouses$Report;)Z"⟩
abbrev cX3_sowHand : ByteArray := prog_5_method_17_code
def yX3_sowHand : MethodName := ⟨RX3, "sowHand", "(I[ILHostileHouses$Report;)I"⟩
abbrev cX3_captureAcross : ByteArray := prog_5_method_18_code
def yX3_captureAcross : MethodName := ⟨RX3, "captureAcross", "(ILHostileHouses$Report;)V"⟩
abbrev cX3_giveTurnTo : ByteArray := prog_5_method_19_code
def yX3_giveTurnTo : MethodName := ⟨RX3, "giveTurnTo", "(I)V"⟩
abbrev cX3_isDecided : ByteArray := prog_5_method_20_code
def yX3_isDecided : MethodName := ⟨RX3, "isDecided", "()Z"⟩
def RX4 : String := "HostileHouses$Report"
def TX4 : u_T := fun k => match k with
  | 0 => ("HostileHouses$Report", "from", "I", false)
  | 1 => ("HostileHouses$Report", "laps", "I", false)
  | 2 => ("HostileHouses$Report", "lastHouse", "I", false)
  | 3 => ("HostileHouses$Report", "captured", "I", false)
  | _ => ("HostileHouses$Report", "tolls", "I", false)
def tyX4 : Nat → FieldType := fun k => match k with
  | 0 => .int
  | 1 => .int
  | 2 => .int
  | 3 => .int
  | _ => .int
abbrev wsX40 : List Cond := u_ws RX4 TX4 5
theorem nmX4 : ∀ a, a < 5 → ∀ b, b < 5 → a ≠ b → (TX4 a).2.1 ≠ (TX4 b).2.1 := by decide +kernel
theorem tyX4_ok : ∀ k, k < 5 → parseFieldDescriptor (TX4 k).2.2.1 = some (tyX4 k) := by decide +kernel
abbrev cX4_init : ByteArray := prog_6_method_1_code
def yX4_init : MethodName := ⟨RX4, "<init>", "()V"⟩
abbrev cX4_clear : ByteArray := prog_6_method_2_code
def yX4_clear : MethodName := ⟨RX4, "clear", "(I)V"⟩
abbrev cX4_copyFrom : ByteArray := prog_6_method_3_code
def yX4_copyFrom : MethodName := ⟨RX4, "copyFrom", "(LHostileHouses$Report;)V"⟩
def RX5 : String := "HostileHouses$State"
def TX5 : u_T := fun k => match k with
  | 0 => ("HostileHouses$State", "position", "LHostileHouses$Position;", true)
  | 1 => ("HostileHouses$State", "settings", "[I", true)
  | 2 => ("HostileHouses$State", "latest", "LHostileHouses$Report;", true)
  | _ => ("HostileHouses$State", "record", "[I", true)
def tyX5 : Nat → FieldType := fun k => match k with
  | 0 => .object "HostileHouses$Position"
  | 1 => .array .int
  | 2 => .object "HostileHouses$Report"
  | _ => .array .int
abbrev wsX50 : List Cond := u_ws RX5 TX5 4
theorem nmX5 : ∀ a, a < 4 → ∀ b, b < 4 → a ≠ b → (TX5 a).2.1 ≠ (TX5 b).2.1 := by decide +kernel
theorem tyX5_ok : ∀ k, k < 4 → parseFieldDescriptor (TX5 k).2.2.1 = some (tyX5 k) := by decide +kernel
abbrev cX5_init : ByteArray := prog_7_method_1_code
def yX5_init : MethodName := ⟨RX5, "<init>", "()V"⟩
abbrev cX5_copyFrom : ByteArray := prog_7_method_2_code
def yX5_copyFrom : MethodName := ⟨RX5, "copyFrom", "(LHostileHouses$State;)V"⟩
abbrev cX5_makeMove : ByteArray := prog_7_method_3_code
def yX5_makeMove : MethodName := ⟨RX5, "makeMove", "(I)V"⟩
def RX6 : String := "HostileHouses"
def TX6 : u_T := fun k => match k with
  | 0 => ("HostileHouses", "now", "LHostileHouses$State;", true)
  | 1 => ("HostileHouses", "history", "LHostileHouses$History;", true)
  | 2 => ("HostileHouses", "slots", "[LHostileHouses$State;", true)
  | 3 => ("HostileHouses", "saved", "[Z", true)
  | 4 => ("HostileHouses", "pad", "LHostileHouses$Pad;", true)
  | _ => ("HostileHouses", "lookahead", "LHostileHouses$Lookahead;", true)
def tyX6 : Nat → FieldType := fun k => match k with
  | 0 => .object "HostileHouses$State"
  | 1 => .object "HostileHouses$History"
  | 2 => .array (.object "HostileHouses$State")
  | 3 => .array .boolean
  | 4 => .object "HostileHouses$Pad"
  | _ => .object "HostileHouses$Lookahead"
abbrev wsX60 : List Cond := u_ws RX6 TX6 6
theorem nmX6 : ∀ a, a < 6 → ∀ b, b < 6 → a ≠ b → (TX6 a).2.1 ≠ (TX6 b).2.1 := by decide +kernel
theorem tyX6_ok : ∀ k, k < 6 → parseFieldDescriptor (TX6 k).2.2.1 = some (tyX6 k) := by decide +kernel
abbrev cX6_init : ByteArray := prog_1_method_1_code
def yX6_init : MethodName := ⟨RX6, "<init>", "()V"⟩
abbrev cX6_set : ByteArray := prog_1_method_2_code
def yX6_set : MethodName := ⟨RX6, "set", "(II)I"⟩
abbrev cX6_move : ByteArray := prog_1_method_4_code
def yX6_move : MethodName := ⟨RX6, "move", "(I)I"⟩
abbrev cX6_play : ByteArray := prog_1_method_5_code
def yX6_play : MethodName := ⟨RX6, "play", "(I)I"⟩
abbrev cX6_read : ByteArray := prog_1_method_6_code
def yX6_read : MethodName := ⟨RX6, "read", "()I"⟩
abbrev cX6_house : ByteArray := prog_1_method_7_code
def yX6_house : MethodName := ⟨RX6, "house", "(II)I"⟩
abbrev cX6_count : ByteArray := prog_1_method_8_code
def yX6_count : MethodName := ⟨RX6, "count", "(I)I"⟩
abbrev cX6_last : ByteArray := prog_1_method_9_code
def yX6_last : MethodName := ⟨RX6, "last", "(I)I"⟩
abbrev cX6_ifMove : ByteArray := prog_1_method_11_code
def yX6_ifMove : MethodName := ⟨RX6, "ifMove", "(II)I"⟩
abbrev cX6_worth : ByteArray := prog_1_method_12_code
def yX6_worth : MethodName := ⟨RX6, "worth", "(I)I"⟩
abbrev cX6_best : ByteArray := prog_1_method_13_code
def yX6_best : MethodName := ⟨RX6, "best", "(I)I"⟩
abbrev cX6_movesLeft : ByteArray := prog_1_method_14_code
def yX6_movesLeft : MethodName := ⟨RX6, "movesLeft", "(I)I"⟩
abbrev cX6_put : ByteArray := prog_1_method_15_code
def yX6_put : MethodName := ⟨RX6, "put", "(J)I"⟩
abbrev cX6_wipe : ByteArray := prog_1_method_16_code
def yX6_wipe : MethodName := ⟨RX6, "wipe", "()I"⟩
abbrev cX6_undo : ByteArray := prog_1_method_18_code
def yX6_undo : MethodName := ⟨RX6, "undo", "()I"⟩
abbrev cX6_isHouse : ByteArray := prog_1_method_21_code
def yX6_isHouse : MethodName := ⟨RX6, "isHouse", "(I)Z"⟩
abbrev cX6_errorOfMove : ByteArray := prog_1_method_23_code
def yX6_errorOfMove : MethodName := ⟨RX6, "errorOfMove", "(I)I"⟩
abbrev cX6_storeGain : ByteArray := prog_1_method_24_code
def yX6_storeGain : MethodName := ⟨RX6, "storeGain", "(LHostileHouses$Position;LHostileHouses$Position;)I"⟩
def RX7 : String := "HostileHousesModel"
def TX7 : u_T := fun k => match k with
  | _ => ("", "", "", false)
def tyX7 : Nat → FieldType := fun k => match k with
  | _ => .int
abbrev wsX70 : List Cond := u_ws RX7 TX7 0
theorem nmX7 : ∀ a, a < 0 → ∀ b, b < 0 → a ≠ b → (TX7 a).2.1 ≠ (TX7 b).2.1 := by decide +kernel
theorem tyX7_ok : ∀ k, k < 0 → parseFieldDescriptor (TX7 k).2.2.1 = some (tyX7 k) := by decide +kernel
def RJ9 : String := "java/lang/Math"
def TJ9 : u_T := fun k => match k with
  | _ => ("", "", "", false)
def tyJ9 : Nat → FieldType := fun k => match k with
  | _ => .int
theorem nmJ9 : ∀ a, a < 0 → ∀ b, b < 0 → a ≠ b → (TJ9 a).2.1 ≠ (TJ9 b).2.1 := by decide +kernel
theorem tyJ9_ok : ∀ k, k < 0 → parseFieldDescriptor (TJ9 k).2.2.1 = some (tyJ9 k) := by decide +kernel
abbrev cJ9_max_7cf53 : ByteArray := prog_11_method_65_code
def yJ9_max_7cf53 : MethodName := ⟨RJ9, "max", "(II)I"⟩
def RJ10 : String := "java/lang/System"
def TJ10 : u_T := fun k => match k with
  | _ => ("", "", "", false)
def tyJ10 : Nat → FieldType := fun k => match k with
  | _ => .int
theorem nmJ10 : ∀ a, a < 0 → ∀ b, b < 0 → a ≠ b → (TJ10 a).2.1 ≠ (TJ10 b).2.1 := by decide +kernel
theorem tyJ10_ok : ∀ k, k < 0 → parseFieldDescriptor (TJ10 k).2.2.1 = some (tyJ10 k) := by decide +kernel
def RL : String := "HostileHousesLaw"
abbrev cL_cell : ByteArray := method_2_code
def yL_cell : MethodName := ⟨RL, "cell", "([II)I"⟩
abbrev cL_up : ByteArray := method_3_code
def yL_up : MethodName := ⟨RL, "up", "(II)I"⟩
abbrev cL_other : ByteArray := method_4_code
def yL_other : MethodName := ⟨RL, "other", "(I)I"⟩
abbrev cL_number : ByteArray := method_5_code
def yL_number : MethodName := ⟨RL, "number", "(LHostileHouses;IC)Z"⟩
abbrev cL_reads : ByteArray := method_6_code
def yL_reads : MethodName := ⟨RL, "reads", "(LHostileHouses;LHostileHouses;II)Z"⟩
abbrev cL_isStep : ByteArray := method_7_code
def yL_isStep : MethodName := ⟨RL, "isStep", "(LHostileHouses;LHostileHouses;I)Z"⟩
abbrev cL_turned : ByteArray := method_8_code
def yL_turned : MethodName := ⟨RL, "turned", "(I)I"⟩
abbrev cL_areAlike : ByteArray := method_9_code
def yL_areAlike : MethodName := ⟨RL, "areAlike", "(LHostileHouses;LHostileHouses;II)Z"⟩
abbrev cL_isBest : ByteArray := method_10_code
def yL_isBest : MethodName := ⟨RL, "isBest", "(LHostileHouses;)Z"⟩
abbrev cL_law : ByteArray := code
def yL_law : MethodName := ⟨RL, "law", "([I)Z"⟩
theorem dX0_init_0 : decode cX0_init 0 = .ok (.aload_n 0, 1) := by decide +kernel
theorem dX0_init_1 : decode cX0_init 1 = .ok (.invokespecial 3, 3) := by decide +kernel
theorem dX0_init_4 : decode cX0_init 4 = .ok (.aload_n 0, 1) := by decide +kernel
theorem dX0_init_5 : decode cX0_init 5 = .ok (.bipush 6, 2) := by decide +kernel
theorem dX0_init_7 : decode cX0_init 7 = .ok (.anewarray 9, 3) := by decide +kernel
theorem dX0_init_10 : decode cX0_init 10 = .ok (.putfield 11, 3) := by decide +kernel
theorem dX0_init_13 : decode cX0_init 13 = .ok (.iconst 0, 1) := by decide +kernel
theorem dX0_init_14 : decode cX0_init 14 = .ok (.istore_n 1, 1) := by decide +kernel
theorem dX0_init_15 : decode cX0_init 15 = .ok (.iload_n 1, 1) := by decide +kernel
theorem dX0_init_16 : decode cX0_init 16 = .ok (.bipush 6, 2) := by decide +kernel
theorem dX0_init_18 : decode cX0_init 18 = .ok (.if_icmp .ge 22, 3) := by decide +kernel
theorem dX0_init_21 : decode cX0_init 21 = .ok (.aload_n 0, 1) := by decide +kernel
theorem dX0_init_22 : decode cX0_init 22 = .ok (.getfield 11, 3) := by decide +kernel
theorem dX0_init_25 : decode cX0_init 25 = .ok (.iload_n 1, 1) := by decide +kernel
theorem dX0_init_26 : decode cX0_init 26 = .ok (.new 9, 3) := by decide +kernel
theorem dX0_init_29 : decode cX0_init 29 = .ok (.dup, 1) := by decide +kernel
theorem dX0_init_30 : decode cX0_init 30 = .ok (.invokespecial 17, 3) := by decide +kernel
theorem dX0_init_33 : decode cX0_init 33 = .ok (.aastore, 1) := by decide +kernel
theorem dX0_init_34 : decode cX0_init 34 = .ok (.iinc 1 1, 3) := by decide +kernel
theorem dX0_init_37 : decode cX0_init 37 = .ok (.goto (-22), 3) := by decide +kernel
theorem dX0_init_40 : decode cX0_init 40 = .ok (.return_, 1) := by decide +kernel
theorem dX0_remember_0 : decode cX0_remember 0 = .ok (.aload_n 0, 1) := by decide +kernel
theorem dX0_remember_1 : decode cX0_remember 1 = .ok (.getfield 11, 3) := by decide +kernel
theorem dX0_remember_4 : decode cX0_remember 4 = .ok (.aload_n 0, 1) := by decide +kernel
theorem dX0_remember_5 : decode cX0_remember 5 = .ok (.getfield 18, 3) := by decide +kernel
theorem dX0_remember_8 : decode cX0_remember 8 = .ok (.aload_n 0, 1) := by decide +kernel
theorem dX0_remember_9 : decode cX0_remember 9 = .ok (.getfield 22, 3) := by decide +kernel
theorem dX0_remember_12 : decode cX0_remember 12 = .ok (.iadd, 1) := by decide +kernel
theorem dX0_remember_13 : decode cX0_remember 13 = .ok (.bipush 6, 2) := by decide +kernel
theorem dX0_remember_15 : decode cX0_remember 15 = .ok (.irem, 1) := by decide +kernel
theorem dX0_remember_16 : decode cX0_remember 16 = .ok (.aaload, 1) := by decide +kernel
theorem dX0_remember_17 : decode cX0_remember 17 = .ok (.aload_n 1, 1) := by decide +kernel
theorem dX0_remember_18 : decode cX0_remember 18 = .ok (.invokevirtual 25, 3) := by decide +kernel
theorem dX0_remember_21 : decode cX0_remember 21 = .ok (.aload_n 0, 1) := by decide +kernel
theorem dX0_remember_22 : decode cX0_remember 22 = .ok (.getfield 22, 3) := by decide +kernel
theorem dX0_remember_25 : decode cX0_remember 25 = .ok (.bipush 6, 2) := by decide +kernel
theorem dX0_remember_27 : decode cX0_remember 27 = .ok (.if_icmp .ge 16, 3) := by decide +kernel
theorem dX0_remember_30 : decode cX0_remember 30 = .ok (.aload_n 0, 1) := by decide +kernel
theorem dX0_remember_31 : decode cX0_remember 31 = .ok (.dup, 1) := by decide +kernel
theorem dX0_remember_32 : decode cX0_remember 32 = .ok (.getfield 22, 3) := by decide +kernel
theorem dX0_remember_35 : decode cX0_remember 35 = .ok (.iconst 1, 1) := by decide +kernel
theorem dX0_remember_36 : decode cX0_remember 36 = .ok (.iadd, 1) := by decide +kernel
theorem dX0_remember_37 : decode cX0_remember 37 = .ok (.putfield 22, 3) := by decide +kernel
theorem dX0_remember_40 : decode cX0_remember 40 = .ok (.goto 16, 3) := by decide +kernel
theorem dX0_remember_43 : decode cX0_remember 43 = .ok (.aload_n 0, 1) := by decide +kernel
theorem dX0_remember_44 : decode cX0_remember 44 = .ok (.aload_n 0, 1) := by decide +kernel
theorem dX0_remember_45 : decode cX0_remember 45 = .ok (.getfield 18, 3) := by decide +kernel
theorem dX0_remember_48 : decode cX0_remember 48 = .ok (.iconst 1, 1) := by decide +kernel
theorem dX0_remember_49 : decode cX0_remember 49 = .ok (.iadd, 1) := by decide +kernel
theorem dX0_remember_50 : decode cX0_remember 50 = .ok (.bipush 6, 2) := by decide +kernel
theorem dX0_remember_52 : decode cX0_remember 52 = .ok (.irem, 1) := by decide +kernel
theorem dX0_remember_53 : decode cX0_remember 53 = .ok (.putfield 18, 3) := by decide +kernel
theorem dX0_remember_56 : decode cX0_remember 56 = .ok (.return_, 1) := by decide +kernel
theorem dX0_takeBack_0 : decode cX0_takeBack 0 = .ok (.aload_n 0, 1) := by decide +kernel
theorem dX0_takeBack_1 : decode cX0_takeBack 1 = .ok (.getfield 22, 3) := by decide +kernel
theorem dX0_takeBack_4 : decode cX0_takeBack 4 = .ok (.ifCond .ne 4, 3) := by decide +kernel
theorem dX0_takeBack_7 : decode cX0_takeBack 7 = .ok (.return_, 1) := by decide +kernel
theorem dX0_takeBack_8 : decode cX0_takeBack 8 = .ok (.aload_n 0, 1) := by decide +kernel
theorem dX0_takeBack_9 : decode cX0_takeBack 9 = .ok (.dup, 1) := by decide +kernel
theorem dX0_takeBack_10 : decode cX0_takeBack 10 = .ok (.getfield 22, 3) := by decide +kernel
theorem dX0_takeBack_13 : decode cX0_takeBack 13 = .ok (.iconst 1, 1) := by decide +kernel
theorem dX0_takeBack_14 : decode cX0_takeBack 14 = .ok (.isub, 1) := by decide +kernel
theorem dX0_takeBack_15 : decode cX0_takeBack 15 = .ok (.putfield 22, 3) := by decide +kernel
theorem dX0_takeBack_18 : decode cX0_takeBack 18 = .ok (.aload_n 1, 1) := by decide +kernel
theorem dX0_takeBack_19 : decode cX0_takeBack 19 = .ok (.aload_n 0, 1) := by decide +kernel
theorem dX0_takeBack_20 : decode cX0_takeBack 20 = .ok (.getfield 11, 3) := by decide +kernel
theorem dX0_takeBack_23 : decode cX0_takeBack 23 = .ok (.aload_n 0, 1) := by decide +kernel
theorem dX0_takeBack_24 : decode cX0_takeBack 24 = .ok (.getfield 18, 3) := by decide +kernel
theorem dX0_takeBack_27 : decode cX0_takeBack 27 = .ok (.aload_n 0, 1) := by decide +kernel
theorem dX0_takeBack_28 : decode cX0_takeBack 28 = .ok (.getfield 22, 3) := by decide +kernel
theorem dX0_takeBack_31 : decode cX0_takeBack 31 = .ok (.iadd, 1) := by decide +kernel
theorem dX0_takeBack_32 : decode cX0_takeBack 32 = .ok (.bipush 6, 2) := by decide +kernel
theorem dX0_takeBack_34 : decode cX0_takeBack 34 = .ok (.irem, 1) := by decide +kernel
theorem dX0_takeBack_35 : decode cX0_takeBack 35 = .ok (.aaload, 1) := by decide +kernel
theorem dX0_takeBack_36 : decode cX0_takeBack 36 = .ok (.invokevirtual 25, 3) := by decide +kernel
theorem dX0_takeBack_39 : decode cX0_takeBack 39 = .ok (.return_, 1) := by decide +kernel
theorem dX1_init_0 : decode cX1_init 0 = .ok (.aload_n 0, 1) := by decide +kernel
theorem dX1_init_1 : decode cX1_init 1 = .ok (.invokespecial 3, 3) := by decide +kernel
theorem dX1_init_4 : decode cX1_init 4 = .ok (.aload_n 0, 1) := by decide +kernel
theorem dX1_init_5 : decode cX1_init 5 = .ok (.new 9, 3) := by decide +kernel
theorem dX1_init_8 : decode cX1_init 8 = .ok (.dup, 1) := by decide +kernel
theorem dX1_init_9 : decode cX1_init 9 = .ok (.invokespecial 11, 3) := by decide +kernel
theorem dX1_init_12 : decode cX1_init 12 = .ok (.putfield 12, 3) := by decide +kernel
theorem dX1_init_15 : decode cX1_init 15 = .ok (.aload_n 0, 1) := by decide +kernel
theorem dX1_init_16 : decode cX1_init 16 = .ok (.new 18, 3) := by decide +kernel
theorem dX1_init_19 : decode cX1_init 19 = .ok (.dup, 1) := by decide +kernel
theorem dX1_init_20 : decode cX1_init 20 = .ok (.invokespecial 20, 3) := by decide +kernel
theorem dX1_init_23 : decode cX1_init 23 = .ok (.putfield 21, 3) := by decide +kernel
theorem dX1_init_26 : decode cX1_init 26 = .ok (.aload_n 0, 1) := by decide +kernel
theorem dX1_init_27 : decode cX1_init 27 = .ok (.iconst 5, 1) := by decide +kernel
theorem dX1_init_28 : decode cX1_init 28 = .ok (.anewarray 9, 3) := by decide +kernel
theorem dX1_init_31 : decode cX1_init 31 = .ok (.putfield 25, 3) := by decide +kernel
theorem dX1_init_34 : decode cX1_init 34 = .ok (.iconst 0, 1) := by decide +kernel
theorem dX1_init_35 : decode cX1_init 35 = .ok (.istore_n 1, 1) := by decide +kernel
theorem dX1_init_36 : decode cX1_init 36 = .ok (.iload_n 1, 1) := by decide +kernel
theorem dX1_init_37 : decode cX1_init 37 = .ok (.iconst 4, 1) := by decide +kernel
theorem dX1_init_38 : decode cX1_init 38 = .ok (.if_icmp .gt 22, 3) := by decide +kernel
theorem dX1_init_41 : decode cX1_init 41 = .ok (.aload_n 0, 1) := by decide +kernel
theorem dX1_init_42 : decode cX1_init 42 = .ok (.getfield 25, 3) := by decide +kernel
theorem dX1_init_45 : decode cX1_init 45 = .ok (.iload_n 1, 1) := by decide +kernel
theorem dX1_init_46 : decode cX1_init 46 = .ok (.new 9, 3) := by decide +kernel
theorem dX1_init_49 : decode cX1_init 49 = .ok (.dup, 1) := by decide +kernel
theorem dX1_init_50 : decode cX1_init 50 = .ok (.invokespecial 11, 3) := by decide +kernel
theorem dX1_init_53 : decode cX1_init 53 = .ok (.aastore, 1) := by decide +kernel
theorem dX1_init_54 : decode cX1_init 54 = .ok (.iinc 1 1, 3) := by decide +kernel
theorem dX1_init_57 : decode cX1_init 57 = .ok (.goto (-21), 3) := by decide +kernel
theorem dX1_init_60 : decode cX1_init 60 = .ok (.return_, 1) := by decide +kernel
theorem dX1_valueOf_0 : decode cX1_valueOf 0 = .ok (.aload_n 1, 1) := by decide +kernel
theorem dX1_valueOf_1 : decode cX1_valueOf 1 = .ok (.getfield 29, 3) := by decide +kernel
theorem dX1_valueOf_4 : decode cX1_valueOf 4 = .ok (.ifCond .ne 7, 3) := by decide +kernel
theorem dX1_valueOf_7 : decode cX1_valueOf 7 = .ok (.iload_n 3, 1) := by decide +kernel
theorem dX1_valueOf_8 : decode cX1_valueOf 8 = .ok (.ifCond .gt 8, 3) := by decide +kernel
theorem dX1_valueOf_11 : decode cX1_valueOf 11 = .ok (.aload_n 1, 1) := by decide +kernel
theorem dX1_valueOf_12 : decode cX1_valueOf 12 = .ok (.invokevirtual 33, 3) := by decide +kernel
theorem dX1_valueOf_15 : decode cX1_valueOf 15 = .ok (.ireturn, 1) := by decide +kernel
theorem dX1_valueOf_16 : decode cX1_valueOf 16 = .ok (.sipush (-10000), 3) := by decide +kernel
theorem dX1_valueOf_19 : decode cX1_valueOf 19 = .ok (.istore 4, 2) := by decide +kernel
theorem dX1_valueOf_21 : decode cX1_valueOf 21 = .ok (.iconst 0, 1) := by decide +kernel
theorem dX1_valueOf_22 : decode cX1_valueOf 22 = .ok (.istore 5, 2) := by decide +kernel
theorem dX1_valueOf_24 : decode cX1_valueOf 24 = .ok (.iload 5, 2) := by decide +kernel
theorem dX1_valueOf_26 : decode cX1_valueOf 26 = .ok (.bipush 12, 2) := by decide +kernel
theorem dX1_valueOf_28 : decode cX1_valueOf 28 = .ok (.if_icmp .ge 34, 3) := by decide +kernel
theorem dX1_valueOf_31 : decode cX1_valueOf 31 = .ok (.aload_n 1, 1) := by decide +kernel
theorem dX1_valueOf_32 : decode cX1_valueOf 32 = .ok (.iload 5, 2) := by decide +kernel
theorem dX1_valueOf_34 : decode cX1_valueOf 34 = .ok (.invokevirtual 37, 3) := by decide +kernel
theorem dX1_valueOf_37 : decode cX1_valueOf 37 = .ok (.ifCond .eq 19, 3) := by decide +kernel
theorem dX1_valueOf_40 : decode cX1_valueOf 40 = .ok (.iload 4, 2) := by decide +kernel
theorem dX1_valueOf_42 : decode cX1_valueOf 42 = .ok (.aload_n 0, 1) := by decide +kernel
theorem dX1_valueOf_43 : decode cX1_valueOf 43 = .ok (.aload_n 1, 1) := by decide +kernel
theorem dX1_valueOf_44 : decode cX1_valueOf 44 = .ok (.iload 5, 2) := by decide +kernel
theorem dX1_valueOf_46 : decode cX1_valueOf 46 = .ok (.aload_n 2, 1) := by decide +kernel
theorem dX1_valueOf_47 : decode cX1_valueOf 47 = .ok (.iload_n 3, 1) := by decide +kernel
theorem dX1_valueOf_48 : decode cX1_valueOf 48 = .ok (.invokevirtual 41, 3) := by decide +kernel
theorem dX1_valueOf_51 : decode cX1_valueOf 51 = .ok (.invokestatic 45, 3) := by decide +kernel
theorem dX1_valueOf_54 : decode cX1_valueOf 54 = .ok (.istore 4, 2) := by decide +kernel
theorem dX1_valueOf_56 : decode cX1_valueOf 56 = .ok (.iinc 5 1, 3) := by decide +kernel
theorem dX1_valueOf_59 : decode cX1_valueOf 59 = .ok (.goto (-35), 3) := by decide +kernel
theorem dX1_valueOf_62 : decode cX1_valueOf 62 = .ok (.iload 4, 2) := by decide +kernel
theorem dX1_valueOf_64 : decode cX1_valueOf 64 = .ok (.ireturn, 1) := by decide +kernel
theorem dX1_bestHouse_0 : decode cX1_bestHouse 0 = .ok (.bipush (-6), 2) := by decide +kernel
theorem dX1_bestHouse_2 : decode cX1_bestHouse 2 = .ok (.istore 4, 2) := by decide +kernel
theorem dX1_bestHouse_4 : decode cX1_bestHouse 4 = .ok (.sipush (-10000), 3) := by decide +kernel
theorem dX1_bestHouse_7 : decode cX1_bestHouse 7 = .ok (.istore 5, 2) := by decide +kernel
theorem dX1_bestHouse_9 : decode cX1_bestHouse 9 = .ok (.iconst 0, 1) := by decide +kernel
theorem dX1_bestHouse_10 : decode cX1_bestHouse 10 = .ok (.istore 6, 2) := by decide +kernel
theorem dX1_bestHouse_12 : decode cX1_bestHouse 12 = .ok (.iload 6, 2) := by decide +kernel
theorem dX1_bestHouse_14 : decode cX1_bestHouse 14 = .ok (.bipush 12, 2) := by decide +kernel
theorem dX1_bestHouse_16 : decode cX1_bestHouse 16 = .ok (.if_icmp .ge 44, 3) := by decide +kernel
theorem dX1_bestHouse_19 : decode cX1_bestHouse 19 = .ok (.aload_n 1, 1) := by decide +kernel
theorem dX1_bestHouse_20 : decode cX1_bestHouse 20 = .ok (.iload 6, 2) := by decide +kernel
theorem dX1_bestHouse_22 : decode cX1_bestHouse 22 = .ok (.invokevirtual 37, 3) := by decide +kernel
theorem dX1_bestHouse_25 : decode cX1_bestHouse 25 = .ok (.ifCond .eq 29, 3) := by decide +kernel
theorem dX1_bestHouse_28 : decode cX1_bestHouse 28 = .ok (.aload_n 0, 1) := by decide +kernel
theorem dX1_bestHouse_29 : decode cX1_bestHouse 29 = .ok (.aload_n 1, 1) := by decide +kernel
theorem dX1_bestHouse_30 : decode cX1_bestHouse 30 = .ok (.iload 6, 2) := by decide +kernel
theorem dX1_bestHouse_32 : decode cX1_bestHouse 32 = .ok (.aload_n 2, 1) := by decide +kernel
theorem dX1_bestHouse_33 : decode cX1_bestHouse 33 = .ok (.iload_n 3, 1) := by decide +kernel
theorem dX1_bestHouse_34 : decode cX1_bestHouse 34 = .ok (.invokevirtual 41, 3) := by decide +kernel
theorem dX1_bestHouse_37 : decode cX1_bestHouse 37 = .ok (.istore 7, 2) := by decide +kernel
theorem dX1_bestHouse_39 : decode cX1_bestHouse 39 = .ok (.iload 7, 2) := by decide +kernel
theorem dX1_bestHouse_41 : decode cX1_bestHouse 41 = .ok (.iload 5, 2) := by decide +kernel
theorem dX1_bestHouse_43 : decode cX1_bestHouse 43 = .ok (.if_icmp .le 11, 3) := by decide +kernel
theorem dX1_bestHouse_46 : decode cX1_bestHouse 46 = .ok (.iload 6, 2) := by decide +kernel
theorem dX1_bestHouse_48 : decode cX1_bestHouse 48 = .ok (.istore 4, 2) := by decide +kernel
theorem dX1_bestHouse_50 : decode cX1_bestHouse 50 = .ok (.iload 7, 2) := by decide +kernel
theorem dX1_bestHouse_52 : decode cX1_bestHouse 52 = .ok (.istore 5, 2) := by decide +kernel
theorem dX1_bestHouse_54 : decode cX1_bestHouse 54 = .ok (.iinc 6 1, 3) := by decide +kernel
theorem dX1_bestHouse_57 : decode cX1_bestHouse 57 = .ok (.goto (-45), 3) := by decide +kernel
theorem dX1_bestHouse_60 : decode cX1_bestHouse 60 = .ok (.iload 4, 2) := by decide +kernel
theorem dX1_bestHouse_62 : decode cX1_bestHouse 62 = .ok (.ireturn, 1) := by decide +kernel
theorem dX1_valueBehind_0 : decode cX1_valueBehind 0 = .ok (.iload 4, 2) := by decide +kernel
theorem dX1_valueBehind_2 : decode cX1_valueBehind 2 = .ok (.iconst 1, 1) := by decide +kernel
theorem dX1_valueBehind_3 : decode cX1_valueBehind 3 = .ok (.if_icmp .lt 9, 3) := by decide +kernel
theorem dX1_valueBehind_6 : decode cX1_valueBehind 6 = .ok (.iload 4, 2) := by decide +kernel
theorem dX1_valueBehind_8 : decode cX1_valueBehind 8 = .ok (.iconst 4, 1) := by decide +kernel
theorem dX1_valueBehind_9 : decode cX1_valueBehind 9 = .ok (.if_icmp .le 8, 3) := by decide +kernel
theorem dX1_valueBehind_12 : decode cX1_valueBehind 12 = .ok (.aload_n 1, 1) := by decide +kernel
theorem dX1_valueBehind_13 : decode cX1_valueBehind 13 = .ok (.invokevirtual 33, 3) := by decide +kernel
theorem dX1_valueBehind_16 : decode cX1_valueBehind 16 = .ok (.ireturn, 1) := by decide +kernel
theorem dX1_valueBehind_17 : decode cX1_valueBehind 17 = .ok (.aload_n 0, 1) := by decide +kernel
theorem dX1_valueBehind_18 : decode cX1_valueBehind 18 = .ok (.getfield 25, 3) := by decide +kernel
theorem dX1_valueBehind_21 : decode cX1_valueBehind 21 = .ok (.iload 4, 2) := by decide +kernel
theorem dX1_valueBehind_23 : decode cX1_valueBehind 23 = .ok (.aaload, 1) := by decide +kernel
theorem dX1_valueBehind_24 : decode cX1_valueBehind 24 = .ok (.astore 5, 2) := by decide +kernel
theorem dX1_valueBehind_26 : decode cX1_valueBehind 26 = .ok (.aload 5, 2) := by decide +kernel
theorem dX1_valueBehind_28 : decode cX1_valueBehind 28 = .ok (.aload_n 1, 1) := by decide +kernel
theorem dX1_valueBehind_29 : decode cX1_valueBehind 29 = .ok (.invokevirtual 51, 3) := by decide +kernel
theorem dX1_valueBehind_32 : decode cX1_valueBehind 32 = .ok (.aload 5, 2) := by decide +kernel
theorem dX1_valueBehind_34 : decode cX1_valueBehind 34 = .ok (.iload_n 2, 1) := by decide +kernel
theorem dX1_valueBehind_35 : decode cX1_valueBehind 35 = .ok (.aload_n 3, 1) := by decide +kernel
theorem dX1_valueBehind_36 : decode cX1_valueBehind 36 = .ok (.aload_n 0, 1) := by decide +kernel
theorem dX1_valueBehind_37 : decode cX1_valueBehind 37 = .ok (.getfield 21, 3) := by decide +kernel
theorem dX1_valueBehind_40 : decode cX1_valueBehind 40 = .ok (.invokevirtual 55, 3) := by decide +kernel
theorem dX1_valueBehind_43 : decode cX1_valueBehind 43 = .ok (.aload_n 0, 1) := by decide +kernel
theorem dX1_valueBehind_44 : decode cX1_valueBehind 44 = .ok (.aload 5, 2) := by decide +kernel
theorem dX1_valueBehind_46 : decode cX1_valueBehind 46 = .ok (.aload_n 3, 1) := by decide +kernel
theorem dX1_valueBehind_47 : decode cX1_valueBehind 47 = .ok (.iload 4, 2) := by decide +kernel
theorem dX1_valueBehind_49 : decode cX1_valueBehind 49 = .ok (.iconst 1, 1) := by decide +kernel
theorem dX1_valueBehind_50 : decode cX1_valueBehind 50 = .ok (.isub, 1) := by decide +kernel
theorem dX1_valueBehind_51 : decode cX1_valueBehind 51 = .ok (.invokevirtual 59, 3) := by decide +kernel
theorem dX1_valueBehind_54 : decode cX1_valueBehind 54 = .ok (.istore 6, 2) := by decide +kernel
theorem dX1_valueBehind_56 : decode cX1_valueBehind 56 = .ok (.aload 5, 2) := by decide +kernel
theorem dX1_valueBehind_58 : decode cX1_valueBehind 58 = .ok (.getfield 63, 3) := by decide +kernel
theorem dX1_valueBehind_61 : decode cX1_valueBehind 61 = .ok (.aload_n 1, 1) := by decide +kernel
theorem dX1_valueBehind_62 : decode cX1_valueBehind 62 = .ok (.getfield 63, 3) := by decide +kernel
theorem dX1_valueBehind_65 : decode cX1_valueBehind 65 = .ok (.if_icmp .ne 8, 3) := by decide +kernel
theorem dX1_valueBehind_68 : decode cX1_valueBehind 68 = .ok (.iload 6, 2) := by decide +kernel
theorem dX1_valueBehind_70 : decode cX1_valueBehind 70 = .ok (.goto 6, 3) := by decide +kernel
theorem dX1_valueBehind_73 : decode cX1_valueBehind 73 = .ok (.iload 6, 2) := by decide +kernel
theorem dX1_valueBehind_75 : decode cX1_valueBehind 75 = .ok (.ineg, 1) := by decide +kernel
theorem dX1_valueBehind_76 : decode cX1_valueBehind 76 = .ok (.ireturn, 1) := by decide +kernel
theorem dX1_movesToTheEnd_0 : decode cX1_movesToTheEnd 0 = .ok (.aload_n 0, 1) := by decide +kernel
theorem dX1_movesToTheEnd_1 : decode cX1_movesToTheEnd 1 = .ok (.getfield 12, 3) := by decide +kernel
theorem dX1_movesToTheEnd_4 : decode cX1_movesToTheEnd 4 = .ok (.aload_n 1, 1) := by decide +kernel
theorem dX1_movesToTheEnd_5 : decode cX1_movesToTheEnd 5 = .ok (.invokevirtual 51, 3) := by decide +kernel
theorem dX1_movesToTheEnd_8 : decode cX1_movesToTheEnd 8 = .ok (.iconst 0, 1) := by decide +kernel
theorem dX1_movesToTheEnd_9 : decode cX1_movesToTheEnd 9 = .ok (.istore 4, 2) := by decide +kernel
theorem dX1_movesToTheEnd_11 : decode cX1_movesToTheEnd 11 = .ok (.iload 4, 2) := by decide +kernel
theorem dX1_movesToTheEnd_13 : decode cX1_movesToTheEnd 13 = .ok (.sipush 300, 3) := by decide +kernel
theorem dX1_movesToTheEnd_16 : decode cX1_movesToTheEnd 16 = .ok (.if_icmp .ge 45, 3) := by decide +kernel
theorem dX1_movesToTheEnd_19 : decode cX1_movesToTheEnd 19 = .ok (.aload_n 0, 1) := by decide +kernel
theorem dX1_movesToTheEnd_20 : decode cX1_movesToTheEnd 20 = .ok (.aload_n 0, 1) := by decide +kernel
theorem dX1_movesToTheEnd_21 : decode cX1_movesToTheEnd 21 = .ok (.getfield 12, 3) := by decide +kernel
theorem dX1_movesToTheEnd_24 : decode cX1_movesToTheEnd 24 = .ok (.aload_n 2, 1) := by decide +kernel
theorem dX1_movesToTheEnd_25 : decode cX1_movesToTheEnd 25 = .ok (.iload_n 3, 1) := by decide +kernel
theorem dX1_movesToTheEnd_26 : decode cX1_movesToTheEnd 26 = .ok (.invokevirtual 67, 3) := by decide +kernel
theorem dX1_movesToTheEnd_29 : decode cX1_movesToTheEnd 29 = .ok (.istore 5, 2) := by decide +kernel
theorem dX1_movesToTheEnd_31 : decode cX1_movesToTheEnd 31 = .ok (.iload 5, 2) := by decide +kernel
theorem dX1_movesToTheEnd_33 : decode cX1_movesToTheEnd 33 = .ok (.bipush (-6), 2) := by decide +kernel
theorem dX1_movesToTheEnd_35 : decode cX1_movesToTheEnd 35 = .ok (.if_icmp .ne 6, 3) := by decide +kernel
theorem dX1_movesToTheEnd_38 : decode cX1_movesToTheEnd 38 = .ok (.iload 4, 2) := by decide +kernel
theorem dX1_movesToTheEnd_40 : decode cX1_movesToTheEnd 40 = .ok (.ireturn, 1) := by decide +kernel
theorem dX1_movesToTheEnd_41 : decode cX1_movesToTheEnd 41 = .ok (.aload_n 0, 1) := by decide +kernel
theorem dX1_movesToTheEnd_42 : decode cX1_movesToTheEnd 42 = .ok (.getfield 12, 3) := by decide +kernel
theorem dX1_movesToTheEnd_45 : decode cX1_movesToTheEnd 45 = .ok (.iload 5, 2) := by decide +kernel
theorem dX1_movesToTheEnd_47 : decode cX1_movesToTheEnd 47 = .ok (.aload_n 2, 1) := by decide +kernel
theorem dX1_movesToTheEnd_48 : decode cX1_movesToTheEnd 48 = .ok (.aload_n 0, 1) := by decide +kernel
theorem dX1_movesToTheEnd_49 : decode cX1_movesToTheEnd 49 = .ok (.getfield 21, 3) := by decide +kernel
theorem dX1_movesToTheEnd_52 : decode cX1_movesToTheEnd 52 = .ok (.invokevirtual 55, 3) := by decide +kernel
theorem dX1_movesToTheEnd_55 : decode cX1_movesToTheEnd 55 = .ok (.iinc 4 1, 3) := by decide +kernel
theorem dX1_movesToTheEnd_58 : decode cX1_movesToTheEnd 58 = .ok (.goto (-47), 3) := by decide +kernel
theorem dX1_movesToTheEnd_61 : decode cX1_movesToTheEnd 61 = .ok (.sipush 300, 3) := by decide +kernel
theorem dX1_movesToTheEnd_64 : decode cX1_movesToTheEnd 64 = .ok (.ireturn, 1) := by decide +kernel
theorem dX2_init_0 : decode cX2_init 0 = .ok (.aload_n 0, 1) := by decide +kernel
theorem dX2_init_1 : decode cX2_init 1 = .ok (.invokespecial 3, 3) := by decide +kernel
theorem dX2_init_4 : decode cX2_init 4 = .ok (.aload_n 0, 1) := by decide +kernel
theorem dX2_init_5 : decode cX2_init 5 = .ok (.bipush 60, 2) := by decide +kernel
theorem dX2_init_7 : decode cX2_init 7 = .ok (.newarray .char, 2) := by decide +kernel
theorem dX2_init_9 : decode cX2_init 9 = .ok (.putfield 9, 3) := by decide +kernel
theorem dX2_init_12 : decode cX2_init 12 = .ok (.aload_n 0, 1) := by decide +kernel
theorem dX2_init_13 : decode cX2_init 13 = .ok (.bipush 15, 2) := by decide +kernel
theorem dX2_init_15 : decode cX2_init 15 = .ok (.newarray .int, 2) := by decide +kernel
theorem dX2_init_17 : decode cX2_init 17 = .ok (.putfield 15, 3) := by decide +kernel
theorem dX2_init_20 : decode cX2_init 20 = .ok (.return_, 1) := by decide +kernel
theorem dX2_charactersIn_0 : decode cX2_charactersIn 0 = .ok (.lload_n 0, 1) := by decide +kernel
theorem dX2_charactersIn_1 : decode cX2_charactersIn 1 = .ok (.lstore_n 2, 1) := by decide +kernel
theorem dX2_charactersIn_2 : decode cX2_charactersIn 2 = .ok (.iconst 0, 1) := by decide +kernel
theorem dX2_charactersIn_3 : decode cX2_charactersIn 3 = .ok (.istore 4, 2) := by decide +kernel
theorem dX2_charactersIn_5 : decode cX2_charactersIn 5 = .ok (.lload_n 2, 1) := by decide +kernel
theorem dX2_charactersIn_6 : decode cX2_charactersIn 6 = .ok (.lconst 0, 1) := by decide +kernel
theorem dX2_charactersIn_7 : decode cX2_charactersIn 7 = .ok (.lcmp, 1) := by decide +kernel
theorem dX2_charactersIn_8 : decode cX2_charactersIn 8 = .ok (.ifCond .eq 48, 3) := by decide +kernel
theorem dX2_charactersIn_11 : decode cX2_charactersIn 11 = .ok (.iload 4, 2) := by decide +kernel
theorem dX2_charactersIn_13 : decode cX2_charactersIn 13 = .ok (.bipush 8, 2) := by decide +kernel
theorem dX2_charactersIn_15 : decode cX2_charactersIn 15 = .ok (.if_icmp .ge 41, 3) := by decide +kernel
theorem dX2_charactersIn_18 : decode cX2_charactersIn 18 = .ok (.lload_n 2, 1) := by decide +kernel
theorem dX2_charactersIn_19 : decode cX2_charactersIn 19 = .ok (.ldc2_w 19, 3) := by decide +kernel
theorem dX2_charactersIn_22 : decode cX2_charactersIn 22 = .ok (.land, 1) := by decide +kernel
theorem dX2_charactersIn_23 : decode cX2_charactersIn 23 = .ok (.lstore 5, 2) := by decide +kernel
theorem dX2_charactersIn_25 : decode cX2_charactersIn 25 = .ok (.lload 5, 2) := by decide +kernel
theorem dX2_charactersIn_27 : decode cX2_charactersIn 27 = .ok (.ldc2_w 21, 3) := by decide +kernel
theorem dX2_charactersIn_30 : decode cX2_charactersIn 30 = .ok (.lcmp, 1) := by decide +kernel
theorem dX2_charactersIn_31 : decode cX2_charactersIn 31 = .ok (.ifCond .lt 12, 3) := by decide +kernel
theorem dX2_charactersIn_34 : decode cX2_charactersIn 34 = .ok (.lload 5, 2) := by decide +kernel
theorem dX2_charactersIn_36 : decode cX2_charactersIn 36 = .ok (.ldc2_w 23, 3) := by decide +kernel
theorem dX2_charactersIn_39 : decode cX2_charactersIn 39 = .ok (.lcmp, 1) := by decide +kernel
theorem dX2_charactersIn_40 : decode cX2_charactersIn 40 = .ok (.ifCond .le 5, 3) := by decide +kernel
theorem dX2_charactersIn_43 : decode cX2_charactersIn 43 = .ok (.iconst 0, 1) := by decide +kernel
theorem dX2_charactersIn_44 : decode cX2_charactersIn 44 = .ok (.ireturn, 1) := by decide +kernel
theorem dX2_charactersIn_45 : decode cX2_charactersIn 45 = .ok (.lload_n 2, 1) := by decide +kernel
theorem dX2_charactersIn_46 : decode cX2_charactersIn 46 = .ok (.bipush 8, 2) := by decide +kernel
theorem dX2_charactersIn_48 : decode cX2_charactersIn 48 = .ok (.lushr, 1) := by decide +kernel
theorem dX2_charactersIn_49 : decode cX2_charactersIn 49 = .ok (.lstore_n 2, 1) := by decide +kernel
theorem dX2_charactersIn_50 : decode cX2_charactersIn 50 = .ok (.iinc 4 1, 3) := by decide +kernel
theorem dX2_charactersIn_53 : decode cX2_charactersIn 53 = .ok (.goto (-48), 3) := by decide +kernel
theorem dX2_charactersIn_56 : decode cX2_charactersIn 56 = .ok (.iload 4, 2) := by decide +kernel
theorem dX2_charactersIn_58 : decode cX2_charactersIn 58 = .ok (.ireturn, 1) := by decide +kernel
theorem dX2_append_0 : decode cX2_append 0 = .ok (.iload_n 3, 1) := by decide +kernel
theorem dX2_append_1 : decode cX2_append 1 = .ok (.iconst 1, 1) := by decide +kernel
theorem dX2_append_2 : decode cX2_append 2 = .ok (.isub, 1) := by decide +kernel
theorem dX2_append_3 : decode cX2_append 3 = .ok (.istore 4, 2) := by decide +kernel
theorem dX2_append_5 : decode cX2_append 5 = .ok (.iload 4, 2) := by decide +kernel
theorem dX2_append_7 : decode cX2_append 7 = .ok (.ifCond .lt 50, 3) := by decide +kernel
theorem dX2_append_10 : decode cX2_append 10 = .ok (.aload_n 0, 1) := by decide +kernel
theorem dX2_append_11 : decode cX2_append 11 = .ok (.getfield 25, 3) := by decide +kernel
theorem dX2_append_14 : decode cX2_append 14 = .ok (.bipush 60, 2) := by decide +kernel
theorem dX2_append_16 : decode cX2_append 16 = .ok (.if_icmp .ge 35, 3) := by decide +kernel
theorem dX2_append_19 : decode cX2_append 19 = .ok (.aload_n 0, 1) := by decide +kernel
theorem dX2_append_20 : decode cX2_append 20 = .ok (.getfield 9, 3) := by decide +kernel
theorem dX2_append_23 : decode cX2_append 23 = .ok (.aload_n 0, 1) := by decide +kernel
theorem dX2_append_24 : decode cX2_append 24 = .ok (.getfield 25, 3) := by decide +kernel
theorem dX2_append_27 : decode cX2_append 27 = .ok (.lload_n 1, 1) := by decide +kernel
theorem dX2_append_28 : decode cX2_append 28 = .ok (.bipush 8, 2) := by decide +kernel
theorem dX2_append_30 : decode cX2_append 30 = .ok (.iload 4, 2) := by decide +kernel
theorem dX2_append_32 : decode cX2_append 32 = .ok (.imul, 1) := by decide +kernel
theorem dX2_append_33 : decode cX2_append 33 = .ok (.lushr, 1) := by decide +kernel
theorem dX2_append_34 : decode cX2_append 34 = .ok (.ldc2_w 19, 3) := by decide +kernel
theorem dX2_append_37 : decode cX2_append 37 = .ok (.land, 1) := by decide +kernel
theorem dX2_append_38 : decode cX2_append 38 = .ok (.l2i, 1) := by decide +kernel
theorem dX2_append_39 : decode cX2_append 39 = .ok (.i2c, 1) := by decide +kernel
theorem dX2_append_40 : decode cX2_append 40 = .ok (.castore, 1) := by decide +kernel
theorem dX2_append_41 : decode cX2_append 41 = .ok (.aload_n 0, 1) := by decide +kernel
theorem dX2_append_42 : decode cX2_append 42 = .ok (.dup, 1) := by decide +kernel
theorem dX2_append_43 : decode cX2_append 43 = .ok (.getfield 25, 3) := by decide +kernel
theorem dX2_append_46 : decode cX2_append 46 = .ok (.iconst 1, 1) := by decide +kernel
theorem dX2_append_47 : decode cX2_append 47 = .ok (.iadd, 1) := by decide +kernel
theorem dX2_append_48 : decode cX2_append 48 = .ok (.putfield 25, 3) := by decide +kernel
theorem dX2_append_51 : decode cX2_append 51 = .ok (.iinc 4 (-1), 3) := by decide +kernel
theorem dX2_append_54 : decode cX2_append 54 = .ok (.goto (-49), 3) := by decide +kernel
theorem dX2_append_57 : decode cX2_append 57 = .ok (.return_, 1) := by decide +kernel
theorem dX2_scan_0 : decode cX2_scan 0 = .ok (.iconst 0, 1) := by decide +kernel
theorem dX2_scan_1 : decode cX2_scan 1 = .ok (.istore_n 1, 1) := by decide +kernel
theorem dX2_scan_2 : decode cX2_scan 2 = .ok (.iconst 0, 1) := by decide +kernel
theorem dX2_scan_3 : decode cX2_scan 3 = .ok (.istore_n 2, 1) := by decide +kernel
theorem dX2_scan_4 : decode cX2_scan 4 = .ok (.iconst 0, 1) := by decide +kernel
theorem dX2_scan_5 : decode cX2_scan 5 = .ok (.istore_n 3, 1) := by decide +kernel
theorem dX2_scan_6 : decode cX2_scan 6 = .ok (.iload_n 3, 1) := by decide +kernel
theorem dX2_scan_7 : decode cX2_scan 7 = .ok (.aload_n 0, 1) := by decide +kernel
theorem dX2_scan_8 : decode cX2_scan 8 = .ok (.getfield 25, 3) := by decide +kernel
theorem dX2_scan_11 : decode cX2_scan 11 = .ok (.if_icmp .ge 96, 3) := by decide +kernel
theorem dX2_scan_14 : decode cX2_scan 14 = .ok (.aload_n 0, 1) := by decide +kernel
theorem dX2_scan_15 : decode cX2_scan 15 = .ok (.getfield 9, 3) := by decide +kernel
theorem dX2_scan_18 : decode cX2_scan 18 = .ok (.iload_n 3, 1) := by decide +kernel
theorem dX2_scan_19 : decode cX2_scan 19 = .ok (.caload, 1) := by decide +kernel
theorem dX2_scan_20 : decode cX2_scan 20 = .ok (.istore 4, 2) := by decide +kernel
theorem dX2_scan_22 : decode cX2_scan 22 = .ok (.aload_n 0, 1) := by decide +kernel
theorem dX2_scan_23 : decode cX2_scan 23 = .ok (.iload 4, 2) := by decide +kernel
theorem dX2_scan_25 : decode cX2_scan 25 = .ok (.iload_n 1, 1) := by decide +kernel
theorem dX2_scan_26 : decode cX2_scan 26 = .ok (.iload_n 2, 1) := by decide +kernel
theorem dX2_scan_27 : decode cX2_scan 27 = .ok (.invokevirtual 29, 3) := by decide +kernel
theorem dX2_scan_30 : decode cX2_scan 30 = .ok (.ifCond .eq 42, 3) := by decide +kernel
theorem dX2_scan_33 : decode cX2_scan 33 = .ok (.iload_n 2, 1) := by decide +kernel
theorem dX2_scan_34 : decode cX2_scan 34 = .ok (.ifCond .ne 7, 3) := by decide +kernel
theorem dX2_scan_37 : decode cX2_scan 37 = .ok (.iconst 0, 1) := by decide +kernel
theorem dX2_scan_38 : decode cX2_scan 38 = .ok (.goto 12, 3) := by decide +kernel
theorem dX2_scan_41 : decode cX2_scan 41 = .ok (.aload_n 0, 1) := by decide +kernel
theorem dX2_scan_42 : decode cX2_scan 42 = .ok (.getfield 15, 3) := by decide +kernel
theorem dX2_scan_45 : decode cX2_scan 45 = .ok (.iload_n 1, 1) := by decide +kernel
theorem dX2_scan_46 : decode cX2_scan 46 = .ok (.iaload, 1) := by decide +kernel
theorem dX2_scan_47 : decode cX2_scan 47 = .ok (.bipush 10, 2) := by decide +kernel
theorem dX2_scan_49 : decode cX2_scan 49 = .ok (.imul, 1) := by decide +kernel
theorem dX2_scan_50 : decode cX2_scan 50 = .ok (.istore 5, 2) := by decide +kernel
theorem dX2_scan_52 : decode cX2_scan 52 = .ok (.aload_n 0, 1) := by decide +kernel
theorem dX2_scan_53 : decode cX2_scan 53 = .ok (.getfield 15, 3) := by decide +kernel
theorem dX2_scan_56 : decode cX2_scan 56 = .ok (.iload_n 1, 1) := by decide +kernel
theorem dX2_scan_57 : decode cX2_scan 57 = .ok (.iload 5, 2) := by decide +kernel
theorem dX2_scan_59 : decode cX2_scan 59 = .ok (.iload 4, 2) := by decide +kernel
theorem dX2_scan_61 : decode cX2_scan 61 = .ok (.iadd, 1) := by decide +kernel
theorem dX2_scan_62 : decode cX2_scan 62 = .ok (.bipush 48, 2) := by decide +kernel
theorem dX2_scan_64 : decode cX2_scan 64 = .ok (.isub, 1) := by decide +kernel
theorem dX2_scan_65 : decode cX2_scan 65 = .ok (.iastore, 1) := by decide +kernel
theorem dX2_scan_66 : decode cX2_scan 66 = .ok (.iinc 2 1, 3) := by decide +kernel
theorem dX2_scan_69 : decode cX2_scan 69 = .ok (.goto 32, 3) := by decide +kernel
theorem dX2_scan_72 : decode cX2_scan 72 = .ok (.iload_n 2, 1) := by decide +kernel
theorem dX2_scan_73 : decode cX2_scan 73 = .ok (.ifCond .le 26, 3) := by decide +kernel
theorem dX2_scan_76 : decode cX2_scan 76 = .ok (.iload_n 1, 1) := by decide +kernel
theorem dX2_scan_77 : decode cX2_scan 77 = .ok (.bipush 14, 2) := by decide +kernel
theorem dX2_scan_79 : decode cX2_scan 79 = .ok (.if_icmp .ge 20, 3) := by decide +kernel
theorem dX2_scan_82 : decode cX2_scan 82 = .ok (.iload 4, 2) := by decide +kernel
theorem dX2_scan_84 : decode cX2_scan 84 = .ok (.iload_n 1, 1) := by decide +kernel
theorem dX2_scan_85 : decode cX2_scan 85 = .ok (.invokestatic 33, 3) := by decide +kernel
theorem dX2_scan_88 : decode cX2_scan 88 = .ok (.if_icmp .ne 11, 3) := by decide +kernel
theorem dX2_scan_91 : decode cX2_scan 91 = .ok (.iinc 1 1, 3) := by decide +kernel
theorem dX2_scan_94 : decode cX2_scan 94 = .ok (.iconst 0, 1) := by decide +kernel
theorem dX2_scan_95 : decode cX2_scan 95 = .ok (.istore_n 2, 1) := by decide +kernel
theorem dX2_scan_96 : decode cX2_scan 96 = .ok (.goto 5, 3) := by decide +kernel
theorem dX2_scan_99 : decode cX2_scan 99 = .ok (.iload_n 3, 1) := by decide +kernel
theorem dX2_scan_100 : decode cX2_scan 100 = .ok (.ireturn, 1) := by decide +kernel
theorem dX2_scan_101 : decode cX2_scan 101 = .ok (.iinc 3 1, 3) := by decide +kernel
theorem dX2_scan_104 : decode cX2_scan 104 = .ok (.goto (-98), 3) := by decide +kernel
theorem dX2_scan_107 : decode cX2_scan 107 = .ok (.iload_n 1, 1) := by decide +kernel
theorem dX2_scan_108 : decode cX2_scan 108 = .ok (.bipush 14, 2) := by decide +kernel
theorem dX2_scan_110 : decode cX2_scan 110 = .ok (.if_icmp .ne 12, 3) := by decide +kernel
theorem dX2_scan_113 : decode cX2_scan 113 = .ok (.iload_n 2, 1) := by decide +kernel
theorem dX2_scan_114 : decode cX2_scan 114 = .ok (.ifCond .le 8, 3) := by decide +kernel
theorem dX2_scan_117 : decode cX2_scan 117 = .ok (.bipush (-6), 2) := by decide +kernel
theorem dX2_scan_119 : decode cX2_scan 119 = .ok (.goto 7, 3) := by decide +kernel
theorem dX2_scan_122 : decode cX2_scan 122 = .ok (.aload_n 0, 1) := by decide +kernel
theorem dX2_scan_123 : decode cX2_scan 123 = .ok (.getfield 25, 3) := by decide +kernel
theorem dX2_scan_126 : decode cX2_scan 126 = .ok (.ireturn, 1) := by decide +kernel
theorem dX2_digitFits_0 : decode cX2_digitFits 0 = .ok (.iload_n 2, 1) := by decide +kernel
theorem dX2_digitFits_1 : decode cX2_digitFits 1 = .ok (.bipush 14, 2) := by decide +kernel
theorem dX2_digitFits_3 : decode cX2_digitFits 3 = .ok (.if_icmp .ne 25, 3) := by decide +kernel
theorem dX2_digitFits_6 : decode cX2_digitFits 6 = .ok (.iload_n 3, 1) := by decide +kernel
theorem dX2_digitFits_7 : decode cX2_digitFits 7 = .ok (.ifCond .ne 19, 3) := by decide +kernel
theorem dX2_digitFits_10 : decode cX2_digitFits 10 = .ok (.iload_n 1, 1) := by decide +kernel
theorem dX2_digitFits_11 : decode cX2_digitFits 11 = .ok (.bipush 48, 2) := by decide +kernel
theorem dX2_digitFits_13 : decode cX2_digitFits 13 = .ok (.if_icmp .eq 9, 3) := by decide +kernel
theorem dX2_digitFits_16 : decode cX2_digitFits 16 = .ok (.iload_n 1, 1) := by decide +kernel
theorem dX2_digitFits_17 : decode cX2_digitFits 17 = .ok (.bipush 49, 2) := by decide +kernel
theorem dX2_digitFits_19 : decode cX2_digitFits 19 = .ok (.if_icmp .ne 7, 3) := by decide +kernel
theorem dX2_digitFits_22 : decode cX2_digitFits 22 = .ok (.iconst 1, 1) := by decide +kernel
theorem dX2_digitFits_23 : decode cX2_digitFits 23 = .ok (.goto 4, 3) := by decide +kernel
theorem dX2_digitFits_26 : decode cX2_digitFits 26 = .ok (.iconst 0, 1) := by decide +kernel
theorem dX2_digitFits_27 : decode cX2_digitFits 27 = .ok (.ireturn, 1) := by decide +kernel
theorem dX2_digitFits_28 : decode cX2_digitFits 28 = .ok (.iload_n 1, 1) := by decide +kernel
theorem dX2_digitFits_29 : decode cX2_digitFits 29 = .ok (.bipush 48, 2) := by decide +kernel
theorem dX2_digitFits_31 : decode cX2_digitFits 31 = .ok (.if_icmp .lt 13, 3) := by decide +kernel
theorem dX2_digitFits_34 : decode cX2_digitFits 34 = .ok (.iload_n 1, 1) := by decide +kernel
theorem dX2_digitFits_35 : decode cX2_digitFits 35 = .ok (.bipush 57, 2) := by decide +kernel
theorem dX2_digitFits_37 : decode cX2_digitFits 37 = .ok (.if_icmp .gt 7, 3) := by decide +kernel
theorem dX2_digitFits_40 : decode cX2_digitFits 40 = .ok (.iconst 1, 1) := by decide +kernel
theorem dX2_digitFits_41 : decode cX2_digitFits 41 = .ok (.goto 4, 3) := by decide +kernel
theorem dX2_digitFits_44 : decode cX2_digitFits 44 = .ok (.iconst 0, 1) := by decide +kernel
theorem dX2_digitFits_45 : decode cX2_digitFits 45 = .ok (.istore 4, 2) := by decide +kernel
theorem dX2_digitFits_47 : decode cX2_digitFits 47 = .ok (.iload 4, 2) := by decide +kernel
theorem dX2_digitFits_49 : decode cX2_digitFits 49 = .ok (.ifCond .eq 25, 3) := by decide +kernel
theorem dX2_digitFits_52 : decode cX2_digitFits 52 = .ok (.iload_n 3, 1) := by decide +kernel
theorem dX2_digitFits_53 : decode cX2_digitFits 53 = .ok (.ifCond .eq 17, 3) := by decide +kernel
theorem dX2_digitFits_56 : decode cX2_digitFits 56 = .ok (.iload_n 3, 1) := by decide +kernel
theorem dX2_digitFits_57 : decode cX2_digitFits 57 = .ok (.iconst 1, 1) := by decide +kernel
theorem dX2_digitFits_58 : decode cX2_digitFits 58 = .ok (.if_icmp .ne 16, 3) := by decide +kernel
theorem dX2_digitFits_61 : decode cX2_digitFits 61 = .ok (.aload_n 0, 1) := by decide +kernel
theorem dX2_digitFits_62 : decode cX2_digitFits 62 = .ok (.getfield 15, 3) := by decide +kernel
theorem dX2_digitFits_65 : decode cX2_digitFits 65 = .ok (.iload_n 2, 1) := by decide +kernel
theorem dX2_digitFits_66 : decode cX2_digitFits 66 = .ok (.iaload, 1) := by decide +kernel
theorem dX2_digitFits_67 : decode cX2_digitFits 67 = .ok (.ifCond .eq 7, 3) := by decide +kernel
theorem dX2_digitFits_70 : decode cX2_digitFits 70 = .ok (.iconst 1, 1) := by decide +kernel
theorem dX2_digitFits_71 : decode cX2_digitFits 71 = .ok (.goto 4, 3) := by decide +kernel
theorem dX2_digitFits_74 : decode cX2_digitFits 74 = .ok (.iconst 0, 1) := by decide +kernel
theorem dX2_digitFits_75 : decode cX2_digitFits 75 = .ok (.ireturn, 1) := by decide +kernel
theorem dX2_signBehind_0 : decode cX2_signBehind 0 = .ok (.iload_n 0, 1) := by decide +kernel
theorem dX2_signBehind_1 : decode cX2_signBehind 1 = .ok (.bipush 11, 2) := by decide +kernel
theorem dX2_signBehind_3 : decode cX2_signBehind 3 = .ok (.if_icmp .eq 9, 3) := by decide +kernel
theorem dX2_signBehind_6 : decode cX2_signBehind 6 = .ok (.iload_n 0, 1) := by decide +kernel
theorem dX2_signBehind_7 : decode cX2_signBehind 7 = .ok (.bipush 13, 2) := by decide +kernel
theorem dX2_signBehind_9 : decode cX2_signBehind 9 = .ok (.if_icmp .ne 8, 3) := by decide +kernel
theorem dX2_signBehind_12 : decode cX2_signBehind 12 = .ok (.bipush 47, 2) := by decide +kernel
theorem dX2_signBehind_14 : decode cX2_signBehind 14 = .ok (.goto 5, 3) := by decide +kernel
theorem dX2_signBehind_17 : decode cX2_signBehind 17 = .ok (.bipush 44, 2) := by decide +kernel
theorem dX2_signBehind_19 : decode cX2_signBehind 19 = .ok (.ireturn, 1) := by decide +kernel
theorem dX3_init_0 : decode cX3_init 0 = .ok (.aload_n 0, 1) := by decide +kernel
theorem dX3_init_1 : decode cX3_init 1 = .ok (.invokespecial 3, 3) := by decide +kernel
theorem dX3_init_4 : decode cX3_init 4 = .ok (.aload_n 0, 1) := by decide +kernel
theorem dX3_init_5 : decode cX3_init 5 = .ok (.bipush 12, 2) := by decide +kernel
theorem dX3_init_7 : decode cX3_init 7 = .ok (.newarray .int, 2) := by decide +kernel
theorem dX3_init_9 : decode cX3_init 9 = .ok (.putfield 9, 3) := by decide +kernel
theorem dX3_init_12 : decode cX3_init 12 = .ok (.aload_n 0, 1) := by decide +kernel
theorem dX3_init_13 : decode cX3_init 13 = .ok (.bipush 12, 2) := by decide +kernel
theorem dX3_init_15 : decode cX3_init 15 = .ok (.newarray .int, 2) := by decide +kernel
theorem dX3_init_17 : decode cX3_init 17 = .ok (.putfield 15, 3) := by decide +kernel
theorem dX3_init_20 : decode cX3_init 20 = .ok (.aload_n 0, 1) := by decide +kernel
theorem dX3_init_21 : decode cX3_init 21 = .ok (.iconst 2, 1) := by decide +kernel
theorem dX3_init_22 : decode cX3_init 22 = .ok (.newarray .int, 2) := by decide +kernel
theorem dX3_init_24 : decode cX3_init 24 = .ok (.putfield 18, 3) := by decide +kernel
theorem dX3_init_27 : decode cX3_init 27 = .ok (.return_, 1) := by decide +kernel
theorem dX3_copyFrom_0 : decode cX3_copyFrom 0 = .ok (.aload_n 1, 1) := by decide +kernel
theorem dX3_copyFrom_1 : decode cX3_copyFrom 1 = .ok (.getfield 9, 3) := by decide +kernel
theorem dX3_copyFrom_4 : decode cX3_copyFrom 4 = .ok (.iconst 0, 1) := by decide +kernel
theorem dX3_copyFrom_5 : decode cX3_copyFrom 5 = .ok (.aload_n 0, 1) := by decide +kernel
theorem dX3_copyFrom_6 : decode cX3_copyFrom 6 = .ok (.getfield 9, 3) := by decide +kernel
theorem dX3_copyFrom_9 : decode cX3_copyFrom 9 = .ok (.iconst 0, 1) := by decide +kernel
theorem dX3_copyFrom_10 : decode cX3_copyFrom 10 = .ok (.bipush 12, 2) := by decide +kernel
theorem dX3_copyFrom_12 : decode cX3_copyFrom 12 = .ok (.invokestatic 21, 3) := by decide +kernel
theorem dX3_copyFrom_15 : decode cX3_copyFrom 15 = .ok (.aload_n 1, 1) := by decide +kernel
theorem dX3_copyFrom_16 : decode cX3_copyFrom 16 = .ok (.getfield 15, 3) := by decide +kernel
theorem dX3_copyFrom_19 : decode cX3_copyFrom 19 = .ok (.iconst 0, 1) := by decide +kernel
theorem dX3_copyFrom_20 : decode cX3_copyFrom 20 = .ok (.aload_n 0, 1) := by decide +kernel
theorem dX3_copyFrom_21 : decode cX3_copyFrom 21 = .ok (.getfield 15, 3) := by decide +kernel
theorem dX3_copyFrom_24 : decode cX3_copyFrom 24 = .ok (.iconst 0, 1) := by decide +kernel
theorem dX3_copyFrom_25 : decode cX3_copyFrom 25 = .ok (.bipush 12, 2) := by decide +kernel
theorem dX3_copyFrom_27 : decode cX3_copyFrom 27 = .ok (.invokestatic 21, 3) := by decide +kernel
theorem dX3_copyFrom_30 : decode cX3_copyFrom 30 = .ok (.aload_n 0, 1) := by decide +kernel
theorem dX3_copyFrom_31 : decode cX3_copyFrom 31 = .ok (.getfield 18, 3) := by decide +kernel
theorem dX3_copyFrom_34 : decode cX3_copyFrom 34 = .ok (.iconst 0, 1) := by decide +kernel
theorem dX3_copyFrom_35 : decode cX3_copyFrom 35 = .ok (.aload_n 1, 1) := by decide +kernel
theorem dX3_copyFrom_36 : decode cX3_copyFrom 36 = .ok (.getfield 18, 3) := by decide +kernel
theorem dX3_copyFrom_39 : decode cX3_copyFrom 39 = .ok (.iconst 0, 1) := by decide +kernel
theorem dX3_copyFrom_40 : decode cX3_copyFrom 40 = .ok (.iaload, 1) := by decide +kernel
theorem dX3_copyFrom_41 : decode cX3_copyFrom 41 = .ok (.iastore, 1) := by decide +kernel
theorem dX3_copyFrom_42 : decode cX3_copyFrom 42 = .ok (.aload_n 0, 1) := by decide +kernel
theorem dX3_copyFrom_43 : decode cX3_copyFrom 43 = .ok (.getfield 18, 3) := by decide +kernel
theorem dX3_copyFrom_46 : decode cX3_copyFrom 46 = .ok (.iconst 1, 1) := by decide +kernel
theorem dX3_copyFrom_47 : decode cX3_copyFrom 47 = .ok (.aload_n 1, 1) := by decide +kernel
theorem dX3_copyFrom_48 : decode cX3_copyFrom 48 = .ok (.getfield 18, 3) := by decide +kernel
theorem dX3_copyFrom_51 : decode cX3_copyFrom 51 = .ok (.iconst 1, 1) := by decide +kernel
theorem dX3_copyFrom_52 : decode cX3_copyFrom 52 = .ok (.iaload, 1) := by decide +kernel
theorem dX3_copyFrom_53 : decode cX3_copyFrom 53 = .ok (.iastore, 1) := by decide +kernel
theorem dX3_copyFrom_54 : decode cX3_copyFrom 54 = .ok (.aload_n 0, 1) := by decide +kernel
theorem dX3_copyFrom_55 : decode cX3_copyFrom 55 = .ok (.aload_n 1, 1) := by decide +kernel
theorem dX3_copyFrom_56 : decode cX3_copyFrom 56 = .ok (.getfield 27, 3) := by decide +kernel
theorem dX3_copyFrom_59 : decode cX3_copyFrom 59 = .ok (.putfield 27, 3) := by decide +kernel
theorem dX3_copyFrom_62 : decode cX3_copyFrom 62 = .ok (.aload_n 0, 1) := by decide +kernel
theorem dX3_copyFrom_63 : decode cX3_copyFrom 63 = .ok (.aload_n 1, 1) := by decide +kernel
theorem dX3_copyFrom_64 : decode cX3_copyFrom 64 = .ok (.getfield 31, 3) := by decide +kernel
theorem dX3_copyFrom_67 : decode cX3_copyFrom 67 = .ok (.putfield 31, 3) := by decide +kernel
theorem dX3_copyFrom_70 : decode cX3_copyFrom 70 = .ok (.aload_n 0, 1) := by decide +kernel
theorem dX3_copyFrom_71 : decode cX3_copyFrom 71 = .ok (.aload_n 1, 1) := by decide +kernel
theorem dX3_copyFrom_72 : decode cX3_copyFrom 72 = .ok (.getfield 35, 3) := by decide +kernel
theorem dX3_copyFrom_75 : decode cX3_copyFrom 75 = .ok (.putfield 35, 3) := by decide +kernel
theorem dX3_copyFrom_78 : decode cX3_copyFrom 78 = .ok (.return_, 1) := by decide +kernel
theorem dX3_fill_0 : decode cX3_fill 0 = .ok (.aload_n 0, 1) := by decide +kernel
theorem dX3_fill_1 : decode cX3_fill 1 = .ok (.invokevirtual 38, 3) := by decide +kernel
theorem dX3_fill_4 : decode cX3_fill 4 = .ok (.iconst 0, 1) := by decide +kernel
theorem dX3_fill_5 : decode cX3_fill 5 = .ok (.istore_n 2, 1) := by decide +kernel
theorem dX3_fill_6 : decode cX3_fill 6 = .ok (.iload_n 2, 1) := by decide +kernel
theorem dX3_fill_7 : decode cX3_fill 7 = .ok (.bipush 12, 2) := by decide +kernel
theorem dX3_fill_9 : decode cX3_fill 9 = .ok (.if_icmp .ge 16, 3) := by decide +kernel
theorem dX3_fill_12 : decode cX3_fill 12 = .ok (.aload_n 0, 1) := by decide +kernel
theorem dX3_fill_13 : decode cX3_fill 13 = .ok (.getfield 9, 3) := by decide +kernel
theorem dX3_fill_16 : decode cX3_fill 16 = .ok (.iload_n 2, 1) := by decide +kernel
theorem dX3_fill_17 : decode cX3_fill 17 = .ok (.iload_n 1, 1) := by decide +kernel
theorem dX3_fill_18 : decode cX3_fill 18 = .ok (.iastore, 1) := by decide +kernel
theorem dX3_fill_19 : decode cX3_fill 19 = .ok (.iinc 2 1, 3) := by decide +kernel
theorem dX3_fill_22 : decode cX3_fill 22 = .ok (.goto (-16), 3) := by decide +kernel
theorem dX3_fill_25 : decode cX3_fill 25 = .ok (.aload_n 0, 1) := by decide +kernel
theorem dX3_fill_26 : decode cX3_fill 26 = .ok (.getfield 18, 3) := by decide +kernel
theorem dX3_fill_29 : decode cX3_fill 29 = .ok (.iconst 0, 1) := by decide +kernel
theorem dX3_fill_30 : decode cX3_fill 30 = .ok (.iconst 0, 1) := by decide +kernel
theorem dX3_fill_31 : decode cX3_fill 31 = .ok (.iastore, 1) := by decide +kernel
theorem dX3_fill_32 : decode cX3_fill 32 = .ok (.aload_n 0, 1) := by decide +kernel
theorem dX3_fill_33 : decode cX3_fill 33 = .ok (.getfield 18, 3) := by decide +kernel
theorem dX3_fill_36 : decode cX3_fill 36 = .ok (.iconst 1, 1) := by decide +kernel
theorem dX3_fill_37 : decode cX3_fill 37 = .ok (.iconst 0, 1) := by decide +kernel
theorem dX3_fill_38 : decode cX3_fill 38 = .ok (.iastore, 1) := by decide +kernel
theorem dX3_fill_39 : decode cX3_fill 39 = .ok (.aload_n 0, 1) := by decide +kernel
theorem dX3_fill_40 : decode cX3_fill 40 = .ok (.iconst 0, 1) := by decide +kernel
theorem dX3_fill_41 : decode cX3_fill 41 = .ok (.putfield 27, 3) := by decide +kernel
theorem dX3_fill_44 : decode cX3_fill 44 = .ok (.return_, 1) := by decide +kernel
theorem dX3_fillFrom_0 : decode cX3_fillFrom 0 = .ok (.aload_n 0, 1) := by decide +kernel
theorem dX3_fillFrom_1 : decode cX3_fillFrom 1 = .ok (.invokevirtual 38, 3) := by decide +kernel
theorem dX3_fillFrom_4 : decode cX3_fillFrom 4 = .ok (.iconst 0, 1) := by decide +kernel
theorem dX3_fillFrom_5 : decode cX3_fillFrom 5 = .ok (.istore_n 2, 1) := by decide +kernel
theorem dX3_fillFrom_6 : decode cX3_fillFrom 6 = .ok (.iload_n 2, 1) := by decide +kernel
theorem dX3_fillFrom_7 : decode cX3_fillFrom 7 = .ok (.bipush 12, 2) := by decide +kernel
theorem dX3_fillFrom_9 : decode cX3_fillFrom 9 = .ok (.if_icmp .ge 18, 3) := by decide +kernel
theorem dX3_fillFrom_12 : decode cX3_fillFrom 12 = .ok (.aload_n 0, 1) := by decide +kernel
theorem dX3_fillFrom_13 : decode cX3_fillFrom 13 = .ok (.getfield 9, 3) := by decide +kernel
theorem dX3_fillFrom_16 : decode cX3_fillFrom 16 = .ok (.iload_n 2, 1) := by decide +kernel
theorem dX3_fillFrom_17 : decode cX3_fillFrom 17 = .ok (.aload_n 1, 1) := by decide +kernel
theorem dX3_fillFrom_18 : decode cX3_fillFrom 18 = .ok (.iload_n 2, 1) := by decide +kernel
theorem dX3_fillFrom_19 : decode cX3_fillFrom 19 = .ok (.iaload, 1) := by decide +kernel
theorem dX3_fillFrom_20 : decode cX3_fillFrom 20 = .ok (.iastore, 1) := by decide +kernel
theorem dX3_fillFrom_21 : decode cX3_fillFrom 21 = .ok (.iinc 2 1, 3) := by decide +kernel
theorem dX3_fillFrom_24 : decode cX3_fillFrom 24 = .ok (.goto (-18), 3) := by decide +kernel
theorem dX3_fillFrom_27 : decode cX3_fillFrom 27 = .ok (.aload_n 0, 1) := by decide +kernel
theorem dX3_fillFrom_28 : decode cX3_fillFrom 28 = .ok (.getfield 18, 3) := by decide +kernel
theorem dX3_fillFrom_31 : decode cX3_fillFrom 31 = .ok (.iconst 0, 1) := by decide +kernel
theorem dX3_fillFrom_32 : decode cX3_fillFrom 32 = .ok (.aload_n 1, 1) := by decide +kernel
theorem dX3_fillFrom_33 : decode cX3_fillFrom 33 = .ok (.bipush 12, 2) := by decide +kernel
theorem dX3_fillFrom_35 : decode cX3_fillFrom 35 = .ok (.iaload, 1) := by decide +kernel
theorem dX3_fillFrom_36 : decode cX3_fillFrom 36 = .ok (.iastore, 1) := by decide +kernel
theorem dX3_fillFrom_37 : decode cX3_fillFrom 37 = .ok (.aload_n 0, 1) := by decide +kernel
theorem dX3_fillFrom_38 : decode cX3_fillFrom 38 = .ok (.getfield 18, 3) := by decide +kernel
theorem dX3_fillFrom_41 : decode cX3_fillFrom 41 = .ok (.iconst 1, 1) := by decide +kernel
theorem dX3_fillFrom_42 : decode cX3_fillFrom 42 = .ok (.aload_n 1, 1) := by decide +kernel
theorem dX3_fillFrom_43 : decode cX3_fillFrom 43 = .ok (.bipush 13, 2) := by decide +kernel
theorem dX3_fillFrom_45 : decode cX3_fillFrom 45 = .ok (.iaload, 1) := by decide +kernel
theorem dX3_fillFrom_46 : decode cX3_fillFrom 46 = .ok (.iastore, 1) := by decide +kernel
theorem dX3_fillFrom_47 : decode cX3_fillFrom 47 = .ok (.aload_n 0, 1) := by decide +kernel
theorem dX3_fillFrom_48 : decode cX3_fillFrom 48 = .ok (.aload_n 1, 1) := by decide +kernel
theorem dX3_fillFrom_49 : decode cX3_fillFrom 49 = .ok (.bipush 14, 2) := by decide +kernel
theorem dX3_fillFrom_51 : decode cX3_fillFrom 51 = .ok (.iaload, 1) := by decide +kernel
theorem dX3_fillFrom_52 : decode cX3_fillFrom 52 = .ok (.ifCond .ne 7, 3) := by decide +kernel
theorem dX3_fillFrom_55 : decode cX3_fillFrom 55 = .ok (.iconst 0, 1) := by decide +kernel
theorem dX3_fillFrom_56 : decode cX3_fillFrom 56 = .ok (.goto 4, 3) := by decide +kernel
theorem dX3_fillFrom_59 : decode cX3_fillFrom 59 = .ok (.iconst 1, 1) := by decide +kernel
theorem dX3_fillFrom_60 : decode cX3_fillFrom 60 = .ok (.invokevirtual 41, 3) := by decide +kernel
theorem dX3_fillFrom_63 : decode cX3_fillFrom 63 = .ok (.return_, 1) := by decide +kernel
theorem dX3_startGame_0 : decode cX3_startGame 0 = .ok (.iconst 0, 1) := by decide +kernel
theorem dX3_startGame_1 : decode cX3_startGame 1 = .ok (.istore_n 1, 1) := by decide +kernel
theorem dX3_startGame_2 : decode cX3_startGame 2 = .ok (.iload_n 1, 1) := by decide +kernel
theorem dX3_startGame_3 : decode cX3_startGame 3 = .ok (.bipush 12, 2) := by decide +kernel
theorem dX3_startGame_5 : decode cX3_startGame 5 = .ok (.if_icmp .ge 16, 3) := by decide +kernel
theorem dX3_startGame_8 : decode cX3_startGame 8 = .ok (.aload_n 0, 1) := by decide +kernel
theorem dX3_startGame_9 : decode cX3_startGame 9 = .ok (.getfield 15, 3) := by decide +kernel
theorem dX3_startGame_12 : decode cX3_startGame 12 = .ok (.iload_n 1, 1) := by decide +kernel
theorem dX3_startGame_13 : decode cX3_startGame 13 = .ok (.iconst 0, 1) := by decide +kernel
theorem dX3_startGame_14 : decode cX3_startGame 14 = .ok (.iastore, 1) := by decide +kernel
theorem dX3_startGame_15 : decode cX3_startGame 15 = .ok (.iinc 1 1, 3) := by decide +kernel
theorem dX3_startGame_18 : decode cX3_startGame 18 = .ok (.goto (-16), 3) := by decide +kernel
theorem dX3_startGame_21 : decode cX3_startGame 21 = .ok (.aload_n 0, 1) := by decide +kernel
theorem dX3_startGame_22 : decode cX3_startGame 22 = .ok (.iconst 0, 1) := by decide +kernel
theorem dX3_startGame_23 : decode cX3_startGame 23 = .ok (.putfield 31, 3) := by decide +kernel
theorem dX3_startGame_26 : decode cX3_startGame 26 = .ok (.aload_n 0, 1) := by decide +kernel
theorem dX3_startGame_27 : decode cX3_startGame 27 = .ok (.iconst 0, 1) := by decide +kernel
theorem dX3_startGame_28 : decode cX3_startGame 28 = .ok (.putfield 35, 3) := by decide +kernel
theorem dX3_startGame_31 : decode cX3_startGame 31 = .ok (.return_, 1) := by decide +kernel
theorem dX3_ownerOf_0 : decode cX3_ownerOf 0 = .ok (.iload_n 0, 1) := by decide +kernel
theorem dX3_ownerOf_1 : decode cX3_ownerOf 1 = .ok (.bipush 6, 2) := by decide +kernel
theorem dX3_ownerOf_3 : decode cX3_ownerOf 3 = .ok (.if_icmp .ge 7, 3) := by decide +kernel
theorem dX3_ownerOf_6 : decode cX3_ownerOf 6 = .ok (.iconst 0, 1) := by decide +kernel
theorem dX3_ownerOf_7 : decode cX3_ownerOf 7 = .ok (.goto 4, 3) := by decide +kernel
theorem dX3_ownerOf_10 : decode cX3_ownerOf 10 = .ok (.iconst 1, 1) := by decide +kernel
theorem dX3_ownerOf_11 : decode cX3_ownerOf 11 = .ok (.ireturn, 1) := by decide +kernel
theorem dX3_houseBehind_0 : decode cX3_houseBehind 0 = .ok (.iload_n 0, 1) := by decide +kernel
theorem dX3_houseBehind_1 : decode cX3_houseBehind 1 = .ok (.bipush 11, 2) := by decide +kernel
theorem dX3_houseBehind_3 : decode cX3_houseBehind 3 = .ok (.if_icmp .ne 7, 3) := by decide +kernel
theorem dX3_houseBehind_6 : decode cX3_houseBehind 6 = .ok (.iconst 0, 1) := by decide +kernel
theorem dX3_houseBehind_7 : decode cX3_houseBehind 7 = .ok (.goto 6, 3) := by decide +kernel
theorem dX3_houseBehind_10 : decode cX3_houseBehind 10 = .ok (.iload_n 0, 1) := by decide +kernel
theorem dX3_houseBehind_11 : decode cX3_houseBehind 11 = .ok (.iconst 1, 1) := by decide +kernel
theorem dX3_houseBehind_12 : decode cX3_houseBehind 12 = .ok (.iadd, 1) := by decide +kernel
theorem dX3_houseBehind_13 : decode cX3_houseBehind 13 = .ok (.ireturn, 1) := by decide +kernel
theorem dX3_isHostile_0 : decode cX3_isHostile 0 = .ok (.aload_n 0, 1) := by decide +kernel
theorem dX3_isHostile_1 : decode cX3_isHostile 1 = .ok (.getfield 15, 3) := by decide +kernel
theorem dX3_isHostile_4 : decode cX3_isHostile 4 = .ok (.iload_n 1, 1) := by decide +kernel
theorem dX3_isHostile_5 : decode cX3_isHostile 5 = .ok (.iaload, 1) := by decide +kernel
theorem dX3_isHostile_6 : decode cX3_isHostile 6 = .ok (.aload_n 2, 1) := by decide +kernel
theorem dX3_isHostile_7 : decode cX3_isHostile 7 = .ok (.iconst 1, 1) := by decide +kernel
theorem dX3_isHostile_8 : decode cX3_isHostile 8 = .ok (.iaload, 1) := by decide +kernel
theorem dX3_isHostile_9 : decode cX3_isHostile 9 = .ok (.if_icmp .lt 7, 3) := by decide +kernel
theorem dX3_isHostile_12 : decode cX3_isHostile 12 = .ok (.iconst 1, 1) := by decide +kernel
theorem dX3_isHostile_13 : decode cX3_isHostile 13 = .ok (.goto 4, 3) := by decide +kernel
theorem dX3_isHostile_16 : decode cX3_isHostile 16 = .ok (.iconst 0, 1) := by decide +kernel
theorem dX3_isHostile_17 : decode cX3_isHostile 17 = .ok (.ireturn, 1) := by decide +kernel
theorem dX3_hostileHouses_0 : decode cX3_hostileHouses 0 = .ok (.iconst 0, 1) := by decide +kernel
theorem dX3_hostileHouses_1 : decode cX3_hostileHouses 1 = .ok (.istore_n 2, 1) := by decide +kernel
theorem dX3_hostileHouses_2 : decode cX3_hostileHouses 2 = .ok (.iconst 0, 1) := by decide +kernel
theorem dX3_hostileHouses_3 : decode cX3_hostileHouses 3 = .ok (.istore_n 3, 1) := by decide +kernel
theorem dX3_hostileHouses_4 : decode cX3_hostileHouses 4 = .ok (.iload_n 3, 1) := by decide +kernel
theorem dX3_hostileHouses_5 : decode cX3_hostileHouses 5 = .ok (.bipush 12, 2) := by decide +kernel
theorem dX3_hostileHouses_7 : decode cX3_hostileHouses 7 = .ok (.if_icmp .ge 26, 3) := by decide +kernel
theorem dX3_hostileHouses_10 : decode cX3_hostileHouses 10 = .ok (.iload_n 2, 1) := by decide +kernel
theorem dX3_hostileHouses_11 : decode cX3_hostileHouses 11 = .ok (.aload_n 0, 1) := by decide +kernel
theorem dX3_hostileHouses_12 : decode cX3_hostileHouses 12 = .ok (.iload_n 3, 1) := by decide +kernel
theorem dX3_hostileHouses_13 : decode cX3_hostileHouses 13 = .ok (.aload_n 1, 1) := by decide +kernel
theorem dX3_hostileHouses_14 : decode cX3_hostileHouses 14 = .ok (.invokevirtual 45, 3) := by decide +kernel
theorem dX3_hostileHouses_17 : decode cX3_hostileHouses 17 = .ok (.ifCond .eq 7, 3) := by decide +kernel
theorem dX3_hostileHouses_20 : decode cX3_hostileHouses 20 = .ok (.iconst 1, 1) := by decide +kernel
theorem dX3_hostileHouses_21 : decode cX3_hostileHouses 21 = .ok (.goto 4, 3) := by decide +kernel
theorem dX3_hostileHouses_24 : decode cX3_hostileHouses 24 = .ok (.iconst 0, 1) := by decide +kernel
theorem dX3_hostileHouses_25 : decode cX3_hostileHouses 25 = .ok (.iadd, 1) := by decide +kernel
theorem dX3_hostileHouses_26 : decode cX3_hostileHouses 26 = .ok (.istore_n 2, 1) := by decide +kernel
theorem dX3_hostileHouses_27 : decode cX3_hostileHouses 27 = .ok (.iinc 3 1, 3) := by decide +kernel
theorem dX3_hostileHouses_30 : decode cX3_hostileHouses 30 = .ok (.goto (-26), 3) := by decide +kernel
theorem dX3_hostileHouses_33 : decode cX3_hostileHouses 33 = .ok (.iload_n 2, 1) := by decide +kernel
theorem dX3_hostileHouses_34 : decode cX3_hostileHouses 34 = .ok (.ireturn, 1) := by decide +kernel
theorem dX3_canMoveFrom_0 : decode cX3_canMoveFrom 0 = .ok (.aload_n 0, 1) := by decide +kernel
theorem dX3_canMoveFrom_1 : decode cX3_canMoveFrom 1 = .ok (.getfield 31, 3) := by decide +kernel
theorem dX3_canMoveFrom_4 : decode cX3_canMoveFrom 4 = .ok (.ifCond .ne 27, 3) := by decide +kernel
theorem dX3_canMoveFrom_7 : decode cX3_canMoveFrom 7 = .ok (.iload_n 1, 1) := by decide +kernel
theorem dX3_canMoveFrom_8 : decode cX3_canMoveFrom 8 = .ok (.invokestatic 49, 3) := by decide +kernel
theorem dX3_canMoveFrom_11 : decode cX3_canMoveFrom 11 = .ok (.aload_n 0, 1) := by decide +kernel
theorem dX3_canMoveFrom_12 : decode cX3_canMoveFrom 12 = .ok (.getfield 27, 3) := by decide +kernel
theorem dX3_canMoveFrom_15 : decode cX3_canMoveFrom 15 = .ok (.if_icmp .ne 16, 3) := by decide +kernel
theorem dX3_canMoveFrom_18 : decode cX3_canMoveFrom 18 = .ok (.aload_n 0, 1) := by decide +kernel
theorem dX3_canMoveFrom_19 : decode cX3_canMoveFrom 19 = .ok (.getfield 9, 3) := by decide +kernel
theorem dX3_canMoveFrom_22 : decode cX3_canMoveFrom 22 = .ok (.iload_n 1, 1) := by decide +kernel
theorem dX3_canMoveFrom_23 : decode cX3_canMoveFrom 23 = .ok (.iaload, 1) := by decide +kernel
theorem dX3_canMoveFrom_24 : decode cX3_canMoveFrom 24 = .ok (.ifCond .le 7, 3) := by decide +kernel
theorem dX3_canMoveFrom_27 : decode cX3_canMoveFrom 27 = .ok (.iconst 1, 1) := by decide +kernel
theorem dX3_canMoveFrom_28 : decode cX3_canMoveFrom 28 = .ok (.goto 4, 3) := by decide +kernel
theorem dX3_canMoveFrom_31 : decode cX3_canMoveFrom 31 = .ok (.iconst 0, 1) := by decide +kernel
theorem dX3_canMoveFrom_32 : decode cX3_canMoveFrom 32 = .ok (.ireturn, 1) := by decide +kernel
theorem dX3_seedsInHousesOf_0 : decode cX3_seedsInHousesOf 0 = .ok (.iconst 0, 1) := by decide +kernel
theorem dX3_seedsInHousesOf_1 : decode cX3_seedsInHousesOf 1 = .ok (.istore_n 2, 1) := by decide +kernel
theorem dX3_seedsInHousesOf_2 : decode cX3_seedsInHousesOf 2 = .ok (.iload_n 1, 1) := by decide +kernel
theorem dX3_seedsInHousesOf_3 : decode cX3_seedsInHousesOf 3 = .ok (.bipush 6, 2) := by decide +kernel
theorem dX3_seedsInHousesOf_5 : decode cX3_seedsInHousesOf 5 = .ok (.imul, 1) := by decide +kernel
theorem dX3_seedsInHousesOf_6 : decode cX3_seedsInHousesOf 6 = .ok (.istore_n 3, 1) := by decide +kernel
theorem dX3_seedsInHousesOf_7 : decode cX3_seedsInHousesOf 7 = .ok (.iload_n 3, 1) := by decide +kernel
theorem dX3_seedsInHousesOf_8 : decode cX3_seedsInHousesOf 8 = .ok (.iload_n 1, 1) := by decide +kernel
theorem dX3_seedsInHousesOf_9 : decode cX3_seedsInHousesOf 9 = .ok (.iconst 1, 1) := by decide +kernel
theorem dX3_seedsInHousesOf_10 : decode cX3_seedsInHousesOf 10 = .ok (.iadd, 1) := by decide +kernel
theorem dX3_seedsInHousesOf_11 : decode cX3_seedsInHousesOf 11 = .ok (.bipush 6, 2) := by decide +kernel
theorem dX3_seedsInHousesOf_13 : decode cX3_seedsInHousesOf 13 = .ok (.imul, 1) := by decide +kernel
theorem dX3_seedsInHousesOf_14 : decode cX3_seedsInHousesOf 14 = .ok (.if_icmp .ge 18, 3) := by decide +kernel
theorem dX3_seedsInHousesOf_17 : decode cX3_seedsInHousesOf 17 = .ok (.iload_n 2, 1) := by decide +kernel
theorem dX3_seedsInHousesOf_18 : decode cX3_seedsInHousesOf 18 = .ok (.aload_n 0, 1) := by decide +kernel
theorem dX3_seedsInHousesOf_19 : decode cX3_seedsInHousesOf 19 = .ok (.getfield 9, 3) := by decide +kernel
theorem dX3_seedsInHousesOf_22 : decode cX3_seedsInHousesOf 22 = .ok (.iload_n 3, 1) := by decide +kernel
theorem dX3_seedsInHousesOf_23 : decode cX3_seedsInHousesOf 23 = .ok (.iaload, 1) := by decide +kernel
theorem dX3_seedsInHousesOf_24 : decode cX3_seedsInHousesOf 24 = .ok (.iadd, 1) := by decide +kernel
theorem dX3_seedsInHousesOf_25 : decode cX3_seedsInHousesOf 25 = .ok (.istore_n 2, 1) := by decide +kernel
theorem dX3_seedsInHousesOf_26 : decode cX3_seedsInHousesOf 26 = .ok (.iinc 3 1, 3) := by decide +kernel
theorem dX3_seedsInHousesOf_29 : decode cX3_seedsInHousesOf 29 = .ok (.goto (-22), 3) := by decide +kernel
theorem dX3_seedsInHousesOf_32 : decode cX3_seedsInHousesOf 32 = .ok (.iload_n 2, 1) := by decide +kernel
theorem dX3_seedsInHousesOf_33 : decode cX3_seedsInHousesOf 33 = .ok (.ireturn, 1) := by decide +kernel
theorem dX3_allSeeds_0 : decode cX3_allSeeds 0 = .ok (.aload_n 0, 1) := by decide +kernel
theorem dX3_allSeeds_1 : decode cX3_allSeeds 1 = .ok (.iconst 0, 1) := by decide +kernel
theorem dX3_allSeeds_2 : decode cX3_allSeeds 2 = .ok (.invokevirtual 53, 3) := by decide +kernel
theorem dX3_allSeeds_5 : decode cX3_allSeeds 5 = .ok (.aload_n 0, 1) := by decide +kernel
theorem dX3_allSeeds_6 : decode cX3_allSeeds 6 = .ok (.iconst 1, 1) := by decide +kernel
theorem dX3_allSeeds_7 : decode cX3_allSeeds 7 = .ok (.invokevirtual 53, 3) := by decide +kernel
theorem dX3_allSeeds_10 : decode cX3_allSeeds 10 = .ok (.iadd, 1) := by decide +kernel
theorem dX3_allSeeds_11 : decode cX3_allSeeds 11 = .ok (.aload_n 0, 1) := by decide +kernel
theorem dX3_allSeeds_12 : decode cX3_allSeeds 12 = .ok (.getfield 18, 3) := by decide +kernel
theorem dX3_allSeeds_15 : decode cX3_allSeeds 15 = .ok (.iconst 0, 1) := by decide +kernel
theorem dX3_allSeeds_16 : decode cX3_allSeeds 16 = .ok (.iaload, 1) := by decide +kernel
theorem dX3_allSeeds_17 : decode cX3_allSeeds 17 = .ok (.iadd, 1) := by decide +kernel
theorem dX3_allSeeds_18 : decode cX3_allSeeds 18 = .ok (.aload_n 0, 1) := by decide +kernel
theorem dX3_allSeeds_19 : decode cX3_allSeeds 19 = .ok (.getfield 18, 3) := by decide +kernel
theorem dX3_allSeeds_22 : decode cX3_allSeeds 22 = .ok (.iconst 1, 1) := by decide +kernel
theorem dX3_allSeeds_23 : decode cX3_allSeeds 23 = .ok (.iaload, 1) := by decide +kernel
theorem dX3_allSeeds_24 : decode cX3_allSeeds 24 = .ok (.iadd, 1) := by decide +kernel
theorem dX3_allSeeds_25 : decode cX3_allSeeds 25 = .ok (.ireturn, 1) := by decide +kernel
theorem dX3_winner_0 : decode cX3_winner 0 = .ok (.aload_n 0, 1) := by decide +kernel
theorem dX3_winner_1 : decode cX3_winner 1 = .ok (.getfield 18, 3) := by decide +kernel
theorem dX3_winner_4 : decode cX3_winner 4 = .ok (.iconst 0, 1) := by decide +kernel
theorem dX3_winner_5 : decode cX3_winner 5 = .ok (.iaload, 1) := by decide +kernel
theorem dX3_winner_6 : decode cX3_winner 6 = .ok (.aload_n 0, 1) := by decide +kernel
theorem dX3_winner_7 : decode cX3_winner 7 = .ok (.getfield 18, 3) := by decide +kernel
theorem dX3_winner_10 : decode cX3_winner 10 = .ok (.iconst 1, 1) := by decide +kernel
theorem dX3_winner_11 : decode cX3_winner 11 = .ok (.iaload, 1) := by decide +kernel
theorem dX3_winner_12 : decode cX3_winner 12 = .ok (.if_icmp .ne 5, 3) := by decide +kernel
theorem dX3_winner_15 : decode cX3_winner 15 = .ok (.iconst 2, 1) := by decide +kernel
theorem dX3_winner_16 : decode cX3_winner 16 = .ok (.ireturn, 1) := by decide +kernel
theorem dX3_winner_17 : decode cX3_winner 17 = .ok (.aload_n 0, 1) := by decide +kernel
theorem dX3_winner_18 : decode cX3_winner 18 = .ok (.getfield 18, 3) := by decide +kernel
theorem dX3_winner_21 : decode cX3_winner 21 = .ok (.iconst 0, 1) := by decide +kernel
theorem dX3_winner_22 : decode cX3_winner 22 = .ok (.iaload, 1) := by decide +kernel
theorem dX3_winner_23 : decode cX3_winner 23 = .ok (.aload_n 0, 1) := by decide +kernel
theorem dX3_winner_24 : decode cX3_winner 24 = .ok (.getfield 18, 3) := by decide +kernel
theorem dX3_winner_27 : decode cX3_winner 27 = .ok (.iconst 1, 1) := by decide +kernel
theorem dX3_winner_28 : decode cX3_winner 28 = .ok (.iaload, 1) := by decide +kernel
theorem dX3_winner_29 : decode cX3_winner 29 = .ok (.if_icmp .le 7, 3) := by decide +kernel
theorem dX3_winner_32 : decode cX3_winner 32 = .ok (.iconst 0, 1) := by decide +kernel
theorem dX3_winner_33 : decode cX3_winner 33 = .ok (.goto 4, 3) := by decide +kernel
theorem dX3_winner_36 : decode cX3_winner 36 = .ok (.iconst 1, 1) := by decide +kernel
theorem dX3_winner_37 : decode cX3_winner 37 = .ok (.ireturn, 1) := by decide +kernel
theorem dX3_lead_0 : decode cX3_lead 0 = .ok (.aload_n 0, 1) := by decide +kernel
theorem dX3_lead_1 : decode cX3_lead 1 = .ok (.getfield 18, 3) := by decide +kernel
theorem dX3_lead_4 : decode cX3_lead 4 = .ok (.aload_n 0, 1) := by decide +kernel
theorem dX3_lead_5 : decode cX3_lead 5 = .ok (.getfield 27, 3) := by decide +kernel
theorem dX3_lead_8 : decode cX3_lead 8 = .ok (.iaload, 1) := by decide +kernel
theorem dX3_lead_9 : decode cX3_lead 9 = .ok (.aload_n 0, 1) := by decide +kernel
theorem dX3_lead_10 : decode cX3_lead 10 = .ok (.getfield 18, 3) := by decide +kernel
theorem dX3_lead_13 : decode cX3_lead 13 = .ok (.iconst 1, 1) := by decide +kernel
theorem dX3_lead_14 : decode cX3_lead 14 = .ok (.aload_n 0, 1) := by decide +kernel
theorem dX3_lead_15 : decode cX3_lead 15 = .ok (.getfield 27, 3) := by decide +kernel
theorem dX3_lead_18 : decode cX3_lead 18 = .ok (.isub, 1) := by decide +kernel
theorem dX3_lead_19 : decode cX3_lead 19 = .ok (.iaload, 1) := by decide +kernel
theorem dX3_lead_20 : decode cX3_lead 20 = .ok (.isub, 1) := by decide +kernel
theorem dX3_lead_21 : decode cX3_lead 21 = .ok (.ireturn, 1) := by decide +kernel
theorem dX3_makeMove_0 : decode cX3_makeMove 0 = .ok (.aload_n 3, 1) := by decide +kernel
theorem dX3_makeMove_1 : decode cX3_makeMove 1 = .ok (.iload_n 1, 1) := by decide +kernel
theorem dX3_makeMove_2 : decode cX3_makeMove 2 = .ok (.invokevirtual 56, 3) := by decide +kernel
theorem dX3_makeMove_5 : decode cX3_makeMove 5 = .ok (.iconst 1, 1) := by decide +kernel
theorem dX3_makeMove_6 : decode cX3_makeMove 6 = .ok (.istore 4, 2) := by decide +kernel
theorem dX3_makeMove_8 : decode cX3_makeMove 8 = .ok (.iconst 0, 1) := by decide +kernel
theorem dX3_makeMove_9 : decode cX3_makeMove 9 = .ok (.istore 5, 2) := by decide +kernel
theorem dX3_makeMove_11 : decode cX3_makeMove 11 = .ok (.iload 4, 2) := by decide +kernel
theorem dX3_makeMove_13 : decode cX3_makeMove 13 = .ok (.ifCond .eq 29, 3) := by decide +kernel
theorem dX3_makeMove_16 : decode cX3_makeMove 16 = .ok (.iload 5, 2) := by decide +kernel
theorem dX3_makeMove_18 : decode cX3_makeMove 18 = .ok (.aload_n 2, 1) := by decide +kernel
theorem dX3_makeMove_19 : decode cX3_makeMove 19 = .ok (.iconst 2, 1) := by decide +kernel
theorem dX3_makeMove_20 : decode cX3_makeMove 20 = .ok (.iaload, 1) := by decide +kernel
theorem dX3_makeMove_21 : decode cX3_makeMove 21 = .ok (.if_icmp .gt 21, 3) := by decide +kernel
theorem dX3_makeMove_24 : decode cX3_makeMove 24 = .ok (.aload_n 0, 1) := by decide +kernel
theorem dX3_makeMove_25 : decode cX3_makeMove 25 = .ok (.aload_n 3, 1) := by decide +kernel
theorem dX3_makeMove_26 : decode cX3_makeMove 26 = .ok (.getfield 61, 3) := by decide +kernel
theorem dX3_makeMove_29 : decode cX3_makeMove 29 = .ok (.aload_n 2, 1) := by decide +kernel
theorem dX3_makeMove_30 : decode cX3_makeMove 30 = .ok (.aload_n 3, 1) := by decide +kernel
theorem dX3_makeMove_31 : decode cX3_makeMove 31 = .ok (.invokevirtual 64, 3) := by decide +kernel
theorem dX3_makeMove_34 : decode cX3_makeMove 34 = .ok (.istore 4, 2) := by decide +kernel
theorem dX3_makeMove_36 : decode cX3_makeMove 36 = .ok (.iinc 5 1, 3) := by decide +kernel
theorem dX3_makeMove_39 : decode cX3_makeMove 39 = .ok (.goto (-28), 3) := by decide +kernel
theorem dX3_makeMove_42 : decode cX3_makeMove 42 = .ok (.aload_n 0, 1) := by decide +kernel
theorem dX3_makeMove_43 : decode cX3_makeMove 43 = .ok (.dup, 1) := by decide +kernel
theorem dX3_makeMove_44 : decode cX3_makeMove 44 = .ok (.getfield 35, 3) := by decide +kernel
theorem dX3_makeMove_47 : decode cX3_makeMove 47 = .ok (.iconst 1, 1) := by decide +kernel
theorem dX3_makeMove_48 : decode cX3_makeMove 48 = .ok (.iadd, 1) := by decide +kernel
theorem dX3_makeMove_49 : decode cX3_makeMove 49 = .ok (.putfield 35, 3) := by decide +kernel
theorem dX3_makeMove_52 : decode cX3_makeMove 52 = .ok (.aload_n 0, 1) := by decide +kernel
theorem dX3_makeMove_53 : decode cX3_makeMove 53 = .ok (.iconst 1, 1) := by decide +kernel
theorem dX3_makeMove_54 : decode cX3_makeMove 54 = .ok (.aload_n 0, 1) := by decide +kernel
theorem dX3_makeMove_55 : decode cX3_makeMove 55 = .ok (.getfield 27, 3) := by decide +kernel
theorem dX3_makeMove_58 : decode cX3_makeMove 58 = .ok (.isub, 1) := by decide +kernel
theorem dX3_makeMove_59 : decode cX3_makeMove 59 = .ok (.invokevirtual 41, 3) := by decide +kernel
theorem dX3_makeMove_62 : decode cX3_makeMove 62 = .ok (.return_, 1) := by decide +kernel
theorem dX3_sowLap_0 : decode cX3_sowLap 0 = .ok (.aload_n 0, 1) := by decide +kernel
theorem dX3_sowLap_1 : decode cX3_sowLap 1 = .ok (.iload_n 1, 1) := by decide +kernel
theorem dX3_sowLap_2 : decode cX3_sowLap 2 = .ok (.aload_n 2, 1) := by decide +kernel
theorem dX3_sowLap_3 : decode cX3_sowLap 3 = .ok (.aload_n 3, 1) := by decide +kernel
theorem dX3_sowLap_4 : decode cX3_sowLap 4 = .ok (.invokevirtual 68, 3) := by decide +kernel
theorem dX3_sowLap_7 : decode cX3_sowLap 7 = .ok (.istore 4, 2) := by decide +kernel
theorem dX3_sowLap_9 : decode cX3_sowLap 9 = .ok (.aload_n 0, 1) := by decide +kernel
theorem dX3_sowLap_10 : decode cX3_sowLap 10 = .ok (.getfield 9, 3) := by decide +kernel
theorem dX3_sowLap_13 : decode cX3_sowLap 13 = .ok (.iload 4, 2) := by decide +kernel
theorem dX3_sowLap_15 : decode cX3_sowLap 15 = .ok (.iaload, 1) := by decide +kernel
theorem dX3_sowLap_16 : decode cX3_sowLap 16 = .ok (.iconst 1, 1) := by decide +kernel
theorem dX3_sowLap_17 : decode cX3_sowLap 17 = .ok (.if_icmp .ne 7, 3) := by decide +kernel
theorem dX3_sowLap_20 : decode cX3_sowLap 20 = .ok (.iconst 1, 1) := by decide +kernel
theorem dX3_sowLap_21 : decode cX3_sowLap 21 = .ok (.goto 4, 3) := by decide +kernel
theorem dX3_sowLap_24 : decode cX3_sowLap 24 = .ok (.iconst 0, 1) := by decide +kernel
theorem dX3_sowLap_25 : decode cX3_sowLap 25 = .ok (.istore 5, 2) := by decide +kernel
theorem dX3_sowLap_27 : decode cX3_sowLap 27 = .ok (.aload_n 0, 1) := by decide +kernel
theorem dX3_sowLap_28 : decode cX3_sowLap 28 = .ok (.iload 4, 2) := by decide +kernel
theorem dX3_sowLap_30 : decode cX3_sowLap 30 = .ok (.aload_n 2, 1) := by decide +kernel
theorem dX3_sowLap_31 : decode cX3_sowLap 31 = .ok (.invokevirtual 45, 3) := by decide +kernel
theorem dX3_sowLap_34 : decode cX3_sowLap 34 = .ok (.istore 6, 2) := by decide +kernel
theorem dX3_sowLap_36 : decode cX3_sowLap 36 = .ok (.aload_n 0, 1) := by decide +kernel
theorem dX3_sowLap_37 : decode cX3_sowLap 37 = .ok (.getfield 15, 3) := by decide +kernel
theorem dX3_sowLap_40 : decode cX3_sowLap 40 = .ok (.iload 4, 2) := by decide +kernel
theorem dX3_sowLap_42 : decode cX3_sowLap 42 = .ok (.dup2, 1) := by decide +kernel
theorem dX3_sowLap_43 : decode cX3_sowLap 43 = .ok (.iaload, 1) := by decide +kernel
theorem dX3_sowLap_44 : decode cX3_sowLap 44 = .ok (.iconst 1, 1) := by decide +kernel
theorem dX3_sowLap_45 : decode cX3_sowLap 45 = .ok (.iadd, 1) := by decide +kernel
theorem dX3_sowLap_46 : decode cX3_sowLap 46 = .ok (.iastore, 1) := by decide +kernel
theorem dX3_sowLap_47 : decode cX3_sowLap 47 = .ok (.aload_n 3, 1) := by decide +kernel
theorem dX3_sowLap_48 : decode cX3_sowLap 48 = .ok (.dup, 1) := by decide +kernel
theorem dX3_sowLap_49 : decode cX3_sowLap 49 = .ok (.getfield 72, 3) := by decide +kernel
theorem dX3_sowLap_52 : decode cX3_sowLap 52 = .ok (.iconst 1, 1) := by decide +kernel
theorem dX3_sowLap_53 : decode cX3_sowLap 53 = .ok (.iadd, 1) := by decide +kernel
theorem dX3_sowLap_54 : decode cX3_sowLap 54 = .ok (.putfield 72, 3) := by decide +kernel
theorem dX3_sowLap_57 : decode cX3_sowLap 57 = .ok (.aload_n 3, 1) := by decide +kernel
theorem dX3_sowLap_58 : decode cX3_sowLap 58 = .ok (.iload 4, 2) := by decide +kernel
theorem dX3_sowLap_60 : decode cX3_sowLap 60 = .ok (.putfield 61, 3) := by decide +kernel
theorem dX3_sowLap_63 : decode cX3_sowLap 63 = .ok (.iload 5, 2) := by decide +kernel
theorem dX3_sowLap_65 : decode cX3_sowLap 65 = .ok (.ifCond .eq 22, 3) := by decide +kernel
theorem dX3_sowLap_68 : decode cX3_sowLap 68 = .ok (.iload 4, 2) := by decide +kernel
theorem dX3_sowLap_70 : decode cX3_sowLap 70 = .ok (.invokestatic 49, 3) := by decide +kernel
theorem dX3_sowLap_73 : decode cX3_sowLap 73 = .ok (.aload_n 0, 1) := by decide +kernel
theorem dX3_sowLap_74 : decode cX3_sowLap 74 = .ok (.getfield 27, 3) := by decide +kernel
theorem dX3_sowLap_77 : decode cX3_sowLap 77 = .ok (.if_icmp .ne 10, 3) := by decide +kernel
theorem dX3_sowLap_80 : decode cX3_sowLap 80 = .ok (.aload_n 0, 1) := by decide +kernel
theorem dX3_sowLap_81 : decode cX3_sowLap 81 = .ok (.iload 4, 2) := by decide +kernel
theorem dX3_sowLap_83 : decode cX3_sowLap 83 = .ok (.aload_n 3, 1) := by decide +kernel
theorem dX3_sowLap_84 : decode cX3_sowLap 84 = .ok (.invokevirtual 75, 3) := by decide +kernel
theorem dX3_sowLap_87 : decode cX3_sowLap 87 = .ok (.iload 5, 2) := by decide +kernel
theorem dX3_sowLap_89 : decode cX3_sowLap 89 = .ok (.ifCond .ne 12, 3) := by decide +kernel
theorem dX3_sowLap_92 : decode cX3_sowLap 92 = .ok (.iload 6, 2) := by decide +kernel
theorem dX3_sowLap_94 : decode cX3_sowLap 94 = .ok (.ifCond .ne 7, 3) := by decide +kernel
theorem dX3_sowLap_97 : decode cX3_sowLap 97 = .ok (.iconst 1, 1) := by decide +kernel
theorem dX3_sowLap_98 : decode cX3_sowLap 98 = .ok (.goto 4, 3) := by decide +kernel
theorem dX3_sowLap_101 : decode cX3_sowLap 101 = .ok (.iconst 0, 1) := by decide +kernel
theorem dX3_sowLap_102 : decode cX3_sowLap 102 = .ok (.ireturn, 1) := by decide +kernel
theorem dX3_sowHand_0 : decode cX3_sowHand 0 = .ok (.iconst 0, 1) := by decide +kernel
theorem dX3_sowHand_1 : decode cX3_sowHand 1 = .ok (.aload_n 2, 1) := by decide +kernel
theorem dX3_sowHand_2 : decode cX3_sowHand 2 = .ok (.iconst 3, 1) := by decide +kernel
theorem dX3_sowHand_3 : decode cX3_sowHand 3 = .ok (.iaload, 1) := by decide +kernel
theorem dX3_sowHand_4 : decode cX3_sowHand 4 = .ok (.invokestatic 79, 3) := by decide +kernel
theorem dX3_sowHand_7 : decode cX3_sowHand 7 = .ok (.istore 4, 2) := by decide +kernel
theorem dX3_sowHand_9 : decode cX3_sowHand 9 = .ok (.aload_n 0, 1) := by decide +kernel
theorem dX3_sowHand_10 : decode cX3_sowHand 10 = .ok (.getfield 9, 3) := by decide +kernel
theorem dX3_sowHand_13 : decode cX3_sowHand 13 = .ok (.iload_n 1, 1) := by decide +kernel
theorem dX3_sowHand_14 : decode cX3_sowHand 14 = .ok (.iaload, 1) := by decide +kernel
theorem dX3_sowHand_15 : decode cX3_sowHand 15 = .ok (.istore 5, 2) := by decide +kernel
theorem dX3_sowHand_17 : decode cX3_sowHand 17 = .ok (.aload_n 0, 1) := by decide +kernel
theorem dX3_sowHand_18 : decode cX3_sowHand 18 = .ok (.getfield 9, 3) := by decide +kernel
theorem dX3_sowHand_21 : decode cX3_sowHand 21 = .ok (.iload_n 1, 1) := by decide +kernel
theorem dX3_sowHand_22 : decode cX3_sowHand 22 = .ok (.iconst 0, 1) := by decide +kernel
theorem dX3_sowHand_23 : decode cX3_sowHand 23 = .ok (.iastore, 1) := by decide +kernel
theorem dX3_sowHand_24 : decode cX3_sowHand 24 = .ok (.iload_n 1, 1) := by decide +kernel
theorem dX3_sowHand_25 : decode cX3_sowHand 25 = .ok (.istore 6, 2) := by decide +kernel
theorem dX3_sowHand_27 : decode cX3_sowHand 27 = .ok (.iload 5, 2) := by decide +kernel
theorem dX3_sowHand_29 : decode cX3_sowHand 29 = .ok (.ifCond .le 103, 3) := by decide +kernel
theorem dX3_sowHand_32 : decode cX3_sowHand 32 = .ok (.iload 6, 2) := by decide +kernel
theorem dX3_sowHand_34 : decode cX3_sowHand 34 = .ok (.invokestatic 85, 3) := by decide +kernel
theorem dX3_sowHand_37 : decode cX3_sowHand 37 = .ok (.istore 6, 2) := by decide +kernel
theorem dX3_sowHand_39 : decode cX3_sowHand 39 = .ok (.iload 6, 2) := by decide +kernel
theorem dX3_sowHand_41 : decode cX3_sowHand 41 = .ok (.iload_n 1, 1) := by decide +kernel
theorem dX3_sowHand_42 : decode cX3_sowHand 42 = .ok (.if_icmp .ne 10, 3) := by decide +kernel
theorem dX3_sowHand_45 : decode cX3_sowHand 45 = .ok (.iload 6, 2) := by decide +kernel
theorem dX3_sowHand_47 : decode cX3_sowHand 47 = .ok (.invokestatic 85, 3) := by decide +kernel
theorem dX3_sowHand_50 : decode cX3_sowHand 50 = .ok (.istore 6, 2) := by decide +kernel
theorem dX3_sowHand_52 : decode cX3_sowHand 52 = .ok (.iload 5, 2) := by decide +kernel
theorem dX3_sowHand_54 : decode cX3_sowHand 54 = .ok (.iload 4, 2) := by decide +kernel
theorem dX3_sowHand_56 : decode cX3_sowHand 56 = .ok (.if_icmp .le 59, 3) := by decide +kernel
theorem dX3_sowHand_59 : decode cX3_sowHand 59 = .ok (.iload 6, 2) := by decide +kernel
theorem dX3_sowHand_61 : decode cX3_sowHand 61 = .ok (.invokestatic 49, 3) := by decide +kernel
theorem dX3_sowHand_64 : decode cX3_sowHand 64 = .ok (.aload_n 0, 1) := by decide +kernel
theorem dX3_sowHand_65 : decode cX3_sowHand 65 = .ok (.getfield 27, 3) := by decide +kernel
theorem dX3_sowHand_68 : decode cX3_sowHand 68 = .ok (.if_icmp .eq 47, 3) := by decide +kernel
theorem dX3_sowHand_71 : decode cX3_sowHand 71 = .ok (.aload_n 0, 1) := by decide +kernel
theorem dX3_sowHand_72 : decode cX3_sowHand 72 = .ok (.iload 6, 2) := by decide +kernel
theorem dX3_sowHand_74 : decode cX3_sowHand 74 = .ok (.aload_n 2, 1) := by decide +kernel
theorem dX3_sowHand_75 : decode cX3_sowHand 75 = .ok (.invokevirtual 45, 3) := by decide +kernel
theorem dX3_sowHand_78 : decode cX3_sowHand 78 = .ok (.ifCond .eq 37, 3) := by decide +kernel
theorem dX3_sowHand_81 : decode cX3_sowHand 81 = .ok (.iload 5, 2) := by decide +kernel
theorem dX3_sowHand_83 : decode cX3_sowHand 83 = .ok (.iload 4, 2) := by decide +kernel
theorem dX3_sowHand_85 : decode cX3_sowHand 85 = .ok (.isub, 1) := by decide +kernel
theorem dX3_sowHand_86 : decode cX3_sowHand 86 = .ok (.istore 5, 2) := by decide +kernel
theorem dX3_sowHand_88 : decode cX3_sowHand 88 = .ok (.aload_n 0, 1) := by decide +kernel
theorem dX3_sowHand_89 : decode cX3_sowHand 89 = .ok (.getfield 18, 3) := by decide +kernel
theorem dX3_sowHand_92 : decode cX3_sowHand 92 = .ok (.iconst 1, 1) := by decide +kernel
theorem dX3_sowHand_93 : decode cX3_sowHand 93 = .ok (.aload_n 0, 1) := by decide +kernel
theorem dX3_sowHand_94 : decode cX3_sowHand 94 = .ok (.getfield 27, 3) := by decide +kernel
theorem dX3_sowHand_97 : decode cX3_sowHand 97 = .ok (.isub, 1) := by decide +kernel
theorem dX3_sowHand_98 : decode cX3_sowHand 98 = .ok (.dup2, 1) := by decide +kernel
theorem dX3_sowHand_99 : decode cX3_sowHand 99 = .ok (.iaload, 1) := by decide +kernel
theorem dX3_sowHand_100 : decode cX3_sowHand 100 = .ok (.iload 4, 2) := by decide +kernel
theorem dX3_sowHand_102 : decode cX3_sowHand 102 = .ok (.iadd, 1) := by decide +kernel
theorem dX3_sowHand_103 : decode cX3_sowHand 103 = .ok (.iastore, 1) := by decide +kernel
theorem dX3_sowHand_104 : decode cX3_sowHand 104 = .ok (.aload_n 3, 1) := by decide +kernel
theorem dX3_sowHand_105 : decode cX3_sowHand 105 = .ok (.dup, 1) := by decide +kernel
theorem dX3_sowHand_106 : decode cX3_sowHand 106 = .ok (.getfield 88, 3) := by decide +kernel
theorem dX3_sowHand_109 : decode cX3_sowHand 109 = .ok (.iload 4, 2) := by decide +kernel
theorem dX3_sowHand_111 : decode cX3_sowHand 111 = .ok (.iadd, 1) := by decide +kernel
theorem dX3_sowHand_112 : decode cX3_sowHand 112 = .ok (.putfield 88, 3) := by decide +kernel
theorem dX3_sowHand_115 : decode cX3_sowHand 115 = .ok (.aload_n 0, 1) := by decide +kernel
theorem dX3_sowHand_116 : decode cX3_sowHand 116 = .ok (.getfield 9, 3) := by decide +kernel
theorem dX3_sowHand_119 : decode cX3_sowHand 119 = .ok (.iload 6, 2) := by decide +kernel
theorem dX3_sowHand_121 : decode cX3_sowHand 121 = .ok (.dup2, 1) := by decide +kernel
theorem dX3_sowHand_122 : decode cX3_sowHand 122 = .ok (.iaload, 1) := by decide +kernel
theorem dX3_sowHand_123 : decode cX3_sowHand 123 = .ok (.iconst 1, 1) := by decide +kernel
theorem dX3_sowHand_124 : decode cX3_sowHand 124 = .ok (.iadd, 1) := by decide +kernel
theorem dX3_sowHand_125 : decode cX3_sowHand 125 = .ok (.iastore, 1) := by decide +kernel
theorem dX3_sowHand_126 : decode cX3_sowHand 126 = .ok (.iinc 5 (-1), 3) := by decide +kernel
theorem dX3_sowHand_129 : decode cX3_sowHand 129 = .ok (.goto (-102), 3) := by decide +kernel
theorem dX3_sowHand_132 : decode cX3_sowHand 132 = .ok (.iload 6, 2) := by decide +kernel
theorem dX3_sowHand_134 : decode cX3_sowHand 134 = .ok (.ireturn, 1) := by decide +kernel
theorem dX3_captureAcross_0 : decode cX3_captureAcross 0 = .ok (.bipush 11, 2) := by decide +kernel
theorem dX3_captureAcross_2 : decode cX3_captureAcross 2 = .ok (.iload_n 1, 1) := by decide +kernel
theorem dX3_captureAcross_3 : decode cX3_captureAcross 3 = .ok (.isub, 1) := by decide +kernel
theorem dX3_captureAcross_4 : decode cX3_captureAcross 4 = .ok (.istore_n 3, 1) := by decide +kernel
theorem dX3_captureAcross_5 : decode cX3_captureAcross 5 = .ok (.aload_n 0, 1) := by decide +kernel
theorem dX3_captureAcross_6 : decode cX3_captureAcross 6 = .ok (.getfield 9, 3) := by decide +kernel
theorem dX3_captureAcross_9 : decode cX3_captureAcross 9 = .ok (.iload_n 3, 1) := by decide +kernel
theorem dX3_captureAcross_10 : decode cX3_captureAcross 10 = .ok (.iaload, 1) := by decide +kernel
theorem dX3_captureAcross_11 : decode cX3_captureAcross 11 = .ok (.ifCond .ne 4, 3) := by decide +kernel
theorem dX3_captureAcross_14 : decode cX3_captureAcross 14 = .ok (.return_, 1) := by decide +kernel
theorem dX3_captureAcross_15 : decode cX3_captureAcross 15 = .ok (.aload_n 0, 1) := by decide +kernel
theorem dX3_captureAcross_16 : decode cX3_captureAcross 16 = .ok (.getfield 9, 3) := by decide +kernel
theorem dX3_captureAcross_19 : decode cX3_captureAcross 19 = .ok (.iload_n 1, 1) := by decide +kernel
theorem dX3_captureAcross_20 : decode cX3_captureAcross 20 = .ok (.iaload, 1) := by decide +kernel
theorem dX3_captureAcross_21 : decode cX3_captureAcross 21 = .ok (.aload_n 0, 1) := by decide +kernel
theorem dX3_captureAcross_22 : decode cX3_captureAcross 22 = .ok (.getfield 9, 3) := by decide +kernel
theorem dX3_captureAcross_25 : decode cX3_captureAcross 25 = .ok (.iload_n 3, 1) := by decide +kernel
theorem dX3_captureAcross_26 : decode cX3_captureAcross 26 = .ok (.iaload, 1) := by decide +kernel
theorem dX3_captureAcross_27 : decode cX3_captureAcross 27 = .ok (.iadd, 1) := by decide +kernel
theorem dX3_captureAcross_28 : decode cX3_captureAcross 28 = .ok (.istore 4, 2) := by decide +kernel
theorem dX3_captureAcross_30 : decode cX3_captureAcross 30 = .ok (.aload_n 0, 1) := by decide +kernel
theorem dX3_captureAcross_31 : decode cX3_captureAcross 31 = .ok (.getfield 9, 3) := by decide +kernel
theorem dX3_captureAcross_34 : decode cX3_captureAcross 34 = .ok (.iload_n 1, 1) := by decide +kernel
theorem dX3_captureAcross_35 : decode cX3_captureAcross 35 = .ok (.iconst 0, 1) := by decide +kernel
theorem dX3_captureAcross_36 : decode cX3_captureAcross 36 = .ok (.iastore, 1) := by decide +kernel
theorem dX3_captureAcross_37 : decode cX3_captureAcross 37 = .ok (.aload_n 0, 1) := by decide +kernel
theorem dX3_captureAcross_38 : decode cX3_captureAcross 38 = .ok (.getfield 9, 3) := by decide +kernel
theorem dX3_captureAcross_41 : decode cX3_captureAcross 41 = .ok (.iload_n 3, 1) := by decide +kernel
theorem dX3_captureAcross_42 : decode cX3_captureAcross 42 = .ok (.iconst 0, 1) := by decide +kernel
theorem dX3_captureAcross_43 : decode cX3_captureAcross 43 = .ok (.iastore, 1) := by decide +kernel
theorem dX3_captureAcross_44 : decode cX3_captureAcross 44 = .ok (.aload_n 0, 1) := by decide +kernel
theorem dX3_captureAcross_45 : decode cX3_captureAcross 45 = .ok (.getfield 15, 3) := by decide +kernel
theorem dX3_captureAcross_48 : decode cX3_captureAcross 48 = .ok (.iload_n 3, 1) := by decide +kernel
theorem dX3_captureAcross_49 : decode cX3_captureAcross 49 = .ok (.iconst 0, 1) := by decide +kernel
theorem dX3_captureAcross_50 : decode cX3_captureAcross 50 = .ok (.iastore, 1) := by decide +kernel
theorem dX3_captureAcross_51 : decode cX3_captureAcross 51 = .ok (.aload_n 0, 1) := by decide +kernel
theorem dX3_captureAcross_52 : decode cX3_captureAcross 52 = .ok (.getfield 18, 3) := by decide +kernel
theorem dX3_captureAcross_55 : decode cX3_captureAcross 55 = .ok (.aload_n 0, 1) := by decide +kernel
theorem dX3_captureAcross_56 : decode cX3_captureAcross 56 = .ok (.getfield 27, 3) := by decide +kernel
theorem dX3_captureAcross_59 : decode cX3_captureAcross 59 = .ok (.dup2, 1) := by decide +kernel
theorem dX3_captureAcross_60 : decode cX3_captureAcross 60 = .ok (.iaload, 1) := by decide +kernel
theorem dX3_captureAcross_61 : decode cX3_captureAcross 61 = .ok (.iload 4, 2) := by decide +kernel
theorem dX3_captureAcross_63 : decode cX3_captureAcross 63 = .ok (.iadd, 1) := by decide +kernel
theorem dX3_captureAcross_64 : decode cX3_captureAcross 64 = .ok (.iastore, 1) := by decide +kernel
theorem dX3_captureAcross_65 : decode cX3_captureAcross 65 = .ok (.aload_n 2, 1) := by decide +kernel
theorem dX3_captureAcross_66 : decode cX3_captureAcross 66 = .ok (.dup, 1) := by decide +kernel
theorem dX3_captureAcross_67 : decode cX3_captureAcross 67 = .ok (.getfield 91, 3) := by decide +kernel
theorem dX3_captureAcross_70 : decode cX3_captureAcross 70 = .ok (.iload 4, 2) := by decide +kernel
theorem dX3_captureAcross_72 : decode cX3_captureAcross 72 = .ok (.iadd, 1) := by decide +kernel
theorem dX3_captureAcross_73 : decode cX3_captureAcross 73 = .ok (.putfield 91, 3) := by decide +kernel
theorem dX3_captureAcross_76 : decode cX3_captureAcross 76 = .ok (.return_, 1) := by decide +kernel
theorem dX3_giveTurnTo_0 : decode cX3_giveTurnTo 0 = .ok (.aload_n 0, 1) := by decide +kernel
theorem dX3_giveTurnTo_1 : decode cX3_giveTurnTo 1 = .ok (.iload_n 1, 1) := by decide +kernel
theorem dX3_giveTurnTo_2 : decode cX3_giveTurnTo 2 = .ok (.putfield 27, 3) := by decide +kernel
theorem dX3_giveTurnTo_5 : decode cX3_giveTurnTo 5 = .ok (.aload_n 0, 1) := by decide +kernel
theorem dX3_giveTurnTo_6 : decode cX3_giveTurnTo 6 = .ok (.invokevirtual 94, 3) := by decide +kernel
theorem dX3_giveTurnTo_9 : decode cX3_giveTurnTo 9 = .ok (.ifCond .eq 60, 3) := by decide +kernel
theorem dX3_giveTurnTo_12 : decode cX3_giveTurnTo 12 = .ok (.aload_n 0, 1) := by decide +kernel
theorem dX3_giveTurnTo_13 : decode cX3_giveTurnTo 13 = .ok (.getfield 18, 3) := by decide +kernel
theorem dX3_giveTurnTo_16 : decode cX3_giveTurnTo 16 = .ok (.iconst 0, 1) := by decide +kernel
theorem dX3_giveTurnTo_17 : decode cX3_giveTurnTo 17 = .ok (.dup2, 1) := by decide +kernel
theorem dX3_giveTurnTo_18 : decode cX3_giveTurnTo 18 = .ok (.iaload, 1) := by decide +kernel
theorem dX3_giveTurnTo_19 : decode cX3_giveTurnTo 19 = .ok (.aload_n 0, 1) := by decide +kernel
theorem dX3_giveTurnTo_20 : decode cX3_giveTurnTo 20 = .ok (.iconst 0, 1) := by decide +kernel
theorem dX3_giveTurnTo_21 : decode cX3_giveTurnTo 21 = .ok (.invokevirtual 53, 3) := by decide +kernel
theorem dX3_giveTurnTo_24 : decode cX3_giveTurnTo 24 = .ok (.iadd, 1) := by decide +kernel
theorem dX3_giveTurnTo_25 : decode cX3_giveTurnTo 25 = .ok (.iastore, 1) := by decide +kernel
theorem dX3_giveTurnTo_26 : decode cX3_giveTurnTo 26 = .ok (.aload_n 0, 1) := by decide +kernel
theorem dX3_giveTurnTo_27 : decode cX3_giveTurnTo 27 = .ok (.getfield 18, 3) := by decide +kernel
theorem dX3_giveTurnTo_30 : decode cX3_giveTurnTo 30 = .ok (.iconst 1, 1) := by decide +kernel
theorem dX3_giveTurnTo_31 : decode cX3_giveTurnTo 31 = .ok (.dup2, 1) := by decide +kernel
theorem dX3_giveTurnTo_32 : decode cX3_giveTurnTo 32 = .ok (.iaload, 1) := by decide +kernel
theorem dX3_giveTurnTo_33 : decode cX3_giveTurnTo 33 = .ok (.aload_n 0, 1) := by decide +kernel
theorem dX3_giveTurnTo_34 : decode cX3_giveTurnTo 34 = .ok (.iconst 1, 1) := by decide +kernel
theorem dX3_giveTurnTo_35 : decode cX3_giveTurnTo 35 = .ok (.invokevirtual 53, 3) := by decide +kernel
theorem dX3_giveTurnTo_38 : decode cX3_giveTurnTo 38 = .ok (.iadd, 1) := by decide +kernel
theorem dX3_giveTurnTo_39 : decode cX3_giveTurnTo 39 = .ok (.iastore, 1) := by decide +kernel
theorem dX3_giveTurnTo_40 : decode cX3_giveTurnTo 40 = .ok (.iconst 0, 1) := by decide +kernel
theorem dX3_giveTurnTo_41 : decode cX3_giveTurnTo 41 = .ok (.istore_n 2, 1) := by decide +kernel
theorem dX3_giveTurnTo_42 : decode cX3_giveTurnTo 42 = .ok (.iload_n 2, 1) := by decide +kernel
theorem dX3_giveTurnTo_43 : decode cX3_giveTurnTo 43 = .ok (.bipush 12, 2) := by decide +kernel
theorem dX3_giveTurnTo_45 : decode cX3_giveTurnTo 45 = .ok (.if_icmp .ge 16, 3) := by decide +kernel
theorem dX3_giveTurnTo_48 : decode cX3_giveTurnTo 48 = .ok (.aload_n 0, 1) := by decide +kernel
theorem dX3_giveTurnTo_49 : decode cX3_giveTurnTo 49 = .ok (.getfield 9, 3) := by decide +kernel
theorem dX3_giveTurnTo_52 : decode cX3_giveTurnTo 52 = .ok (.iload_n 2, 1) := by decide +kernel
theorem dX3_giveTurnTo_53 : decode cX3_giveTurnTo 53 = .ok (.iconst 0, 1) := by decide +kernel
theorem dX3_giveTurnTo_54 : decode cX3_giveTurnTo 54 = .ok (.iastore, 1) := by decide +kernel
theorem dX3_giveTurnTo_55 : decode cX3_giveTurnTo 55 = .ok (.iinc 2 1, 3) := by decide +kernel
theorem dX3_giveTurnTo_58 : decode cX3_giveTurnTo 58 = .ok (.goto (-16), 3) := by decide +kernel
theorem dX3_giveTurnTo_61 : decode cX3_giveTurnTo 61 = .ok (.aload_n 0, 1) := by decide +kernel
theorem dX3_giveTurnTo_62 : decode cX3_giveTurnTo 62 = .ok (.iconst 1, 1) := by decide +kernel
theorem dX3_giveTurnTo_63 : decode cX3_giveTurnTo 63 = .ok (.putfield 31, 3) := by decide +kernel
theorem dX3_giveTurnTo_66 : decode cX3_giveTurnTo 66 = .ok (.goto 18, 3) := by decide +kernel
theorem dX3_giveTurnTo_69 : decode cX3_giveTurnTo 69 = .ok (.aload_n 0, 1) := by decide +kernel
theorem dX3_giveTurnTo_70 : decode cX3_giveTurnTo 70 = .ok (.iload_n 1, 1) := by decide +kernel
theorem dX3_giveTurnTo_71 : decode cX3_giveTurnTo 71 = .ok (.invokevirtual 53, 3) := by decide +kernel
theorem dX3_giveTurnTo_74 : decode cX3_giveTurnTo 74 = .ok (.ifCond .ne 10, 3) := by decide +kernel
theorem dX3_giveTurnTo_77 : decode cX3_giveTurnTo 77 = .ok (.aload_n 0, 1) := by decide +kernel
theorem dX3_giveTurnTo_78 : decode cX3_giveTurnTo 78 = .ok (.iconst 1, 1) := by decide +kernel
theorem dX3_giveTurnTo_79 : decode cX3_giveTurnTo 79 = .ok (.iload_n 1, 1) := by decide +kernel
theorem dX3_giveTurnTo_80 : decode cX3_giveTurnTo 80 = .ok (.isub, 1) := by decide +kernel
theorem dX3_giveTurnTo_81 : decode cX3_giveTurnTo 81 = .ok (.putfield 27, 3) := by decide +kernel
theorem dX3_giveTurnTo_84 : decode cX3_giveTurnTo 84 = .ok (.return_, 1) := by decide +kernel
theorem dX3_isDecided_0 : decode cX3_isDecided 0 = .ok (.aload_n 0, 1) := by decide +kernel
theorem dX3_isDecided_1 : decode cX3_isDecided 1 = .ok (.iconst 0, 1) := by decide +kernel
theorem dX3_isDecided_2 : decode cX3_isDecided 2 = .ok (.invokevirtual 53, 3) := by decide +kernel
theorem dX3_isDecided_5 : decode cX3_isDecided 5 = .ok (.aload_n 0, 1) := by decide +kernel
theorem dX3_isDecided_6 : decode cX3_isDecided 6 = .ok (.iconst 1, 1) := by decide +kernel
theorem dX3_isDecided_7 : decode cX3_isDecided 7 = .ok (.invokevirtual 53, 3) := by decide +kernel
theorem dX3_isDecided_10 : decode cX3_isDecided 10 = .ok (.iadd, 1) := by decide +kernel
theorem dX3_isDecided_11 : decode cX3_isDecided 11 = .ok (.istore_n 1, 1) := by decide +kernel
theorem dX3_isDecided_12 : decode cX3_isDecided 12 = .ok (.iload_n 1, 1) := by decide +kernel
theorem dX3_isDecided_13 : decode cX3_isDecided 13 = .ok (.aload_n 0, 1) := by decide +kernel
theorem dX3_isDecided_14 : decode cX3_isDecided 14 = .ok (.getfield 18, 3) := by decide +kernel
theorem dX3_isDecided_17 : decode cX3_isDecided 17 = .ok (.iconst 0, 1) := by decide +kernel
theorem dX3_isDecided_18 : decode cX3_isDecided 18 = .ok (.iaload, 1) := by decide +kernel
theorem dX3_isDecided_19 : decode cX3_isDecided 19 = .ok (.iadd, 1) := by decide +kernel
theorem dX3_isDecided_20 : decode cX3_isDecided 20 = .ok (.aload_n 0, 1) := by decide +kernel
theorem dX3_isDecided_21 : decode cX3_isDecided 21 = .ok (.getfield 18, 3) := by decide +kernel
theorem dX3_isDecided_24 : decode cX3_isDecided 24 = .ok (.iconst 1, 1) := by decide +kernel
theorem dX3_isDecided_25 : decode cX3_isDecided 25 = .ok (.iaload, 1) := by decide +kernel
theorem dX3_isDecided_26 : decode cX3_isDecided 26 = .ok (.iadd, 1) := by decide +kernel
theorem dX3_isDecided_27 : decode cX3_isDecided 27 = .ok (.istore_n 2, 1) := by decide +kernel
theorem dX3_isDecided_28 : decode cX3_isDecided 28 = .ok (.iload_n 1, 1) := by decide +kernel
theorem dX3_isDecided_29 : decode cX3_isDecided 29 = .ok (.ifCond .eq 37, 3) := by decide +kernel
theorem dX3_isDecided_32 : decode cX3_isDecided 32 = .ok (.aload_n 0, 1) := by decide +kernel
theorem dX3_isDecided_33 : decode cX3_isDecided 33 = .ok (.getfield 35, 3) := by decide +kernel
theorem dX3_isDecided_36 : decode cX3_isDecided 36 = .ok (.sipush 300, 3) := by decide +kernel
theorem dX3_isDecided_39 : decode cX3_isDecided 39 = .ok (.if_icmp .ge 27, 3) := by decide +kernel
theorem dX3_isDecided_42 : decode cX3_isDecided 42 = .ok (.iconst 2, 1) := by decide +kernel
theorem dX3_isDecided_43 : decode cX3_isDecided 43 = .ok (.aload_n 0, 1) := by decide +kernel
theorem dX3_isDecided_44 : decode cX3_isDecided 44 = .ok (.getfield 18, 3) := by decide +kernel
theorem dX3_isDecided_47 : decode cX3_isDecided 47 = .ok (.iconst 0, 1) := by decide +kernel
theorem dX3_isDecided_48 : decode cX3_isDecided 48 = .ok (.iaload, 1) := by decide +kernel
theorem dX3_isDecided_49 : decode cX3_isDecided 49 = .ok (.imul, 1) := by decide +kernel
theorem dX3_isDecided_50 : decode cX3_isDecided 50 = .ok (.iload_n 2, 1) := by decide +kernel
theorem dX3_isDecided_51 : decode cX3_isDecided 51 = .ok (.if_icmp .gt 15, 3) := by decide +kernel
theorem dX3_isDecided_54 : decode cX3_isDecided 54 = .ok (.iconst 2, 1) := by decide +kernel
theorem dX3_isDecided_55 : decode cX3_isDecided 55 = .ok (.aload_n 0, 1) := by decide +kernel
theorem dX3_isDecided_56 : decode cX3_isDecided 56 = .ok (.getfield 18, 3) := by decide +kernel
theorem dX3_isDecided_59 : decode cX3_isDecided 59 = .ok (.iconst 1, 1) := by decide +kernel
theorem dX3_isDecided_60 : decode cX3_isDecided 60 = .ok (.iaload, 1) := by decide +kernel
theorem dX3_isDecided_61 : decode cX3_isDecided 61 = .ok (.imul, 1) := by decide +kernel
theorem dX3_isDecided_62 : decode cX3_isDecided 62 = .ok (.iload_n 2, 1) := by decide +kernel
theorem dX3_isDecided_63 : decode cX3_isDecided 63 = .ok (.if_icmp .le 7, 3) := by decide +kernel
theorem dX3_isDecided_66 : decode cX3_isDecided 66 = .ok (.iconst 1, 1) := by decide +kernel
theorem dX3_isDecided_67 : decode cX3_isDecided 67 = .ok (.goto 4, 3) := by decide +kernel
theorem dX3_isDecided_70 : decode cX3_isDecided 70 = .ok (.iconst 0, 1) := by decide +kernel
theorem dX3_isDecided_71 : decode cX3_isDecided 71 = .ok (.ireturn, 1) := by decide +kernel
theorem dX4_init_0 : decode cX4_init 0 = .ok (.aload_n 0, 1) := by decide +kernel
theorem dX4_init_1 : decode cX4_init 1 = .ok (.invokespecial 1, 3) := by decide +kernel
theorem dX4_init_4 : decode cX4_init 4 = .ok (.return_, 1) := by decide +kernel
theorem dX4_clear_0 : decode cX4_clear 0 = .ok (.aload_n 0, 1) := by decide +kernel
theorem dX4_clear_1 : decode cX4_clear 1 = .ok (.iload_n 1, 1) := by decide +kernel
theorem dX4_clear_2 : decode cX4_clear 2 = .ok (.putfield 7, 3) := by decide +kernel
theorem dX4_clear_5 : decode cX4_clear 5 = .ok (.aload_n 0, 1) := by decide +kernel
theorem dX4_clear_6 : decode cX4_clear 6 = .ok (.iconst 0, 1) := by decide +kernel
theorem dX4_clear_7 : decode cX4_clear 7 = .ok (.putfield 13, 3) := by decide +kernel
theorem dX4_clear_10 : decode cX4_clear 10 = .ok (.aload_n 0, 1) := by decide +kernel
theorem dX4_clear_11 : decode cX4_clear 11 = .ok (.iload_n 1, 1) := by decide +kernel
theorem dX4_clear_12 : decode cX4_clear 12 = .ok (.putfield 16, 3) := by decide +kernel
theorem dX4_clear_15 : decode cX4_clear 15 = .ok (.aload_n 0, 1) := by decide +kernel
theorem dX4_clear_16 : decode cX4_clear 16 = .ok (.iconst 0, 1) := by decide +kernel
theorem dX4_clear_17 : decode cX4_clear 17 = .ok (.putfield 19, 3) := by decide +kernel
theorem dX4_clear_20 : decode cX4_clear 20 = .ok (.aload_n 0, 1) := by decide +kernel
theorem dX4_clear_21 : decode cX4_clear 21 = .ok (.iconst 0, 1) := by decide +kernel
theorem dX4_clear_22 : decode cX4_clear 22 = .ok (.putfield 22, 3) := by decide +kernel
theorem dX4_clear_25 : decode cX4_clear 25 = .ok (.return_, 1) := by decide +kernel
theorem dX4_copyFrom_0 : decode cX4_copyFrom 0 = .ok (.aload_n 0, 1) := by decide +kernel
theorem dX4_copyFrom_1 : decode cX4_copyFrom 1 = .ok (.aload_n 1, 1) := by decide +kernel
theorem dX4_copyFrom_2 : decode cX4_copyFrom 2 = .ok (.getfield 7, 3) := by decide +kernel
theorem dX4_copyFrom_5 : decode cX4_copyFrom 5 = .ok (.putfield 7, 3) := by decide +kernel
theorem dX4_copyFrom_8 : decode cX4_copyFrom 8 = .ok (.aload_n 0, 1) := by decide +kernel
theorem dX4_copyFrom_9 : decode cX4_copyFrom 9 = .ok (.aload_n 1, 1) := by decide +kernel
theorem dX4_copyFrom_10 : decode cX4_copyFrom 10 = .ok (.getfield 13, 3) := by decide +kernel
theorem dX4_copyFrom_13 : decode cX4_copyFrom 13 = .ok (.putfield 13, 3) := by decide +kernel
theorem dX4_copyFrom_16 : decode cX4_copyFrom 16 = .ok (.aload_n 0, 1) := by decide +kernel
theorem dX4_copyFrom_17 : decode cX4_copyFrom 17 = .ok (.aload_n 1, 1) := by decide +kernel
theorem dX4_copyFrom_18 : decode cX4_copyFrom 18 = .ok (.getfield 16, 3) := by decide +kernel
theorem dX4_copyFrom_21 : decode cX4_copyFrom 21 = .ok (.putfield 16, 3) := by decide +kernel
theorem dX4_copyFrom_24 : decode cX4_copyFrom 24 = .ok (.aload_n 0, 1) := by decide +kernel
theorem dX4_copyFrom_25 : decode cX4_copyFrom 25 = .ok (.aload_n 1, 1) := by decide +kernel
theorem dX4_copyFrom_26 : decode cX4_copyFrom 26 = .ok (.getfield 19, 3) := by decide +kernel
theorem dX4_copyFrom_29 : decode cX4_copyFrom 29 = .ok (.putfield 19, 3) := by decide +kernel
theorem dX4_copyFrom_32 : decode cX4_copyFrom 32 = .ok (.aload_n 0, 1) := by decide +kernel
theorem dX4_copyFrom_33 : decode cX4_copyFrom 33 = .ok (.aload_n 1, 1) := by decide +kernel
theorem dX4_copyFrom_34 : decode cX4_copyFrom 34 = .ok (.getfield 22, 3) := by decide +kernel
theorem dX4_copyFrom_37 : decode cX4_copyFrom 37 = .ok (.putfield 22, 3) := by decide +kernel
theorem dX4_copyFrom_40 : decode cX4_copyFrom 40 = .ok (.return_, 1) := by decide +kernel
theorem dX5_init_0 : decode cX5_init 0 = .ok (.aload_n 0, 1) := by decide +kernel
theorem dX5_init_1 : decode cX5_init 1 = .ok (.invokespecial 3, 3) := by decide +kernel
theorem dX5_init_4 : decode cX5_init 4 = .ok (.aload_n 0, 1) := by decide +kernel
theorem dX5_init_5 : decode cX5_init 5 = .ok (.new 9, 3) := by decide +kernel
theorem dX5_init_8 : decode cX5_init 8 = .ok (.dup, 1) := by decide +kernel
theorem dX5_init_9 : decode cX5_init 9 = .ok (.invokespecial 11, 3) := by decide +kernel
theorem dX5_init_12 : decode cX5_init 12 = .ok (.putfield 12, 3) := by decide +kernel
theorem dX5_init_15 : decode cX5_init 15 = .ok (.aload_n 0, 1) := by decide +kernel
theorem dX5_init_16 : decode cX5_init 16 = .ok (.getstatic 18, 3) := by decide +kernel
theorem dX5_init_19 : decode cX5_init 19 = .ok (.invokevirtual 22, 3) := by decide +kernel
theorem dX5_init_22 : decode cX5_init 22 = .ok (.checkcast 23, 3) := by decide +kernel
theorem dX5_init_25 : decode cX5_init 25 = .ok (.putfield 27, 3) := by decide +kernel
theorem dX5_init_28 : decode cX5_init 28 = .ok (.aload_n 0, 1) := by decide +kernel
theorem dX5_init_29 : decode cX5_init 29 = .ok (.new 30, 3) := by decide +kernel
theorem dX5_init_32 : decode cX5_init 32 = .ok (.dup, 1) := by decide +kernel
theorem dX5_init_33 : decode cX5_init 33 = .ok (.invokespecial 32, 3) := by decide +kernel
theorem dX5_init_36 : decode cX5_init 36 = .ok (.putfield 33, 3) := by decide +kernel
theorem dX5_init_39 : decode cX5_init 39 = .ok (.aload_n 0, 1) := by decide +kernel
theorem dX5_init_40 : decode cX5_init 40 = .ok (.sipush 300, 3) := by decide +kernel
theorem dX5_init_43 : decode cX5_init 43 = .ok (.newarray .int, 2) := by decide +kernel
theorem dX5_init_45 : decode cX5_init 45 = .ok (.putfield 37, 3) := by decide +kernel
theorem dX5_init_48 : decode cX5_init 48 = .ok (.return_, 1) := by decide +kernel
theorem dX5_copyFrom_0 : decode cX5_copyFrom 0 = .ok (.aload_n 0, 1) := by decide +kernel
theorem dX5_copyFrom_1 : decode cX5_copyFrom 1 = .ok (.getfield 12, 3) := by decide +kernel
theorem dX5_copyFrom_4 : decode cX5_copyFrom 4 = .ok (.aload_n 1, 1) := by decide +kernel
theorem dX5_copyFrom_5 : decode cX5_copyFrom 5 = .ok (.getfield 12, 3) := by decide +kernel
theorem dX5_copyFrom_8 : decode cX5_copyFrom 8 = .ok (.invokevirtual 40, 3) := by decide +kernel
theorem dX5_copyFrom_11 : decode cX5_copyFrom 11 = .ok (.aload_n 1, 1) := by decide +kernel
theorem dX5_copyFrom_12 : decode cX5_copyFrom 12 = .ok (.getfield 27, 3) := by decide +kernel
theorem dX5_copyFrom_15 : decode cX5_copyFrom 15 = .ok (.iconst 0, 1) := by decide +kernel
theorem dX5_copyFrom_16 : decode cX5_copyFrom 16 = .ok (.aload_n 0, 1) := by decide +kernel
theorem dX5_copyFrom_17 : decode cX5_copyFrom 17 = .ok (.getfield 27, 3) := by decide +kernel
theorem dX5_copyFrom_20 : decode cX5_copyFrom 20 = .ok (.iconst 0, 1) := by decide +kernel
theorem dX5_copyFrom_21 : decode cX5_copyFrom 21 = .ok (.iconst 4, 1) := by decide +kernel
theorem dX5_copyFrom_22 : decode cX5_copyFrom 22 = .ok (.invokestatic 44, 3) := by decide +kernel
theorem dX5_copyFrom_25 : decode cX5_copyFrom 25 = .ok (.aload_n 0, 1) := by decide +kernel
theorem dX5_copyFrom_26 : decode cX5_copyFrom 26 = .ok (.getfield 33, 3) := by decide +kernel
theorem dX5_copyFrom_29 : decode cX5_copyFrom 29 = .ok (.aload_n 1, 1) := by decide +kernel
theorem dX5_copyFrom_30 : decode cX5_copyFrom 30 = .ok (.getfield 33, 3) := by decide +kernel
theorem dX5_copyFrom_33 : decode cX5_copyFrom 33 = .ok (.invokevirtual 50, 3) := by decide +kernel
theorem dX5_copyFrom_36 : decode cX5_copyFrom 36 = .ok (.aload_n 1, 1) := by decide +kernel
theorem dX5_copyFrom_37 : decode cX5_copyFrom 37 = .ok (.getfield 37, 3) := by decide +kernel
theorem dX5_copyFrom_40 : decode cX5_copyFrom 40 = .ok (.iconst 0, 1) := by decide +kernel
theorem dX5_copyFrom_41 : decode cX5_copyFrom 41 = .ok (.aload_n 0, 1) := by decide +kernel
theorem dX5_copyFrom_42 : decode cX5_copyFrom 42 = .ok (.getfield 37, 3) := by decide +kernel
theorem dX5_copyFrom_45 : decode cX5_copyFrom 45 = .ok (.iconst 0, 1) := by decide +kernel
theorem dX5_copyFrom_46 : decode cX5_copyFrom 46 = .ok (.sipush 300, 3) := by decide +kernel
theorem dX5_copyFrom_49 : decode cX5_copyFrom 49 = .ok (.invokestatic 44, 3) := by decide +kernel
theorem dX5_copyFrom_52 : decode cX5_copyFrom 52 = .ok (.return_, 1) := by decide +kernel
theorem dX5_makeMove_0 : decode cX5_makeMove 0 = .ok (.aload_n 0, 1) := by decide +kernel
theorem dX5_makeMove_1 : decode cX5_makeMove 1 = .ok (.getfield 12, 3) := by decide +kernel
theorem dX5_makeMove_4 : decode cX5_makeMove 4 = .ok (.getfield 53, 3) := by decide +kernel
theorem dX5_makeMove_7 : decode cX5_makeMove 7 = .ok (.istore_n 2, 1) := by decide +kernel
theorem dX5_makeMove_8 : decode cX5_makeMove 8 = .ok (.iload_n 2, 1) := by decide +kernel
theorem dX5_makeMove_9 : decode cX5_makeMove 9 = .ok (.sipush 300, 3) := by decide +kernel
theorem dX5_makeMove_12 : decode cX5_makeMove 12 = .ok (.if_icmp .ge 10, 3) := by decide +kernel
theorem dX5_makeMove_15 : decode cX5_makeMove 15 = .ok (.aload_n 0, 1) := by decide +kernel
theorem dX5_makeMove_16 : decode cX5_makeMove 16 = .ok (.getfield 37, 3) := by decide +kernel
theorem dX5_makeMove_19 : decode cX5_makeMove 19 = .ok (.iload_n 2, 1) := by decide +kernel
theorem dX5_makeMove_20 : decode cX5_makeMove 20 = .ok (.iload_n 1, 1) := by decide +kernel
theorem dX5_makeMove_21 : decode cX5_makeMove 21 = .ok (.iastore, 1) := by decide +kernel
theorem dX5_makeMove_22 : decode cX5_makeMove 22 = .ok (.aload_n 0, 1) := by decide +kernel
theorem dX5_makeMove_23 : decode cX5_makeMove 23 = .ok (.getfield 12, 3) := by decide +kernel
theorem dX5_makeMove_26 : decode cX5_makeMove 26 = .ok (.iload_n 1, 1) := by decide +kernel
theorem dX5_makeMove_27 : decode cX5_makeMove 27 = .ok (.aload_n 0, 1) := by decide +kernel
theorem dX5_makeMove_28 : decode cX5_makeMove 28 = .ok (.getfield 27, 3) := by decide +kernel
theorem dX5_makeMove_31 : decode cX5_makeMove 31 = .ok (.aload_n 0, 1) := by decide +kernel
theorem dX5_makeMove_32 : decode cX5_makeMove 32 = .ok (.getfield 33, 3) := by decide +kernel
theorem dX5_makeMove_35 : decode cX5_makeMove 35 = .ok (.invokevirtual 57, 3) := by decide +kernel
theorem dX5_makeMove_38 : decode cX5_makeMove 38 = .ok (.return_, 1) := by decide +kernel
theorem dX6_init_0 : decode cX6_init 0 = .ok (.aload_n 0, 1) := by decide +kernel
theorem dX6_init_1 : decode cX6_init 1 = .ok (.invokespecial 3, 3) := by decide +kernel
theorem dX6_init_4 : decode cX6_init 4 = .ok (.aload_n 0, 1) := by decide +kernel
theorem dX6_init_5 : decode cX6_init 5 = .ok (.new 9, 3) := by decide +kernel
theorem dX6_init_8 : decode cX6_init 8 = .ok (.dup, 1) := by decide +kernel
theorem dX6_init_9 : decode cX6_init 9 = .ok (.invokespecial 11, 3) := by decide +kernel
theorem dX6_init_12 : decode cX6_init 12 = .ok (.putfield 12, 3) := by decide +kernel
theorem dX6_init_15 : decode cX6_init 15 = .ok (.aload_n 0, 1) := by decide +kernel
theorem dX6_init_16 : decode cX6_init 16 = .ok (.new 16, 3) := by decide +kernel
theorem dX6_init_19 : decode cX6_init 19 = .ok (.dup, 1) := by decide +kernel
theorem dX6_init_20 : decode cX6_init 20 = .ok (.invokespecial 18, 3) := by decide +kernel
theorem dX6_init_23 : decode cX6_init 23 = .ok (.putfield 19, 3) := by decide +kernel
theorem dX6_init_26 : decode cX6_init 26 = .ok (.aload_n 0, 1) := by decide +kernel
theorem dX6_init_27 : decode cX6_init 27 = .ok (.iconst 2, 1) := by decide +kernel
theorem dX6_init_28 : decode cX6_init 28 = .ok (.anewarray 9, 3) := by decide +kernel
theorem dX6_init_31 : decode cX6_init 31 = .ok (.putfield 23, 3) := by decide +kernel
theorem dX6_init_34 : decode cX6_init 34 = .ok (.aload_n 0, 1) := by decide +kernel
theorem dX6_init_35 : decode cX6_init 35 = .ok (.iconst 2, 1) := by decide +kernel
theorem dX6_init_36 : decode cX6_init 36 = .ok (.newarray .boolean, 2) := by decide +kernel
theorem dX6_init_38 : decode cX6_init 38 = .ok (.putfield 27, 3) := by decide +kernel
theorem dX6_init_41 : decode cX6_init 41 = .ok (.aload_n 0, 1) := by decide +kernel
theorem dX6_init_42 : decode cX6_init 42 = .ok (.new 31, 3) := by decide +kernel
theorem dX6_init_45 : decode cX6_init 45 = .ok (.dup, 1) := by decide +kernel
theorem dX6_init_46 : decode cX6_init 46 = .ok (.invokespecial 33, 3) := by decide +kernel
theorem dX6_init_49 : decode cX6_init 49 = .ok (.putfield 34, 3) := by decide +kernel
theorem dX6_init_52 : decode cX6_init 52 = .ok (.aload_n 0, 1) := by decide +kernel
theorem dX6_init_53 : decode cX6_init 53 = .ok (.new 38, 3) := by decide +kernel
theorem dX6_init_56 : decode cX6_init 56 = .ok (.dup, 1) := by decide +kernel
theorem dX6_init_57 : decode cX6_init 57 = .ok (.invokespecial 40, 3) := by decide +kernel
theorem dX6_init_60 : decode cX6_init 60 = .ok (.putfield 41, 3) := by decide +kernel
theorem dX6_init_63 : decode cX6_init 63 = .ok (.iconst 0, 1) := by decide +kernel
theorem dX6_init_64 : decode cX6_init 64 = .ok (.istore_n 1, 1) := by decide +kernel
theorem dX6_init_65 : decode cX6_init 65 = .ok (.iload_n 1, 1) := by decide +kernel
theorem dX6_init_66 : decode cX6_init 66 = .ok (.iconst 2, 1) := by decide +kernel
theorem dX6_init_67 : decode cX6_init 67 = .ok (.if_icmp .ge 22, 3) := by decide +kernel
theorem dX6_init_70 : decode cX6_init 70 = .ok (.aload_n 0, 1) := by decide +kernel
theorem dX6_init_71 : decode cX6_init 71 = .ok (.getfield 23, 3) := by decide +kernel
theorem dX6_init_74 : decode cX6_init 74 = .ok (.iload_n 1, 1) := by decide +kernel
theorem dX6_init_75 : decode cX6_init 75 = .ok (.new 9, 3) := by decide +kernel
theorem dX6_init_78 : decode cX6_init 78 = .ok (.dup, 1) := by decide +kernel
theorem dX6_init_79 : decode cX6_init 79 = .ok (.invokespecial 11, 3) := by decide +kernel
theorem dX6_init_82 : decode cX6_init 82 = .ok (.aastore, 1) := by decide +kernel
theorem dX6_init_83 : decode cX6_init 83 = .ok (.iinc 1 1, 3) := by decide +kernel
theorem dX6_init_86 : decode cX6_init 86 = .ok (.goto (-21), 3) := by decide +kernel
theorem dX6_init_89 : decode cX6_init 89 = .ok (.aload_n 0, 1) := by decide +kernel
theorem dX6_init_90 : decode cX6_init 90 = .ok (.getfield 12, 3) := by decide +kernel
theorem dX6_init_93 : decode cX6_init 93 = .ok (.getfield 45, 3) := by decide +kernel
theorem dX6_init_96 : decode cX6_init 96 = .ok (.aload_n 0, 1) := by decide +kernel
theorem dX6_init_97 : decode cX6_init 97 = .ok (.getfield 12, 3) := by decide +kernel
theorem dX6_init_100 : decode cX6_init 100 = .ok (.getfield 49, 3) := by decide +kernel
theorem dX6_init_103 : decode cX6_init 103 = .ok (.iconst 0, 1) := by decide +kernel
theorem dX6_init_104 : decode cX6_init 104 = .ok (.iaload, 1) := by decide +kernel
theorem dX6_init_105 : decode cX6_init 105 = .ok (.invokevirtual 53, 3) := by decide +kernel
theorem dX6_init_108 : decode cX6_init 108 = .ok (.return_, 1) := by decide +kernel
theorem dX6_set_0 : decode cX6_set 0 = .ok (.iload_n 1, 1) := by decide +kernel
theorem dX6_set_1 : decode cX6_set 1 = .ok (.ifCond .lt 26, 3) := by decide +kernel
theorem dX6_set_4 : decode cX6_set 4 = .ok (.iload_n 1, 1) := by decide +kernel
theorem dX6_set_5 : decode cX6_set 5 = .ok (.iconst 4, 1) := by decide +kernel
theorem dX6_set_6 : decode cX6_set 6 = .ok (.if_icmp .ge 21, 3) := by decide +kernel
theorem dX6_set_9 : decode cX6_set 9 = .ok (.iload_n 2, 1) := by decide +kernel
theorem dX6_set_10 : decode cX6_set 10 = .ok (.getstatic 59, 3) := by decide +kernel
theorem dX6_set_13 : decode cX6_set 13 = .ok (.iload_n 1, 1) := by decide +kernel
theorem dX6_set_14 : decode cX6_set 14 = .ok (.iaload, 1) := by decide +kernel
theorem dX6_set_15 : decode cX6_set 15 = .ok (.if_icmp .lt 12, 3) := by decide +kernel
theorem dX6_set_18 : decode cX6_set 18 = .ok (.iload_n 2, 1) := by decide +kernel
theorem dX6_set_19 : decode cX6_set 19 = .ok (.getstatic 62, 3) := by decide +kernel
theorem dX6_set_22 : decode cX6_set 22 = .ok (.iload_n 1, 1) := by decide +kernel
theorem dX6_set_23 : decode cX6_set 23 = .ok (.iaload, 1) := by decide +kernel
theorem dX6_set_24 : decode cX6_set 24 = .ok (.if_icmp .le 6, 3) := by decide +kernel
theorem dX6_set_27 : decode cX6_set 27 = .ok (.bipush (-2), 2) := by decide +kernel
theorem dX6_set_29 : decode cX6_set 29 = .ok (.ireturn, 1) := by decide +kernel
theorem dX6_set_30 : decode cX6_set 30 = .ok (.aload_n 0, 1) := by decide +kernel
theorem dX6_set_31 : decode cX6_set 31 = .ok (.getfield 19, 3) := by decide +kernel
theorem dX6_set_34 : decode cX6_set 34 = .ok (.aload_n 0, 1) := by decide +kernel
theorem dX6_set_35 : decode cX6_set 35 = .ok (.getfield 12, 3) := by decide +kernel
theorem dX6_set_38 : decode cX6_set 38 = .ok (.invokevirtual 65, 3) := by decide +kernel
theorem dX6_set_41 : decode cX6_set 41 = .ok (.aload_n 0, 1) := by decide +kernel
theorem dX6_set_42 : decode cX6_set 42 = .ok (.getfield 12, 3) := by decide +kernel
theorem dX6_set_45 : decode cX6_set 45 = .ok (.getfield 49, 3) := by decide +kernel
theorem dX6_set_48 : decode cX6_set 48 = .ok (.iload_n 1, 1) := by decide +kernel
theorem dX6_set_49 : decode cX6_set 49 = .ok (.iaload, 1) := by decide +kernel
theorem dX6_set_50 : decode cX6_set 50 = .ok (.istore_n 3, 1) := by decide +kernel
theorem dX6_set_51 : decode cX6_set 51 = .ok (.aload_n 0, 1) := by decide +kernel
theorem dX6_set_52 : decode cX6_set 52 = .ok (.getfield 12, 3) := by decide +kernel
theorem dX6_set_55 : decode cX6_set 55 = .ok (.getfield 49, 3) := by decide +kernel
theorem dX6_set_58 : decode cX6_set 58 = .ok (.iload_n 1, 1) := by decide +kernel
theorem dX6_set_59 : decode cX6_set 59 = .ok (.iload_n 2, 1) := by decide +kernel
theorem dX6_set_60 : decode cX6_set 60 = .ok (.iastore, 1) := by decide +kernel
theorem dX6_set_61 : decode cX6_set 61 = .ok (.iload_n 3, 1) := by decide +kernel
theorem dX6_set_62 : decode cX6_set 62 = .ok (.ireturn, 1) := by decide +kernel
theorem dX6_move_0 : decode cX6_move 0 = .ok (.aload_n 0, 1) := by decide +kernel
theorem dX6_move_1 : decode cX6_move 1 = .ok (.iload_n 1, 1) := by decide +kernel
theorem dX6_move_2 : decode cX6_move 2 = .ok (.invokevirtual 73, 3) := by decide +kernel
theorem dX6_move_5 : decode cX6_move 5 = .ok (.istore_n 2, 1) := by decide +kernel
theorem dX6_move_6 : decode cX6_move 6 = .ok (.iload_n 2, 1) := by decide +kernel
theorem dX6_move_7 : decode cX6_move 7 = .ok (.ifCond .eq 5, 3) := by decide +kernel
theorem dX6_move_10 : decode cX6_move 10 = .ok (.iload_n 2, 1) := by decide +kernel
theorem dX6_move_11 : decode cX6_move 11 = .ok (.ireturn, 1) := by decide +kernel
theorem dX6_move_12 : decode cX6_move 12 = .ok (.aload_n 0, 1) := by decide +kernel
theorem dX6_move_13 : decode cX6_move 13 = .ok (.getfield 19, 3) := by decide +kernel
theorem dX6_move_16 : decode cX6_move 16 = .ok (.aload_n 0, 1) := by decide +kernel
theorem dX6_move_17 : decode cX6_move 17 = .ok (.getfield 12, 3) := by decide +kernel
theorem dX6_move_20 : decode cX6_move 20 = .ok (.invokevirtual 65, 3) := by decide +kernel
theorem dX6_move_23 : decode cX6_move 23 = .ok (.aload_n 0, 1) := by decide +kernel
theorem dX6_move_24 : decode cX6_move 24 = .ok (.getfield 12, 3) := by decide +kernel
theorem dX6_move_27 : decode cX6_move 27 = .ok (.iload_n 1, 1) := by decide +kernel
theorem dX6_move_28 : decode cX6_move 28 = .ok (.invokevirtual 77, 3) := by decide +kernel
theorem dX6_move_31 : decode cX6_move 31 = .ok (.aload_n 0, 1) := by decide +kernel
theorem dX6_move_32 : decode cX6_move 32 = .ok (.getfield 12, 3) := by decide +kernel
theorem dX6_move_35 : decode cX6_move 35 = .ok (.getfield 80, 3) := by decide +kernel
theorem dX6_move_38 : decode cX6_move 38 = .ok (.getfield 84, 3) := by decide +kernel
theorem dX6_move_41 : decode cX6_move 41 = .ok (.ireturn, 1) := by decide +kernel
theorem dX6_play_0 : decode cX6_play 0 = .ok (.iload_n 1, 1) := by decide +kernel
theorem dX6_play_1 : decode cX6_play 1 = .ok (.iconst 1, 1) := by decide +kernel
theorem dX6_play_2 : decode cX6_play 2 = .ok (.if_icmp .lt 8, 3) := by decide +kernel
theorem dX6_play_5 : decode cX6_play 5 = .ok (.iload_n 1, 1) := by decide +kernel
theorem dX6_play_6 : decode cX6_play 6 = .ok (.iconst 4, 1) := by decide +kernel
theorem dX6_play_7 : decode cX6_play 7 = .ok (.if_icmp .le 6, 3) := by decide +kernel
theorem dX6_play_10 : decode cX6_play 10 = .ok (.bipush (-2), 2) := by decide +kernel
theorem dX6_play_12 : decode cX6_play 12 = .ok (.ireturn, 1) := by decide +kernel
theorem dX6_play_13 : decode cX6_play 13 = .ok (.aload_n 0, 1) := by decide +kernel
theorem dX6_play_14 : decode cX6_play 14 = .ok (.getfield 41, 3) := by decide +kernel
theorem dX6_play_17 : decode cX6_play 17 = .ok (.aload_n 0, 1) := by decide +kernel
theorem dX6_play_18 : decode cX6_play 18 = .ok (.getfield 12, 3) := by decide +kernel
theorem dX6_play_21 : decode cX6_play 21 = .ok (.getfield 45, 3) := by decide +kernel
theorem dX6_play_24 : decode cX6_play 24 = .ok (.aload_n 0, 1) := by decide +kernel
theorem dX6_play_25 : decode cX6_play 25 = .ok (.getfield 12, 3) := by decide +kernel
theorem dX6_play_28 : decode cX6_play 28 = .ok (.getfield 49, 3) := by decide +kernel
theorem dX6_play_31 : decode cX6_play 31 = .ok (.iload_n 1, 1) := by decide +kernel
theorem dX6_play_32 : decode cX6_play 32 = .ok (.invokevirtual 89, 3) := by decide +kernel
theorem dX6_play_35 : decode cX6_play 35 = .ok (.istore_n 2, 1) := by decide +kernel
theorem dX6_play_36 : decode cX6_play 36 = .ok (.iload_n 2, 1) := by decide +kernel
theorem dX6_play_37 : decode cX6_play 37 = .ok (.bipush (-6), 2) := by decide +kernel
theorem dX6_play_39 : decode cX6_play 39 = .ok (.if_icmp .ne 6, 3) := by decide +kernel
theorem dX6_play_42 : decode cX6_play 42 = .ok (.bipush (-5), 2) := by decide +kernel
theorem dX6_play_44 : decode cX6_play 44 = .ok (.ireturn, 1) := by decide +kernel
theorem dX6_play_45 : decode cX6_play 45 = .ok (.aload_n 0, 1) := by decide +kernel
theorem dX6_play_46 : decode cX6_play 46 = .ok (.getfield 19, 3) := by decide +kernel
theorem dX6_play_49 : decode cX6_play 49 = .ok (.aload_n 0, 1) := by decide +kernel
theorem dX6_play_50 : decode cX6_play 50 = .ok (.getfield 12, 3) := by decide +kernel
theorem dX6_play_53 : decode cX6_play 53 = .ok (.invokevirtual 65, 3) := by decide +kernel
theorem dX6_play_56 : decode cX6_play 56 = .ok (.aload_n 0, 1) := by decide +kernel
theorem dX6_play_57 : decode cX6_play 57 = .ok (.getfield 12, 3) := by decide +kernel
theorem dX6_play_60 : decode cX6_play 60 = .ok (.iload_n 2, 1) := by decide +kernel
theorem dX6_play_61 : decode cX6_play 61 = .ok (.invokevirtual 77, 3) := by decide +kernel
theorem dX6_play_64 : decode cX6_play 64 = .ok (.iload_n 2, 1) := by decide +kernel
theorem dX6_play_65 : decode cX6_play 65 = .ok (.ireturn, 1) := by decide +kernel
theorem dX6_read_0 : decode cX6_read 0 = .ok (.aload_n 0, 1) := by decide +kernel
theorem dX6_read_1 : decode cX6_read 1 = .ok (.getfield 34, 3) := by decide +kernel
theorem dX6_read_4 : decode cX6_read 4 = .ok (.invokevirtual 93, 3) := by decide +kernel
theorem dX6_read_7 : decode cX6_read 7 = .ok (.bipush (-6), 2) := by decide +kernel
theorem dX6_read_9 : decode cX6_read 9 = .ok (.if_icmp .eq 6, 3) := by decide +kernel
theorem dX6_read_12 : decode cX6_read 12 = .ok (.bipush (-3), 2) := by decide +kernel
theorem dX6_read_14 : decode cX6_read 14 = .ok (.ireturn, 1) := by decide +kernel
theorem dX6_read_15 : decode cX6_read 15 = .ok (.aload_n 0, 1) := by decide +kernel
theorem dX6_read_16 : decode cX6_read 16 = .ok (.getfield 19, 3) := by decide +kernel
theorem dX6_read_19 : decode cX6_read 19 = .ok (.aload_n 0, 1) := by decide +kernel
theorem dX6_read_20 : decode cX6_read 20 = .ok (.getfield 12, 3) := by decide +kernel
theorem dX6_read_23 : decode cX6_read 23 = .ok (.invokevirtual 65, 3) := by decide +kernel
theorem dX6_read_26 : decode cX6_read 26 = .ok (.aload_n 0, 1) := by decide +kernel
theorem dX6_read_27 : decode cX6_read 27 = .ok (.getfield 12, 3) := by decide +kernel
theorem dX6_read_30 : decode cX6_read 30 = .ok (.getfield 45, 3) := by decide +kernel
theorem dX6_read_33 : decode cX6_read 33 = .ok (.aload_n 0, 1) := by decide +kernel
theorem dX6_read_34 : decode cX6_read 34 = .ok (.getfield 34, 3) := by decide +kernel
theorem dX6_read_37 : decode cX6_read 37 = .ok (.getfield 97, 3) := by decide +kernel
theorem dX6_read_40 : decode cX6_read 40 = .ok (.invokevirtual 100, 3) := by decide +kernel
theorem dX6_read_43 : decode cX6_read 43 = .ok (.aload_n 0, 1) := by decide +kernel
theorem dX6_read_44 : decode cX6_read 44 = .ok (.getfield 34, 3) := by decide +kernel
theorem dX6_read_47 : decode cX6_read 47 = .ok (.iconst 0, 1) := by decide +kernel
theorem dX6_read_48 : decode cX6_read 48 = .ok (.putfield 104, 3) := by decide +kernel
theorem dX6_read_51 : decode cX6_read 51 = .ok (.aload_n 0, 1) := by decide +kernel
theorem dX6_read_52 : decode cX6_read 52 = .ok (.getfield 12, 3) := by decide +kernel
theorem dX6_read_55 : decode cX6_read 55 = .ok (.getfield 45, 3) := by decide +kernel
theorem dX6_read_58 : decode cX6_read 58 = .ok (.invokevirtual 107, 3) := by decide +kernel
theorem dX6_read_61 : decode cX6_read 61 = .ok (.ireturn, 1) := by decide +kernel
theorem dX6_house_0 : decode cX6_house 0 = .ok (.iload_n 1, 1) := by decide +kernel
theorem dX6_house_1 : decode cX6_house 1 = .ok (.invokestatic 110, 3) := by decide +kernel
theorem dX6_house_4 : decode cX6_house 4 = .ok (.ifCond .ne 5, 3) := by decide +kernel
theorem dX6_house_7 : decode cX6_house 7 = .ok (.iconst (-1), 1) := by decide +kernel
theorem dX6_house_8 : decode cX6_house 8 = .ok (.ireturn, 1) := by decide +kernel
theorem dX6_house_9 : decode cX6_house 9 = .ok (.iload_n 2, 1) := by decide +kernel
theorem dX6_house_10 : decode cX6_house 10 = .ok (.tableswitch 79 0 2 #[26, 39, 52], 26) := by decide +kernel
theorem dX6_house_36 : decode cX6_house 36 = .ok (.aload_n 0, 1) := by decide +kernel
theorem dX6_house_37 : decode cX6_house 37 = .ok (.getfield 12, 3) := by decide +kernel
theorem dX6_house_40 : decode cX6_house 40 = .ok (.getfield 45, 3) := by decide +kernel
theorem dX6_house_43 : decode cX6_house 43 = .ok (.getfield 114, 3) := by decide +kernel
theorem dX6_house_46 : decode cX6_house 46 = .ok (.iload_n 1, 1) := by decide +kernel
theorem dX6_house_47 : decode cX6_house 47 = .ok (.iaload, 1) := by decide +kernel
theorem dX6_house_48 : decode cX6_house 48 = .ok (.ireturn, 1) := by decide +kernel
theorem dX6_house_49 : decode cX6_house 49 = .ok (.aload_n 0, 1) := by decide +kernel
theorem dX6_house_50 : decode cX6_house 50 = .ok (.getfield 12, 3) := by decide +kernel
theorem dX6_house_53 : decode cX6_house 53 = .ok (.getfield 45, 3) := by decide +kernel
theorem dX6_house_56 : decode cX6_house 56 = .ok (.getfield 117, 3) := by decide +kernel
theorem dX6_house_59 : decode cX6_house 59 = .ok (.iload_n 1, 1) := by decide +kernel
theorem dX6_house_60 : decode cX6_house 60 = .ok (.iaload, 1) := by decide +kernel
theorem dX6_house_61 : decode cX6_house 61 = .ok (.ireturn, 1) := by decide +kernel
theorem dX6_house_62 : decode cX6_house 62 = .ok (.aload_n 0, 1) := by decide +kernel
theorem dX6_house_63 : decode cX6_house 63 = .ok (.getfield 12, 3) := by decide +kernel
theorem dX6_house_66 : decode cX6_house 66 = .ok (.getfield 45, 3) := by decide +kernel
theorem dX6_house_69 : decode cX6_house 69 = .ok (.iload_n 1, 1) := by decide +kernel
theorem dX6_house_70 : decode cX6_house 70 = .ok (.aload_n 0, 1) := by decide +kernel
theorem dX6_house_71 : decode cX6_house 71 = .ok (.getfield 12, 3) := by decide +kernel
theorem dX6_house_74 : decode cX6_house 74 = .ok (.getfield 49, 3) := by decide +kernel
theorem dX6_house_77 : decode cX6_house 77 = .ok (.invokevirtual 120, 3) := by decide +kernel
theorem dX6_house_80 : decode cX6_house 80 = .ok (.ifCond .eq 7, 3) := by decide +kernel
theorem dX6_house_83 : decode cX6_house 83 = .ok (.iconst 1, 1) := by decide +kernel
theorem dX6_house_84 : decode cX6_house 84 = .ok (.goto 4, 3) := by decide +kernel
theorem dX6_house_87 : decode cX6_house 87 = .ok (.iconst 0, 1) := by decide +kernel
theorem dX6_house_88 : decode cX6_house 88 = .ok (.ireturn, 1) := by decide +kernel
theorem dX6_house_89 : decode cX6_house 89 = .ok (.bipush (-2), 2) := by decide +kernel
theorem dX6_house_91 : decode cX6_house 91 = .ok (.ireturn, 1) := by decide +kernel
theorem dX6_count_0 : decode cX6_count 0 = .ok (.aload_n 0, 1) := by decide +kernel
theorem dX6_count_1 : decode cX6_count 1 = .ok (.getfield 12, 3) := by decide +kernel
theorem dX6_count_4 : decode cX6_count 4 = .ok (.getfield 45, 3) := by decide +kernel
theorem dX6_count_7 : decode cX6_count 7 = .ok (.astore_n 2, 1) := by decide +kernel
theorem dX6_count_8 : decode cX6_count 8 = .ok (.iload_n 1, 1) := by decide +kernel
theorem dX6_count_9 : decode cX6_count 9 = .ok (.tableswitch 198 0 13 #[71, 76, 89, 106, 113, 120, 125, 130, 140, 150, 160, 170, 182, 190], 71) := by decide +kernel
theorem dX6_count_80 : decode cX6_count 80 = .ok (.aload_n 2, 1) := by decide +kernel
theorem dX6_count_81 : decode cX6_count 81 = .ok (.getfield 124, 3) := by decide +kernel
theorem dX6_count_84 : decode cX6_count 84 = .ok (.ireturn, 1) := by decide +kernel
theorem dX6_count_85 : decode cX6_count 85 = .ok (.aload_n 2, 1) := by decide +kernel
theorem dX6_count_86 : decode cX6_count 86 = .ok (.getfield 127, 3) := by decide +kernel
theorem dX6_count_89 : decode cX6_count 89 = .ok (.ifCond .eq 7, 3) := by decide +kernel
theorem dX6_count_92 : decode cX6_count 92 = .ok (.iconst 1, 1) := by decide +kernel
theorem dX6_count_93 : decode cX6_count 93 = .ok (.goto 4, 3) := by decide +kernel
theorem dX6_count_96 : decode cX6_count 96 = .ok (.iconst 0, 1) := by decide +kernel
theorem dX6_count_97 : decode cX6_count 97 = .ok (.ireturn, 1) := by decide +kernel
theorem dX6_count_98 : decode cX6_count 98 = .ok (.aload_n 2, 1) := by decide +kernel
theorem dX6_count_99 : decode cX6_count 99 = .ok (.getfield 127, 3) := by decide +kernel
theorem dX6_count_102 : decode cX6_count 102 = .ok (.ifCond .eq 10, 3) := by decide +kernel
theorem dX6_count_105 : decode cX6_count 105 = .ok (.aload_n 2, 1) := by decide +kernel
theorem dX6_count_106 : decode cX6_count 106 = .ok (.invokevirtual 131, 3) := by decide +kernel
theorem dX6_count_109 : decode cX6_count 109 = .ok (.goto 5, 3) := by decide +kernel
theorem dX6_count_112 : decode cX6_count 112 = .ok (.bipush (-6), 2) := by decide +kernel
theorem dX6_count_114 : decode cX6_count 114 = .ok (.ireturn, 1) := by decide +kernel
theorem dX6_count_115 : decode cX6_count 115 = .ok (.aload_n 2, 1) := by decide +kernel
theorem dX6_count_116 : decode cX6_count 116 = .ok (.getfield 134, 3) := by decide +kernel
theorem dX6_count_119 : decode cX6_count 119 = .ok (.iconst 0, 1) := by decide +kernel
theorem dX6_count_120 : decode cX6_count 120 = .ok (.iaload, 1) := by decide +kernel
theorem dX6_count_121 : decode cX6_count 121 = .ok (.ireturn, 1) := by decide +kernel
theorem dX6_count_122 : decode cX6_count 122 = .ok (.aload_n 2, 1) := by decide +kernel
theorem dX6_count_123 : decode cX6_count 123 = .ok (.getfield 134, 3) := by decide +kernel
theorem dX6_count_126 : decode cX6_count 126 = .ok (.iconst 1, 1) := by decide +kernel
theorem dX6_count_127 : decode cX6_count 127 = .ok (.iaload, 1) := by decide +kernel
theorem dX6_count_128 : decode cX6_count 128 = .ok (.ireturn, 1) := by decide +kernel
theorem dX6_count_129 : decode cX6_count 129 = .ok (.aload_n 2, 1) := by decide +kernel
theorem dX6_count_130 : decode cX6_count 130 = .ok (.invokevirtual 107, 3) := by decide +kernel
theorem dX6_count_133 : decode cX6_count 133 = .ok (.ireturn, 1) := by decide +kernel
theorem dX6_count_134 : decode cX6_count 134 = .ok (.aload_n 2, 1) := by decide +kernel
theorem dX6_count_135 : decode cX6_count 135 = .ok (.getfield 69, 3) := by decide +kernel
theorem dX6_count_138 : decode cX6_count 138 = .ok (.ireturn, 1) := by decide +kernel
theorem dX6_count_139 : decode cX6_count 139 = .ok (.aload_n 0, 1) := by decide +kernel
theorem dX6_count_140 : decode cX6_count 140 = .ok (.getfield 12, 3) := by decide +kernel
theorem dX6_count_143 : decode cX6_count 143 = .ok (.getfield 49, 3) := by decide +kernel
theorem dX6_count_146 : decode cX6_count 146 = .ok (.iconst 0, 1) := by decide +kernel
theorem dX6_count_147 : decode cX6_count 147 = .ok (.iaload, 1) := by decide +kernel
theorem dX6_count_148 : decode cX6_count 148 = .ok (.ireturn, 1) := by decide +kernel
theorem dX6_count_149 : decode cX6_count 149 = .ok (.aload_n 0, 1) := by decide +kernel
theorem dX6_count_150 : decode cX6_count 150 = .ok (.getfield 12, 3) := by decide +kernel
theorem dX6_count_153 : decode cX6_count 153 = .ok (.getfield 49, 3) := by decide +kernel
theorem dX6_count_156 : decode cX6_count 156 = .ok (.iconst 1, 1) := by decide +kernel
theorem dX6_count_157 : decode cX6_count 157 = .ok (.iaload, 1) := by decide +kernel
theorem dX6_count_158 : decode cX6_count 158 = .ok (.ireturn, 1) := by decide +kernel
theorem dX6_count_159 : decode cX6_count 159 = .ok (.aload_n 0, 1) := by decide +kernel
theorem dX6_count_160 : decode cX6_count 160 = .ok (.getfield 12, 3) := by decide +kernel
theorem dX6_count_163 : decode cX6_count 163 = .ok (.getfield 49, 3) := by decide +kernel
theorem dX6_count_166 : decode cX6_count 166 = .ok (.iconst 2, 1) := by decide +kernel
theorem dX6_count_167 : decode cX6_count 167 = .ok (.iaload, 1) := by decide +kernel
theorem dX6_count_168 : decode cX6_count 168 = .ok (.ireturn, 1) := by decide +kernel
theorem dX6_count_169 : decode cX6_count 169 = .ok (.aload_n 0, 1) := by decide +kernel
theorem dX6_count_170 : decode cX6_count 170 = .ok (.getfield 12, 3) := by decide +kernel
theorem dX6_count_173 : decode cX6_count 173 = .ok (.getfield 49, 3) := by decide +kernel
theorem dX6_count_176 : decode cX6_count 176 = .ok (.iconst 3, 1) := by decide +kernel
theorem dX6_count_177 : decode cX6_count 177 = .ok (.iaload, 1) := by decide +kernel
theorem dX6_count_178 : decode cX6_count 178 = .ok (.ireturn, 1) := by decide +kernel
theorem dX6_count_179 : decode cX6_count 179 = .ok (.aload_n 2, 1) := by decide +kernel
theorem dX6_count_180 : decode cX6_count 180 = .ok (.aload_n 0, 1) := by decide +kernel
theorem dX6_count_181 : decode cX6_count 181 = .ok (.getfield 12, 3) := by decide +kernel
theorem dX6_count_184 : decode cX6_count 184 = .ok (.getfield 49, 3) := by decide +kernel
theorem dX6_count_187 : decode cX6_count 187 = .ok (.invokevirtual 137, 3) := by decide +kernel
theorem dX6_count_190 : decode cX6_count 190 = .ok (.ireturn, 1) := by decide +kernel
theorem dX6_count_191 : decode cX6_count 191 = .ok (.aload_n 0, 1) := by decide +kernel
theorem dX6_count_192 : decode cX6_count 192 = .ok (.getfield 34, 3) := by decide +kernel
theorem dX6_count_195 : decode cX6_count 195 = .ok (.getfield 104, 3) := by decide +kernel
theorem dX6_count_198 : decode cX6_count 198 = .ok (.ireturn, 1) := by decide +kernel
theorem dX6_count_199 : decode cX6_count 199 = .ok (.aload_n 0, 1) := by decide +kernel
theorem dX6_count_200 : decode cX6_count 200 = .ok (.getfield 19, 3) := by decide +kernel
theorem dX6_count_203 : decode cX6_count 203 = .ok (.getfield 141, 3) := by decide +kernel
theorem dX6_count_206 : decode cX6_count 206 = .ok (.ireturn, 1) := by decide +kernel
theorem dX6_count_207 : decode cX6_count 207 = .ok (.bipush (-2), 2) := by decide +kernel
theorem dX6_count_209 : decode cX6_count 209 = .ok (.ireturn, 1) := by decide +kernel
theorem dX6_last_0 : decode cX6_last 0 = .ok (.iload_n 1, 1) := by decide +kernel
theorem dX6_last_1 : decode cX6_last 1 = .ok (.ifCond .lt 8, 3) := by decide +kernel
theorem dX6_last_4 : decode cX6_last 4 = .ok (.iload_n 1, 1) := by decide +kernel
theorem dX6_last_5 : decode cX6_last 5 = .ok (.iconst 4, 1) := by decide +kernel
theorem dX6_last_6 : decode cX6_last 6 = .ok (.if_icmp .le 6, 3) := by decide +kernel
theorem dX6_last_9 : decode cX6_last 9 = .ok (.bipush (-2), 2) := by decide +kernel
theorem dX6_last_11 : decode cX6_last 11 = .ok (.ireturn, 1) := by decide +kernel
theorem dX6_last_12 : decode cX6_last 12 = .ok (.aload_n 0, 1) := by decide +kernel
theorem dX6_last_13 : decode cX6_last 13 = .ok (.getfield 12, 3) := by decide +kernel
theorem dX6_last_16 : decode cX6_last 16 = .ok (.getfield 45, 3) := by decide +kernel
theorem dX6_last_19 : decode cX6_last 19 = .ok (.getfield 69, 3) := by decide +kernel
theorem dX6_last_22 : decode cX6_last 22 = .ok (.ifCond .ne 6, 3) := by decide +kernel
theorem dX6_last_25 : decode cX6_last 25 = .ok (.bipush (-6), 2) := by decide +kernel
theorem dX6_last_27 : decode cX6_last 27 = .ok (.ireturn, 1) := by decide +kernel
theorem dX6_last_28 : decode cX6_last 28 = .ok (.iload_n 1, 1) := by decide +kernel
theorem dX6_last_29 : decode cX6_last 29 = .ok (.tableswitch 75 0 3 #[31, 42, 53, 64], 31) := by decide +kernel
theorem dX6_last_60 : decode cX6_last 60 = .ok (.aload_n 0, 1) := by decide +kernel
theorem dX6_last_61 : decode cX6_last 61 = .ok (.getfield 12, 3) := by decide +kernel
theorem dX6_last_64 : decode cX6_last 64 = .ok (.getfield 80, 3) := by decide +kernel
theorem dX6_last_67 : decode cX6_last 67 = .ok (.getfield 144, 3) := by decide +kernel
theorem dX6_last_70 : decode cX6_last 70 = .ok (.ireturn, 1) := by decide +kernel
theorem dX6_last_71 : decode cX6_last 71 = .ok (.aload_n 0, 1) := by decide +kernel
theorem dX6_last_72 : decode cX6_last 72 = .ok (.getfield 12, 3) := by decide +kernel
theorem dX6_last_75 : decode cX6_last 75 = .ok (.getfield 80, 3) := by decide +kernel
theorem dX6_last_78 : decode cX6_last 78 = .ok (.getfield 84, 3) := by decide +kernel
theorem dX6_last_81 : decode cX6_last 81 = .ok (.ireturn, 1) := by decide +kernel
theorem dX6_last_82 : decode cX6_last 82 = .ok (.aload_n 0, 1) := by decide +kernel
theorem dX6_last_83 : decode cX6_last 83 = .ok (.getfield 12, 3) := by decide +kernel
theorem dX6_last_86 : decode cX6_last 86 = .ok (.getfield 80, 3) := by decide +kernel
theorem dX6_last_89 : decode cX6_last 89 = .ok (.getfield 147, 3) := by decide +kernel
theorem dX6_last_92 : decode cX6_last 92 = .ok (.ireturn, 1) := by decide +kernel
theorem dX6_last_93 : decode cX6_last 93 = .ok (.aload_n 0, 1) := by decide +kernel
theorem dX6_last_94 : decode cX6_last 94 = .ok (.getfield 12, 3) := by decide +kernel
theorem dX6_last_97 : decode cX6_last 97 = .ok (.getfield 80, 3) := by decide +kernel
theorem dX6_last_100 : decode cX6_last 100 = .ok (.getfield 150, 3) := by decide +kernel
theorem dX6_last_103 : decode cX6_last 103 = .ok (.ireturn, 1) := by decide +kernel
theorem dX6_last_104 : decode cX6_last 104 = .ok (.aload_n 0, 1) := by decide +kernel
theorem dX6_last_105 : decode cX6_last 105 = .ok (.getfield 12, 3) := by decide +kernel
theorem dX6_last_108 : decode cX6_last 108 = .ok (.getfield 80, 3) := by decide +kernel
theorem dX6_last_111 : decode cX6_last 111 = .ok (.getfield 153, 3) := by decide +kernel
theorem dX6_last_114 : decode cX6_last 114 = .ok (.ireturn, 1) := by decide +kernel
theorem dX6_ifMove_0 : decode cX6_ifMove 0 = .ok (.aload_n 0, 1) := by decide +kernel
theorem dX6_ifMove_1 : decode cX6_ifMove 1 = .ok (.iload_n 1, 1) := by decide +kernel
theorem dX6_ifMove_2 : decode cX6_ifMove 2 = .ok (.invokevirtual 73, 3) := by decide +kernel
theorem dX6_ifMove_5 : decode cX6_ifMove 5 = .ok (.istore_n 3, 1) := by decide +kernel
theorem dX6_ifMove_6 : decode cX6_ifMove 6 = .ok (.iload_n 3, 1) := by decide +kernel
theorem dX6_ifMove_7 : decode cX6_ifMove 7 = .ok (.ifCond .eq 5, 3) := by decide +kernel
theorem dX6_ifMove_10 : decode cX6_ifMove 10 = .ok (.iload_n 3, 1) := by decide +kernel
theorem dX6_ifMove_11 : decode cX6_ifMove 11 = .ok (.ireturn, 1) := by decide +kernel
theorem dX6_ifMove_12 : decode cX6_ifMove 12 = .ok (.iload_n 2, 1) := by decide +kernel
theorem dX6_ifMove_13 : decode cX6_ifMove 13 = .ok (.ifCond .lt 9, 3) := by decide +kernel
theorem dX6_ifMove_16 : decode cX6_ifMove 16 = .ok (.iload_n 2, 1) := by decide +kernel
theorem dX6_ifMove_17 : decode cX6_ifMove 17 = .ok (.bipush 6, 2) := by decide +kernel
theorem dX6_ifMove_19 : decode cX6_ifMove 19 = .ok (.if_icmp .le 6, 3) := by decide +kernel
theorem dX6_ifMove_22 : decode cX6_ifMove 22 = .ok (.bipush (-2), 2) := by decide +kernel
theorem dX6_ifMove_24 : decode cX6_ifMove 24 = .ok (.ireturn, 1) := by decide +kernel
theorem dX6_ifMove_25 : decode cX6_ifMove 25 = .ok (.aload_n 0, 1) := by decide +kernel
theorem dX6_ifMove_26 : decode cX6_ifMove 26 = .ok (.getfield 41, 3) := by decide +kernel
theorem dX6_ifMove_29 : decode cX6_ifMove 29 = .ok (.getfield 159, 3) := by decide +kernel
theorem dX6_ifMove_32 : decode cX6_ifMove 32 = .ok (.astore 4, 2) := by decide +kernel
theorem dX6_ifMove_34 : decode cX6_ifMove 34 = .ok (.aload_n 0, 1) := by decide +kernel
theorem dX6_ifMove_35 : decode cX6_ifMove 35 = .ok (.getfield 41, 3) := by decide +kernel
theorem dX6_ifMove_38 : decode cX6_ifMove 38 = .ok (.getfield 162, 3) := by decide +kernel
theorem dX6_ifMove_41 : decode cX6_ifMove 41 = .ok (.astore 5, 2) := by decide +kernel
theorem dX6_ifMove_43 : decode cX6_ifMove 43 = .ok (.aload 4, 2) := by decide +kernel
theorem dX6_ifMove_45 : decode cX6_ifMove 45 = .ok (.aload_n 0, 1) := by decide +kernel
theorem dX6_ifMove_46 : decode cX6_ifMove 46 = .ok (.getfield 12, 3) := by decide +kernel
theorem dX6_ifMove_49 : decode cX6_ifMove 49 = .ok (.getfield 45, 3) := by decide +kernel
theorem dX6_ifMove_52 : decode cX6_ifMove 52 = .ok (.invokevirtual 165, 3) := by decide +kernel
theorem dX6_ifMove_55 : decode cX6_ifMove 55 = .ok (.aload 4, 2) := by decide +kernel
theorem dX6_ifMove_57 : decode cX6_ifMove 57 = .ok (.iload_n 1, 1) := by decide +kernel
theorem dX6_ifMove_58 : decode cX6_ifMove 58 = .ok (.aload_n 0, 1) := by decide +kernel
theorem dX6_ifMove_59 : decode cX6_ifMove 59 = .ok (.getfield 12, 3) := by decide +kernel
theorem dX6_ifMove_62 : decode cX6_ifMove 62 = .ok (.getfield 49, 3) := by decide +kernel
theorem dX6_ifMove_65 : decode cX6_ifMove 65 = .ok (.aload 5, 2) := by decide +kernel
theorem dX6_ifMove_67 : decode cX6_ifMove 67 = .ok (.invokevirtual 169, 3) := by decide +kernel
theorem dX6_ifMove_70 : decode cX6_ifMove 70 = .ok (.iload_n 2, 1) := by decide +kernel
theorem dX6_ifMove_71 : decode cX6_ifMove 71 = .ok (.tableswitch 84 0 5 #[37, 43, 49, 55, 61, 78], 37) := by decide +kernel
theorem dX6_ifMove_108 : decode cX6_ifMove 108 = .ok (.aload 5, 2) := by decide +kernel
theorem dX6_ifMove_110 : decode cX6_ifMove 110 = .ok (.getfield 84, 3) := by decide +kernel
theorem dX6_ifMove_113 : decode cX6_ifMove 113 = .ok (.ireturn, 1) := by decide +kernel
theorem dX6_ifMove_114 : decode cX6_ifMove 114 = .ok (.aload 5, 2) := by decide +kernel
theorem dX6_ifMove_116 : decode cX6_ifMove 116 = .ok (.getfield 147, 3) := by decide +kernel
theorem dX6_ifMove_119 : decode cX6_ifMove 119 = .ok (.ireturn, 1) := by decide +kernel
theorem dX6_ifMove_120 : decode cX6_ifMove 120 = .ok (.aload 5, 2) := by decide +kernel
theorem dX6_ifMove_122 : decode cX6_ifMove 122 = .ok (.getfield 150, 3) := by decide +kernel
theorem dX6_ifMove_125 : decode cX6_ifMove 125 = .ok (.ireturn, 1) := by decide +kernel
theorem dX6_ifMove_126 : decode cX6_ifMove 126 = .ok (.aload 5, 2) := by decide +kernel
theorem dX6_ifMove_128 : decode cX6_ifMove 128 = .ok (.getfield 153, 3) := by decide +kernel
theorem dX6_ifMove_131 : decode cX6_ifMove 131 = .ok (.ireturn, 1) := by decide +kernel
theorem dX6_ifMove_132 : decode cX6_ifMove 132 = .ok (.aload_n 0, 1) := by decide +kernel
theorem dX6_ifMove_133 : decode cX6_ifMove 133 = .ok (.getfield 12, 3) := by decide +kernel
theorem dX6_ifMove_136 : decode cX6_ifMove 136 = .ok (.getfield 45, 3) := by decide +kernel
theorem dX6_ifMove_139 : decode cX6_ifMove 139 = .ok (.aload 4, 2) := by decide +kernel
theorem dX6_ifMove_141 : decode cX6_ifMove 141 = .ok (.invokestatic 172, 3) := by decide +kernel
theorem dX6_ifMove_144 : decode cX6_ifMove 144 = .ok (.sipush 10000, 3) := by decide +kernel
theorem dX6_ifMove_147 : decode cX6_ifMove 147 = .ok (.iadd, 1) := by decide +kernel
theorem dX6_ifMove_148 : decode cX6_ifMove 148 = .ok (.ireturn, 1) := by decide +kernel
theorem dX6_ifMove_149 : decode cX6_ifMove 149 = .ok (.aload 4, 2) := by decide +kernel
theorem dX6_ifMove_151 : decode cX6_ifMove 151 = .ok (.getfield 124, 3) := by decide +kernel
theorem dX6_ifMove_154 : decode cX6_ifMove 154 = .ok (.ireturn, 1) := by decide +kernel
theorem dX6_ifMove_155 : decode cX6_ifMove 155 = .ok (.aload 4, 2) := by decide +kernel
theorem dX6_ifMove_157 : decode cX6_ifMove 157 = .ok (.getfield 127, 3) := by decide +kernel
theorem dX6_ifMove_160 : decode cX6_ifMove 160 = .ok (.ifCond .eq 7, 3) := by decide +kernel
theorem dX6_ifMove_163 : decode cX6_ifMove 163 = .ok (.iconst 1, 1) := by decide +kernel
theorem dX6_ifMove_164 : decode cX6_ifMove 164 = .ok (.goto 4, 3) := by decide +kernel
theorem dX6_ifMove_167 : decode cX6_ifMove 167 = .ok (.iconst 0, 1) := by decide +kernel
theorem dX6_ifMove_168 : decode cX6_ifMove 168 = .ok (.ireturn, 1) := by decide +kernel
theorem dX6_worth_0 : decode cX6_worth 0 = .ok (.iload_n 1, 1) := by decide +kernel
theorem dX6_worth_1 : decode cX6_worth 1 = .ok (.ifCond .lt 8, 3) := by decide +kernel
theorem dX6_worth_4 : decode cX6_worth 4 = .ok (.iload_n 1, 1) := by decide +kernel
theorem dX6_worth_5 : decode cX6_worth 5 = .ok (.iconst 4, 1) := by decide +kernel
theorem dX6_worth_6 : decode cX6_worth 6 = .ok (.if_icmp .le 6, 3) := by decide +kernel
theorem dX6_worth_9 : decode cX6_worth 9 = .ok (.bipush (-2), 2) := by decide +kernel
theorem dX6_worth_11 : decode cX6_worth 11 = .ok (.ireturn, 1) := by decide +kernel
theorem dX6_worth_12 : decode cX6_worth 12 = .ok (.aload_n 0, 1) := by decide +kernel
theorem dX6_worth_13 : decode cX6_worth 13 = .ok (.getfield 41, 3) := by decide +kernel
theorem dX6_worth_16 : decode cX6_worth 16 = .ok (.aload_n 0, 1) := by decide +kernel
theorem dX6_worth_17 : decode cX6_worth 17 = .ok (.getfield 12, 3) := by decide +kernel
theorem dX6_worth_20 : decode cX6_worth 20 = .ok (.getfield 45, 3) := by decide +kernel
theorem dX6_worth_23 : decode cX6_worth 23 = .ok (.aload_n 0, 1) := by decide +kernel
theorem dX6_worth_24 : decode cX6_worth 24 = .ok (.getfield 12, 3) := by decide +kernel
theorem dX6_worth_27 : decode cX6_worth 27 = .ok (.getfield 49, 3) := by decide +kernel
theorem dX6_worth_30 : decode cX6_worth 30 = .ok (.iload_n 1, 1) := by decide +kernel
theorem dX6_worth_31 : decode cX6_worth 31 = .ok (.invokevirtual 176, 3) := by decide +kernel
theorem dX6_worth_34 : decode cX6_worth 34 = .ok (.sipush 10000, 3) := by decide +kernel
theorem dX6_worth_37 : decode cX6_worth 37 = .ok (.iadd, 1) := by decide +kernel
theorem dX6_worth_38 : decode cX6_worth 38 = .ok (.ireturn, 1) := by decide +kernel
theorem dX6_best_0 : decode cX6_best 0 = .ok (.iload_n 1, 1) := by decide +kernel
theorem dX6_best_1 : decode cX6_best 1 = .ok (.iconst 1, 1) := by decide +kernel
theorem dX6_best_2 : decode cX6_best 2 = .ok (.if_icmp .lt 8, 3) := by decide +kernel
theorem dX6_best_5 : decode cX6_best 5 = .ok (.iload_n 1, 1) := by decide +kernel
theorem dX6_best_6 : decode cX6_best 6 = .ok (.iconst 4, 1) := by decide +kernel
theorem dX6_best_7 : decode cX6_best 7 = .ok (.if_icmp .le 6, 3) := by decide +kernel
theorem dX6_best_10 : decode cX6_best 10 = .ok (.bipush (-2), 2) := by decide +kernel
theorem dX6_best_12 : decode cX6_best 12 = .ok (.ireturn, 1) := by decide +kernel
theorem dX6_best_13 : decode cX6_best 13 = .ok (.aload_n 0, 1) := by decide +kernel
theorem dX6_best_14 : decode cX6_best 14 = .ok (.getfield 41, 3) := by decide +kernel
theorem dX6_best_17 : decode cX6_best 17 = .ok (.aload_n 0, 1) := by decide +kernel
theorem dX6_best_18 : decode cX6_best 18 = .ok (.getfield 12, 3) := by decide +kernel
theorem dX6_best_21 : decode cX6_best 21 = .ok (.getfield 45, 3) := by decide +kernel
theorem dX6_best_24 : decode cX6_best 24 = .ok (.aload_n 0, 1) := by decide +kernel
theorem dX6_best_25 : decode cX6_best 25 = .ok (.getfield 12, 3) := by decide +kernel
theorem dX6_best_28 : decode cX6_best 28 = .ok (.getfield 49, 3) := by decide +kernel
theorem dX6_best_31 : decode cX6_best 31 = .ok (.iload_n 1, 1) := by decide +kernel
theorem dX6_best_32 : decode cX6_best 32 = .ok (.invokevirtual 89, 3) := by decide +kernel
theorem dX6_best_35 : decode cX6_best 35 = .ok (.ireturn, 1) := by decide +kernel
theorem dX6_movesLeft_0 : decode cX6_movesLeft 0 = .ok (.iload_n 1, 1) := by decide +kernel
theorem dX6_movesLeft_1 : decode cX6_movesLeft 1 = .ok (.iconst 1, 1) := by decide +kernel
theorem dX6_movesLeft_2 : decode cX6_movesLeft 2 = .ok (.if_icmp .lt 8, 3) := by decide +kernel
theorem dX6_movesLeft_5 : decode cX6_movesLeft 5 = .ok (.iload_n 1, 1) := by decide +kernel
theorem dX6_movesLeft_6 : decode cX6_movesLeft 6 = .ok (.iconst 2, 1) := by decide +kernel
theorem dX6_movesLeft_7 : decode cX6_movesLeft 7 = .ok (.if_icmp .le 6, 3) := by decide +kernel
theorem dX6_movesLeft_10 : decode cX6_movesLeft 10 = .ok (.bipush (-2), 2) := by decide +kernel
theorem dX6_movesLeft_12 : decode cX6_movesLeft 12 = .ok (.ireturn, 1) := by decide +kernel
theorem dX6_movesLeft_13 : decode cX6_movesLeft 13 = .ok (.aload_n 0, 1) := by decide +kernel
theorem dX6_movesLeft_14 : decode cX6_movesLeft 14 = .ok (.getfield 41, 3) := by decide +kernel
theorem dX6_movesLeft_17 : decode cX6_movesLeft 17 = .ok (.aload_n 0, 1) := by decide +kernel
theorem dX6_movesLeft_18 : decode cX6_movesLeft 18 = .ok (.getfield 12, 3) := by decide +kernel
theorem dX6_movesLeft_21 : decode cX6_movesLeft 21 = .ok (.getfield 45, 3) := by decide +kernel
theorem dX6_movesLeft_24 : decode cX6_movesLeft 24 = .ok (.aload_n 0, 1) := by decide +kernel
theorem dX6_movesLeft_25 : decode cX6_movesLeft 25 = .ok (.getfield 12, 3) := by decide +kernel
theorem dX6_movesLeft_28 : decode cX6_movesLeft 28 = .ok (.getfield 49, 3) := by decide +kernel
theorem dX6_movesLeft_31 : decode cX6_movesLeft 31 = .ok (.iload_n 1, 1) := by decide +kernel
theorem dX6_movesLeft_32 : decode cX6_movesLeft 32 = .ok (.invokevirtual 179, 3) := by decide +kernel
theorem dX6_movesLeft_35 : decode cX6_movesLeft 35 = .ok (.ireturn, 1) := by decide +kernel
theorem dX6_put_0 : decode cX6_put 0 = .ok (.lload_n 1, 1) := by decide +kernel
theorem dX6_put_1 : decode cX6_put 1 = .ok (.invokestatic 182, 3) := by decide +kernel
theorem dX6_put_4 : decode cX6_put 4 = .ok (.istore_n 3, 1) := by decide +kernel
theorem dX6_put_5 : decode cX6_put 5 = .ok (.iload_n 3, 1) := by decide +kernel
theorem dX6_put_6 : decode cX6_put 6 = .ok (.ifCond .ne 6, 3) := by decide +kernel
theorem dX6_put_9 : decode cX6_put 9 = .ok (.bipush (-2), 2) := by decide +kernel
theorem dX6_put_11 : decode cX6_put 11 = .ok (.ireturn, 1) := by decide +kernel
theorem dX6_put_12 : decode cX6_put 12 = .ok (.aload_n 0, 1) := by decide +kernel
theorem dX6_put_13 : decode cX6_put 13 = .ok (.getfield 34, 3) := by decide +kernel
theorem dX6_put_16 : decode cX6_put 16 = .ok (.getfield 104, 3) := by decide +kernel
theorem dX6_put_19 : decode cX6_put 19 = .ok (.iload_n 3, 1) := by decide +kernel
theorem dX6_put_20 : decode cX6_put 20 = .ok (.iadd, 1) := by decide +kernel
theorem dX6_put_21 : decode cX6_put 21 = .ok (.bipush 60, 2) := by decide +kernel
theorem dX6_put_23 : decode cX6_put 23 = .ok (.if_icmp .le 6, 3) := by decide +kernel
theorem dX6_put_26 : decode cX6_put 26 = .ok (.bipush (-4), 2) := by decide +kernel
theorem dX6_put_28 : decode cX6_put 28 = .ok (.ireturn, 1) := by decide +kernel
theorem dX6_put_29 : decode cX6_put 29 = .ok (.aload_n 0, 1) := by decide +kernel
theorem dX6_put_30 : decode cX6_put 30 = .ok (.getfield 34, 3) := by decide +kernel
theorem dX6_put_33 : decode cX6_put 33 = .ok (.lload_n 1, 1) := by decide +kernel
theorem dX6_put_34 : decode cX6_put 34 = .ok (.iload_n 3, 1) := by decide +kernel
theorem dX6_put_35 : decode cX6_put 35 = .ok (.invokevirtual 186, 3) := by decide +kernel
theorem dX6_put_38 : decode cX6_put 38 = .ok (.aload_n 0, 1) := by decide +kernel
theorem dX6_put_39 : decode cX6_put 39 = .ok (.getfield 34, 3) := by decide +kernel
theorem dX6_put_42 : decode cX6_put 42 = .ok (.getfield 104, 3) := by decide +kernel
theorem dX6_put_45 : decode cX6_put 45 = .ok (.ireturn, 1) := by decide +kernel
theorem dX6_wipe_0 : decode cX6_wipe 0 = .ok (.aload_n 0, 1) := by decide +kernel
theorem dX6_wipe_1 : decode cX6_wipe 1 = .ok (.getfield 34, 3) := by decide +kernel
theorem dX6_wipe_4 : decode cX6_wipe 4 = .ok (.getfield 104, 3) := by decide +kernel
theorem dX6_wipe_7 : decode cX6_wipe 7 = .ok (.istore_n 1, 1) := by decide +kernel
theorem dX6_wipe_8 : decode cX6_wipe 8 = .ok (.aload_n 0, 1) := by decide +kernel
theorem dX6_wipe_9 : decode cX6_wipe 9 = .ok (.getfield 34, 3) := by decide +kernel
theorem dX6_wipe_12 : decode cX6_wipe 12 = .ok (.iconst 0, 1) := by decide +kernel
theorem dX6_wipe_13 : decode cX6_wipe 13 = .ok (.putfield 104, 3) := by decide +kernel
theorem dX6_wipe_16 : decode cX6_wipe 16 = .ok (.iload_n 1, 1) := by decide +kernel
theorem dX6_wipe_17 : decode cX6_wipe 17 = .ok (.ireturn, 1) := by decide +kernel
theorem dX6_undo_0 : decode cX6_undo 0 = .ok (.aload_n 0, 1) := by decide +kernel
theorem dX6_undo_1 : decode cX6_undo 1 = .ok (.getfield 19, 3) := by decide +kernel
theorem dX6_undo_4 : decode cX6_undo 4 = .ok (.getfield 141, 3) := by decide +kernel
theorem dX6_undo_7 : decode cX6_undo 7 = .ok (.ifCond .ne 6, 3) := by decide +kernel
theorem dX6_undo_10 : decode cX6_undo 10 = .ok (.bipush (-5), 2) := by decide +kernel
theorem dX6_undo_12 : decode cX6_undo 12 = .ok (.ireturn, 1) := by decide +kernel
theorem dX6_undo_13 : decode cX6_undo 13 = .ok (.aload_n 0, 1) := by decide +kernel
theorem dX6_undo_14 : decode cX6_undo 14 = .ok (.getfield 19, 3) := by decide +kernel
theorem dX6_undo_17 : decode cX6_undo 17 = .ok (.aload_n 0, 1) := by decide +kernel
theorem dX6_undo_18 : decode cX6_undo 18 = .ok (.getfield 12, 3) := by decide +kernel
theorem dX6_undo_21 : decode cX6_undo 21 = .ok (.invokevirtual 190, 3) := by decide +kernel
theorem dX6_undo_24 : decode cX6_undo 24 = .ok (.aload_n 0, 1) := by decide +kernel
theorem dX6_undo_25 : decode cX6_undo 25 = .ok (.getfield 19, 3) := by decide +kernel
theorem dX6_undo_28 : decode cX6_undo 28 = .ok (.getfield 141, 3) := by decide +kernel
theorem dX6_undo_31 : decode cX6_undo 31 = .ok (.ireturn, 1) := by decide +kernel
theorem dX6_isHouse_0 : decode cX6_isHouse 0 = .ok (.iload_n 0, 1) := by decide +kernel
theorem dX6_isHouse_1 : decode cX6_isHouse 1 = .ok (.ifCond .lt 13, 3) := by decide +kernel
theorem dX6_isHouse_4 : decode cX6_isHouse 4 = .ok (.iload_n 0, 1) := by decide +kernel
theorem dX6_isHouse_5 : decode cX6_isHouse 5 = .ok (.bipush 12, 2) := by decide +kernel
theorem dX6_isHouse_7 : decode cX6_isHouse 7 = .ok (.if_icmp .ge 7, 3) := by decide +kernel
theorem dX6_isHouse_10 : decode cX6_isHouse 10 = .ok (.iconst 1, 1) := by decide +kernel
theorem dX6_isHouse_11 : decode cX6_isHouse 11 = .ok (.goto 4, 3) := by decide +kernel
theorem dX6_isHouse_14 : decode cX6_isHouse 14 = .ok (.iconst 0, 1) := by decide +kernel
theorem dX6_isHouse_15 : decode cX6_isHouse 15 = .ok (.ireturn, 1) := by decide +kernel
theorem dX6_errorOfMove_0 : decode cX6_errorOfMove 0 = .ok (.iload_n 1, 1) := by decide +kernel
theorem dX6_errorOfMove_1 : decode cX6_errorOfMove 1 = .ok (.invokestatic 110, 3) := by decide +kernel
theorem dX6_errorOfMove_4 : decode cX6_errorOfMove 4 = .ok (.ifCond .ne 5, 3) := by decide +kernel
theorem dX6_errorOfMove_7 : decode cX6_errorOfMove 7 = .ok (.iconst (-1), 1) := by decide +kernel
theorem dX6_errorOfMove_8 : decode cX6_errorOfMove 8 = .ok (.ireturn, 1) := by decide +kernel
theorem dX6_errorOfMove_9 : decode cX6_errorOfMove 9 = .ok (.aload_n 0, 1) := by decide +kernel
theorem dX6_errorOfMove_10 : decode cX6_errorOfMove 10 = .ok (.getfield 12, 3) := by decide +kernel
theorem dX6_errorOfMove_13 : decode cX6_errorOfMove 13 = .ok (.getfield 45, 3) := by decide +kernel
theorem dX6_errorOfMove_16 : decode cX6_errorOfMove 16 = .ok (.iload_n 1, 1) := by decide +kernel
theorem dX6_errorOfMove_17 : decode cX6_errorOfMove 17 = .ok (.invokevirtual 198, 3) := by decide +kernel
theorem dX6_errorOfMove_20 : decode cX6_errorOfMove 20 = .ok (.ifCond .eq 7, 3) := by decide +kernel
theorem dX6_errorOfMove_23 : decode cX6_errorOfMove 23 = .ok (.iconst 0, 1) := by decide +kernel
theorem dX6_errorOfMove_24 : decode cX6_errorOfMove 24 = .ok (.goto 5, 3) := by decide +kernel
theorem dX6_errorOfMove_27 : decode cX6_errorOfMove 27 = .ok (.bipush (-5), 2) := by decide +kernel
theorem dX6_errorOfMove_29 : decode cX6_errorOfMove 29 = .ok (.ireturn, 1) := by decide +kernel
theorem dX6_storeGain_0 : decode cX6_storeGain 0 = .ok (.aload_n 1, 1) := by decide +kernel
theorem dX6_storeGain_1 : decode cX6_storeGain 1 = .ok (.getfield 134, 3) := by decide +kernel
theorem dX6_storeGain_4 : decode cX6_storeGain 4 = .ok (.aload_n 0, 1) := by decide +kernel
theorem dX6_storeGain_5 : decode cX6_storeGain 5 = .ok (.getfield 124, 3) := by decide +kernel
theorem dX6_storeGain_8 : decode cX6_storeGain 8 = .ok (.iaload, 1) := by decide +kernel
theorem dX6_storeGain_9 : decode cX6_storeGain 9 = .ok (.aload_n 0, 1) := by decide +kernel
theorem dX6_storeGain_10 : decode cX6_storeGain 10 = .ok (.getfield 134, 3) := by decide +kernel
theorem dX6_storeGain_13 : decode cX6_storeGain 13 = .ok (.aload_n 0, 1) := by decide +kernel
theorem dX6_storeGain_14 : decode cX6_storeGain 14 = .ok (.getfield 124, 3) := by decide +kernel
theorem dX6_storeGain_17 : decode cX6_storeGain 17 = .ok (.iaload, 1) := by decide +kernel
theorem dX6_storeGain_18 : decode cX6_storeGain 18 = .ok (.isub, 1) := by decide +kernel
theorem dX6_storeGain_19 : decode cX6_storeGain 19 = .ok (.ireturn, 1) := by decide +kernel
theorem dJ9_max_7cf53_0 : decode cJ9_max_7cf53 0 = .ok (.iload_n 0, 1) := by decide +kernel
theorem dJ9_max_7cf53_1 : decode cJ9_max_7cf53 1 = .ok (.iload_n 1, 1) := by decide +kernel
theorem dJ9_max_7cf53_2 : decode cJ9_max_7cf53 2 = .ok (.if_icmp .lt 7, 3) := by decide +kernel
theorem dJ9_max_7cf53_5 : decode cJ9_max_7cf53 5 = .ok (.iload_n 0, 1) := by decide +kernel
theorem dJ9_max_7cf53_6 : decode cJ9_max_7cf53 6 = .ok (.goto 4, 3) := by decide +kernel
theorem dJ9_max_7cf53_9 : decode cJ9_max_7cf53 9 = .ok (.iload_n 1, 1) := by decide +kernel
theorem dJ9_max_7cf53_10 : decode cJ9_max_7cf53 10 = .ok (.ireturn, 1) := by decide +kernel
theorem dL_cell_0 : decode cL_cell 0 = .ok (.iload_n 1, 1) := by decide +kernel
theorem dL_cell_1 : decode cL_cell 1 = .ok (.aload_n 0, 1) := by decide +kernel
theorem dL_cell_2 : decode cL_cell 2 = .ok (.arraylength, 1) := by decide +kernel
theorem dL_cell_3 : decode cL_cell 3 = .ok (.if_icmp .ge 9, 3) := by decide +kernel
theorem dL_cell_6 : decode cL_cell 6 = .ok (.aload_n 0, 1) := by decide +kernel
theorem dL_cell_7 : decode cL_cell 7 = .ok (.iload_n 1, 1) := by decide +kernel
theorem dL_cell_8 : decode cL_cell 8 = .ok (.iaload, 1) := by decide +kernel
theorem dL_cell_9 : decode cL_cell 9 = .ok (.goto 11, 3) := by decide +kernel
theorem dL_cell_12 : decode cL_cell 12 = .ok (.ldc 7, 2) := by decide +kernel
theorem dL_cell_14 : decode cL_cell 14 = .ok (.iload_n 1, 1) := by decide +kernel
theorem dL_cell_15 : decode cL_cell 15 = .ok (.sipush 947, 3) := by decide +kernel
theorem dL_cell_18 : decode cL_cell 18 = .ok (.iadd, 1) := by decide +kernel
theorem dL_cell_19 : decode cL_cell 19 = .ok (.imul, 1) := by decide +kernel
theorem dL_cell_20 : decode cL_cell 20 = .ok (.ireturn, 1) := by decide +kernel
theorem dL_up_0 : decode cL_up 0 = .ok (.iload_n 0, 1) := by decide +kernel
theorem dL_up_1 : decode cL_up 1 = .ok (.ldc 8, 2) := by decide +kernel
theorem dL_up_3 : decode cL_up 3 = .ok (.iand, 1) := by decide +kernel
theorem dL_up_4 : decode cL_up 4 = .ok (.iload_n 1, 1) := by decide +kernel
theorem dL_up_5 : decode cL_up 5 = .ok (.irem, 1) := by decide +kernel
theorem dL_up_6 : decode cL_up 6 = .ok (.ireturn, 1) := by decide +kernel
theorem dL_other_0 : decode cL_other 0 = .ok (.iload_n 0, 1) := by decide +kernel
theorem dL_other_1 : decode cL_other 1 = .ok (.ifCond .lt 9, 3) := by decide +kernel
theorem dL_other_4 : decode cL_other 4 = .ok (.iload_n 0, 1) := by decide +kernel
theorem dL_other_5 : decode cL_other 5 = .ok (.bipush 11, 2) := by decide +kernel
theorem dL_other_7 : decode cL_other 7 = .ok (.if_icmp .le 7, 3) := by decide +kernel
theorem dL_other_10 : decode cL_other 10 = .ok (.iload_n 0, 1) := by decide +kernel
theorem dL_other_11 : decode cL_other 11 = .ok (.goto 10, 3) := by decide +kernel
theorem dL_other_14 : decode cL_other 14 = .ok (.iload_n 0, 1) := by decide +kernel
theorem dL_other_15 : decode cL_other 15 = .ok (.bipush 6, 2) := by decide +kernel
theorem dL_other_17 : decode cL_other 17 = .ok (.iadd, 1) := by decide +kernel
theorem dL_other_18 : decode cL_other 18 = .ok (.bipush 12, 2) := by decide +kernel
theorem dL_other_20 : decode cL_other 20 = .ok (.irem, 1) := by decide +kernel
theorem dL_other_21 : decode cL_other 21 = .ok (.ireturn, 1) := by decide +kernel
theorem dL_number_0 : decode cL_number 0 = .ok (.iload_n 1, 1) := by decide +kernel
theorem dL_number_1 : decode cL_number 1 = .ok (.bipush 10, 2) := by decide +kernel
theorem dL_number_3 : decode cL_number 3 = .ok (.if_icmp .lt 18, 3) := by decide +kernel
theorem dL_number_6 : decode cL_number 6 = .ok (.aload_n 0, 1) := by decide +kernel
theorem dL_number_7 : decode cL_number 7 = .ok (.bipush 48, 2) := by decide +kernel
theorem dL_number_9 : decode cL_number 9 = .ok (.iload_n 1, 1) := by decide +kernel
theorem dL_number_10 : decode cL_number 10 = .ok (.bipush 10, 2) := by decide +kernel
theorem dL_number_12 : decode cL_number 12 = .ok (.idiv, 1) := by decide +kernel
theorem dL_number_13 : decode cL_number 13 = .ok (.iadd, 1) := by decide +kernel
theorem dL_number_14 : decode cL_number 14 = .ok (.i2l, 1) := by decide +kernel
theorem dL_number_15 : decode cL_number 15 = .ok (.invokevirtual 9, 3) := by decide +kernel
theorem dL_number_18 : decode cL_number 18 = .ok (.ifCond .le 31, 3) := by decide +kernel
theorem dL_number_21 : decode cL_number 21 = .ok (.aload_n 0, 1) := by decide +kernel
theorem dL_number_22 : decode cL_number 22 = .ok (.bipush 48, 2) := by decide +kernel
theorem dL_number_24 : decode cL_number 24 = .ok (.iload_n 1, 1) := by decide +kernel
theorem dL_number_25 : decode cL_number 25 = .ok (.bipush 10, 2) := by decide +kernel
theorem dL_number_27 : decode cL_number 27 = .ok (.irem, 1) := by decide +kernel
theorem dL_number_28 : decode cL_number 28 = .ok (.iadd, 1) := by decide +kernel
theorem dL_number_29 : decode cL_number 29 = .ok (.i2l, 1) := by decide +kernel
theorem dL_number_30 : decode cL_number 30 = .ok (.invokevirtual 9, 3) := by decide +kernel
theorem dL_number_33 : decode cL_number 33 = .ok (.ifCond .le 16, 3) := by decide +kernel
theorem dL_number_36 : decode cL_number 36 = .ok (.aload_n 0, 1) := by decide +kernel
theorem dL_number_37 : decode cL_number 37 = .ok (.iload_n 2, 1) := by decide +kernel
theorem dL_number_38 : decode cL_number 38 = .ok (.i2l, 1) := by decide +kernel
theorem dL_number_39 : decode cL_number 39 = .ok (.invokevirtual 9, 3) := by decide +kernel
theorem dL_number_42 : decode cL_number 42 = .ok (.ifCond .le 7, 3) := by decide +kernel
theorem dL_number_45 : decode cL_number 45 = .ok (.iconst 1, 1) := by decide +kernel
theorem dL_number_46 : decode cL_number 46 = .ok (.goto 4, 3) := by decide +kernel
theorem dL_number_49 : decode cL_number 49 = .ok (.iconst 0, 1) := by decide +kernel
theorem dL_number_50 : decode cL_number 50 = .ok (.ireturn, 1) := by decide +kernel
theorem dL_reads_0 : decode cL_reads 0 = .ok (.bipush 12, 2) := by decide +kernel
theorem dL_reads_2 : decode cL_reads 2 = .ok (.newarray .int, 2) := by decide +kernel
theorem dL_reads_4 : decode cL_reads 4 = .ok (.astore 4, 2) := by decide +kernel
theorem dL_reads_6 : decode cL_reads 6 = .ok (.iconst 2, 1) := by decide +kernel
theorem dL_reads_7 : decode cL_reads 7 = .ok (.iload_n 2, 1) := by decide +kernel
theorem dL_reads_8 : decode cL_reads 8 = .ok (.bipush 6, 2) := by decide +kernel
theorem dL_reads_10 : decode cL_reads 10 = .ok (.invokestatic 15, 3) := by decide +kernel
theorem dL_reads_13 : decode cL_reads 13 = .ok (.iadd, 1) := by decide +kernel
theorem dL_reads_14 : decode cL_reads 14 = .ok (.istore 5, 2) := by decide +kernel
theorem dL_reads_16 : decode cL_reads 16 = .ok (.iconst 0, 1) := by decide +kernel
theorem dL_reads_17 : decode cL_reads 17 = .ok (.istore 6, 2) := by decide +kernel
theorem dL_reads_19 : decode cL_reads 19 = .ok (.iload 6, 2) := by decide +kernel
theorem dL_reads_21 : decode cL_reads 21 = .ok (.bipush 12, 2) := by decide +kernel
theorem dL_reads_23 : decode cL_reads 23 = .ok (.if_icmp .ge 38, 3) := by decide +kernel
theorem dL_reads_26 : decode cL_reads 26 = .ok (.aload 4, 2) := by decide +kernel
theorem dL_reads_28 : decode cL_reads 28 = .ok (.iload 6, 2) := by decide +kernel
theorem dL_reads_30 : decode cL_reads 30 = .ok (.iload_n 3, 1) := by decide +kernel
theorem dL_reads_31 : decode cL_reads 31 = .ok (.iload 6, 2) := by decide +kernel
theorem dL_reads_33 : decode cL_reads 33 = .ok (.ishr, 1) := by decide +kernel
theorem dL_reads_34 : decode cL_reads 34 = .ok (.iconst 4, 1) := by decide +kernel
theorem dL_reads_35 : decode cL_reads 35 = .ok (.invokestatic 15, 3) := by decide +kernel
theorem dL_reads_38 : decode cL_reads 38 = .ok (.ifCond .ne 7, 3) := by decide +kernel
theorem dL_reads_41 : decode cL_reads 41 = .ok (.iconst 0, 1) := by decide +kernel
theorem dL_reads_42 : decode cL_reads 42 = .ok (.goto 12, 3) := by decide +kernel
theorem dL_reads_45 : decode cL_reads 45 = .ok (.iload_n 2, 1) := by decide +kernel
theorem dL_reads_46 : decode cL_reads 46 = .ok (.iload 6, 2) := by decide +kernel
theorem dL_reads_48 : decode cL_reads 48 = .ok (.ishr, 1) := by decide +kernel
theorem dL_reads_49 : decode cL_reads 49 = .ok (.iload 5, 2) := by decide +kernel
theorem dL_reads_51 : decode cL_reads 51 = .ok (.invokestatic 15, 3) := by decide +kernel
theorem dL_reads_54 : decode cL_reads 54 = .ok (.iastore, 1) := by decide +kernel
theorem dL_reads_55 : decode cL_reads 55 = .ok (.iinc 6 1, 3) := by decide +kernel
theorem dL_reads_58 : decode cL_reads 58 = .ok (.goto (-39), 3) := by decide +kernel
theorem dL_reads_61 : decode cL_reads 61 = .ok (.aload_n 0, 1) := by decide +kernel
theorem dL_reads_62 : decode cL_reads 62 = .ok (.invokevirtual 21, 3) := by decide +kernel
theorem dL_reads_65 : decode cL_reads 65 = .ok (.ifCond .lt 14, 3) := by decide +kernel
theorem dL_reads_68 : decode cL_reads 68 = .ok (.aload_n 1, 1) := by decide +kernel
theorem dL_reads_69 : decode cL_reads 69 = .ok (.invokevirtual 21, 3) := by decide +kernel
theorem dL_reads_72 : decode cL_reads 72 = .ok (.ifCond .lt 7, 3) := by decide +kernel
theorem dL_reads_75 : decode cL_reads 75 = .ok (.iconst 1, 1) := by decide +kernel
theorem dL_reads_76 : decode cL_reads 76 = .ok (.goto 4, 3) := by decide +kernel
theorem dL_reads_79 : decode cL_reads 79 = .ok (.iconst 0, 1) := by decide +kernel
theorem dL_reads_80 : decode cL_reads 80 = .ok (.istore 6, 2) := by decide +kernel
theorem dL_reads_82 : decode cL_reads 82 = .ok (.iconst 0, 1) := by decide +kernel
theorem dL_reads_83 : decode cL_reads 83 = .ok (.istore 7, 2) := by decide +kernel
theorem dL_reads_85 : decode cL_reads 85 = .ok (.iload 7, 2) := by decide +kernel
theorem dL_reads_87 : decode cL_reads 87 = .ok (.bipush 12, 2) := by decide +kernel
theorem dL_reads_89 : decode cL_reads 89 = .ok (.if_icmp .ge 79, 3) := by decide +kernel
theorem dL_reads_92 : decode cL_reads 92 = .ok (.iload 6, 2) := by decide +kernel
theorem dL_reads_94 : decode cL_reads 94 = .ok (.ifCond .eq 65, 3) := by decide +kernel
theorem dL_reads_97 : decode cL_reads 97 = .ok (.aload_n 0, 1) := by decide +kernel
theorem dL_reads_98 : decode cL_reads 98 = .ok (.aload 4, 2) := by decide +kernel
theorem dL_reads_100 : decode cL_reads 100 = .ok (.iload 7, 2) := by decide +kernel
theorem dL_reads_102 : decode cL_reads 102 = .ok (.iaload, 1) := by decide +kernel
theorem dL_reads_103 : decode cL_reads 103 = .ok (.iload 7, 2) := by decide +kernel
theorem dL_reads_105 : decode cL_reads 105 = .ok (.bipush 11, 2) := by decide +kernel
theorem dL_reads_107 : decode cL_reads 107 = .ok (.if_icmp .ge 8, 3) := by decide +kernel
theorem dL_reads_110 : decode cL_reads 110 = .ok (.bipush 44, 2) := by decide +kernel
theorem dL_reads_112 : decode cL_reads 112 = .ok (.goto 5, 3) := by decide +kernel
theorem dL_reads_115 : decode cL_reads 115 = .ok (.bipush 47, 2) := by decide +kernel
theorem dL_reads_117 : decode cL_reads 117 = .ok (.invokestatic 25, 3) := by decide +kernel
theorem dL_reads_120 : decode cL_reads 120 = .ok (.ifCond .eq 39, 3) := by decide +kernel
theorem dL_reads_123 : decode cL_reads 123 = .ok (.aload_n 1, 1) := by decide +kernel
theorem dL_reads_124 : decode cL_reads 124 = .ok (.aload 4, 2) := by decide +kernel
theorem dL_reads_126 : decode cL_reads 126 = .ok (.iload 7, 2) := by decide +kernel
theorem dL_reads_128 : decode cL_reads 128 = .ok (.bipush 6, 2) := by decide +kernel
theorem dL_reads_130 : decode cL_reads 130 = .ok (.iadd, 1) := by decide +kernel
theorem dL_reads_131 : decode cL_reads 131 = .ok (.bipush 12, 2) := by decide +kernel
theorem dL_reads_133 : decode cL_reads 133 = .ok (.irem, 1) := by decide +kernel
theorem dL_reads_134 : decode cL_reads 134 = .ok (.iaload, 1) := by decide +kernel
theorem dL_reads_135 : decode cL_reads 135 = .ok (.iload 7, 2) := by decide +kernel
theorem dL_reads_137 : decode cL_reads 137 = .ok (.bipush 11, 2) := by decide +kernel
theorem dL_reads_139 : decode cL_reads 139 = .ok (.if_icmp .ge 8, 3) := by decide +kernel
theorem dL_reads_142 : decode cL_reads 142 = .ok (.bipush 44, 2) := by decide +kernel
theorem dL_reads_144 : decode cL_reads 144 = .ok (.goto 5, 3) := by decide +kernel
theorem dL_reads_147 : decode cL_reads 147 = .ok (.bipush 47, 2) := by decide +kernel
theorem dL_reads_149 : decode cL_reads 149 = .ok (.invokestatic 25, 3) := by decide +kernel
theorem dL_reads_152 : decode cL_reads 152 = .ok (.ifCond .eq 7, 3) := by decide +kernel
theorem dL_reads_155 : decode cL_reads 155 = .ok (.iconst 1, 1) := by decide +kernel
theorem dL_reads_156 : decode cL_reads 156 = .ok (.goto 4, 3) := by decide +kernel
theorem dL_reads_159 : decode cL_reads 159 = .ok (.iconst 0, 1) := by decide +kernel
theorem dL_reads_160 : decode cL_reads 160 = .ok (.istore 6, 2) := by decide +kernel
theorem dL_reads_162 : decode cL_reads 162 = .ok (.iinc 7 1, 3) := by decide +kernel
theorem dL_reads_165 : decode cL_reads 165 = .ok (.goto (-80), 3) := by decide +kernel
theorem dL_reads_168 : decode cL_reads 168 = .ok (.iload_n 2, 1) := by decide +kernel
theorem dL_reads_169 : decode cL_reads 169 = .ok (.bipush 13, 2) := by decide +kernel
theorem dL_reads_171 : decode cL_reads 171 = .ok (.ishr, 1) := by decide +kernel
theorem dL_reads_172 : decode cL_reads 172 = .ok (.bipush 9, 2) := by decide +kernel
theorem dL_reads_174 : decode cL_reads 174 = .ok (.invokestatic 15, 3) := by decide +kernel
theorem dL_reads_177 : decode cL_reads 177 = .ok (.istore 7, 2) := by decide +kernel
theorem dL_reads_179 : decode cL_reads 179 = .ok (.iload_n 3, 1) := by decide +kernel
theorem dL_reads_180 : decode cL_reads 180 = .ok (.bipush 13, 2) := by decide +kernel
theorem dL_reads_182 : decode cL_reads 182 = .ok (.ishr, 1) := by decide +kernel
theorem dL_reads_183 : decode cL_reads 183 = .ok (.bipush 9, 2) := by decide +kernel
theorem dL_reads_185 : decode cL_reads 185 = .ok (.invokestatic 15, 3) := by decide +kernel
theorem dL_reads_188 : decode cL_reads 188 = .ok (.istore 8, 2) := by decide +kernel
theorem dL_reads_190 : decode cL_reads 190 = .ok (.iload 6, 2) := by decide +kernel
theorem dL_reads_192 : decode cL_reads 192 = .ok (.ifCond .eq 51, 3) := by decide +kernel
theorem dL_reads_195 : decode cL_reads 195 = .ok (.aload_n 0, 1) := by decide +kernel
theorem dL_reads_196 : decode cL_reads 196 = .ok (.iload 7, 2) := by decide +kernel
theorem dL_reads_198 : decode cL_reads 198 = .ok (.bipush 44, 2) := by decide +kernel
theorem dL_reads_200 : decode cL_reads 200 = .ok (.invokestatic 25, 3) := by decide +kernel
theorem dL_reads_203 : decode cL_reads 203 = .ok (.ifCond .eq 40, 3) := by decide +kernel
theorem dL_reads_206 : decode cL_reads 206 = .ok (.aload_n 0, 1) := by decide +kernel
theorem dL_reads_207 : decode cL_reads 207 = .ok (.iload 8, 2) := by decide +kernel
theorem dL_reads_209 : decode cL_reads 209 = .ok (.bipush 47, 2) := by decide +kernel
theorem dL_reads_211 : decode cL_reads 211 = .ok (.invokestatic 25, 3) := by decide +kernel
theorem dL_reads_214 : decode cL_reads 214 = .ok (.ifCond .eq 29, 3) := by decide +kernel
theorem dL_reads_217 : decode cL_reads 217 = .ok (.aload_n 1, 1) := by decide +kernel
theorem dL_reads_218 : decode cL_reads 218 = .ok (.iload 8, 2) := by decide +kernel
theorem dL_reads_220 : decode cL_reads 220 = .ok (.bipush 44, 2) := by decide +kernel
theorem dL_reads_222 : decode cL_reads 222 = .ok (.invokestatic 25, 3) := by decide +kernel
theorem dL_reads_225 : decode cL_reads 225 = .ok (.ifCond .eq 18, 3) := by decide +kernel
theorem dL_reads_228 : decode cL_reads 228 = .ok (.aload_n 1, 1) := by decide +kernel
theorem dL_reads_229 : decode cL_reads 229 = .ok (.iload 7, 2) := by decide +kernel
theorem dL_reads_231 : decode cL_reads 231 = .ok (.bipush 47, 2) := by decide +kernel
theorem dL_reads_233 : decode cL_reads 233 = .ok (.invokestatic 25, 3) := by decide +kernel
theorem dL_reads_236 : decode cL_reads 236 = .ok (.ifCond .eq 7, 3) := by decide +kernel
theorem dL_reads_239 : decode cL_reads 239 = .ok (.iconst 1, 1) := by decide +kernel
theorem dL_reads_240 : decode cL_reads 240 = .ok (.goto 4, 3) := by decide +kernel
theorem dL_reads_243 : decode cL_reads 243 = .ok (.iconst 0, 1) := by decide +kernel
theorem dL_reads_244 : decode cL_reads 244 = .ok (.istore 6, 2) := by decide +kernel
theorem dL_reads_246 : decode cL_reads 246 = .ok (.iload_n 3, 1) := by decide +kernel
theorem dL_reads_247 : decode cL_reads 247 = .ok (.bipush 9, 2) := by decide +kernel
theorem dL_reads_249 : decode cL_reads 249 = .ok (.ishr, 1) := by decide +kernel
theorem dL_reads_250 : decode cL_reads 250 = .ok (.iconst 2, 1) := by decide +kernel
theorem dL_reads_251 : decode cL_reads 251 = .ok (.invokestatic 15, 3) := by decide +kernel
theorem dL_reads_254 : decode cL_reads 254 = .ok (.istore 9, 2) := by decide +kernel
theorem dL_reads_256 : decode cL_reads 256 = .ok (.iload 6, 2) := by decide +kernel
theorem dL_reads_258 : decode cL_reads 258 = .ok (.ifCond .eq 41, 3) := by decide +kernel
theorem dL_reads_261 : decode cL_reads 261 = .ok (.aload_n 0, 1) := by decide +kernel
theorem dL_reads_262 : decode cL_reads 262 = .ok (.bipush 48, 2) := by decide +kernel
theorem dL_reads_264 : decode cL_reads 264 = .ok (.iload 9, 2) := by decide +kernel
theorem dL_reads_266 : decode cL_reads 266 = .ok (.iadd, 1) := by decide +kernel
theorem dL_reads_267 : decode cL_reads 267 = .ok (.i2l, 1) := by decide +kernel
theorem dL_reads_268 : decode cL_reads 268 = .ok (.invokevirtual 9, 3) := by decide +kernel
theorem dL_reads_271 : decode cL_reads 271 = .ok (.aload_n 1, 1) := by decide +kernel
theorem dL_reads_272 : decode cL_reads 272 = .ok (.bipush 49, 2) := by decide +kernel
theorem dL_reads_274 : decode cL_reads 274 = .ok (.iload 9, 2) := by decide +kernel
theorem dL_reads_276 : decode cL_reads 276 = .ok (.isub, 1) := by decide +kernel
theorem dL_reads_277 : decode cL_reads 277 = .ok (.i2l, 1) := by decide +kernel
theorem dL_reads_278 : decode cL_reads 278 = .ok (.invokevirtual 9, 3) := by decide +kernel
theorem dL_reads_281 : decode cL_reads 281 = .ok (.if_icmp .ne 18, 3) := by decide +kernel
theorem dL_reads_284 : decode cL_reads 284 = .ok (.aload_n 0, 1) := by decide +kernel
theorem dL_reads_285 : decode cL_reads 285 = .ok (.invokevirtual 29, 3) := by decide +kernel
theorem dL_reads_288 : decode cL_reads 288 = .ok (.aload_n 1, 1) := by decide +kernel
theorem dL_reads_289 : decode cL_reads 289 = .ok (.invokevirtual 29, 3) := by decide +kernel
theorem dL_reads_292 : decode cL_reads 292 = .ok (.if_icmp .ne 7, 3) := by decide +kernel
theorem dL_reads_295 : decode cL_reads 295 = .ok (.iconst 1, 1) := by decide +kernel
theorem dL_reads_296 : decode cL_reads 296 = .ok (.goto 4, 3) := by decide +kernel
theorem dL_reads_299 : decode cL_reads 299 = .ok (.iconst 0, 1) := by decide +kernel
theorem dL_reads_300 : decode cL_reads 300 = .ok (.ireturn, 1) := by decide +kernel
theorem dL_isStep_0 : decode cL_isStep 0 = .ok (.iload_n 2, 1) := by decide +kernel
theorem dL_isStep_1 : decode cL_isStep 1 = .ok (.iconst 4, 1) := by decide +kernel
theorem dL_isStep_2 : decode cL_isStep 2 = .ok (.ishr, 1) := by decide +kernel
theorem dL_isStep_3 : decode cL_isStep 3 = .ok (.istore_n 3, 1) := by decide +kernel
theorem dL_isStep_4 : decode cL_isStep 4 = .ok (.iload_n 2, 1) := by decide +kernel
theorem dL_isStep_5 : decode cL_isStep 5 = .ok (.bipush 12, 2) := by decide +kernel
theorem dL_isStep_7 : decode cL_isStep 7 = .ok (.invokestatic 15, 3) := by decide +kernel
theorem dL_isStep_10 : decode cL_isStep 10 = .ok (.tableswitch 145 0 2 #[26, 85, 118], 26) := by decide +kernel
theorem dL_isStep_36 : decode cL_isStep 36 = .ok (.iload_n 3, 1) := by decide +kernel
theorem dL_isStep_37 : decode cL_isStep 37 = .ok (.iconst 4, 1) := by decide +kernel
theorem dL_isStep_38 : decode cL_isStep 38 = .ok (.invokestatic 15, 3) := by decide +kernel
theorem dL_isStep_41 : decode cL_isStep 41 = .ok (.istore 4, 2) := by decide +kernel
theorem dL_isStep_43 : decode cL_isStep 43 = .ok (.iload 4, 2) := by decide +kernel
theorem dL_isStep_45 : decode cL_isStep 45 = .ok (.iconst 2, 1) := by decide +kernel
theorem dL_isStep_46 : decode cL_isStep 46 = .ok (.if_icmp .ge 15, 3) := by decide +kernel
theorem dL_isStep_49 : decode cL_isStep 49 = .ok (.iconst 1, 1) := by decide +kernel
theorem dL_isStep_50 : decode cL_isStep 50 = .ok (.iload_n 3, 1) := by decide +kernel
theorem dL_isStep_51 : decode cL_isStep 51 = .ok (.iconst 2, 1) := by decide +kernel
theorem dL_isStep_52 : decode cL_isStep 52 = .ok (.ishr, 1) := by decide +kernel
theorem dL_isStep_53 : decode cL_isStep 53 = .ok (.iconst 5, 1) := by decide +kernel
theorem dL_isStep_54 : decode cL_isStep 54 = .ok (.invokestatic 15, 3) := by decide +kernel
theorem dL_isStep_57 : decode cL_isStep 57 = .ok (.iadd, 1) := by decide +kernel
theorem dL_isStep_58 : decode cL_isStep 58 = .ok (.goto 10, 3) := by decide +kernel
theorem dL_isStep_61 : decode cL_isStep 61 = .ok (.iload_n 3, 1) := by decide +kernel
theorem dL_isStep_62 : decode cL_isStep 62 = .ok (.iconst 2, 1) := by decide +kernel
theorem dL_isStep_63 : decode cL_isStep 63 = .ok (.ishr, 1) := by decide +kernel
theorem dL_isStep_64 : decode cL_isStep 64 = .ok (.iconst 4, 1) := by decide +kernel
theorem dL_isStep_65 : decode cL_isStep 65 = .ok (.invokestatic 15, 3) := by decide +kernel
theorem dL_isStep_68 : decode cL_isStep 68 = .ok (.istore 5, 2) := by decide +kernel
theorem dL_isStep_70 : decode cL_isStep 70 = .ok (.aload_n 0, 1) := by decide +kernel
theorem dL_isStep_71 : decode cL_isStep 71 = .ok (.iload 4, 2) := by decide +kernel
theorem dL_isStep_73 : decode cL_isStep 73 = .ok (.iload 5, 2) := by decide +kernel
theorem dL_isStep_75 : decode cL_isStep 75 = .ok (.invokevirtual 32, 3) := by decide +kernel
theorem dL_isStep_78 : decode cL_isStep 78 = .ok (.aload_n 1, 1) := by decide +kernel
theorem dL_isStep_79 : decode cL_isStep 79 = .ok (.iload 4, 2) := by decide +kernel
theorem dL_isStep_81 : decode cL_isStep 81 = .ok (.iload 5, 2) := by decide +kernel
theorem dL_isStep_83 : decode cL_isStep 83 = .ok (.invokevirtual 32, 3) := by decide +kernel
theorem dL_isStep_86 : decode cL_isStep 86 = .ok (.if_icmp .ne 7, 3) := by decide +kernel
theorem dL_isStep_89 : decode cL_isStep 89 = .ok (.iconst 1, 1) := by decide +kernel
theorem dL_isStep_90 : decode cL_isStep 90 = .ok (.goto 4, 3) := by decide +kernel
theorem dL_isStep_93 : decode cL_isStep 93 = .ok (.iconst 0, 1) := by decide +kernel
theorem dL_isStep_94 : decode cL_isStep 94 = .ok (.ireturn, 1) := by decide +kernel
theorem dL_isStep_95 : decode cL_isStep 95 = .ok (.iconst 1, 1) := by decide +kernel
theorem dL_isStep_96 : decode cL_isStep 96 = .ok (.iload_n 3, 1) := by decide +kernel
theorem dL_isStep_97 : decode cL_isStep 97 = .ok (.iconst 2, 1) := by decide +kernel
theorem dL_isStep_98 : decode cL_isStep 98 = .ok (.invokestatic 15, 3) := by decide +kernel
theorem dL_isStep_101 : decode cL_isStep 101 = .ok (.iadd, 1) := by decide +kernel
theorem dL_isStep_102 : decode cL_isStep 102 = .ok (.istore 4, 2) := by decide +kernel
theorem dL_isStep_104 : decode cL_isStep 104 = .ok (.aload_n 1, 1) := by decide +kernel
theorem dL_isStep_105 : decode cL_isStep 105 = .ok (.iload 4, 2) := by decide +kernel
theorem dL_isStep_107 : decode cL_isStep 107 = .ok (.invokevirtual 35, 3) := by decide +kernel
theorem dL_isStep_110 : decode cL_isStep 110 = .ok (.aload_n 0, 1) := by decide +kernel
theorem dL_isStep_111 : decode cL_isStep 111 = .ok (.iload 4, 2) := by decide +kernel
theorem dL_isStep_113 : decode cL_isStep 113 = .ok (.invokevirtual 35, 3) := by decide +kernel
theorem dL_isStep_116 : decode cL_isStep 116 = .ok (.invokestatic 39, 3) := by decide +kernel
theorem dL_isStep_119 : decode cL_isStep 119 = .ok (.if_icmp .ne 7, 3) := by decide +kernel
theorem dL_isStep_122 : decode cL_isStep 122 = .ok (.iconst 1, 1) := by decide +kernel
theorem dL_isStep_123 : decode cL_isStep 123 = .ok (.goto 4, 3) := by decide +kernel
theorem dL_isStep_126 : decode cL_isStep 126 = .ok (.iconst 0, 1) := by decide +kernel
theorem dL_isStep_127 : decode cL_isStep 127 = .ok (.ireturn, 1) := by decide +kernel
theorem dL_isStep_128 : decode cL_isStep 128 = .ok (.aload_n 0, 1) := by decide +kernel
theorem dL_isStep_129 : decode cL_isStep 129 = .ok (.bipush 13, 2) := by decide +kernel
theorem dL_isStep_131 : decode cL_isStep 131 = .ok (.invokevirtual 42, 3) := by decide +kernel
theorem dL_isStep_134 : decode cL_isStep 134 = .ok (.iconst 2, 1) := by decide +kernel
theorem dL_isStep_135 : decode cL_isStep 135 = .ok (.if_icmp .lt 14, 3) := by decide +kernel
theorem dL_isStep_138 : decode cL_isStep 138 = .ok (.aload_n 0, 1) := by decide +kernel
theorem dL_isStep_139 : decode cL_isStep 139 = .ok (.invokevirtual 45, 3) := by decide +kernel
theorem dL_isStep_142 : decode cL_isStep 142 = .ok (.aload_n 1, 1) := by decide +kernel
theorem dL_isStep_143 : decode cL_isStep 143 = .ok (.invokevirtual 45, 3) := by decide +kernel
theorem dL_isStep_146 : decode cL_isStep 146 = .ok (.if_icmp .ne 7, 3) := by decide +kernel
theorem dL_isStep_149 : decode cL_isStep 149 = .ok (.iconst 1, 1) := by decide +kernel
theorem dL_isStep_150 : decode cL_isStep 150 = .ok (.goto 4, 3) := by decide +kernel
theorem dL_isStep_153 : decode cL_isStep 153 = .ok (.iconst 0, 1) := by decide +kernel
theorem dL_isStep_154 : decode cL_isStep 154 = .ok (.ireturn, 1) := by decide +kernel
theorem dL_isStep_155 : decode cL_isStep 155 = .ok (.iload_n 3, 1) := by decide +kernel
theorem dL_isStep_156 : decode cL_isStep 156 = .ok (.bipush 6, 2) := by decide +kernel
theorem dL_isStep_158 : decode cL_isStep 158 = .ok (.invokestatic 15, 3) := by decide +kernel
theorem dL_isStep_161 : decode cL_isStep 161 = .ok (.bipush 6, 2) := by decide +kernel
theorem dL_isStep_163 : decode cL_isStep 163 = .ok (.aload_n 0, 1) := by decide +kernel
theorem dL_isStep_164 : decode cL_isStep 164 = .ok (.iconst 0, 1) := by decide +kernel
theorem dL_isStep_165 : decode cL_isStep 165 = .ok (.invokevirtual 42, 3) := by decide +kernel
theorem dL_isStep_168 : decode cL_isStep 168 = .ok (.imul, 1) := by decide +kernel
theorem dL_isStep_169 : decode cL_isStep 169 = .ok (.iadd, 1) := by decide +kernel
theorem dL_isStep_170 : decode cL_isStep 170 = .ok (.istore 4, 2) := by decide +kernel
theorem dL_isStep_172 : decode cL_isStep 172 = .ok (.aload_n 0, 1) := by decide +kernel
theorem dL_isStep_173 : decode cL_isStep 173 = .ok (.iload 4, 2) := by decide +kernel
theorem dL_isStep_175 : decode cL_isStep 175 = .ok (.invokevirtual 48, 3) := by decide +kernel
theorem dL_isStep_178 : decode cL_isStep 178 = .ok (.aload_n 1, 1) := by decide +kernel
theorem dL_isStep_179 : decode cL_isStep 179 = .ok (.iload 4, 2) := by decide +kernel
theorem dL_isStep_181 : decode cL_isStep 181 = .ok (.invokestatic 39, 3) := by decide +kernel
theorem dL_isStep_184 : decode cL_isStep 184 = .ok (.invokevirtual 48, 3) := by decide +kernel
theorem dL_isStep_187 : decode cL_isStep 187 = .ok (.if_icmp .ne 7, 3) := by decide +kernel
theorem dL_isStep_190 : decode cL_isStep 190 = .ok (.iconst 1, 1) := by decide +kernel
theorem dL_isStep_191 : decode cL_isStep 191 = .ok (.goto 4, 3) := by decide +kernel
theorem dL_isStep_194 : decode cL_isStep 194 = .ok (.iconst 0, 1) := by decide +kernel
theorem dL_isStep_195 : decode cL_isStep 195 = .ok (.ireturn, 1) := by decide +kernel
theorem dL_turned_0 : decode cL_turned 0 = .ok (.iload_n 0, 1) := by decide +kernel
theorem dL_turned_1 : decode cL_turned 1 = .ok (.ifCond .eq 8, 3) := by decide +kernel
theorem dL_turned_4 : decode cL_turned 4 = .ok (.iload_n 0, 1) := by decide +kernel
theorem dL_turned_5 : decode cL_turned 5 = .ok (.iconst 1, 1) := by decide +kernel
theorem dL_turned_6 : decode cL_turned 6 = .ok (.if_icmp .ne 9, 3) := by decide +kernel
theorem dL_turned_9 : decode cL_turned 9 = .ok (.iconst 1, 1) := by decide +kernel
theorem dL_turned_10 : decode cL_turned 10 = .ok (.iload_n 0, 1) := by decide +kernel
theorem dL_turned_11 : decode cL_turned 11 = .ok (.isub, 1) := by decide +kernel
theorem dL_turned_12 : decode cL_turned 12 = .ok (.goto 4, 3) := by decide +kernel
theorem dL_turned_15 : decode cL_turned 15 = .ok (.iload_n 0, 1) := by decide +kernel
theorem dL_turned_16 : decode cL_turned 16 = .ok (.ireturn, 1) := by decide +kernel
theorem dL_areAlike_0 : decode cL_areAlike 0 = .ok (.aload_n 0, 1) := by decide +kernel
theorem dL_areAlike_1 : decode cL_areAlike 1 = .ok (.iconst 0, 1) := by decide +kernel
theorem dL_areAlike_2 : decode cL_areAlike 2 = .ok (.invokevirtual 42, 3) := by decide +kernel
theorem dL_areAlike_5 : decode cL_areAlike 5 = .ok (.iconst 1, 1) := by decide +kernel
theorem dL_areAlike_6 : decode cL_areAlike 6 = .ok (.aload_n 1, 1) := by decide +kernel
theorem dL_areAlike_7 : decode cL_areAlike 7 = .ok (.iconst 0, 1) := by decide +kernel
theorem dL_areAlike_8 : decode cL_areAlike 8 = .ok (.invokevirtual 42, 3) := by decide +kernel
theorem dL_areAlike_11 : decode cL_areAlike 11 = .ok (.isub, 1) := by decide +kernel
theorem dL_areAlike_12 : decode cL_areAlike 12 = .ok (.if_icmp .ne 101, 3) := by decide +kernel
theorem dL_areAlike_15 : decode cL_areAlike 15 = .ok (.aload_n 0, 1) := by decide +kernel
theorem dL_areAlike_16 : decode cL_areAlike 16 = .ok (.iconst 1, 1) := by decide +kernel
theorem dL_areAlike_17 : decode cL_areAlike 17 = .ok (.invokevirtual 42, 3) := by decide +kernel
theorem dL_areAlike_20 : decode cL_areAlike 20 = .ok (.aload_n 1, 1) := by decide +kernel
theorem dL_areAlike_21 : decode cL_areAlike 21 = .ok (.iconst 1, 1) := by decide +kernel
theorem dL_areAlike_22 : decode cL_areAlike 22 = .ok (.invokevirtual 42, 3) := by decide +kernel
theorem dL_areAlike_25 : decode cL_areAlike 25 = .ok (.if_icmp .ne 88, 3) := by decide +kernel
theorem dL_areAlike_28 : decode cL_areAlike 28 = .ok (.aload_n 0, 1) := by decide +kernel
theorem dL_areAlike_29 : decode cL_areAlike 29 = .ok (.iconst 2, 1) := by decide +kernel
theorem dL_areAlike_30 : decode cL_areAlike 30 = .ok (.invokevirtual 42, 3) := by decide +kernel
theorem dL_areAlike_33 : decode cL_areAlike 33 = .ok (.aload_n 1, 1) := by decide +kernel
theorem dL_areAlike_34 : decode cL_areAlike 34 = .ok (.iconst 2, 1) := by decide +kernel
theorem dL_areAlike_35 : decode cL_areAlike 35 = .ok (.invokevirtual 42, 3) := by decide +kernel
theorem dL_areAlike_38 : decode cL_areAlike 38 = .ok (.invokestatic 51, 3) := by decide +kernel
theorem dL_areAlike_41 : decode cL_areAlike 41 = .ok (.if_icmp .ne 72, 3) := by decide +kernel
theorem dL_areAlike_44 : decode cL_areAlike 44 = .ok (.aload_n 0, 1) := by decide +kernel
theorem dL_areAlike_45 : decode cL_areAlike 45 = .ok (.iconst 3, 1) := by decide +kernel
theorem dL_areAlike_46 : decode cL_areAlike 46 = .ok (.invokevirtual 42, 3) := by decide +kernel
theorem dL_areAlike_49 : decode cL_areAlike 49 = .ok (.aload_n 1, 1) := by decide +kernel
theorem dL_areAlike_50 : decode cL_areAlike 50 = .ok (.iconst 4, 1) := by decide +kernel
theorem dL_areAlike_51 : decode cL_areAlike 51 = .ok (.invokevirtual 42, 3) := by decide +kernel
theorem dL_areAlike_54 : decode cL_areAlike 54 = .ok (.if_icmp .ne 59, 3) := by decide +kernel
theorem dL_areAlike_57 : decode cL_areAlike 57 = .ok (.aload_n 0, 1) := by decide +kernel
theorem dL_areAlike_58 : decode cL_areAlike 58 = .ok (.iconst 4, 1) := by decide +kernel
theorem dL_areAlike_59 : decode cL_areAlike 59 = .ok (.invokevirtual 42, 3) := by decide +kernel
theorem dL_areAlike_62 : decode cL_areAlike 62 = .ok (.aload_n 1, 1) := by decide +kernel
theorem dL_areAlike_63 : decode cL_areAlike 63 = .ok (.iconst 3, 1) := by decide +kernel
theorem dL_areAlike_64 : decode cL_areAlike 64 = .ok (.invokevirtual 42, 3) := by decide +kernel
theorem dL_areAlike_67 : decode cL_areAlike 67 = .ok (.if_icmp .ne 46, 3) := by decide +kernel
theorem dL_areAlike_70 : decode cL_areAlike 70 = .ok (.aload_n 0, 1) := by decide +kernel
theorem dL_areAlike_71 : decode cL_areAlike 71 = .ok (.iconst 5, 1) := by decide +kernel
theorem dL_areAlike_72 : decode cL_areAlike 72 = .ok (.invokevirtual 42, 3) := by decide +kernel
theorem dL_areAlike_75 : decode cL_areAlike 75 = .ok (.iload_n 3, 1) := by decide +kernel
theorem dL_areAlike_76 : decode cL_areAlike 76 = .ok (.if_icmp .ne 37, 3) := by decide +kernel
theorem dL_areAlike_79 : decode cL_areAlike 79 = .ok (.aload_n 0, 1) := by decide +kernel
theorem dL_areAlike_80 : decode cL_areAlike 80 = .ok (.bipush 6, 2) := by decide +kernel
theorem dL_areAlike_82 : decode cL_areAlike 82 = .ok (.invokevirtual 42, 3) := by decide +kernel
theorem dL_areAlike_85 : decode cL_areAlike 85 = .ok (.aload_n 1, 1) := by decide +kernel
theorem dL_areAlike_86 : decode cL_areAlike 86 = .ok (.bipush 6, 2) := by decide +kernel
theorem dL_areAlike_88 : decode cL_areAlike 88 = .ok (.invokevirtual 42, 3) := by decide +kernel
theorem dL_areAlike_91 : decode cL_areAlike 91 = .ok (.if_icmp .ne 22, 3) := by decide +kernel
theorem dL_areAlike_94 : decode cL_areAlike 94 = .ok (.aload_n 0, 1) := by decide +kernel
theorem dL_areAlike_95 : decode cL_areAlike 95 = .ok (.bipush 11, 2) := by decide +kernel
theorem dL_areAlike_97 : decode cL_areAlike 97 = .ok (.invokevirtual 42, 3) := by decide +kernel
theorem dL_areAlike_100 : decode cL_areAlike 100 = .ok (.aload_n 1, 1) := by decide +kernel
theorem dL_areAlike_101 : decode cL_areAlike 101 = .ok (.bipush 11, 2) := by decide +kernel
theorem dL_areAlike_103 : decode cL_areAlike 103 = .ok (.invokevirtual 42, 3) := by decide +kernel
theorem dL_areAlike_106 : decode cL_areAlike 106 = .ok (.if_icmp .ne 7, 3) := by decide +kernel
theorem dL_areAlike_109 : decode cL_areAlike 109 = .ok (.iconst 1, 1) := by decide +kernel
theorem dL_areAlike_110 : decode cL_areAlike 110 = .ok (.goto 4, 3) := by decide +kernel
theorem dL_areAlike_113 : decode cL_areAlike 113 = .ok (.iconst 0, 1) := by decide +kernel
theorem dL_areAlike_114 : decode cL_areAlike 114 = .ok (.istore 4, 2) := by decide +kernel
theorem dL_areAlike_116 : decode cL_areAlike 116 = .ok (.iconst 0, 1) := by decide +kernel
theorem dL_areAlike_117 : decode cL_areAlike 117 = .ok (.istore 5, 2) := by decide +kernel
theorem dL_areAlike_119 : decode cL_areAlike 119 = .ok (.iload 5, 2) := by decide +kernel
theorem dL_areAlike_121 : decode cL_areAlike 121 = .ok (.bipush 12, 2) := by decide +kernel
theorem dL_areAlike_123 : decode cL_areAlike 123 = .ok (.if_icmp .ge 63, 3) := by decide +kernel
theorem dL_areAlike_126 : decode cL_areAlike 126 = .ok (.iload 4, 2) := by decide +kernel
theorem dL_areAlike_128 : decode cL_areAlike 128 = .ok (.ifCond .eq 58, 3) := by decide +kernel
theorem dL_areAlike_131 : decode cL_areAlike 131 = .ok (.iconst 0, 1) := by decide +kernel
theorem dL_areAlike_132 : decode cL_areAlike 132 = .ok (.istore 6, 2) := by decide +kernel
theorem dL_areAlike_134 : decode cL_areAlike 134 = .ok (.iload 6, 2) := by decide +kernel
theorem dL_areAlike_136 : decode cL_areAlike 136 = .ok (.iconst 3, 1) := by decide +kernel
theorem dL_areAlike_137 : decode cL_areAlike 137 = .ok (.if_icmp .ge 43, 3) := by decide +kernel
theorem dL_areAlike_140 : decode cL_areAlike 140 = .ok (.iload 4, 2) := by decide +kernel
theorem dL_areAlike_142 : decode cL_areAlike 142 = .ok (.ifCond .eq 29, 3) := by decide +kernel
theorem dL_areAlike_145 : decode cL_areAlike 145 = .ok (.aload_n 0, 1) := by decide +kernel
theorem dL_areAlike_146 : decode cL_areAlike 146 = .ok (.iload 5, 2) := by decide +kernel
theorem dL_areAlike_148 : decode cL_areAlike 148 = .ok (.iload 6, 2) := by decide +kernel
theorem dL_areAlike_150 : decode cL_areAlike 150 = .ok (.invokevirtual 54, 3) := by decide +kernel
theorem dL_areAlike_153 : decode cL_areAlike 153 = .ok (.aload_n 1, 1) := by decide +kernel
theorem dL_areAlike_154 : decode cL_areAlike 154 = .ok (.iload 5, 2) := by decide +kernel
theorem dL_areAlike_156 : decode cL_areAlike 156 = .ok (.invokestatic 39, 3) := by decide +kernel
theorem dL_areAlike_159 : decode cL_areAlike 159 = .ok (.iload 6, 2) := by decide +kernel
theorem dL_areAlike_161 : decode cL_areAlike 161 = .ok (.invokevirtual 54, 3) := by decide +kernel
theorem dL_areAlike_164 : decode cL_areAlike 164 = .ok (.if_icmp .ne 7, 3) := by decide +kernel
theorem dL_areAlike_167 : decode cL_areAlike 167 = .ok (.iconst 1, 1) := by decide +kernel
theorem dL_areAlike_168 : decode cL_areAlike 168 = .ok (.goto 4, 3) := by decide +kernel
theorem dL_areAlike_171 : decode cL_areAlike 171 = .ok (.iconst 0, 1) := by decide +kernel
theorem dL_areAlike_172 : decode cL_areAlike 172 = .ok (.istore 4, 2) := by decide +kernel
theorem dL_areAlike_174 : decode cL_areAlike 174 = .ok (.iinc 6 1, 3) := by decide +kernel
theorem dL_areAlike_177 : decode cL_areAlike 177 = .ok (.goto (-43), 3) := by decide +kernel
theorem dL_areAlike_180 : decode cL_areAlike 180 = .ok (.iinc 5 1, 3) := by decide +kernel
theorem dL_areAlike_183 : decode cL_areAlike 183 = .ok (.goto (-64), 3) := by decide +kernel
theorem dL_areAlike_186 : decode cL_areAlike 186 = .ok (.iload_n 2, 1) := by decide +kernel
theorem dL_areAlike_187 : decode cL_areAlike 187 = .ok (.bipush 6, 2) := by decide +kernel
theorem dL_areAlike_189 : decode cL_areAlike 189 = .ok (.invokestatic 15, 3) := by decide +kernel
theorem dL_areAlike_192 : decode cL_areAlike 192 = .ok (.bipush 6, 2) := by decide +kernel
theorem dL_areAlike_194 : decode cL_areAlike 194 = .ok (.aload_n 0, 1) := by decide +kernel
theorem dL_areAlike_195 : decode cL_areAlike 195 = .ok (.iconst 0, 1) := by decide +kernel
theorem dL_areAlike_196 : decode cL_areAlike 196 = .ok (.invokevirtual 42, 3) := by decide +kernel
theorem dL_areAlike_199 : decode cL_areAlike 199 = .ok (.imul, 1) := by decide +kernel
theorem dL_areAlike_200 : decode cL_areAlike 200 = .ok (.iadd, 1) := by decide +kernel
theorem dL_areAlike_201 : decode cL_areAlike 201 = .ok (.istore 5, 2) := by decide +kernel
theorem dL_areAlike_203 : decode cL_areAlike 203 = .ok (.iconst 0, 1) := by decide +kernel
theorem dL_areAlike_204 : decode cL_areAlike 204 = .ok (.istore 6, 2) := by decide +kernel
theorem dL_areAlike_206 : decode cL_areAlike 206 = .ok (.iload 6, 2) := by decide +kernel
theorem dL_areAlike_208 : decode cL_areAlike 208 = .ok (.bipush 7, 2) := by decide +kernel
theorem dL_areAlike_210 : decode cL_areAlike 210 = .ok (.if_icmp .ge 118, 3) := by decide +kernel
theorem dL_areAlike_213 : decode cL_areAlike 213 = .ok (.iload 4, 2) := by decide +kernel
theorem dL_areAlike_215 : decode cL_areAlike 215 = .ok (.ifCond .eq 113, 3) := by decide +kernel
theorem dL_areAlike_218 : decode cL_areAlike 218 = .ok (.aload_n 0, 1) := by decide +kernel
theorem dL_areAlike_219 : decode cL_areAlike 219 = .ok (.iload 5, 2) := by decide +kernel
theorem dL_areAlike_221 : decode cL_areAlike 221 = .ok (.iload 6, 2) := by decide +kernel
theorem dL_areAlike_223 : decode cL_areAlike 223 = .ok (.invokevirtual 57, 3) := by decide +kernel
theorem dL_areAlike_226 : decode cL_areAlike 226 = .ok (.istore 7, 2) := by decide +kernel
theorem dL_areAlike_228 : decode cL_areAlike 228 = .ok (.aload_n 1, 1) := by decide +kernel
theorem dL_areAlike_229 : decode cL_areAlike 229 = .ok (.iload 5, 2) := by decide +kernel
theorem dL_areAlike_231 : decode cL_areAlike 231 = .ok (.invokestatic 39, 3) := by decide +kernel
theorem dL_areAlike_234 : decode cL_areAlike 234 = .ok (.iload 6, 2) := by decide +kernel
theorem dL_areAlike_236 : decode cL_areAlike 236 = .ok (.invokevirtual 57, 3) := by decide +kernel
theorem dL_areAlike_239 : decode cL_areAlike 239 = .ok (.istore 8, 2) := by decide +kernel
theorem dL_areAlike_241 : decode cL_areAlike 241 = .ok (.iload 7, 2) := by decide +kernel
theorem dL_areAlike_243 : decode cL_areAlike 243 = .ok (.ifCond .ge 18, 3) := by decide +kernel
theorem dL_areAlike_246 : decode cL_areAlike 246 = .ok (.iload 7, 2) := by decide +kernel
theorem dL_areAlike_248 : decode cL_areAlike 248 = .ok (.iload 8, 2) := by decide +kernel
theorem dL_areAlike_250 : decode cL_areAlike 250 = .ok (.if_icmp .ne 7, 3) := by decide +kernel
theorem dL_areAlike_253 : decode cL_areAlike 253 = .ok (.iconst 1, 1) := by decide +kernel
theorem dL_areAlike_254 : decode cL_areAlike 254 = .ok (.goto 66, 3) := by decide +kernel
theorem dL_areAlike_257 : decode cL_areAlike 257 = .ok (.iconst 0, 1) := by decide +kernel
theorem dL_areAlike_258 : decode cL_areAlike 258 = .ok (.goto 62, 3) := by decide +kernel
theorem dL_areAlike_261 : decode cL_areAlike 261 = .ok (.iload 6, 2) := by decide +kernel
theorem dL_areAlike_263 : decode cL_areAlike 263 = .ok (.iconst 1, 1) := by decide +kernel
theorem dL_areAlike_264 : decode cL_areAlike 264 = .ok (.if_icmp .ne 21, 3) := by decide +kernel
theorem dL_areAlike_267 : decode cL_areAlike 267 = .ok (.iload 7, 2) := by decide +kernel
theorem dL_areAlike_269 : decode cL_areAlike 269 = .ok (.invokestatic 39, 3) := by decide +kernel
theorem dL_areAlike_272 : decode cL_areAlike 272 = .ok (.iload 8, 2) := by decide +kernel
theorem dL_areAlike_274 : decode cL_areAlike 274 = .ok (.if_icmp .ne 7, 3) := by decide +kernel
theorem dL_areAlike_277 : decode cL_areAlike 277 = .ok (.iconst 1, 1) := by decide +kernel
theorem dL_areAlike_278 : decode cL_areAlike 278 = .ok (.goto 42, 3) := by decide +kernel
theorem dL_areAlike_281 : decode cL_areAlike 281 = .ok (.iconst 0, 1) := by decide +kernel
theorem dL_areAlike_282 : decode cL_areAlike 282 = .ok (.goto 38, 3) := by decide +kernel
theorem dL_areAlike_285 : decode cL_areAlike 285 = .ok (.iload 6, 2) := by decide +kernel
theorem dL_areAlike_287 : decode cL_areAlike 287 = .ok (.iconst 5, 1) := by decide +kernel
theorem dL_areAlike_288 : decode cL_areAlike 288 = .ok (.if_icmp .ne 20, 3) := by decide +kernel
theorem dL_areAlike_291 : decode cL_areAlike 291 = .ok (.iconst 1, 1) := by decide +kernel
theorem dL_areAlike_292 : decode cL_areAlike 292 = .ok (.iload 7, 2) := by decide +kernel
theorem dL_areAlike_294 : decode cL_areAlike 294 = .ok (.isub, 1) := by decide +kernel
theorem dL_areAlike_295 : decode cL_areAlike 295 = .ok (.iload 8, 2) := by decide +kernel
theorem dL_areAlike_297 : decode cL_areAlike 297 = .ok (.if_icmp .ne 7, 3) := by decide +kernel
theorem dL_areAlike_300 : decode cL_areAlike 300 = .ok (.iconst 1, 1) := by decide +kernel
theorem dL_areAlike_301 : decode cL_areAlike 301 = .ok (.goto 19, 3) := by decide +kernel
theorem dL_areAlike_304 : decode cL_areAlike 304 = .ok (.iconst 0, 1) := by decide +kernel
theorem dL_areAlike_305 : decode cL_areAlike 305 = .ok (.goto 15, 3) := by decide +kernel
theorem dL_areAlike_308 : decode cL_areAlike 308 = .ok (.iload 7, 2) := by decide +kernel
theorem dL_areAlike_310 : decode cL_areAlike 310 = .ok (.iload 8, 2) := by decide +kernel
theorem dL_areAlike_312 : decode cL_areAlike 312 = .ok (.if_icmp .ne 7, 3) := by decide +kernel
theorem dL_areAlike_315 : decode cL_areAlike 315 = .ok (.iconst 1, 1) := by decide +kernel
theorem dL_areAlike_316 : decode cL_areAlike 316 = .ok (.goto 4, 3) := by decide +kernel
theorem dL_areAlike_319 : decode cL_areAlike 319 = .ok (.iconst 0, 1) := by decide +kernel
theorem dL_areAlike_320 : decode cL_areAlike 320 = .ok (.istore 4, 2) := by decide +kernel
theorem dL_areAlike_322 : decode cL_areAlike 322 = .ok (.iinc 6 1, 3) := by decide +kernel
theorem dL_areAlike_325 : decode cL_areAlike 325 = .ok (.goto (-119), 3) := by decide +kernel
theorem dL_areAlike_328 : decode cL_areAlike 328 = .ok (.iload 4, 2) := by decide +kernel
theorem dL_areAlike_330 : decode cL_areAlike 330 = .ok (.ifCond .eq 78, 3) := by decide +kernel
theorem dL_areAlike_333 : decode cL_areAlike 333 = .ok (.aload_n 0, 1) := by decide +kernel
theorem dL_areAlike_334 : decode cL_areAlike 334 = .ok (.iconst 0, 1) := by decide +kernel
theorem dL_areAlike_335 : decode cL_areAlike 335 = .ok (.invokevirtual 60, 3) := by decide +kernel
theorem dL_areAlike_338 : decode cL_areAlike 338 = .ok (.aload_n 1, 1) := by decide +kernel
theorem dL_areAlike_339 : decode cL_areAlike 339 = .ok (.iconst 0, 1) := by decide +kernel
theorem dL_areAlike_340 : decode cL_areAlike 340 = .ok (.invokevirtual 60, 3) := by decide +kernel
theorem dL_areAlike_343 : decode cL_areAlike 343 = .ok (.invokestatic 39, 3) := by decide +kernel
theorem dL_areAlike_346 : decode cL_areAlike 346 = .ok (.if_icmp .ne 62, 3) := by decide +kernel
theorem dL_areAlike_349 : decode cL_areAlike 349 = .ok (.aload_n 0, 1) := by decide +kernel
theorem dL_areAlike_350 : decode cL_areAlike 350 = .ok (.iconst 1, 1) := by decide +kernel
theorem dL_areAlike_351 : decode cL_areAlike 351 = .ok (.invokevirtual 60, 3) := by decide +kernel
theorem dL_areAlike_354 : decode cL_areAlike 354 = .ok (.aload_n 1, 1) := by decide +kernel
theorem dL_areAlike_355 : decode cL_areAlike 355 = .ok (.iconst 1, 1) := by decide +kernel
theorem dL_areAlike_356 : decode cL_areAlike 356 = .ok (.invokevirtual 60, 3) := by decide +kernel
theorem dL_areAlike_359 : decode cL_areAlike 359 = .ok (.if_icmp .ne 49, 3) := by decide +kernel
theorem dL_areAlike_362 : decode cL_areAlike 362 = .ok (.aload_n 0, 1) := by decide +kernel
theorem dL_areAlike_363 : decode cL_areAlike 363 = .ok (.iconst 2, 1) := by decide +kernel
theorem dL_areAlike_364 : decode cL_areAlike 364 = .ok (.invokevirtual 60, 3) := by decide +kernel
theorem dL_areAlike_367 : decode cL_areAlike 367 = .ok (.aload_n 1, 1) := by decide +kernel
theorem dL_areAlike_368 : decode cL_areAlike 368 = .ok (.iconst 2, 1) := by decide +kernel
theorem dL_areAlike_369 : decode cL_areAlike 369 = .ok (.invokevirtual 60, 3) := by decide +kernel
theorem dL_areAlike_372 : decode cL_areAlike 372 = .ok (.invokestatic 39, 3) := by decide +kernel
theorem dL_areAlike_375 : decode cL_areAlike 375 = .ok (.if_icmp .ne 33, 3) := by decide +kernel
theorem dL_areAlike_378 : decode cL_areAlike 378 = .ok (.aload_n 0, 1) := by decide +kernel
theorem dL_areAlike_379 : decode cL_areAlike 379 = .ok (.iconst 3, 1) := by decide +kernel
theorem dL_areAlike_380 : decode cL_areAlike 380 = .ok (.invokevirtual 60, 3) := by decide +kernel
theorem dL_areAlike_383 : decode cL_areAlike 383 = .ok (.aload_n 1, 1) := by decide +kernel
theorem dL_areAlike_384 : decode cL_areAlike 384 = .ok (.iconst 3, 1) := by decide +kernel
theorem dL_areAlike_385 : decode cL_areAlike 385 = .ok (.invokevirtual 60, 3) := by decide +kernel
theorem dL_areAlike_388 : decode cL_areAlike 388 = .ok (.if_icmp .ne 20, 3) := by decide +kernel
theorem dL_areAlike_391 : decode cL_areAlike 391 = .ok (.aload_n 0, 1) := by decide +kernel
theorem dL_areAlike_392 : decode cL_areAlike 392 = .ok (.iconst 4, 1) := by decide +kernel
theorem dL_areAlike_393 : decode cL_areAlike 393 = .ok (.invokevirtual 60, 3) := by decide +kernel
theorem dL_areAlike_396 : decode cL_areAlike 396 = .ok (.aload_n 1, 1) := by decide +kernel
theorem dL_areAlike_397 : decode cL_areAlike 397 = .ok (.iconst 4, 1) := by decide +kernel
theorem dL_areAlike_398 : decode cL_areAlike 398 = .ok (.invokevirtual 60, 3) := by decide +kernel
theorem dL_areAlike_401 : decode cL_areAlike 401 = .ok (.if_icmp .ne 7, 3) := by decide +kernel
theorem dL_areAlike_404 : decode cL_areAlike 404 = .ok (.iconst 1, 1) := by decide +kernel
theorem dL_areAlike_405 : decode cL_areAlike 405 = .ok (.goto 4, 3) := by decide +kernel
theorem dL_areAlike_408 : decode cL_areAlike 408 = .ok (.iconst 0, 1) := by decide +kernel
theorem dL_areAlike_409 : decode cL_areAlike 409 = .ok (.istore 4, 2) := by decide +kernel
theorem dL_areAlike_411 : decode cL_areAlike 411 = .ok (.iconst 1, 1) := by decide +kernel
theorem dL_areAlike_412 : decode cL_areAlike 412 = .ok (.iload_n 2, 1) := by decide +kernel
theorem dL_areAlike_413 : decode cL_areAlike 413 = .ok (.iconst 4, 1) := by decide +kernel
theorem dL_areAlike_414 : decode cL_areAlike 414 = .ok (.ishr, 1) := by decide +kernel
theorem dL_areAlike_415 : decode cL_areAlike 415 = .ok (.iconst 2, 1) := by decide +kernel
theorem dL_areAlike_416 : decode cL_areAlike 416 = .ok (.invokestatic 15, 3) := by decide +kernel
theorem dL_areAlike_419 : decode cL_areAlike 419 = .ok (.iadd, 1) := by decide +kernel
theorem dL_areAlike_420 : decode cL_areAlike 420 = .ok (.istore 6, 2) := by decide +kernel
theorem dL_areAlike_422 : decode cL_areAlike 422 = .ok (.iload 4, 2) := by decide +kernel
theorem dL_areAlike_424 : decode cL_areAlike 424 = .ok (.ifCond .eq 71, 3) := by decide +kernel
theorem dL_areAlike_427 : decode cL_areAlike 427 = .ok (.aload_n 0, 1) := by decide +kernel
theorem dL_areAlike_428 : decode cL_areAlike 428 = .ok (.iload 6, 2) := by decide +kernel
theorem dL_areAlike_430 : decode cL_areAlike 430 = .ok (.invokevirtual 63, 3) := by decide +kernel
theorem dL_areAlike_433 : decode cL_areAlike 433 = .ok (.aload_n 1, 1) := by decide +kernel
theorem dL_areAlike_434 : decode cL_areAlike 434 = .ok (.iload 6, 2) := by decide +kernel
theorem dL_areAlike_436 : decode cL_areAlike 436 = .ok (.invokevirtual 63, 3) := by decide +kernel
theorem dL_areAlike_439 : decode cL_areAlike 439 = .ok (.if_icmp .ne 56, 3) := by decide +kernel
theorem dL_areAlike_442 : decode cL_areAlike 442 = .ok (.aload_n 0, 1) := by decide +kernel
theorem dL_areAlike_443 : decode cL_areAlike 443 = .ok (.iload 6, 2) := by decide +kernel
theorem dL_areAlike_445 : decode cL_areAlike 445 = .ok (.invokevirtual 66, 3) := by decide +kernel
theorem dL_areAlike_448 : decode cL_areAlike 448 = .ok (.aload_n 1, 1) := by decide +kernel
theorem dL_areAlike_449 : decode cL_areAlike 449 = .ok (.iload 6, 2) := by decide +kernel
theorem dL_areAlike_451 : decode cL_areAlike 451 = .ok (.invokevirtual 66, 3) := by decide +kernel
theorem dL_areAlike_454 : decode cL_areAlike 454 = .ok (.invokestatic 39, 3) := by decide +kernel
theorem dL_areAlike_457 : decode cL_areAlike 457 = .ok (.if_icmp .ne 38, 3) := by decide +kernel
theorem dL_areAlike_460 : decode cL_areAlike 460 = .ok (.aload_n 0, 1) := by decide +kernel
theorem dL_areAlike_461 : decode cL_areAlike 461 = .ok (.iload 6, 2) := by decide +kernel
theorem dL_areAlike_463 : decode cL_areAlike 463 = .ok (.invokevirtual 66, 3) := by decide +kernel
theorem dL_areAlike_466 : decode cL_areAlike 466 = .ok (.ifCond .ge 7, 3) := by decide +kernel
theorem dL_areAlike_469 : decode cL_areAlike 469 = .ok (.iconst 1, 1) := by decide +kernel
theorem dL_areAlike_470 : decode cL_areAlike 470 = .ok (.goto 4, 3) := by decide +kernel
theorem dL_areAlike_473 : decode cL_areAlike 473 = .ok (.iconst 0, 1) := by decide +kernel
theorem dL_areAlike_474 : decode cL_areAlike 474 = .ok (.aload_n 0, 1) := by decide +kernel
theorem dL_areAlike_475 : decode cL_areAlike 475 = .ok (.iconst 1, 1) := by decide +kernel
theorem dL_areAlike_476 : decode cL_areAlike 476 = .ok (.invokevirtual 42, 3) := by decide +kernel
theorem dL_areAlike_479 : decode cL_areAlike 479 = .ok (.iconst 1, 1) := by decide +kernel
theorem dL_areAlike_480 : decode cL_areAlike 480 = .ok (.if_icmp .ne 7, 3) := by decide +kernel
theorem dL_areAlike_483 : decode cL_areAlike 483 = .ok (.iconst 1, 1) := by decide +kernel
theorem dL_areAlike_484 : decode cL_areAlike 484 = .ok (.goto 4, 3) := by decide +kernel
theorem dL_areAlike_487 : decode cL_areAlike 487 = .ok (.iconst 0, 1) := by decide +kernel
theorem dL_areAlike_488 : decode cL_areAlike 488 = .ok (.if_icmp .ne 7, 3) := by decide +kernel
theorem dL_areAlike_491 : decode cL_areAlike 491 = .ok (.iconst 1, 1) := by decide +kernel
theorem dL_areAlike_492 : decode cL_areAlike 492 = .ok (.goto 4, 3) := by decide +kernel
theorem dL_areAlike_495 : decode cL_areAlike 495 = .ok (.iconst 0, 1) := by decide +kernel
theorem dL_areAlike_496 : decode cL_areAlike 496 = .ok (.ireturn, 1) := by decide +kernel
theorem dL_isBest_0 : decode cL_isBest 0 = .ok (.aload_n 0, 1) := by decide +kernel
theorem dL_isBest_1 : decode cL_isBest 1 = .ok (.iconst 1, 1) := by decide +kernel
theorem dL_isBest_2 : decode cL_isBest 2 = .ok (.invokevirtual 42, 3) := by decide +kernel
theorem dL_isBest_5 : decode cL_isBest 5 = .ok (.iconst 1, 1) := by decide +kernel
theorem dL_isBest_6 : decode cL_isBest 6 = .ok (.if_icmp .ne 46, 3) := by decide +kernel
theorem dL_isBest_9 : decode cL_isBest 9 = .ok (.aload_n 0, 1) := by decide +kernel
theorem dL_isBest_10 : decode cL_isBest 10 = .ok (.iconst 2, 1) := by decide +kernel
theorem dL_isBest_11 : decode cL_isBest 11 = .ok (.invokevirtual 69, 3) := by decide +kernel
theorem dL_isBest_14 : decode cL_isBest 14 = .ok (.ifCond .ne 36, 3) := by decide +kernel
theorem dL_isBest_17 : decode cL_isBest 17 = .ok (.aload_n 0, 1) := by decide +kernel
theorem dL_isBest_18 : decode cL_isBest 18 = .ok (.iconst 3, 1) := by decide +kernel
theorem dL_isBest_19 : decode cL_isBest 19 = .ok (.invokevirtual 42, 3) := by decide +kernel
theorem dL_isBest_22 : decode cL_isBest 22 = .ok (.aload_n 0, 1) := by decide +kernel
theorem dL_isBest_23 : decode cL_isBest 23 = .ok (.iconst 4, 1) := by decide +kernel
theorem dL_isBest_24 : decode cL_isBest 24 = .ok (.invokevirtual 42, 3) := by decide +kernel
theorem dL_isBest_27 : decode cL_isBest 27 = .ok (.iadd, 1) := by decide +kernel
theorem dL_isBest_28 : decode cL_isBest 28 = .ok (.aload_n 0, 1) := by decide +kernel
theorem dL_isBest_29 : decode cL_isBest 29 = .ok (.iconst 5, 1) := by decide +kernel
theorem dL_isBest_30 : decode cL_isBest 30 = .ok (.invokevirtual 42, 3) := by decide +kernel
theorem dL_isBest_33 : decode cL_isBest 33 = .ok (.if_icmp .ne 17, 3) := by decide +kernel
theorem dL_isBest_36 : decode cL_isBest 36 = .ok (.aload_n 0, 1) := by decide +kernel
theorem dL_isBest_37 : decode cL_isBest 37 = .ok (.iconst 2, 1) := by decide +kernel
theorem dL_isBest_38 : decode cL_isBest 38 = .ok (.invokevirtual 42, 3) := by decide +kernel
theorem dL_isBest_41 : decode cL_isBest 41 = .ok (.bipush (-6), 2) := by decide +kernel
theorem dL_isBest_43 : decode cL_isBest 43 = .ok (.if_icmp .eq 7, 3) := by decide +kernel
theorem dL_isBest_46 : decode cL_isBest 46 = .ok (.iconst 1, 1) := by decide +kernel
theorem dL_isBest_47 : decode cL_isBest 47 = .ok (.goto 4, 3) := by decide +kernel
theorem dL_isBest_50 : decode cL_isBest 50 = .ok (.iconst 0, 1) := by decide +kernel
theorem dL_isBest_51 : decode cL_isBest 51 = .ok (.ireturn, 1) := by decide +kernel
theorem dL_isBest_52 : decode cL_isBest 52 = .ok (.aload_n 0, 1) := by decide +kernel
theorem dL_isBest_53 : decode cL_isBest 53 = .ok (.iconst 0, 1) := by decide +kernel
theorem dL_isBest_54 : decode cL_isBest 54 = .ok (.invokevirtual 42, 3) := by decide +kernel
theorem dL_isBest_57 : decode cL_isBest 57 = .ok (.istore_n 1, 1) := by decide +kernel
theorem dL_isBest_58 : decode cL_isBest 58 = .ok (.aload_n 0, 1) := by decide +kernel
theorem dL_isBest_59 : decode cL_isBest 59 = .ok (.iconst 1, 1) := by decide +kernel
theorem dL_isBest_60 : decode cL_isBest 60 = .ok (.invokevirtual 66, 3) := by decide +kernel
theorem dL_isBest_63 : decode cL_isBest 63 = .ok (.istore_n 2, 1) := by decide +kernel
theorem dL_isBest_64 : decode cL_isBest 64 = .ok (.aload_n 0, 1) := by decide +kernel
theorem dL_isBest_65 : decode cL_isBest 65 = .ok (.iconst 3, 1) := by decide +kernel
theorem dL_isBest_66 : decode cL_isBest 66 = .ok (.iload_n 1, 1) := by decide +kernel
theorem dL_isBest_67 : decode cL_isBest 67 = .ok (.iadd, 1) := by decide +kernel
theorem dL_isBest_68 : decode cL_isBest 68 = .ok (.invokevirtual 42, 3) := by decide +kernel
theorem dL_isBest_71 : decode cL_isBest 71 = .ok (.istore_n 3, 1) := by decide +kernel
theorem dL_isBest_72 : decode cL_isBest 72 = .ok (.aload_n 0, 1) := by decide +kernel
theorem dL_isBest_73 : decode cL_isBest 73 = .ok (.iload_n 2, 1) := by decide +kernel
theorem dL_isBest_74 : decode cL_isBest 74 = .ok (.iconst 4, 1) := by decide +kernel
theorem dL_isBest_75 : decode cL_isBest 75 = .ok (.invokevirtual 57, 3) := by decide +kernel
theorem dL_isBest_78 : decode cL_isBest 78 = .ok (.sipush 10000, 3) := by decide +kernel
theorem dL_isBest_81 : decode cL_isBest 81 = .ok (.isub, 1) := by decide +kernel
theorem dL_isBest_82 : decode cL_isBest 82 = .ok (.istore 4, 2) := by decide +kernel
theorem dL_isBest_84 : decode cL_isBest 84 = .ok (.aload_n 0, 1) := by decide +kernel
theorem dL_isBest_85 : decode cL_isBest 85 = .ok (.iconst 1, 1) := by decide +kernel
theorem dL_isBest_86 : decode cL_isBest 86 = .ok (.invokevirtual 63, 3) := by decide +kernel
theorem dL_isBest_89 : decode cL_isBest 89 = .ok (.sipush 10000, 3) := by decide +kernel
theorem dL_isBest_92 : decode cL_isBest 92 = .ok (.isub, 1) := by decide +kernel
theorem dL_isBest_93 : decode cL_isBest 93 = .ok (.istore 5, 2) := by decide +kernel
theorem dL_isBest_95 : decode cL_isBest 95 = .ok (.aload_n 0, 1) := by decide +kernel
theorem dL_isBest_96 : decode cL_isBest 96 = .ok (.iload_n 2, 1) := by decide +kernel
theorem dL_isBest_97 : decode cL_isBest 97 = .ok (.bipush 6, 2) := by decide +kernel
theorem dL_isBest_99 : decode cL_isBest 99 = .ok (.invokevirtual 57, 3) := by decide +kernel
theorem dL_isBest_102 : decode cL_isBest 102 = .ok (.iconst 1, 1) := by decide +kernel
theorem dL_isBest_103 : decode cL_isBest 103 = .ok (.if_icmp .eq 12, 3) := by decide +kernel
theorem dL_isBest_106 : decode cL_isBest 106 = .ok (.iload 5, 2) := by decide +kernel
theorem dL_isBest_108 : decode cL_isBest 108 = .ok (.iload_n 3, 1) := by decide +kernel
theorem dL_isBest_109 : decode cL_isBest 109 = .ok (.iload 4, 2) := by decide +kernel
theorem dL_isBest_111 : decode cL_isBest 111 = .ok (.iadd, 1) := by decide +kernel
theorem dL_isBest_112 : decode cL_isBest 112 = .ok (.if_icmp .gt 7, 3) := by decide +kernel
theorem dL_isBest_115 : decode cL_isBest 115 = .ok (.iconst 1, 1) := by decide +kernel
theorem dL_isBest_116 : decode cL_isBest 116 = .ok (.goto 4, 3) := by decide +kernel
theorem dL_isBest_119 : decode cL_isBest 119 = .ok (.iconst 0, 1) := by decide +kernel
theorem dL_isBest_120 : decode cL_isBest 120 = .ok (.istore 6, 2) := by decide +kernel
theorem dL_isBest_122 : decode cL_isBest 122 = .ok (.iload 6, 2) := by decide +kernel
theorem dL_isBest_124 : decode cL_isBest 124 = .ok (.ifCond .eq 50, 3) := by decide +kernel
theorem dL_isBest_127 : decode cL_isBest 127 = .ok (.aload_n 0, 1) := by decide +kernel
theorem dL_isBest_128 : decode cL_isBest 128 = .ok (.iconst 1, 1) := by decide +kernel
theorem dL_isBest_129 : decode cL_isBest 129 = .ok (.invokevirtual 35, 3) := by decide +kernel
theorem dL_isBest_132 : decode cL_isBest 132 = .ok (.iload_n 2, 1) := by decide +kernel
theorem dL_isBest_133 : decode cL_isBest 133 = .ok (.if_icmp .ne 41, 3) := by decide +kernel
theorem dL_isBest_136 : decode cL_isBest 136 = .ok (.aload_n 0, 1) := by decide +kernel
theorem dL_isBest_137 : decode cL_isBest 137 = .ok (.iconst 3, 1) := by decide +kernel
theorem dL_isBest_138 : decode cL_isBest 138 = .ok (.iload_n 1, 1) := by decide +kernel
theorem dL_isBest_139 : decode cL_isBest 139 = .ok (.iadd, 1) := by decide +kernel
theorem dL_isBest_140 : decode cL_isBest 140 = .ok (.invokevirtual 42, 3) := by decide +kernel
theorem dL_isBest_143 : decode cL_isBest 143 = .ok (.iload_n 3, 1) := by decide +kernel
theorem dL_isBest_144 : decode cL_isBest 144 = .ok (.iload 4, 2) := by decide +kernel
theorem dL_isBest_146 : decode cL_isBest 146 = .ok (.iadd, 1) := by decide +kernel
theorem dL_isBest_147 : decode cL_isBest 147 = .ok (.if_icmp .ne 27, 3) := by decide +kernel
theorem dL_isBest_150 : decode cL_isBest 150 = .ok (.aload_n 0, 1) := by decide +kernel
theorem dL_isBest_151 : decode cL_isBest 151 = .ok (.iconst 3, 1) := by decide +kernel
theorem dL_isBest_152 : decode cL_isBest 152 = .ok (.iload_n 1, 1) := by decide +kernel
theorem dL_isBest_153 : decode cL_isBest 153 = .ok (.iadd, 1) := by decide +kernel
theorem dL_isBest_154 : decode cL_isBest 154 = .ok (.invokevirtual 42, 3) := by decide +kernel
theorem dL_isBest_157 : decode cL_isBest 157 = .ok (.aload_n 0, 1) := by decide +kernel
theorem dL_isBest_158 : decode cL_isBest 158 = .ok (.iconst 4, 1) := by decide +kernel
theorem dL_isBest_159 : decode cL_isBest 159 = .ok (.iload_n 1, 1) := by decide +kernel
theorem dL_isBest_160 : decode cL_isBest 160 = .ok (.isub, 1) := by decide +kernel
theorem dL_isBest_161 : decode cL_isBest 161 = .ok (.invokevirtual 42, 3) := by decide +kernel
theorem dL_isBest_164 : decode cL_isBest 164 = .ok (.isub, 1) := by decide +kernel
theorem dL_isBest_165 : decode cL_isBest 165 = .ok (.iload 5, 2) := by decide +kernel
theorem dL_isBest_167 : decode cL_isBest 167 = .ok (.if_icmp .ne 7, 3) := by decide +kernel
theorem dL_isBest_170 : decode cL_isBest 170 = .ok (.iconst 1, 1) := by decide +kernel
theorem dL_isBest_171 : decode cL_isBest 171 = .ok (.goto 4, 3) := by decide +kernel
theorem dL_isBest_174 : decode cL_isBest 174 = .ok (.iconst 0, 1) := by decide +kernel
theorem dL_isBest_175 : decode cL_isBest 175 = .ok (.istore 6, 2) := by decide +kernel
theorem dL_isBest_177 : decode cL_isBest 177 = .ok (.iload 6, 2) := by decide +kernel
theorem dL_isBest_179 : decode cL_isBest 179 = .ok (.ifCond .eq 34, 3) := by decide +kernel
theorem dL_isBest_182 : decode cL_isBest 182 = .ok (.aload_n 0, 1) := by decide +kernel
theorem dL_isBest_183 : decode cL_isBest 183 = .ok (.invokevirtual 45, 3) := by decide +kernel
theorem dL_isBest_186 : decode cL_isBest 186 = .ok (.ifCond .lt 27, 3) := by decide +kernel
theorem dL_isBest_189 : decode cL_isBest 189 = .ok (.aload_n 0, 1) := by decide +kernel
theorem dL_isBest_190 : decode cL_isBest 190 = .ok (.iconst 3, 1) := by decide +kernel
theorem dL_isBest_191 : decode cL_isBest 191 = .ok (.iload_n 1, 1) := by decide +kernel
theorem dL_isBest_192 : decode cL_isBest 192 = .ok (.iadd, 1) := by decide +kernel
theorem dL_isBest_193 : decode cL_isBest 193 = .ok (.invokevirtual 42, 3) := by decide +kernel
theorem dL_isBest_196 : decode cL_isBest 196 = .ok (.iload_n 3, 1) := by decide +kernel
theorem dL_isBest_197 : decode cL_isBest 197 = .ok (.if_icmp .ne 16, 3) := by decide +kernel
theorem dL_isBest_200 : decode cL_isBest 200 = .ok (.aload_n 0, 1) := by decide +kernel
theorem dL_isBest_201 : decode cL_isBest 201 = .ok (.iconst 1, 1) := by decide +kernel
theorem dL_isBest_202 : decode cL_isBest 202 = .ok (.invokevirtual 69, 3) := by decide +kernel
theorem dL_isBest_205 : decode cL_isBest 205 = .ok (.iconst 1, 1) := by decide +kernel
theorem dL_isBest_206 : decode cL_isBest 206 = .ok (.if_icmp .lt 7, 3) := by decide +kernel
theorem dL_isBest_209 : decode cL_isBest 209 = .ok (.iconst 1, 1) := by decide +kernel
theorem dL_isBest_210 : decode cL_isBest 210 = .ok (.goto 4, 3) := by decide +kernel
theorem dL_isBest_213 : decode cL_isBest 213 = .ok (.iconst 0, 1) := by decide +kernel
theorem dL_isBest_214 : decode cL_isBest 214 = .ok (.ireturn, 1) := by decide +kernel
theorem dL_law_0 : decode cL_law 0 = .ok (.new 10, 3) := by decide +kernel
theorem dL_law_3 : decode cL_law 3 = .ok (.dup, 1) := by decide +kernel
theorem dL_law_4 : decode cL_law 4 = .ok (.invokespecial 72, 3) := by decide +kernel
theorem dL_law_7 : decode cL_law 7 = .ok (.astore_n 1, 1) := by decide +kernel
theorem dL_law_8 : decode cL_law 8 = .ok (.new 10, 3) := by decide +kernel
theorem dL_law_11 : decode cL_law 11 = .ok (.dup, 1) := by decide +kernel
theorem dL_law_12 : decode cL_law 12 = .ok (.invokespecial 72, 3) := by decide +kernel
theorem dL_law_15 : decode cL_law 15 = .ok (.astore_n 2, 1) := by decide +kernel
theorem dL_law_16 : decode cL_law 16 = .ok (.aload_n 1, 1) := by decide +kernel
theorem dL_law_17 : decode cL_law 17 = .ok (.aload_n 2, 1) := by decide +kernel
theorem dL_law_18 : decode cL_law 18 = .ok (.aload_n 0, 1) := by decide +kernel
theorem dL_law_19 : decode cL_law 19 = .ok (.iconst 0, 1) := by decide +kernel
theorem dL_law_20 : decode cL_law 20 = .ok (.invokestatic 73, 3) := by decide +kernel
theorem dL_law_23 : decode cL_law 23 = .ok (.aload_n 0, 1) := by decide +kernel
theorem dL_law_24 : decode cL_law 24 = .ok (.iconst 1, 1) := by decide +kernel
theorem dL_law_25 : decode cL_law 25 = .ok (.invokestatic 73, 3) := by decide +kernel
theorem dL_law_28 : decode cL_law 28 = .ok (.invokestatic 77, 3) := by decide +kernel
theorem dL_law_31 : decode cL_law 31 = .ok (.istore_n 3, 1) := by decide +kernel
theorem dL_law_32 : decode cL_law 32 = .ok (.aload_n 1, 1) := by decide +kernel
theorem dL_law_33 : decode cL_law 33 = .ok (.iconst 5, 1) := by decide +kernel
theorem dL_law_34 : decode cL_law 34 = .ok (.invokevirtual 42, 3) := by decide +kernel
theorem dL_law_37 : decode cL_law 37 = .ok (.istore 4, 2) := by decide +kernel
theorem dL_law_39 : decode cL_law 39 = .ok (.iconst 2, 1) := by decide +kernel
theorem dL_law_40 : decode cL_law 40 = .ok (.istore 5, 2) := by decide +kernel
theorem dL_law_42 : decode cL_law 42 = .ok (.iload 5, 2) := by decide +kernel
theorem dL_law_44 : decode cL_law 44 = .ok (.bipush 34, 2) := by decide +kernel
theorem dL_law_46 : decode cL_law 46 = .ok (.if_icmp .ge 54, 3) := by decide +kernel
theorem dL_law_49 : decode cL_law 49 = .ok (.iload_n 3, 1) := by decide +kernel
theorem dL_law_50 : decode cL_law 50 = .ok (.ifCond .eq 50, 3) := by decide +kernel
theorem dL_law_53 : decode cL_law 53 = .ok (.aload_n 1, 1) := by decide +kernel
theorem dL_law_54 : decode cL_law 54 = .ok (.aload_n 2, 1) := by decide +kernel
theorem dL_law_55 : decode cL_law 55 = .ok (.aload_n 0, 1) := by decide +kernel
theorem dL_law_56 : decode cL_law 56 = .ok (.iload 5, 2) := by decide +kernel
theorem dL_law_58 : decode cL_law 58 = .ok (.invokestatic 73, 3) := by decide +kernel
theorem dL_law_61 : decode cL_law 61 = .ok (.invokestatic 81, 3) := by decide +kernel
theorem dL_law_64 : decode cL_law 64 = .ok (.istore_n 3, 1) := by decide +kernel
theorem dL_law_65 : decode cL_law 65 = .ok (.iload_n 3, 1) := by decide +kernel
theorem dL_law_66 : decode cL_law 66 = .ok (.ifCond .eq 26, 3) := by decide +kernel
theorem dL_law_69 : decode cL_law 69 = .ok (.aload_n 1, 1) := by decide +kernel
theorem dL_law_70 : decode cL_law 70 = .ok (.aload_n 2, 1) := by decide +kernel
theorem dL_law_71 : decode cL_law 71 = .ok (.aload_n 0, 1) := by decide +kernel
theorem dL_law_72 : decode cL_law 72 = .ok (.iload 5, 2) := by decide +kernel
theorem dL_law_74 : decode cL_law 74 = .ok (.invokestatic 73, 3) := by decide +kernel
theorem dL_law_77 : decode cL_law 77 = .ok (.bipush 7, 2) := by decide +kernel
theorem dL_law_79 : decode cL_law 79 = .ok (.ishr, 1) := by decide +kernel
theorem dL_law_80 : decode cL_law 80 = .ok (.iload 4, 2) := by decide +kernel
theorem dL_law_82 : decode cL_law 82 = .ok (.invokestatic 85, 3) := by decide +kernel
theorem dL_law_85 : decode cL_law 85 = .ok (.ifCond .eq 7, 3) := by decide +kernel
theorem dL_law_88 : decode cL_law 88 = .ok (.iconst 1, 1) := by decide +kernel
theorem dL_law_89 : decode cL_law 89 = .ok (.goto 4, 3) := by decide +kernel
theorem dL_law_92 : decode cL_law 92 = .ok (.iconst 0, 1) := by decide +kernel
theorem dL_law_93 : decode cL_law 93 = .ok (.istore_n 3, 1) := by decide +kernel
theorem dL_law_94 : decode cL_law 94 = .ok (.iinc 5 1, 3) := by decide +kernel
theorem dL_law_97 : decode cL_law 97 = .ok (.goto (-55), 3) := by decide +kernel
theorem dL_law_100 : decode cL_law 100 = .ok (.iload_n 3, 1) := by decide +kernel
theorem dL_law_101 : decode cL_law 101 = .ok (.ifCond .eq 14, 3) := by decide +kernel
theorem dL_law_104 : decode cL_law 104 = .ok (.aload_n 1, 1) := by decide +kernel
theorem dL_law_105 : decode cL_law 105 = .ok (.invokestatic 88, 3) := by decide +kernel
theorem dL_law_108 : decode cL_law 108 = .ok (.ifCond .eq 7, 3) := by decide +kernel
theorem dL_law_111 : decode cL_law 111 = .ok (.iconst 1, 1) := by decide +kernel
theorem dL_law_112 : decode cL_law 112 = .ok (.goto 4, 3) := by decide +kernel
theorem dL_law_115 : decode cL_law 115 = .ok (.iconst 0, 1) := by decide +kernel
theorem dL_law_116 : decode cL_law 116 = .ok (.ireturn, 1) := by decide +kernel
abbrev vwCl : List vw_C := [(RX0, TX0, 3), (RX1, TX1, 3), (RX2, TX2, 3), (RX3, TX3, 6), (RX4, TX4, 5), (RX5, TX5, 4), (RX6, TX6, 6)]

section
-- ===== PART A: goes FIRST, ahead of the names: the tables' words, and 'selects' of the private methods out of them =====
/-- a private method of a class that the tables say can be made, by its rows of tables_1 -/
def lw_okq (q : MethodName × Nat) : Prop := (q.1.cls ≠ "java/lang/invoke/MethodHandle" ∧ q.1.cls ≠ "java/lang/invoke/VarHandle") ∧ Cond.instantiable q.1.cls q.2 ∈ tables_1 ∧ Cond.privateMethod q.1 ∈ tables_1 ∧ Cond.instanceMethod q.1 ∈ tables_1
theorem lw_p0 : lw_okq (⟨"HostileHouses$Position", "startGame", "()V"⟩, 6) := ⟨⟨by decide +kernel, by decide +kernel⟩, List.mem_of_getElem? (i := 26) (by decide +kernel), List.mem_of_getElem? (i := 185) (by decide +kernel), List.mem_of_getElem? (i := 186) (by decide +kernel)⟩
theorem lw_p1 : lw_okq (⟨"HostileHouses", "errorOfMove", "(I)I"⟩, 6) := ⟨⟨by decide +kernel, by decide +kernel⟩, List.mem_of_getElem? (i := 12) (by decide +kernel), List.mem_of_getElem? (i := 244) (by decide +kernel), List.mem_of_getElem? (i := 245) (by decide +kernel)⟩
theorem lw_p2 : lw_okq (⟨"HostileHouses$Position", "sowLap", "(I[ILHostileHouses$Report;)Z"⟩, 6) := ⟨⟨by decide +kernel, by decide +kernel⟩, List.mem_of_getElem? (i := 26) (by decide +kernel), List.mem_of_getElem? (i := 270) (by decide +kernel), List.mem_of_getElem? (i := 271) (by decide +kernel)⟩
theorem lw_p3 : lw_okq (⟨"HostileHouses$Position", "sowHand", "(I[ILHostileHouses$Report;)I"⟩, 6) := ⟨⟨by decide +kernel, by decide +kernel⟩, List.mem_of_getElem? (i := 26) (by decide +kernel), List.mem_of_getElem? (i := 274) (by decide +kernel), List.mem_of_getElem? (i := 275) (by decide +kernel)⟩
theorem lw_p4 : lw_okq (⟨"HostileHouses$Position", "captureAcross", "(ILHostileHouses$Report;)V"⟩, 6) := ⟨⟨by decide +kernel, by decide +kernel⟩, List.mem_of_getElem? (i := 26) (by decide +kernel), List.mem_of_getElem? (i := 285) (by decide +kernel), List.mem_of_getElem? (i := 286) (by decide +kernel)⟩
theorem lw_p5 : lw_okq (⟨"HostileHouses$Position", "giveTurnTo", "(I)V"⟩, 6) := ⟨⟨by decide +kernel, by decide +kernel⟩, List.mem_of_getElem? (i := 26) (by decide +kernel), List.mem_of_getElem? (i := 289) (by decide +kernel), List.mem_of_getElem? (i := 290) (by decide +kernel)⟩
theorem lw_p6 : lw_okq (⟨"HostileHouses$Position", "isDecided", "()Z"⟩, 6) := ⟨⟨by decide +kernel, by decide +kernel⟩, List.mem_of_getElem? (i := 26) (by decide +kernel), List.mem_of_getElem? (i := 293) (by decide +kernel), List.mem_of_getElem? (i := 294) (by decide +kernel)⟩
theorem lw_p7 : lw_okq (⟨"HostileHouses$Lookahead", "valueBehind", "(LHostileHouses$Position;I[II)I"⟩, 3) := ⟨⟨by decide +kernel, by decide +kernel⟩, List.mem_of_getElem? (i := 158) (by decide +kernel), List.mem_of_getElem? (i := 310) (by decide +kernel), List.mem_of_getElem? (i := 311) (by decide +kernel)⟩
theorem lw_p8 : lw_okq (⟨"HostileHouses$Pad", "digitFits", "(CII)Z"⟩, 3) := ⟨⟨by decide +kernel, by decide +kernel⟩, List.mem_of_getElem? (i := 138) (by decide +kernel), List.mem_of_getElem? (i := 335) (by decide +kernel), List.mem_of_getElem? (i := 336) (by decide +kernel)⟩
theorem lw_p9 : lw_okq (⟨"HostileHousesModel", "anew", "()V"⟩, 13) := ⟨⟨by decide +kernel, by decide +kernel⟩, List.mem_of_getElem? (i := 444) (by decide +kernel), List.mem_of_getElem? (i := 450) (by decide +kernel), List.mem_of_getElem? (i := 451) (by decide +kernel)⟩
theorem lw_p10 : lw_okq (⟨"HostileHousesModel", "empties", "()V"⟩, 13) := ⟨⟨by decide +kernel, by decide +kernel⟩, List.mem_of_getElem? (i := 444) (by decide +kernel), List.mem_of_getElem? (i := 454) (by decide +kernel), List.mem_of_getElem? (i := 455) (by decide +kernel)⟩
theorem lw_p11 : lw_okq (⟨"HostileHousesModel", "record", "()V"⟩, 13) := ⟨⟨by decide +kernel, by decide +kernel⟩, List.mem_of_getElem? (i := 444) (by decide +kernel), List.mem_of_getElem? (i := 511) (by decide +kernel), List.mem_of_getElem? (i := 512) (by decide +kernel)⟩
theorem lw_p12 : lw_okq (⟨"HostileHousesModel", "makes", "(I)V"⟩, 13) := ⟨⟨by decide +kernel, by decide +kernel⟩, List.mem_of_getElem? (i := 444) (by decide +kernel), List.mem_of_getElem? (i := 533) (by decide +kernel), List.mem_of_getElem? (i := 534) (by decide +kernel)⟩
theorem lw_p13 : lw_okq (⟨"HostileHousesModel", "copy", "([III)V"⟩, 13) := ⟨⟨by decide +kernel, by decide +kernel⟩, List.mem_of_getElem? (i := 444) (by decide +kernel), List.mem_of_getElem? (i := 563) (by decide +kernel), List.mem_of_getElem? (i := 564) (by decide +kernel)⟩
theorem lw_p14 : lw_okq (⟨"HostileHousesModel", "bestOf", "(II)I"⟩, 13) := ⟨⟨by decide +kernel, by decide +kernel⟩, List.mem_of_getElem? (i := 444) (by decide +kernel), List.mem_of_getElem? (i := 567) (by decide +kernel), List.mem_of_getElem? (i := 568) (by decide +kernel)⟩
theorem lw_p15 : lw_okq (⟨"HostileHousesModel", "worthOf", "(II)I"⟩, 13) := ⟨⟨by decide +kernel, by decide +kernel⟩, List.mem_of_getElem? (i := 444) (by decide +kernel), List.mem_of_getElem? (i := 571) (by decide +kernel), List.mem_of_getElem? (i := 572) (by decide +kernel)⟩
def lw_privs_1 : List (MethodName × Nat) := [(⟨"HostileHouses$Position", "startGame", "()V"⟩, 6), (⟨"HostileHouses", "errorOfMove", "(I)I"⟩, 6), (⟨"HostileHouses$Position", "sowLap", "(I[ILHostileHouses$Report;)Z"⟩, 6), (⟨"HostileHouses$Position", "sowHand", "(I[ILHostileHouses$Report;)I"⟩, 6), (⟨"HostileHouses$Position", "captureAcross", "(ILHostileHouses$Report;)V"⟩, 6), (⟨"HostileHouses$Position", "giveTurnTo", "(I)V"⟩, 6), (⟨"HostileHouses$Position", "isDecided", "()Z"⟩, 6), (⟨"HostileHouses$Lookahead", "valueBehind", "(LHostileHouses$Position;I[II)I"⟩, 3), (⟨"HostileHouses$Pad", "digitFits", "(CII)Z"⟩, 3), (⟨"HostileHousesModel", "anew", "()V"⟩, 13), (⟨"HostileHousesModel", "empties", "()V"⟩, 13), (⟨"HostileHousesModel", "record", "()V"⟩, 13), (⟨"HostileHousesModel", "makes", "(I)V"⟩, 13), (⟨"HostileHousesModel", "copy", "([III)V"⟩, 13), (⟨"HostileHousesModel", "bestOf", "(II)I"⟩, 13), (⟨"HostileHousesModel", "worthOf", "(II)I"⟩, 13)]
theorem lw_r1 : ∀ q ∈ lw_privs_1, lw_okq q := List.forall_mem_cons.mpr ⟨lw_p0, List.forall_mem_cons.mpr ⟨lw_p1, List.forall_mem_cons.mpr ⟨lw_p2, List.forall_mem_cons.mpr ⟨lw_p3, List.forall_mem_cons.mpr ⟨lw_p4, List.forall_mem_cons.mpr ⟨lw_p5, List.forall_mem_cons.mpr ⟨lw_p6, List.forall_mem_cons.mpr ⟨lw_p7, List.forall_mem_cons.mpr ⟨lw_p8, List.forall_mem_cons.mpr ⟨lw_p9, List.forall_mem_cons.mpr ⟨lw_p10, List.forall_mem_cons.mpr ⟨lw_p11, List.forall_mem_cons.mpr ⟨lw_p12, List.forall_mem_cons.mpr ⟨lw_p13, List.forall_mem_cons.mpr ⟨lw_p14, List.forall_mem_cons.mpr ⟨lw_p15, fun _ h => absurd h List.not_mem_nil⟩⟩⟩⟩⟩⟩⟩⟩⟩⟩⟩⟩⟩⟩⟩⟩
theorem lw_p16 : lw_okq (⟨"HostileHousesModel", "ahead", "(I)I"⟩, 13) := ⟨⟨by decide +kernel, by decide +kernel⟩, List.mem_of_getElem? (i := 444) (by decide +kernel), List.mem_of_getElem? (i := 575) (by decide +kernel), List.mem_of_getElem? (i := 576) (by decide +kernel)⟩
theorem lw_p17 : lw_okq (⟨"HostileHousesModel", "faultOf", "()I"⟩, 13) := ⟨⟨by decide +kernel, by decide +kernel⟩, List.mem_of_getElem? (i := 444) (by decide +kernel), List.mem_of_getElem? (i := 583) (by decide +kernel), List.mem_of_getElem? (i := 584) (by decide +kernel)⟩
theorem lw_p18 : lw_okq (⟨"HostileHousesModel", "readsNumber", "(I)Z"⟩, 13) := ⟨⟨by decide +kernel, by decide +kernel⟩, List.mem_of_getElem? (i := 444) (by decide +kernel), List.mem_of_getElem? (i := 587) (by decide +kernel), List.mem_of_getElem? (i := 588) (by decide +kernel)⟩
theorem lw_p19 : lw_okq (⟨"HostileHousesModel", "isDigit", "()Z"⟩, 13) := ⟨⟨by decide +kernel, by decide +kernel⟩, List.mem_of_getElem? (i := 444) (by decide +kernel), List.mem_of_getElem? (i := 591) (by decide +kernel), List.mem_of_getElem? (i := 592) (by decide +kernel)⟩
theorem lw_p20 : lw_okq (⟨"HostileHousesModel", "takes", "(I)Z"⟩, 13) := ⟨⟨by decide +kernel, by decide +kernel⟩, List.mem_of_getElem? (i := 444) (by decide +kernel), List.mem_of_getElem? (i := 597) (by decide +kernel), List.mem_of_getElem? (i := 598) (by decide +kernel)⟩
theorem lw_p21 : lw_okq (⟨"HostileHousesModel", "winner", "()I"⟩, 13) := ⟨⟨by decide +kernel, by decide +kernel⟩, List.mem_of_getElem? (i := 444) (by decide +kernel), List.mem_of_getElem? (i := 613) (by decide +kernel), List.mem_of_getElem? (i := 614) (by decide +kernel)⟩
theorem lw_p22 : lw_okq (⟨"HostileHousesModel", "hostiles", "()I"⟩, 13) := ⟨⟨by decide +kernel, by decide +kernel⟩, List.mem_of_getElem? (i := 444) (by decide +kernel), List.mem_of_getElem? (i := 617) (by decide +kernel), List.mem_of_getElem? (i := 618) (by decide +kernel)⟩
def lw_privs_2 : List (MethodName × Nat) := [(⟨"HostileHousesModel", "ahead", "(I)I"⟩, 13), (⟨"HostileHousesModel", "faultOf", "()I"⟩, 13), (⟨"HostileHousesModel", "readsNumber", "(I)Z"⟩, 13), (⟨"HostileHousesModel", "isDigit", "()Z"⟩, 13), (⟨"HostileHousesModel", "takes", "(I)Z"⟩, 13), (⟨"HostileHousesModel", "winner", "()I"⟩, 13), (⟨"HostileHousesModel", "hostiles", "()I"⟩, 13)]
theorem lw_r2 : ∀ q ∈ lw_privs_2, lw_okq q := List.forall_mem_cons.mpr ⟨lw_p16, List.forall_mem_cons.mpr ⟨lw_p17, List.forall_mem_cons.mpr ⟨lw_p18, List.forall_mem_cons.mpr ⟨lw_p19, List.forall_mem_cons.mpr ⟨lw_p20, List.forall_mem_cons.mpr ⟨lw_p21, List.forall_mem_cons.mpr ⟨lw_p22, fun _ h => absurd h List.not_mem_nil⟩⟩⟩⟩⟩⟩⟩
def lw_privs : List (MethodName × Nat) := lw_privs_1 ++ (lw_privs_2)
def lw_tbl : List Cond := k2_sels lw_privs ++ tables_1
theorem lw_privs_ok : ∀ q ∈ lw_privs, lw_okq q := by
  show ∀ q ∈ lw_privs_1 ++ (lw_privs_2), lw_okq q
  exact List.forall_mem_append.mpr ⟨lw_r1, lw_r2⟩
end
section
/-! ===== BEGIN printed: names, fields, word lists, decode rows ===== -/
def RX0 : String := "HostileHouses$History"
def TX0 : u_T := fun k => match k with
  | 0 => ("HostileHouses$History", "states", "[LHostileHouses$State;", true)
  | 1 => ("HostileHouses$History", "oldest", "I", false)
  | _ => ("HostileHouses$History", "size", "I", false)
def tyX0 : Nat → FieldType := fun k => match k with
  | 0 => .array (.object "HostileHouses$State")
  | 1 => .int
  | _ => .int
abbrev wsX00 : List Cond := u_ws RX0 TX0 3
theorem nmX0 : ∀ a, a < 3 → ∀ b, b < 3 → a ≠ b → (TX0 a).2.1 ≠ (TX0 b).2.1 := by decide +kernel
theorem tyX0_ok : ∀ k, k < 3 → parseFieldDescriptor (TX0 k).2.2.1 = some (tyX0 k) := by decide +kernel
abbrev cX0_init : ByteArray := prog_2_method_1_code
def yX0_init : MethodName := ⟨RX0, "<init>", "()V"⟩
abbrev cX0_remember : ByteArray := prog_2_method_2_code
def yX0_remember : MethodName := ⟨RX0, "remember", "(LHostileHouses$State;)V"⟩
abbrev cX0_takeBack : ByteArray := prog_2_method_3_code
def yX0_takeBack : MethodName := ⟨RX0, "takeBack", "(LHostileHouses$State;)V"⟩
def RX1 : String := "HostileHouses$Lookahead"
def TX1 : u_T := fun k => match k with
  | 0 => ("HostileHouses$Lookahead", "trial", "LHostileHouses$Position;", true)
  | 1 => ("HostileHouses$Lookahead", "report", "LHostileHouses$Report;", true)
  | _ => ("HostileHouses$Lookahead", "behind", "[LHostileHouses$Position;", true)
def tyX1 : Nat → FieldType := fun k => match k with
  | 0 => .object "HostileHouses$Position"
  | 1 => .object "HostileHouses$Report"
  | _ => .array (.object "HostileHouses$Position")
abbrev wsX10 : List Cond := u_ws RX1 TX1 3
theorem nmX1 : ∀ a, a < 3 → ∀ b, b < 3 → a ≠ b → (TX1 a).2.1 ≠ (TX1 b).2.1 := by decide +kernel
theorem tyX1_ok : ∀ k, k < 3 → parseFieldDescriptor (TX1 k).2.2.1 = some (tyX1 k) := by decide +kernel
abbrev cX1_init : ByteArray := prog_3_method_1_code
def yX1_init : MethodName := ⟨RX1, "<init>", "()V"⟩
abbrev cX1_valueOf : ByteArray := prog_3_method_2_code
def yX1_valueOf : MethodName := ⟨RX1, "valueOf", "(LHostileHouses$Position;[II)I"⟩
abbrev cX1_bestHouse : ByteArray := prog_3_method_3_code
def yX1_bestHouse : MethodName := ⟨RX1, "bestHouse", "(LHostileHouses$Position;[II)I"⟩
abbrev cX1_valueBehind : ByteArray := prog_3_method_4_code
def yX1_valueBehind : MethodName := ⟨RX1, "valueBehind", "(LHostileHouses$Position;I[II)I"⟩
abbrev cX1_movesToTheEnd : ByteArray := prog_3_method_5_code
def yX1_movesToTheEnd : MethodName := ⟨RX1, "movesToTheEnd", "(LHostileHouses$Position;[II)I"⟩
def RX2 : String := "HostileHouses$Pad"
def TX2 : u_T := fun k => match k with
  | 0 => ("HostileHouses$Pad", "text", "[C", true)
  | 1 => ("HostileHouses$Pad", "numbers", "[I", true)
  | _ => ("HostileHouses$Pad", "length", "I", false)
def tyX2 : Nat → FieldType := fun k => match k with
  | 0 => .array .char
  | 1 => .array .int
  | _ => .int
abbrev wsX20 : List Cond := u_ws RX2 TX2 3
theorem nmX2 : ∀ a, a < 3 → ∀ b, b < 3 → a ≠ b → (TX2 a).2.1 ≠ (TX2 b).2.1 := by decide +kernel
theorem tyX2_ok : ∀ k, k < 3 → parseFieldDescriptor (TX2 k).2.2.1 = some (tyX2 k) := by decide +kernel
abbrev cX2_init : ByteArray := prog_4_method_1_code
def yX2_init : MethodName := ⟨RX2, "<init>", "()V"⟩
abbrev cX2_charactersIn : ByteArray := prog_4_method_2_code
def yX2_charactersIn : MethodName := ⟨RX2, "charactersIn", "(J)I"⟩
abbrev cX2_append : ByteArray := prog_4_method_3_code
def yX2_append : MethodName := ⟨RX2, "append", "(JI)V"⟩
abbrev cX2_scan : ByteArray := prog_4_method_4_code
def yX2_scan : MethodName := ⟨RX2, "scan", "()I"⟩
abbrev cX2_digitFits : ByteArray := prog_4_method_5_code
def yX2_digitFits : MethodName := ⟨RX2, "digitFits", "(CII)Z"⟩
abbrev cX2_signBehind : ByteArray := prog_4_method_6_code
def yX2_signBehind : MethodName := ⟨RX2, "signBehind", "(I)C"⟩
def RX3 : String := "HostileHouses$Position"
def TX3 : u_T := fun k => match k with
  | 0 => ("HostileHouses$Position", "seeds", "[I", true)
  | 1 => ("HostileHouses$Position", "visits", "[I", true)
  | 2 => ("HostileHouses$Position", "stores", "[I", true)
  | 3 => ("HostileHouses$Position", "player", "I", false)
  | 4 => ("HostileHouses$Position", "over", "Z", false)
  | _ => ("HostileHouses$Position", "moves", "I", false)
def tyX3 : Nat → FieldType := fun k => match k with
  | 0 => .array .int
  | 1 => .array .int
  | 2 => .array .int
  | 3 => .int
  | 4 => .boolean
  | _ => .int
abbrev wsX30 : List Cond := u_ws RX3 TX3 6
theorem nmX3 : ∀ a, a < 6 → ∀ b, b < 6 → a ≠ b → (TX3 a).2.1 ≠ (TX3 b).2.1 := by decide +kernel
theorem tyX3_ok : ∀ k, k < 6 → parseFieldDescriptor (TX3 k).2.2.1 = some (tyX3 k) := by decide +kernel
abbrev cX3_init : ByteArray := prog_5_method_1_code
def yX3_init : MethodName := ⟨RX3, "<init>", "()V"⟩
abbrev cX3_copyFrom : ByteArray := prog_5_method_2_code
def yX3_copyFrom : MethodName := ⟨RX3, "copyFrom", "(LHostileHouses$Position;)V"⟩
abbrev cX3_fill : ByteArray := prog_5_method_3_code
def yX3_fill : MethodName := ⟨RX3, "fill", "(I)V"⟩
abbrev cX3_fillFrom : ByteArray := prog_5_method_4_code
def yX3_fillFrom : MethodName := ⟨RX3, "fillFrom", "([I)V"⟩
abbrev cX3_startGame : ByteArray := prog_5_method_5_code
def yX3_startGame : MethodName := ⟨RX3, "startGame", "()V"⟩
abbrev cX3_ownerOf : ByteArray := prog_5_method_6_code
def yX3_ownerOf : MethodName := ⟨RX3, "ownerOf", "(I)I"⟩
abbrev cX3_houseBehind : ByteArray := prog_5_method_7_code
def yX3_houseBehind : MethodName := ⟨RX3, "houseBehind", "(I)I"⟩
abbrev cX3_isHostile : ByteArray := prog_5_method_8_code
def yX3_isHostile : MethodName := ⟨RX3, "isHostile", "(I[I)Z"⟩
abbrev cX3_hostileHouses : ByteArray := prog_5_method_9_code
def yX3_hostileHouses : MethodName := ⟨RX3, "hostileHouses", "([I)I"⟩
abbrev cX3_canMoveFrom : ByteArray := prog_5_method_10_code
def yX3_canMoveFrom : MethodName := ⟨RX3, "canMoveFrom", "(I)Z"⟩
abbrev cX3_seedsInHousesOf : ByteArray := prog_5_method_11_code
def yX3_seedsInHousesOf : MethodName := ⟨RX3, "seedsInHousesOf", "(I)I"⟩
abbrev cX3_allSeeds : ByteArray := prog_5_method_12_code
def yX3_allSeeds : MethodName := ⟨RX3, "allSeeds", "()I"⟩
abbrev cX3_winner : ByteArray := prog_5_method_13_code
def yX3_winner : MethodName := ⟨RX3, "winner", "()I"⟩
abbrev cX3_lead : ByteArray := prog_5_method_14_code
def yX3_lead : MethodName := ⟨RX3, "lead", "()I"⟩
abbrev cX3_makeMove : ByteArray := prog_5_method_15_code
def yX3_makeMove : MethodName := ⟨RX3, "makeMove", "(I[ILHostileHouses$Report;)V"⟩
abbrev cX3_sowLap : ByteArray := prog_5_method_16_code
def yX3_sowLap : MethodName := ⟨RX3, "sowLap", "(I[ILHostileHouses$Report;)Z"⟩
abbrev cX3_sowHand : ByteArray := prog_5_method_17_code
def yX3_sowHand : MethodName := ⟨RX3, "sowHand", "(I[ILHostileHouses$Report;)I"⟩
abbrev cX3_captureAcross : ByteArray := prog_5_method_18_code
def yX3_captureAcross : MethodName := ⟨RX3, "captureAcross", "(ILHostileHouses$Report;)V"⟩
abbrev cX3_giveTurnTo : ByteArray := prog_5_method_19_code
def yX3_giveTurnTo : MethodName := ⟨RX3, "giveTurnTo", "(I)V"⟩
abbrev cX3_isDecided : ByteArray := prog_5_method_20_code
def yX3_isDecided : MethodName := ⟨RX3, "isDecided", "()Z"⟩
def RX4 : String := "HostileHouses$Report"
def TX4 : u_T := fun k => match k with
  | 0 => ("HostileHouses$Report", "from", "I", false)
  | 1 => ("HostileHouses$Report", "laps", "I", false)
  | 2 => ("HostileHouses$Report", "lastHouse", "I", false)
  | 3 => ("HostileHouses$Report", "captured", "I", false)
  | _ => ("HostileHouses$Report", "tolls", "I", false)
def tyX4 : Nat → FieldType := fun k => match k with
  | 0 => .int
  | 1 => .int
  | 2 => .int
  | 3 => .int
  | _ => .int
abbrev wsX40 : List Cond := u_ws RX4 TX4 5
theorem nmX4 : ∀ a, a < 5 → ∀ b, b < 5 → a ≠ b → (TX4 a).2.1 ≠ (TX4 b).2.1 := by decide +kernel
theorem tyX4_ok : ∀ k, k < 5 → parseFieldDescriptor (TX4 k).2.2.1 = some (tyX4 k) := by decide +kernel
abbrev cX4_init : ByteArray := prog_6_method_1_code
def yX4_init : MethodName := ⟨RX4, "<init>", "()V"⟩
abbrev cX4_clear : ByteArray := prog_6_method_2_code
def yX4_clear : MethodName := ⟨RX4, "clear", "(I)V"⟩
abbrev cX4_copyFrom : ByteArray := prog_6_method_3_code
def yX4_copyFrom : MethodName := ⟨RX4, "copyFrom", "(LHostileHouses$Report;)V"⟩
def RX5 : String := "HostileHouses$State"
def TX5 : u_T := fun k => match k with
  | 0 => ("HostileHouses$State", "position", "LHostileHouses$Position;", true)
  | 1 => ("HostileHouses$State", "settings", "[I", true)
  | 2 => ("HostileHouses$State", "latest", "LHostileHouses$Report;", true)
  | _ => ("HostileHouses$State", "record", "[I", true)
def tyX5 : Nat → FieldType := fun k => match k with
  | 0 => .object "HostileHouses$Position"
  | 1 => .array .int
  | 2 => .object "HostileHouses$Report"
  | _ => .array .int
abbrev wsX50 : List Cond := u_ws RX5 TX5 4
theorem nmX5 : ∀ a, a < 4 → ∀ b, b < 4 → a ≠ b → (TX5 a).2.1 ≠ (TX5 b).2.1 := by decide +kernel
theorem tyX5_ok : ∀ k, k < 4 → parseFieldDescriptor (TX5 k).2.2.1 = some (tyX5 k) := by decide +kernel
abbrev cX5_init : ByteArray := prog_7_method_1_code
def yX5_init : MethodName := ⟨RX5, "<init>", "()V"⟩
abbrev cX5_copyFrom : ByteArray := prog_7_method_2_code
def yX5_copyFrom : MethodName := ⟨RX5, "copyFrom", "(LHostileHouses$State;)V"⟩
abbrev cX5_makeMove : ByteArray := prog_7_method_3_code
def yX5_makeMove : MethodName := ⟨RX5, "makeMove", "(I)V"⟩
def RX6 : String := "HostileHouses"
def TX6 : u_T := fun k => match k with
  | 0 => ("HostileHouses", "now", "LHostileHouses$State;", true)
  | 1 => ("HostileHouses", "history", "LHostileHouses$History;", true)
  | 2 => ("HostileHouses", "slots", "[LHostileHouses$State;", true)
  | 3 => ("HostileHouses", "saved", "[Z", true)
  | 4 => ("HostileHouses", "pad", "LHostileHouses$Pad;", true)
  | _ => ("HostileHouses", "lookahead", "LHostileHouses$Lookahead;", true)
def tyX6 : Nat → FieldType := fun k => match k with
  | 0 => .object "HostileHouses$State"
  | 1 => .object "HostileHouses$History"
  | 2 => .array (.object "HostileHouses$State")
  | 3 => .array .boolean
  | 4 => .object "HostileHouses$Pad"
  | _ => .object "HostileHouses$Lookahead"
abbrev wsX60 : List Cond := u_ws RX6 TX6 6
theorem nmX6 : ∀ a, a < 6 → ∀ b, b < 6 → a ≠ b → (TX6 a).2.1 ≠ (TX6 b).2.1 := by decide +kernel
theorem tyX6_ok : ∀ k, k < 6 → parseFieldDescriptor (TX6 k).2.2.1 = some (tyX6 k) := by decide +kernel
abbrev cX6_init : ByteArray := prog_1_method_1_code
def yX6_init : MethodName := ⟨RX6, "<init>", "()V"⟩
abbrev cX6_set : ByteArray := prog_1_method_2_code
def yX6_set : MethodName := ⟨RX6, "set", "(II)I"⟩
abbrev cX6_begin : ByteArray := prog_1_method_3_code
def yX6_begin : MethodName := ⟨RX6, "begin", "()I"⟩
abbrev cX6_move : ByteArray := prog_1_method_4_code
def yX6_move : MethodName := ⟨RX6, "move", "(I)I"⟩
abbrev cX6_play : ByteArray := prog_1_method_5_code
def yX6_play : MethodName := ⟨RX6, "play", "(I)I"⟩
abbrev cX6_read : ByteArray := prog_1_method_6_code
def yX6_read : MethodName := ⟨RX6, "read", "()I"⟩
abbrev cX6_house : ByteArray := prog_1_method_7_code
def yX6_house : MethodName := ⟨RX6, "house", "(II)I"⟩
abbrev cX6_count : ByteArray := prog_1_method_8_code
def yX6_count : MethodName := ⟨RX6, "count", "(I)I"⟩
abbrev cX6_last : ByteArray := prog_1_method_9_code
def yX6_last : MethodName := ⟨RX6, "last", "(I)I"⟩
abbrev cX6_moved : ByteArray := prog_1_method_10_code
def yX6_moved : MethodName := ⟨RX6, "moved", "(I)I"⟩
abbrev cX6_ifMove : ByteArray := prog_1_method_11_code
def yX6_ifMove : MethodName := ⟨RX6, "ifMove", "(II)I"⟩
abbrev cX6_worth : ByteArray := prog_1_method_12_code
def yX6_worth : MethodName := ⟨RX6, "worth", "(I)I"⟩
abbrev cX6_best : ByteArray := prog_1_method_13_code
def yX6_best : MethodName := ⟨RX6, "best", "(I)I"⟩
abbrev cX6_movesLeft : ByteArray := prog_1_method_14_code
def yX6_movesLeft : MethodName := ⟨RX6, "movesLeft", "(I)I"⟩
abbrev cX6_put : ByteArray := prog_1_method_15_code
def yX6_put : MethodName := ⟨RX6, "put", "(J)I"⟩
abbrev cX6_wipe : ByteArray := prog_1_method_16_code
def yX6_wipe : MethodName := ⟨RX6, "wipe", "()I"⟩
abbrev cX6_fault : ByteArray := prog_1_method_17_code
def yX6_fault : MethodName := ⟨RX6, "fault", "()I"⟩
abbrev cX6_undo : ByteArray := prog_1_method_18_code
def yX6_undo : MethodName := ⟨RX6, "undo", "()I"⟩
abbrev cX6_save : ByteArray := prog_1_method_19_code
def yX6_save : MethodName := ⟨RX6, "save", "(I)I"⟩
abbrev cX6_restore : ByteArray := prog_1_method_20_code
def yX6_restore : MethodName := ⟨RX6, "restore", "(I)I"⟩
abbrev cX6_isHouse : ByteArray := prog_1_method_21_code
def yX6_isHouse : MethodName := ⟨RX6, "isHouse", "(I)Z"⟩
abbrev cX6_isSlot : ByteArray := prog_1_method_22_code
def yX6_isSlot : MethodName := ⟨RX6, "isSlot", "(I)Z"⟩
abbrev cX6_errorOfMove : ByteArray := prog_1_method_23_code
def yX6_errorOfMove : MethodName := ⟨RX6, "errorOfMove", "(I)I"⟩
abbrev cX6_storeGain : ByteArray := prog_1_method_24_code
def yX6_storeGain : MethodName := ⟨RX6, "storeGain", "(LHostileHouses$Position;LHostileHouses$Position;)I"⟩
def RX7 : String := "HostileHousesModel"
def TX7 : u_T := fun k => match k with
  | 0 => ("HostileHousesModel", "all", "[I", true)
  | 1 => ("HostileHousesModel", "history", "[I", true)
  | 2 => ("HostileHousesModel", "historyLong", "I", false)
  | 3 => ("HostileHousesModel", "slots", "[I", true)
  | 4 => ("HostileHousesModel", "isSaved", "[I", true)
  | 5 => ("HostileHousesModel", "tree", "[I", true)
  | 6 => ("HostileHousesModel", "tried", "[I", true)
  | 7 => ("HostileHousesModel", "most", "[I", true)
  | 8 => ("HostileHousesModel", "bestHouse", "[I", true)
  | 9 => ("HostileHousesModel", "pad", "[I", true)
  | 10 => ("HostileHousesModel", "padLong", "I", false)
  | 11 => ("HostileHousesModel", "spot", "I", false)
  | _ => ("HostileHousesModel", "read", "[I", true)
def tyX7 : Nat → FieldType := fun k => match k with
  | 0 => .array .int
  | 1 => .array .int
  | 2 => .int
  | 3 => .array .int
  | 4 => .array .int
  | 5 => .array .int
  | 6 => .array .int
  | 7 => .array .int
  | 8 => .array .int
  | 9 => .array .int
  | 10 => .int
  | 11 => .int
  | _ => .array .int
abbrev wsX70 : List Cond := u_ws RX7 TX7 13
theorem nmX7 : ∀ a, a < 13 → ∀ b, b < 13 → a ≠ b → (TX7 a).2.1 ≠ (TX7 b).2.1 := by decide +kernel
theorem tyX7_ok : ∀ k, k < 13 → parseFieldDescriptor (TX7 k).2.2.1 = some (tyX7 k) := by decide +kernel
abbrev cX7_init : ByteArray := prog_9_method_1_code
def yX7_init : MethodName := ⟨RX7, "<init>", "()V"⟩
abbrev cX7_in : ByteArray := prog_9_method_3_code
def yX7_in : MethodName := ⟨RX7, "in", "(JJJ)Z"⟩
abbrev cX7_record : ByteArray := prog_9_method_4_code
def yX7_record : MethodName := ⟨RX7, "record", "()V"⟩
abbrev cX7_empties : ByteArray := prog_9_method_5_code
def yX7_empties : MethodName := ⟨RX7, "empties", "()V"⟩
abbrev cX7_anew : ByteArray := prog_9_method_6_code
def yX7_anew : MethodName := ⟨RX7, "anew", "()V"⟩
abbrev cX7_owner : ByteArray := prog_9_method_7_code
def yX7_owner : MethodName := ⟨RX7, "owner", "(I)I"⟩
abbrev cX7_total : ByteArray := prog_9_method_8_code
def yX7_total : MethodName := ⟨RX7, "total", "([II)I"⟩
abbrev cX7_seedsOf : ByteArray := prog_9_method_9_code
def yX7_seedsOf : MethodName := ⟨RX7, "seedsOf", "([III)I"⟩
abbrev cX7_isHostile : ByteArray := prog_9_method_10_code
def yX7_isHostile : MethodName := ⟨RX7, "isHostile", "([III)Z"⟩
abbrev cX7_ends : ByteArray := prog_9_method_11_code
def yX7_ends : MethodName := ⟨RX7, "ends", "([II)Z"⟩
abbrev cX7_sows : ByteArray := prog_9_method_12_code
def yX7_sows : MethodName := ⟨RX7, "sows", "([IIII)I"⟩
abbrev cX7_captures : ByteArray := prog_9_method_13_code
def yX7_captures : MethodName := ⟨RX7, "captures", "([IIII)V"⟩
abbrev cX7_moves : ByteArray := prog_9_method_14_code
def yX7_moves : MethodName := ⟨RX7, "moves", "([III)V"⟩
abbrev cX7_canMove : ByteArray := prog_9_method_15_code
def yX7_canMove : MethodName := ⟨RX7, "canMove", "([III)Z"⟩
abbrev cX7_copy : ByteArray := prog_9_method_16_code
def yX7_copy : MethodName := ⟨RX7, "copy", "([III)V"⟩
abbrev cX7_ahead : ByteArray := prog_9_method_17_code
def yX7_ahead : MethodName := ⟨RX7, "ahead", "(I)I"⟩
abbrev cX7_worthOf : ByteArray := prog_9_method_18_code
def yX7_worthOf : MethodName := ⟨RX7, "worthOf", "(II)I"⟩
abbrev cX7_bestOf : ByteArray := prog_9_method_19_code
def yX7_bestOf : MethodName := ⟨RX7, "bestOf", "(II)I"⟩
abbrev cX7_isSetting : ByteArray := prog_9_method_20_code
def yX7_isSetting : MethodName := ⟨RX7, "isSetting", "(II)Z"⟩
abbrev cX7_set : ByteArray := prog_9_method_21_code
def yX7_set : MethodName := ⟨RX7, "set", "(II)I"⟩
abbrev cX7_begin : ByteArray := prog_9_method_22_code
def yX7_begin : MethodName := ⟨RX7, "begin", "()I"⟩
abbrev cX7_isHouse : ByteArray := prog_9_method_23_code
def yX7_isHouse : MethodName := ⟨RX7, "isHouse", "(I)Z"⟩
abbrev cX7_makes : ByteArray := prog_9_method_24_code
def yX7_makes : MethodName := ⟨RX7, "makes", "(I)V"⟩
abbrev cX7_move : ByteArray := prog_9_method_25_code
def yX7_move : MethodName := ⟨RX7, "move", "(I)I"⟩
abbrev cX7_play : ByteArray := prog_9_method_26_code
def yX7_play : MethodName := ⟨RX7, "play", "(I)I"⟩
abbrev cX7_takes : ByteArray := prog_9_method_27_code
def yX7_takes : MethodName := ⟨RX7, "takes", "(I)Z"⟩
abbrev cX7_isDigit : ByteArray := prog_9_method_28_code
def yX7_isDigit : MethodName := ⟨RX7, "isDigit", "()Z"⟩
abbrev cX7_readsNumber : ByteArray := prog_9_method_29_code
def yX7_readsNumber : MethodName := ⟨RX7, "readsNumber", "(I)Z"⟩
abbrev cX7_faultOf : ByteArray := prog_9_method_30_code
def yX7_faultOf : MethodName := ⟨RX7, "faultOf", "()I"⟩
abbrev cX7_read : ByteArray := prog_9_method_31_code
def yX7_read : MethodName := ⟨RX7, "read", "()I"⟩
abbrev cX7_house : ByteArray := prog_9_method_32_code
def yX7_house : MethodName := ⟨RX7, "house", "(II)I"⟩
abbrev cX7_winner : ByteArray := prog_9_method_33_code
def yX7_winner : MethodName := ⟨RX7, "winner", "()I"⟩
abbrev cX7_hostiles : ByteArray := prog_9_method_34_code
def yX7_hostiles : MethodName := ⟨RX7, "hostiles", "()I"⟩
abbrev cX7_count : ByteArray := prog_9_method_35_code
def yX7_count : MethodName := ⟨RX7, "count", "(I)I"⟩
abbrev cX7_last : ByteArray := prog_9_method_36_code
def yX7_last : MethodName := ⟨RX7, "last", "(I)I"⟩
abbrev cX7_moved : ByteArray := prog_9_method_37_code
def yX7_moved : MethodName := ⟨RX7, "moved", "(I)I"⟩
abbrev cX7_ifMove : ByteArray := prog_9_method_38_code
def yX7_ifMove : MethodName := ⟨RX7, "ifMove", "(II)I"⟩
abbrev cX7_worth : ByteArray := prog_9_method_39_code
def yX7_worth : MethodName := ⟨RX7, "worth", "(I)I"⟩
abbrev cX7_best : ByteArray := prog_9_method_40_code
def yX7_best : MethodName := ⟨RX7, "best", "(I)I"⟩
abbrev cX7_movesLeft : ByteArray := prog_9_method_41_code
def yX7_movesLeft : MethodName := ⟨RX7, "movesLeft", "(I)I"⟩
abbrev cX7_put : ByteArray := prog_9_method_42_code
def yX7_put : MethodName := ⟨RX7, "put", "(J)I"⟩
abbrev cX7_wipe : ByteArray := prog_9_method_43_code
def yX7_wipe : MethodName := ⟨RX7, "wipe", "()I"⟩
abbrev cX7_fault : ByteArray := prog_9_method_44_code
def yX7_fault : MethodName := ⟨RX7, "fault", "()I"⟩
abbrev cX7_undo : ByteArray := prog_9_method_45_code
def yX7_undo : MethodName := ⟨RX7, "undo", "()I"⟩
abbrev cX7_save : ByteArray := prog_9_method_46_code
def yX7_save : MethodName := ⟨RX7, "save", "(I)I"⟩
abbrev cX7_restore : ByteArray := prog_9_method_47_code
def yX7_restore : MethodName := ⟨RX7, "restore", "(I)I"⟩
def RJ9 : String := "java/lang/Math"
def TJ9 : u_T := fun k => match k with
  | _ => ("", "", "", false)
def tyJ9 : Nat → FieldType := fun k => match k with
  | _ => .int
theorem nmJ9 : ∀ a, a < 0 → ∀ b, b < 0 → a ≠ b → (TJ9 a).2.1 ≠ (TJ9 b).2.1 := by decide +kernel
theorem tyJ9_ok : ∀ k, k < 0 → parseFieldDescriptor (TJ9 k).2.2.1 = some (tyJ9 k) := by decide +kernel
abbrev cJ9_max_7cf53 : ByteArray := prog_11_method_65_code
def yJ9_max_7cf53 : MethodName := ⟨RJ9, "max", "(II)I"⟩
def RJ10 : String := "java/lang/System"
def TJ10 : u_T := fun k => match k with
  | _ => ("", "", "", false)
def tyJ10 : Nat → FieldType := fun k => match k with
  | _ => .int
theorem nmJ10 : ∀ a, a < 0 → ∀ b, b < 0 → a ≠ b → (TJ10 a).2.1 ≠ (TJ10 b).2.1 := by decide +kernel
theorem tyJ10_ok : ∀ k, k < 0 → parseFieldDescriptor (TJ10 k).2.2.1 = some (tyJ10 k) := by decide +kernel
def RL : String := "HostileHousesLaw"
abbrev cL_law : ByteArray := code
def yL_law : MethodName := ⟨RL, "law", "([I)Z"⟩
theorem dX0_init_0 : decode cX0_init 0 = .ok (.aload_n 0, 1) := by decide +kernel
theorem dX0_init_1 : decode cX0_init 1 = .ok (.invokespecial 3, 3) := by decide +kernel
theorem dX0_init_4 : decode cX0_init 4 = .ok (.aload_n 0, 1) := by decide +kernel
theorem dX0_init_5 : decode cX0_init 5 = .ok (.bipush 6, 2) := by decide +kernel
theorem dX0_init_7 : decode cX0_init 7 = .ok (.anewarray 9, 3) := by decide +kernel
theorem dX0_init_10 : decode cX0_init 10 = .ok (.putfield 11, 3) := by decide +kernel
theorem dX0_init_13 : decode cX0_init 13 = .ok (.iconst 0, 1) := by decide +kernel
theorem dX0_init_14 : decode cX0_init 14 = .ok (.istore_n 1, 1) := by decide +kernel
theorem dX0_init_15 : decode cX0_init 15 = .ok (.iload_n 1, 1) := by decide +kernel
theorem dX0_init_16 : decode cX0_init 16 = .ok (.bipush 6, 2) := by decide +kernel
theorem dX0_init_18 : decode cX0_init 18 = .ok (.if_icmp .ge 22, 3) := by decide +kernel
theorem dX0_init_21 : decode cX0_init 21 = .ok (.aload_n 0, 1) := by decide +kernel
theorem dX0_init_22 : decode cX0_init 22 = .ok (.getfield 11, 3) := by decide +kernel
theorem dX0_init_25 : decode cX0_init 25 = .ok (.iload_n 1, 1) := by decide +kernel
theorem dX0_init_26 : decode cX0_init 26 = .ok (.new 9, 3) := by decide +kernel
theorem dX0_init_29 : decode cX0_init 29 = .ok (.dup, 1) := by decide +kernel
theorem dX0_init_30 : decode cX0_init 30 = .ok (.invokespecial 17, 3) := by decide +kernel
theorem dX0_init_33 : decode cX0_init 33 = .ok (.aastore, 1) := by decide +kernel
theorem dX0_init_34 : decode cX0_init 34 = .ok (.iinc 1 1, 3) := by decide +kernel
theorem dX0_init_37 : decode cX0_init 37 = .ok (.goto (-22), 3) := by decide +kernel
theorem dX0_init_40 : decode cX0_init 40 = .ok (.return_, 1) := by decide +kernel
theorem dX0_remember_0 : decode cX0_remember 0 = .ok (.aload_n 0, 1) := by decide +kernel
theorem dX0_remember_1 : decode cX0_remember 1 = .ok (.getfield 11, 3) := by decide +kernel
theorem dX0_remember_4 : decode cX0_remember 4 = .ok (.aload_n 0, 1) := by decide +kernel
theorem dX0_remember_5 : decode cX0_remember 5 = .ok (.getfield 18, 3) := by decide +kernel
theorem dX0_remember_8 : decode cX0_remember 8 = .ok (.aload_n 0, 1) := by decide +kernel
theorem dX0_remember_9 : decode cX0_remember 9 = .ok (.getfield 22, 3) := by decide +kernel
theorem dX0_remember_12 : decode cX0_remember 12 = .ok (.iadd, 1) := by decide +kernel
theorem dX0_remember_13 : decode cX0_remember 13 = .ok (.bipush 6, 2) := by decide +kernel
theorem dX0_remember_15 : decode cX0_remember 15 = .ok (.irem, 1) := by decide +kernel
theorem dX0_remember_16 : decode cX0_remember 16 = .ok (.aaload, 1) := by decide +kernel
theorem dX0_remember_17 : decode cX0_remember 17 = .ok (.aload_n 1, 1) := by decide +kernel
theorem dX0_remember_18 : decode cX0_remember 18 = .ok (.invokevirtual 25, 3) := by decide +kernel
theorem dX0_remember_21 : decode cX0_remember 21 = .ok (.aload_n 0, 1) := by decide +kernel
theorem dX0_remember_22 : decode cX0_remember 22 = .ok (.getfield 22, 3) := by decide +kernel
theorem dX0_remember_25 : decode cX0_remember 25 = .ok (.bipush 6, 2) := by decide +kernel
theorem dX0_remember_27 : decode cX0_remember 27 = .ok (.if_icmp .ge 16, 3) := by decide +kernel
theorem dX0_remember_30 : decode cX0_remember 30 = .ok (.aload_n 0, 1) := by decide +kernel
theorem dX0_remember_31 : decode cX0_remember 31 = .ok (.dup, 1) := by decide +kernel
theorem dX0_remember_32 : decode cX0_remember 32 = .ok (.getfield 22, 3) := by decide +kernel
theorem dX0_remember_35 : decode cX0_remember 35 = .ok (.iconst 1, 1) := by decide +kernel
theorem dX0_remember_36 : decode cX0_remember 36 = .ok (.iadd, 1) := by decide +kernel
theorem dX0_remember_37 : decode cX0_remember 37 = .ok (.putfield 22, 3) := by decide +kernel
theorem dX0_remember_40 : decode cX0_remember 40 = .ok (.goto 16, 3) := by decide +kernel
theorem dX0_remember_43 : decode cX0_remember 43 = .ok (.aload_n 0, 1) := by decide +kernel
theorem dX0_remember_44 : decode cX0_remember 44 = .ok (.aload_n 0, 1) := by decide +kernel
theorem dX0_remember_45 : decode cX0_remember 45 = .ok (.getfield 18, 3) := by decide +kernel
theorem dX0_remember_48 : decode cX0_remember 48 = .ok (.iconst 1, 1) := by decide +kernel
theorem dX0_remember_49 : decode cX0_remember 49 = .ok (.iadd, 1) := by decide +kernel
theorem dX0_remember_50 : decode cX0_remember 50 = .ok (.bipush 6, 2) := by decide +kernel
theorem dX0_remember_52 : decode cX0_remember 52 = .ok (.irem, 1) := by decide +kernel
theorem dX0_remember_53 : decode cX0_remember 53 = .ok (.putfield 18, 3) := by decide +kernel
theorem dX0_remember_56 : decode cX0_remember 56 = .ok (.return_, 1) := by decide +kernel
theorem dX0_takeBack_0 : decode cX0_takeBack 0 = .ok (.aload_n 0, 1) := by decide +kernel
theorem dX0_takeBack_1 : decode cX0_takeBack 1 = .ok (.getfield 22, 3) := by decide +kernel
theorem dX0_takeBack_4 : decode cX0_takeBack 4 = .ok (.ifCond .ne 4, 3) := by decide +kernel
theorem dX0_takeBack_7 : decode cX0_takeBack 7 = .ok (.return_, 1) := by decide +kernel
theorem dX0_takeBack_8 : decode cX0_takeBack 8 = .ok (.aload_n 0, 1) := by decide +kernel
theorem dX0_takeBack_9 : decode cX0_takeBack 9 = .ok (.dup, 1) := by decide +kernel
theorem dX0_takeBack_10 : decode cX0_takeBack 10 = .ok (.getfield 22, 3) := by decide +kernel
theorem dX0_takeBack_13 : decode cX0_takeBack 13 = .ok (.iconst 1, 1) := by decide +kernel
theorem dX0_takeBack_14 : decode cX0_takeBack 14 = .ok (.isub, 1) := by decide +kernel
theorem dX0_takeBack_15 : decode cX0_takeBack 15 = .ok (.putfield 22, 3) := by decide +kernel
theorem dX0_takeBack_18 : decode cX0_takeBack 18 = .ok (.aload_n 1, 1) := by decide +kernel
theorem dX0_takeBack_19 : decode cX0_takeBack 19 = .ok (.aload_n 0, 1) := by decide +kernel
theorem dX0_takeBack_20 : decode cX0_takeBack 20 = .ok (.getfield 11, 3) := by decide +kernel
theorem dX0_takeBack_23 : decode cX0_takeBack 23 = .ok (.aload_n 0, 1) := by decide +kernel
theorem dX0_takeBack_24 : decode cX0_takeBack 24 = .ok (.getfield 18, 3) := by decide +kernel
theorem dX0_takeBack_27 : decode cX0_takeBack 27 = .ok (.aload_n 0, 1) := by decide +kernel
theorem dX0_takeBack_28 : decode cX0_takeBack 28 = .ok (.getfield 22, 3) := by decide +kernel
theorem dX0_takeBack_31 : decode cX0_takeBack 31 = .ok (.iadd, 1) := by decide +kernel
theorem dX0_takeBack_32 : decode cX0_takeBack 32 = .ok (.bipush 6, 2) := by decide +kernel
theorem dX0_takeBack_34 : decode cX0_takeBack 34 = .ok (.irem, 1) := by decide +kernel
theorem dX0_takeBack_35 : decode cX0_takeBack 35 = .ok (.aaload, 1) := by decide +kernel
theorem dX0_takeBack_36 : decode cX0_takeBack 36 = .ok (.invokevirtual 25, 3) := by decide +kernel
theorem dX0_takeBack_39 : decode cX0_takeBack 39 = .ok (.return_, 1) := by decide +kernel
theorem dX1_init_0 : decode cX1_init 0 = .ok (.aload_n 0, 1) := by decide +kernel
theorem dX1_init_1 : decode cX1_init 1 = .ok (.invokespecial 3, 3) := by decide +kernel
theorem dX1_init_4 : decode cX1_init 4 = .ok (.aload_n 0, 1) := by decide +kernel
theorem dX1_init_5 : decode cX1_init 5 = .ok (.new 9, 3) := by decide +kernel
theorem dX1_init_8 : decode cX1_init 8 = .ok (.dup, 1) := by decide +kernel
theorem dX1_init_9 : decode cX1_init 9 = .ok (.invokespecial 11, 3) := by decide +kernel
theorem dX1_init_12 : decode cX1_init 12 = .ok (.putfield 12, 3) := by decide +kernel
theorem dX1_init_15 : decode cX1_init 15 = .ok (.aload_n 0, 1) := by decide +kernel
theorem dX1_init_16 : decode cX1_init 16 = .ok (.new 18, 3) := by decide +kernel
theorem dX1_init_19 : decode cX1_init 19 = .ok (.dup, 1) := by decide +kernel
theorem dX1_init_20 : decode cX1_init 20 = .ok (.invokespecial 20, 3) := by decide +kernel
theorem dX1_init_23 : decode cX1_init 23 = .ok (.putfield 21, 3) := by decide +kernel
theorem dX1_init_26 : decode cX1_init 26 = .ok (.aload_n 0, 1) := by decide +kernel
theorem dX1_init_27 : decode cX1_init 27 = .ok (.iconst 5, 1) := by decide +kernel
theorem dX1_init_28 : decode cX1_init 28 = .ok (.anewarray 9, 3) := by decide +kernel
theorem dX1_init_31 : decode cX1_init 31 = .ok (.putfield 25, 3) := by decide +kernel
theorem dX1_init_34 : decode cX1_init 34 = .ok (.iconst 0, 1) := by decide +kernel
theorem dX1_init_35 : decode cX1_init 35 = .ok (.istore_n 1, 1) := by decide +kernel
theorem dX1_init_36 : decode cX1_init 36 = .ok (.iload_n 1, 1) := by decide +kernel
theorem dX1_init_37 : decode cX1_init 37 = .ok (.iconst 4, 1) := by decide +kernel
theorem dX1_init_38 : decode cX1_init 38 = .ok (.if_icmp .gt 22, 3) := by decide +kernel
theorem dX1_init_41 : decode cX1_init 41 = .ok (.aload_n 0, 1) := by decide +kernel
theorem dX1_init_42 : decode cX1_init 42 = .ok (.getfield 25, 3) := by decide +kernel
theorem dX1_init_45 : decode cX1_init 45 = .ok (.iload_n 1, 1) := by decide +kernel
theorem dX1_init_46 : decode cX1_init 46 = .ok (.new 9, 3) := by decide +kernel
theorem dX1_init_49 : decode cX1_init 49 = .ok (.dup, 1) := by decide +kernel
theorem dX1_init_50 : decode cX1_init 50 = .ok (.invokespecial 11, 3) := by decide +kernel
theorem dX1_init_53 : decode cX1_init 53 = .ok (.aastore, 1) := by decide +kernel
theorem dX1_init_54 : decode cX1_init 54 = .ok (.iinc 1 1, 3) := by decide +kernel
theorem dX1_init_57 : decode cX1_init 57 = .ok (.goto (-21), 3) := by decide +kernel
theorem dX1_init_60 : decode cX1_init 60 = .ok (.return_, 1) := by decide +kernel
theorem dX1_valueOf_0 : decode cX1_valueOf 0 = .ok (.aload_n 1, 1) := by decide +kernel
theorem dX1_valueOf_1 : decode cX1_valueOf 1 = .ok (.getfield 29, 3) := by decide +kernel
theorem dX1_valueOf_4 : decode cX1_valueOf 4 = .ok (.ifCond .ne 7, 3) := by decide +kernel
theorem dX1_valueOf_7 : decode cX1_valueOf 7 = .ok (.iload_n 3, 1) := by decide +kernel
theorem dX1_valueOf_8 : decode cX1_valueOf 8 = .ok (.ifCond .gt 8, 3) := by decide +kernel
theorem dX1_valueOf_11 : decode cX1_valueOf 11 = .ok (.aload_n 1, 1) := by decide +kernel
theorem dX1_valueOf_12 : decode cX1_valueOf 12 = .ok (.invokevirtual 33, 3) := by decide +kernel
theorem dX1_valueOf_15 : decode cX1_valueOf 15 = .ok (.ireturn, 1) := by decide +kernel
theorem dX1_valueOf_16 : decode cX1_valueOf 16 = .ok (.sipush (-10000), 3) := by decide +kernel
theorem dX1_valueOf_19 : decode cX1_valueOf 19 = .ok (.istore 4, 2) := by decide +kernel
theorem dX1_valueOf_21 : decode cX1_valueOf 21 = .ok (.iconst 0, 1) := by decide +kernel
theorem dX1_valueOf_22 : decode cX1_valueOf 22 = .ok (.istore 5, 2) := by decide +kernel
theorem dX1_valueOf_24 : decode cX1_valueOf 24 = .ok (.iload 5, 2) := by decide +kernel
theorem dX1_valueOf_26 : decode cX1_valueOf 26 = .ok (.bipush 12, 2) := by decide +kernel
theorem dX1_valueOf_28 : decode cX1_valueOf 28 = .ok (.if_icmp .ge 34, 3) := by decide +kernel
theorem dX1_valueOf_31 : decode cX1_valueOf 31 = .ok (.aload_n 1, 1) := by decide +kernel
theorem dX1_valueOf_32 : decode cX1_valueOf 32 = .ok (.iload 5, 2) := by decide +kernel
theorem dX1_valueOf_34 : decode cX1_valueOf 34 = .ok (.invokevirtual 37, 3) := by decide +kernel
theorem dX1_valueOf_37 : decode cX1_valueOf 37 = .ok (.ifCond .eq 19, 3) := by decide +kernel
theorem dX1_valueOf_40 : decode cX1_valueOf 40 = .ok (.iload 4, 2) := by decide +kernel
theorem dX1_valueOf_42 : decode cX1_valueOf 42 = .ok (.aload_n 0, 1) := by decide +kernel
theorem dX1_valueOf_43 : decode cX1_valueOf 43 = .ok (.aload_n 1, 1) := by decide +kernel
theorem dX1_valueOf_44 : decode cX1_valueOf 44 = .ok (.iload 5, 2) := by decide +kernel
theorem dX1_valueOf_46 : decode cX1_valueOf 46 = .ok (.aload_n 2, 1) := by decide +kernel
theorem dX1_valueOf_47 : decode cX1_valueOf 47 = .ok (.iload_n 3, 1) := by decide +kernel
theorem dX1_valueOf_48 : decode cX1_valueOf 48 = .ok (.invokevirtual 41, 3) := by decide +kernel
theorem dX1_valueOf_51 : decode cX1_valueOf 51 = .ok (.invokestatic 45, 3) := by decide +kernel
theorem dX1_valueOf_54 : decode cX1_valueOf 54 = .ok (.istore 4, 2) := by decide +kernel
theorem dX1_valueOf_56 : decode cX1_valueOf 56 = .ok (.iinc 5 1, 3) := by decide +kernel
theorem dX1_valueOf_59 : decode cX1_valueOf 59 = .ok (.goto (-35), 3) := by decide +kernel
theorem dX1_valueOf_62 : decode cX1_valueOf 62 = .ok (.iload 4, 2) := by decide +kernel
theorem dX1_valueOf_64 : decode cX1_valueOf 64 = .ok (.ireturn, 1) := by decide +kernel
theorem dX1_bestHouse_0 : decode cX1_bestHouse 0 = .ok (.bipush (-6), 2) := by decide +kernel
theorem dX1_bestHouse_2 : decode cX1_bestHouse 2 = .ok (.istore 4, 2) := by decide +kernel
theorem dX1_bestHouse_4 : decode cX1_bestHouse 4 = .ok (.sipush (-10000), 3) := by decide +kernel
theorem dX1_bestHouse_7 : decode cX1_bestHouse 7 = .ok (.istore 5, 2) := by decide +kernel
theorem dX1_bestHouse_9 : decode cX1_bestHouse 9 = .ok (.iconst 0, 1) := by decide +kernel
theorem dX1_bestHouse_10 : decode cX1_bestHouse 10 = .ok (.istore 6, 2) := by decide +kernel
theorem dX1_bestHouse_12 : decode cX1_bestHouse 12 = .ok (.iload 6, 2) := by decide +kernel
theorem dX1_bestHouse_14 : decode cX1_bestHouse 14 = .ok (.bipush 12, 2) := by decide +kernel
theorem dX1_bestHouse_16 : decode cX1_bestHouse 16 = .ok (.if_icmp .ge 44, 3) := by decide +kernel
theorem dX1_bestHouse_19 : decode cX1_bestHouse 19 = .ok (.aload_n 1, 1) := by decide +kernel
theorem dX1_bestHouse_20 : decode cX1_bestHouse 20 = .ok (.iload 6, 2) := by decide +kernel
theorem dX1_bestHouse_22 : decode cX1_bestHouse 22 = .ok (.invokevirtual 37, 3) := by decide +kernel
theorem dX1_bestHouse_25 : decode cX1_bestHouse 25 = .ok (.ifCond .eq 29, 3) := by decide +kernel
theorem dX1_bestHouse_28 : decode cX1_bestHouse 28 = .ok (.aload_n 0, 1) := by decide +kernel
theorem dX1_bestHouse_29 : decode cX1_bestHouse 29 = .ok (.aload_n 1, 1) := by decide +kernel
theorem dX1_bestHouse_30 : decode cX1_bestHouse 30 = .ok (.iload 6, 2) := by decide +kernel
theorem dX1_bestHouse_32 : decode cX1_bestHouse 32 = .ok (.aload_n 2, 1) := by decide +kernel
theorem dX1_bestHouse_33 : decode cX1_bestHouse 33 = .ok (.iload_n 3, 1) := by decide +kernel
theorem dX1_bestHouse_34 : decode cX1_bestHouse 34 = .ok (.invokevirtual 41, 3) := by decide +kernel
theorem dX1_bestHouse_37 : decode cX1_bestHouse 37 = .ok (.istore 7, 2) := by decide +kernel
theorem dX1_bestHouse_39 : decode cX1_bestHouse 39 = .ok (.iload 7, 2) := by decide +kernel
theorem dX1_bestHouse_41 : decode cX1_bestHouse 41 = .ok (.iload 5, 2) := by decide +kernel
theorem dX1_bestHouse_43 : decode cX1_bestHouse 43 = .ok (.if_icmp .le 11, 3) := by decide +kernel
theorem dX1_bestHouse_46 : decode cX1_bestHouse 46 = .ok (.iload 6, 2) := by decide +kernel
theorem dX1_bestHouse_48 : decode cX1_bestHouse 48 = .ok (.istore 4, 2) := by decide +kernel
theorem dX1_bestHouse_50 : decode cX1_bestHouse 50 = .ok (.iload 7, 2) := by decide +kernel
theorem dX1_bestHouse_52 : decode cX1_bestHouse 52 = .ok (.istore 5, 2) := by decide +kernel
theorem dX1_bestHouse_54 : decode cX1_bestHouse 54 = .ok (.iinc 6 1, 3) := by decide +kernel
theorem dX1_bestHouse_57 : decode cX1_bestHouse 57 = .ok (.goto (-45), 3) := by decide +kernel
theorem dX1_bestHouse_60 : decode cX1_bestHouse 60 = .ok (.iload 4, 2) := by decide +kernel
theorem dX1_bestHouse_62 : decode cX1_bestHouse 62 = .ok (.ireturn, 1) := by decide +kernel
theorem dX1_valueBehind_0 : decode cX1_valueBehind 0 = .ok (.iload 4, 2) := by decide +kernel
theorem dX1_valueBehind_2 : decode cX1_valueBehind 2 = .ok (.iconst 1, 1) := by decide +kernel
theorem dX1_valueBehind_3 : decode cX1_valueBehind 3 = .ok (.if_icmp .lt 9, 3) := by decide +kernel
theorem dX1_valueBehind_6 : decode cX1_valueBehind 6 = .ok (.iload 4, 2) := by decide +kernel
theorem dX1_valueBehind_8 : decode cX1_valueBehind 8 = .ok (.iconst 4, 1) := by decide +kernel
theorem dX1_valueBehind_9 : decode cX1_valueBehind 9 = .ok (.if_icmp .le 8, 3) := by decide +kernel
theorem dX1_valueBehind_12 : decode cX1_valueBehind 12 = .ok (.aload_n 1, 1) := by decide +kernel
theorem dX1_valueBehind_13 : decode cX1_valueBehind 13 = .ok (.invokevirtual 33, 3) := by decide +kernel
theorem dX1_valueBehind_16 : decode cX1_valueBehind 16 = .ok (.ireturn, 1) := by decide +kernel
theorem dX1_valueBehind_17 : decode cX1_valueBehind 17 = .ok (.aload_n 0, 1) := by decide +kernel
theorem dX1_valueBehind_18 : decode cX1_valueBehind 18 = .ok (.getfield 25, 3) := by decide +kernel
theorem dX1_valueBehind_21 : decode cX1_valueBehind 21 = .ok (.iload 4, 2) := by decide +kernel
theorem dX1_valueBehind_23 : decode cX1_valueBehind 23 = .ok (.aaload, 1) := by decide +kernel
theorem dX1_valueBehind_24 : decode cX1_valueBehind 24 = .ok (.astore 5, 2) := by decide +kernel
theorem dX1_valueBehind_26 : decode cX1_valueBehind 26 = .ok (.aload 5, 2) := by decide +kernel
theorem dX1_valueBehind_28 : decode cX1_valueBehind 28 = .ok (.aload_n 1, 1) := by decide +kernel
theorem dX1_valueBehind_29 : decode cX1_valueBehind 29 = .ok (.invokevirtual 51, 3) := by decide +kernel
theorem dX1_valueBehind_32 : decode cX1_valueBehind 32 = .ok (.aload 5, 2) := by decide +kernel
theorem dX1_valueBehind_34 : decode cX1_valueBehind 34 = .ok (.iload_n 2, 1) := by decide +kernel
theorem dX1_valueBehind_35 : decode cX1_valueBehind 35 = .ok (.aload_n 3, 1) := by decide +kernel
theorem dX1_valueBehind_36 : decode cX1_valueBehind 36 = .ok (.aload_n 0, 1) := by decide +kernel
theorem dX1_valueBehind_37 : decode cX1_valueBehind 37 = .ok (.getfield 21, 3) := by decide +kernel
theorem dX1_valueBehind_40 : decode cX1_valueBehind 40 = .ok (.invokevirtual 55, 3) := by decide +kernel
theorem dX1_valueBehind_43 : decode cX1_valueBehind 43 = .ok (.aload_n 0, 1) := by decide +kernel
theorem dX1_valueBehind_44 : decode cX1_valueBehind 44 = .ok (.aload 5, 2) := by decide +kernel
theorem dX1_valueBehind_46 : decode cX1_valueBehind 46 = .ok (.aload_n 3, 1) := by decide +kernel
theorem dX1_valueBehind_47 : decode cX1_valueBehind 47 = .ok (.iload 4, 2) := by decide +kernel
theorem dX1_valueBehind_49 : decode cX1_valueBehind 49 = .ok (.iconst 1, 1) := by decide +kernel
theorem dX1_valueBehind_50 : decode cX1_valueBehind 50 = .ok (.isub, 1) := by decide +kernel
theorem dX1_valueBehind_51 : decode cX1_valueBehind 51 = .ok (.invokevirtual 59, 3) := by decide +kernel
theorem dX1_valueBehind_54 : decode cX1_valueBehind 54 = .ok (.istore 6, 2) := by decide +kernel
theorem dX1_valueBehind_56 : decode cX1_valueBehind 56 = .ok (.aload 5, 2) := by decide +kernel
theorem dX1_valueBehind_58 : decode cX1_valueBehind 58 = .ok (.getfield 63, 3) := by decide +kernel
theorem dX1_valueBehind_61 : decode cX1_valueBehind 61 = .ok (.aload_n 1, 1) := by decide +kernel
theorem dX1_valueBehind_62 : decode cX1_valueBehind 62 = .ok (.getfield 63, 3) := by decide +kernel
theorem dX1_valueBehind_65 : decode cX1_valueBehind 65 = .ok (.if_icmp .ne 8, 3) := by decide +kernel
theorem dX1_valueBehind_68 : decode cX1_valueBehind 68 = .ok (.iload 6, 2) := by decide +kernel
theorem dX1_valueBehind_70 : decode cX1_valueBehind 70 = .ok (.goto 6, 3) := by decide +kernel
theorem dX1_valueBehind_73 : decode cX1_valueBehind 73 = .ok (.iload 6, 2) := by decide +kernel
theorem dX1_valueBehind_75 : decode cX1_valueBehind 75 = .ok (.ineg, 1) := by decide +kernel
theorem dX1_valueBehind_76 : decode cX1_valueBehind 76 = .ok (.ireturn, 1) := by decide +kernel
theorem dX1_movesToTheEnd_0 : decode cX1_movesToTheEnd 0 = .ok (.aload_n 0, 1) := by decide +kernel
theorem dX1_movesToTheEnd_1 : decode cX1_movesToTheEnd 1 = .ok (.getfield 12, 3) := by decide +kernel
theorem dX1_movesToTheEnd_4 : decode cX1_movesToTheEnd 4 = .ok (.aload_n 1, 1) := by decide +kernel
theorem dX1_movesToTheEnd_5 : decode cX1_movesToTheEnd 5 = .ok (.invokevirtual 51, 3) := by decide +kernel
theorem dX1_movesToTheEnd_8 : decode cX1_movesToTheEnd 8 = .ok (.iconst 0, 1) := by decide +kernel
theorem dX1_movesToTheEnd_9 : decode cX1_movesToTheEnd 9 = .ok (.istore 4, 2) := by decide +kernel
theorem dX1_movesToTheEnd_11 : decode cX1_movesToTheEnd 11 = .ok (.iload 4, 2) := by decide +kernel
theorem dX1_movesToTheEnd_13 : decode cX1_movesToTheEnd 13 = .ok (.sipush 300, 3) := by decide +kernel
theorem dX1_movesToTheEnd_16 : decode cX1_movesToTheEnd 16 = .ok (.if_icmp .ge 45, 3) := by decide +kernel
theorem dX1_movesToTheEnd_19 : decode cX1_movesToTheEnd 19 = .ok (.aload_n 0, 1) := by decide +kernel
theorem dX1_movesToTheEnd_20 : decode cX1_movesToTheEnd 20 = .ok (.aload_n 0, 1) := by decide +kernel
theorem dX1_movesToTheEnd_21 : decode cX1_movesToTheEnd 21 = .ok (.getfield 12, 3) := by decide +kernel
theorem dX1_movesToTheEnd_24 : decode cX1_movesToTheEnd 24 = .ok (.aload_n 2, 1) := by decide +kernel
theorem dX1_movesToTheEnd_25 : decode cX1_movesToTheEnd 25 = .ok (.iload_n 3, 1) := by decide +kernel
theorem dX1_movesToTheEnd_26 : decode cX1_movesToTheEnd 26 = .ok (.invokevirtual 67, 3) := by decide +kernel
theorem dX1_movesToTheEnd_29 : decode cX1_movesToTheEnd 29 = .ok (.istore 5, 2) := by decide +kernel
theorem dX1_movesToTheEnd_31 : decode cX1_movesToTheEnd 31 = .ok (.iload 5, 2) := by decide +kernel
theorem dX1_movesToTheEnd_33 : decode cX1_movesToTheEnd 33 = .ok (.bipush (-6), 2) := by decide +kernel
theorem dX1_movesToTheEnd_35 : decode cX1_movesToTheEnd 35 = .ok (.if_icmp .ne 6, 3) := by decide +kernel
theorem dX1_movesToTheEnd_38 : decode cX1_movesToTheEnd 38 = .ok (.iload 4, 2) := by decide +kernel
theorem dX1_movesToTheEnd_40 : decode cX1_movesToTheEnd 40 = .ok (.ireturn, 1) := by decide +kernel
theorem dX1_movesToTheEnd_41 : decode cX1_movesToTheEnd 41 = .ok (.aload_n 0, 1) := by decide +kernel
theorem dX1_movesToTheEnd_42 : decode cX1_movesToTheEnd 42 = .ok (.getfield 12, 3) := by decide +kernel
theorem dX1_movesToTheEnd_45 : decode cX1_movesToTheEnd 45 = .ok (.iload 5, 2) := by decide +kernel
theorem dX1_movesToTheEnd_47 : decode cX1_movesToTheEnd 47 = .ok (.aload_n 2, 1) := by decide +kernel
theorem dX1_movesToTheEnd_48 : decode cX1_movesToTheEnd 48 = .ok (.aload_n 0, 1) := by decide +kernel
theorem dX1_movesToTheEnd_49 : decode cX1_movesToTheEnd 49 = .ok (.getfield 21, 3) := by decide +kernel
theorem dX1_movesToTheEnd_52 : decode cX1_movesToTheEnd 52 = .ok (.invokevirtual 55, 3) := by decide +kernel
theorem dX1_movesToTheEnd_55 : decode cX1_movesToTheEnd 55 = .ok (.iinc 4 1, 3) := by decide +kernel
theorem dX1_movesToTheEnd_58 : decode cX1_movesToTheEnd 58 = .ok (.goto (-47), 3) := by decide +kernel
theorem dX1_movesToTheEnd_61 : decode cX1_movesToTheEnd 61 = .ok (.sipush 300, 3) := by decide +kernel
theorem dX1_movesToTheEnd_64 : decode cX1_movesToTheEnd 64 = .ok (.ireturn, 1) := by decide +kernel
theorem dX2_init_0 : decode cX2_init 0 = .ok (.aload_n 0, 1) := by decide +kernel
theorem dX2_init_1 : decode cX2_init 1 = .ok (.invokespecial 3, 3) := by decide +kernel
theorem dX2_init_4 : decode cX2_init 4 = .ok (.aload_n 0, 1) := by decide +kernel
theorem dX2_init_5 : decode cX2_init 5 = .ok (.bipush 60, 2) := by decide +kernel
theorem dX2_init_7 : decode cX2_init 7 = .ok (.newarray .char, 2) := by decide +kernel
theorem dX2_init_9 : decode cX2_init 9 = .ok (.putfield 9, 3) := by decide +kernel
theorem dX2_init_12 : decode cX2_init 12 = .ok (.aload_n 0, 1) := by decide +kernel
theorem dX2_init_13 : decode cX2_init 13 = .ok (.bipush 15, 2) := by decide +kernel
theorem dX2_init_15 : decode cX2_init 15 = .ok (.newarray .int, 2) := by decide +kernel
theorem dX2_init_17 : decode cX2_init 17 = .ok (.putfield 15, 3) := by decide +kernel
theorem dX2_init_20 : decode cX2_init 20 = .ok (.return_, 1) := by decide +kernel
theorem dX2_charactersIn_0 : decode cX2_charactersIn 0 = .ok (.lload_n 0, 1) := by decide +kernel
theorem dX2_charactersIn_1 : decode cX2_charactersIn 1 = .ok (.lstore_n 2, 1) := by decide +kernel
theorem dX2_charactersIn_2 : decode cX2_charactersIn 2 = .ok (.iconst 0, 1) := by decide +kernel
theorem dX2_charactersIn_3 : decode cX2_charactersIn 3 = .ok (.istore 4, 2) := by decide +kernel
theorem dX2_charactersIn_5 : decode cX2_charactersIn 5 = .ok (.lload_n 2, 1) := by decide +kernel
theorem dX2_charactersIn_6 : decode cX2_charactersIn 6 = .ok (.lconst 0, 1) := by decide +kernel
theorem dX2_charactersIn_7 : decode cX2_charactersIn 7 = .ok (.lcmp, 1) := by decide +kernel
theorem dX2_charactersIn_8 : decode cX2_charactersIn 8 = .ok (.ifCond .eq 48, 3) := by decide +kernel
theorem dX2_charactersIn_11 : decode cX2_charactersIn 11 = .ok (.iload 4, 2) := by decide +kernel
theorem dX2_charactersIn_13 : decode cX2_charactersIn 13 = .ok (.bipush 8, 2) := by decide +kernel
theorem dX2_charactersIn_15 : decode cX2_charactersIn 15 = .ok (.if_icmp .ge 41, 3) := by decide +kernel
theorem dX2_charactersIn_18 : decode cX2_charactersIn 18 = .ok (.lload_n 2, 1) := by decide +kernel
theorem dX2_charactersIn_19 : decode cX2_charactersIn 19 = .ok (.ldc2_w 19, 3) := by decide +kernel
theorem dX2_charactersIn_22 : decode cX2_charactersIn 22 = .ok (.land, 1) := by decide +kernel
theorem dX2_charactersIn_23 : decode cX2_charactersIn 23 = .ok (.lstore 5, 2) := by decide +kernel
theorem dX2_charactersIn_25 : decode cX2_charactersIn 25 = .ok (.lload 5, 2) := by decide +kernel
theorem dX2_charactersIn_27 : decode cX2_charactersIn 27 = .ok (.ldc2_w 21, 3) := by decide +kernel
theorem dX2_charactersIn_30 : decode cX2_charactersIn 30 = .ok (.lcmp, 1) := by decide +kernel
theorem dX2_charactersIn_31 : decode cX2_charactersIn 31 = .ok (.ifCond .lt 12, 3) := by decide +kernel
theorem dX2_charactersIn_34 : decode cX2_charactersIn 34 = .ok (.lload 5, 2) := by decide +kernel
theorem dX2_charactersIn_36 : decode cX2_charactersIn 36 = .ok (.ldc2_w 23, 3) := by decide +kernel
theorem dX2_charactersIn_39 : decode cX2_charactersIn 39 = .ok (.lcmp, 1) := by decide +kernel
theorem dX2_charactersIn_40 : decode cX2_charactersIn 40 = .ok (.ifCond .le 5, 3) := by decide +kernel
theorem dX2_charactersIn_43 : decode cX2_charactersIn 43 = .ok (.iconst 0, 1) := by decide +kernel
theorem dX2_charactersIn_44 : decode cX2_charactersIn 44 = .ok (.ireturn, 1) := by decide +kernel
theorem dX2_charactersIn_45 : decode cX2_charactersIn 45 = .ok (.lload_n 2, 1) := by decide +kernel
theorem dX2_charactersIn_46 : decode cX2_charactersIn 46 = .ok (.bipush 8, 2) := by decide +kernel
theorem dX2_charactersIn_48 : decode cX2_charactersIn 48 = .ok (.lushr, 1) := by decide +kernel
theorem dX2_charactersIn_49 : decode cX2_charactersIn 49 = .ok (.lstore_n 2, 1) := by decide +kernel
theorem dX2_charactersIn_50 : decode cX2_charactersIn 50 = .ok (.iinc 4 1, 3) := by decide +kernel
theorem dX2_charactersIn_53 : decode cX2_charactersIn 53 = .ok (.goto (-48), 3) := by decide +kernel
theorem dX2_charactersIn_56 : decode cX2_charactersIn 56 = .ok (.iload 4, 2) := by decide +kernel
theorem dX2_charactersIn_58 : decode cX2_charactersIn 58 = .ok (.ireturn, 1) := by decide +kernel
theorem dX2_append_0 : decode cX2_append 0 = .ok (.iload_n 3, 1) := by decide +kernel
theorem dX2_append_1 : decode cX2_append 1 = .ok (.iconst 1, 1) := by decide +kernel
theorem dX2_append_2 : decode cX2_append 2 = .ok (.isub, 1) := by decide +kernel
theorem dX2_append_3 : decode cX2_append 3 = .ok (.istore 4, 2) := by decide +kernel
theorem dX2_append_5 : decode cX2_append 5 = .ok (.iload 4, 2) := by decide +kernel
theorem dX2_append_7 : decode cX2_append 7 = .ok (.ifCond .lt 50, 3) := by decide +kernel
theorem dX2_append_10 : decode cX2_append 10 = .ok (.aload_n 0, 1) := by decide +kernel
theorem dX2_append_11 : decode cX2_append 11 = .ok (.getfield 25, 3) := by decide +kernel
theorem dX2_append_14 : decode cX2_append 14 = .ok (.bipush 60, 2) := by decide +kernel
theorem dX2_append_16 : decode cX2_append 16 = .ok (.if_icmp .ge 35, 3) := by decide +kernel
theorem dX2_append_19 : decode cX2_append 19 = .ok (.aload_n 0, 1) := by decide +kernel
theorem dX2_append_20 : decode cX2_append 20 = .ok (.getfield 9, 3) := by decide +kernel
theorem dX2_append_23 : decode cX2_append 23 = .ok (.aload_n 0, 1) := by decide +kernel
theorem dX2_append_24 : decode cX2_append 24 = .ok (.getfield 25, 3) := by decide +kernel
theorem dX2_append_27 : decode cX2_append 27 = .ok (.lload_n 1, 1) := by decide +kernel
theorem dX2_append_28 : decode cX2_append 28 = .ok (.bipush 8, 2) := by decide +kernel
theorem dX2_append_30 : decode cX2_append 30 = .ok (.iload 4, 2) := by decide +kernel
theorem dX2_append_32 : decode cX2_append 32 = .ok (.imul, 1) := by decide +kernel
theorem dX2_append_33 : decode cX2_append 33 = .ok (.lushr, 1) := by decide +kernel
theorem dX2_append_34 : decode cX2_append 34 = .ok (.ldc2_w 19, 3) := by decide +kernel
theorem dX2_append_37 : decode cX2_append 37 = .ok (.land, 1) := by decide +kernel
theorem dX2_append_38 : decode cX2_append 38 = .ok (.l2i, 1) := by decide +kernel
theorem dX2_append_39 : decode cX2_append 39 = .ok (.i2c, 1) := by decide +kernel
theorem dX2_append_40 : decode cX2_append 40 = .ok (.castore, 1) := by decide +kernel
theorem dX2_append_41 : decode cX2_append 41 = .ok (.aload_n 0, 1) := by decide +kernel
theorem dX2_append_42 : decode cX2_append 42 = .ok (.dup, 1) := by decide +kernel
theorem dX2_append_43 : decode cX2_append 43 = .ok (.getfield 25, 3) := by decide +kernel
theorem dX2_append_46 : decode cX2_append 46 = .ok (.iconst 1, 1) := by decide +kernel
theorem dX2_append_47 : decode cX2_append 47 = .ok (.iadd, 1) := by decide +kernel
theorem dX2_append_48 : decode cX2_append 48 = .ok (.putfield 25, 3) := by decide +kernel
theorem dX2_append_51 : decode cX2_append 51 = .ok (.iinc 4 (-1), 3) := by decide +kernel
theorem dX2_append_54 : decode cX2_append 54 = .ok (.goto (-49), 3) := by decide +kernel
theorem dX2_append_57 : decode cX2_append 57 = .ok (.return_, 1) := by decide +kernel
theorem dX2_scan_0 : decode cX2_scan 0 = .ok (.iconst 0, 1) := by decide +kernel
theorem dX2_scan_1 : decode cX2_scan 1 = .ok (.istore_n 1, 1) := by decide +kernel
theorem dX2_scan_2 : decode cX2_scan 2 = .ok (.iconst 0, 1) := by decide +kernel
theorem dX2_scan_3 : decode cX2_scan 3 = .ok (.istore_n 2, 1) := by decide +kernel
theorem dX2_scan_4 : decode cX2_scan 4 = .ok (.iconst 0, 1) := by decide +kernel
theorem dX2_scan_5 : decode cX2_scan 5 = .ok (.istore_n 3, 1) := by decide +kernel
theorem dX2_scan_6 : decode cX2_scan 6 = .ok (.iload_n 3, 1) := by decide +kernel
theorem dX2_scan_7 : decode cX2_scan 7 = .ok (.aload_n 0, 1) := by decide +kernel
theorem dX2_scan_8 : decode cX2_scan 8 = .ok (.getfield 25, 3) := by decide +kernel
theorem dX2_scan_11 : decode cX2_scan 11 = .ok (.if_icmp .ge 96, 3) := by decide +kernel
theorem dX2_scan_14 : decode cX2_scan 14 = .ok (.aload_n 0, 1) := by decide +kernel
theorem dX2_scan_15 : decode cX2_scan 15 = .ok (.getfield 9, 3) := by decide +kernel
theorem dX2_scan_18 : decode cX2_scan 18 = .ok (.iload_n 3, 1) := by decide +kernel
theorem dX2_scan_19 : decode cX2_scan 19 = .ok (.caload, 1) := by decide +kernel
theorem dX2_scan_20 : decode cX2_scan 20 = .ok (.istore 4, 2) := by decide +kernel
theorem dX2_scan_22 : decode cX2_scan 22 = .ok (.aload_n 0, 1) := by decide +kernel
theorem dX2_scan_23 : decode cX2_scan 23 = .ok (.iload 4, 2) := by decide +kernel
theorem dX2_scan_25 : decode cX2_scan 25 = .ok (.iload_n 1, 1) := by decide +kernel
theorem dX2_scan_26 : decode cX2_scan 26 = .ok (.iload_n 2, 1) := by decide +kernel
theorem dX2_scan_27 : decode cX2_scan 27 = .ok (.invokevirtual 29, 3) := by decide +kernel
theorem dX2_scan_30 : decode cX2_scan 30 = .ok (.ifCond .eq 42, 3) := by decide +kernel
theorem dX2_scan_33 : decode cX2_scan 33 = .ok (.iload_n 2, 1) := by decide +kernel
theorem dX2_scan_34 : decode cX2_scan 34 = .ok (.ifCond .ne 7, 3) := by decide +kernel
theorem dX2_scan_37 : decode cX2_scan 37 = .ok (.iconst 0, 1) := by decide +kernel
theorem dX2_scan_38 : decode cX2_scan 38 = .ok (.goto 12, 3) := by decide +kernel
theorem dX2_scan_41 : decode cX2_scan 41 = .ok (.aload_n 0, 1) := by decide +kernel
theorem dX2_scan_42 : decode cX2_scan 42 = .ok (.getfield 15, 3) := by decide +kernel
theorem dX2_scan_45 : decode cX2_scan 45 = .ok (.iload_n 1, 1) := by decide +kernel
theorem dX2_scan_46 : decode cX2_scan 46 = .ok (.iaload, 1) := by decide +kernel
theorem dX2_scan_47 : decode cX2_scan 47 = .ok (.bipush 10, 2) := by decide +kernel
theorem dX2_scan_49 : decode cX2_scan 49 = .ok (.imul, 1) := by decide +kernel
theorem dX2_scan_50 : decode cX2_scan 50 = .ok (.istore 5, 2) := by decide +kernel
theorem dX2_scan_52 : decode cX2_scan 52 = .ok (.aload_n 0, 1) := by decide +kernel
theorem dX2_scan_53 : decode cX2_scan 53 = .ok (.getfield 15, 3) := by decide +kernel
theorem dX2_scan_56 : decode cX2_scan 56 = .ok (.iload_n 1, 1) := by decide +kernel
theorem dX2_scan_57 : decode cX2_scan 57 = .ok (.iload 5, 2) := by decide +kernel
theorem dX2_scan_59 : decode cX2_scan 59 = .ok (.iload 4, 2) := by decide +kernel
theorem dX2_scan_61 : decode cX2_scan 61 = .ok (.iadd, 1) := by decide +kernel
theorem dX2_scan_62 : decode cX2_scan 62 = .ok (.bipush 48, 2) := by decide +kernel
theorem dX2_scan_64 : decode cX2_scan 64 = .ok (.isub, 1) := by decide +kernel
theorem dX2_scan_65 : decode cX2_scan 65 = .ok (.iastore, 1) := by decide +kernel
theorem dX2_scan_66 : decode cX2_scan 66 = .ok (.iinc 2 1, 3) := by decide +kernel
theorem dX2_scan_69 : decode cX2_scan 69 = .ok (.goto 32, 3) := by decide +kernel
theorem dX2_scan_72 : decode cX2_scan 72 = .ok (.iload_n 2, 1) := by decide +kernel
theorem dX2_scan_73 : decode cX2_scan 73 = .ok (.ifCond .le 26, 3) := by decide +kernel
theorem dX2_scan_76 : decode cX2_scan 76 = .ok (.iload_n 1, 1) := by decide +kernel
theorem dX2_scan_77 : decode cX2_scan 77 = .ok (.bipush 14, 2) := by decide +kernel
theorem dX2_scan_79 : decode cX2_scan 79 = .ok (.if_icmp .ge 20, 3) := by decide +kernel
theorem dX2_scan_82 : decode cX2_scan 82 = .ok (.iload 4, 2) := by decide +kernel
theorem dX2_scan_84 : decode cX2_scan 84 = .ok (.iload_n 1, 1) := by decide +kernel
theorem dX2_scan_85 : decode cX2_scan 85 = .ok (.invokestatic 33, 3) := by decide +kernel
theorem dX2_scan_88 : decode cX2_scan 88 = .ok (.if_icmp .ne 11, 3) := by decide +kernel
theorem dX2_scan_91 : decode cX2_scan 91 = .ok (.iinc 1 1, 3) := by decide +kernel
theorem dX2_scan_94 : decode cX2_scan 94 = .ok (.iconst 0, 1) := by decide +kernel
theorem dX2_scan_95 : decode cX2_scan 95 = .ok (.istore_n 2, 1) := by decide +kernel
theorem dX2_scan_96 : decode cX2_scan 96 = .ok (.goto 5, 3) := by decide +kernel
theorem dX2_scan_99 : decode cX2_scan 99 = .ok (.iload_n 3, 1) := by decide +kernel
theorem dX2_scan_100 : decode cX2_scan 100 = .ok (.ireturn, 1) := by decide +kernel
theorem dX2_scan_101 : decode cX2_scan 101 = .ok (.iinc 3 1, 3) := by decide +kernel
theorem dX2_scan_104 : decode cX2_scan 104 = .ok (.goto (-98), 3) := by decide +kernel
theorem dX2_scan_107 : decode cX2_scan 107 = .ok (.iload_n 1, 1) := by decide +kernel
theorem dX2_scan_108 : decode cX2_scan 108 = .ok (.bipush 14, 2) := by decide +kernel
theorem dX2_scan_110 : decode cX2_scan 110 = .ok (.if_icmp .ne 12, 3) := by decide +kernel
theorem dX2_scan_113 : decode cX2_scan 113 = .ok (.iload_n 2, 1) := by decide +kernel
theorem dX2_scan_114 : decode cX2_scan 114 = .ok (.ifCond .le 8, 3) := by decide +kernel
theorem dX2_scan_117 : decode cX2_scan 117 = .ok (.bipush (-6), 2) := by decide +kernel
theorem dX2_scan_119 : decode cX2_scan 119 = .ok (.goto 7, 3) := by decide +kernel
theorem dX2_scan_122 : decode cX2_scan 122 = .ok (.aload_n 0, 1) := by decide +kernel
theorem dX2_scan_123 : decode cX2_scan 123 = .ok (.getfield 25, 3) := by decide +kernel
theorem dX2_scan_126 : decode cX2_scan 126 = .ok (.ireturn, 1) := by decide +kernel
theorem dX2_digitFits_0 : decode cX2_digitFits 0 = .ok (.iload_n 2, 1) := by decide +kernel
theorem dX2_digitFits_1 : decode cX2_digitFits 1 = .ok (.bipush 14, 2) := by decide +kernel
theorem dX2_digitFits_3 : decode cX2_digitFits 3 = .ok (.if_icmp .ne 25, 3) := by decide +kernel
theorem dX2_digitFits_6 : decode cX2_digitFits 6 = .ok (.iload_n 3, 1) := by decide +kernel
theorem dX2_digitFits_7 : decode cX2_digitFits 7 = .ok (.ifCond .ne 19, 3) := by decide +kernel
theorem dX2_digitFits_10 : decode cX2_digitFits 10 = .ok (.iload_n 1, 1) := by decide +kernel
theorem dX2_digitFits_11 : decode cX2_digitFits 11 = .ok (.bipush 48, 2) := by decide +kernel
theorem dX2_digitFits_13 : decode cX2_digitFits 13 = .ok (.if_icmp .eq 9, 3) := by decide +kernel
theorem dX2_digitFits_16 : decode cX2_digitFits 16 = .ok (.iload_n 1, 1) := by decide +kernel
theorem dX2_digitFits_17 : decode cX2_digitFits 17 = .ok (.bipush 49, 2) := by decide +kernel
theorem dX2_digitFits_19 : decode cX2_digitFits 19 = .ok (.if_icmp .ne 7, 3) := by decide +kernel
theorem dX2_digitFits_22 : decode cX2_digitFits 22 = .ok (.iconst 1, 1) := by decide +kernel
theorem dX2_digitFits_23 : decode cX2_digitFits 23 = .ok (.goto 4, 3) := by decide +kernel
theorem dX2_digitFits_26 : decode cX2_digitFits 26 = .ok (.iconst 0, 1) := by decide +kernel
theorem dX2_digitFits_27 : decode cX2_digitFits 27 = .ok (.ireturn, 1) := by decide +kernel
theorem dX2_digitFits_28 : decode cX2_digitFits 28 = .ok (.iload_n 1, 1) := by decide +kernel
theorem dX2_digitFits_29 : decode cX2_digitFits 29 = .ok (.bipush 48, 2) := by decide +kernel
theorem dX2_digitFits_31 : decode cX2_digitFits 31 = .ok (.if_icmp .lt 13, 3) := by decide +kernel
theorem dX2_digitFits_34 : decode cX2_digitFits 34 = .ok (.iload_n 1, 1) := by decide +kernel
theorem dX2_digitFits_35 : decode cX2_digitFits 35 = .ok (.bipush 57, 2) := by decide +kernel
theorem dX2_digitFits_37 : decode cX2_digitFits 37 = .ok (.if_icmp .gt 7, 3) := by decide +kernel
theorem dX2_digitFits_40 : decode cX2_digitFits 40 = .ok (.iconst 1, 1) := by decide +kernel
theorem dX2_digitFits_41 : decode cX2_digitFits 41 = .ok (.goto 4, 3) := by decide +kernel
theorem dX2_digitFits_44 : decode cX2_digitFits 44 = .ok (.iconst 0, 1) := by decide +kernel
theorem dX2_digitFits_45 : decode cX2_digitFits 45 = .ok (.istore 4, 2) := by decide +kernel
theorem dX2_digitFits_47 : decode cX2_digitFits 47 = .ok (.iload 4, 2) := by decide +kernel
theorem dX2_digitFits_49 : decode cX2_digitFits 49 = .ok (.ifCond .eq 25, 3) := by decide +kernel
theorem dX2_digitFits_52 : decode cX2_digitFits 52 = .ok (.iload_n 3, 1) := by decide +kernel
theorem dX2_digitFits_53 : decode cX2_digitFits 53 = .ok (.ifCond .eq 17, 3) := by decide +kernel
theorem dX2_digitFits_56 : decode cX2_digitFits 56 = .ok (.iload_n 3, 1) := by decide +kernel
theorem dX2_digitFits_57 : decode cX2_digitFits 57 = .ok (.iconst 1, 1) := by decide +kernel
theorem dX2_digitFits_58 : decode cX2_digitFits 58 = .ok (.if_icmp .ne 16, 3) := by decide +kernel
theorem dX2_digitFits_61 : decode cX2_digitFits 61 = .ok (.aload_n 0, 1) := by decide +kernel
theorem dX2_digitFits_62 : decode cX2_digitFits 62 = .ok (.getfield 15, 3) := by decide +kernel
theorem dX2_digitFits_65 : decode cX2_digitFits 65 = .ok (.iload_n 2, 1) := by decide +kernel
theorem dX2_digitFits_66 : decode cX2_digitFits 66 = .ok (.iaload, 1) := by decide +kernel
theorem dX2_digitFits_67 : decode cX2_digitFits 67 = .ok (.ifCond .eq 7, 3) := by decide +kernel
theorem dX2_digitFits_70 : decode cX2_digitFits 70 = .ok (.iconst 1, 1) := by decide +kernel
theorem dX2_digitFits_71 : decode cX2_digitFits 71 = .ok (.goto 4, 3) := by decide +kernel
theorem dX2_digitFits_74 : decode cX2_digitFits 74 = .ok (.iconst 0, 1) := by decide +kernel
theorem dX2_digitFits_75 : decode cX2_digitFits 75 = .ok (.ireturn, 1) := by decide +kernel
theorem dX2_signBehind_0 : decode cX2_signBehind 0 = .ok (.iload_n 0, 1) := by decide +kernel
theorem dX2_signBehind_1 : decode cX2_signBehind 1 = .ok (.bipush 11, 2) := by decide +kernel
theorem dX2_signBehind_3 : decode cX2_signBehind 3 = .ok (.if_icmp .eq 9, 3) := by decide +kernel
theorem dX2_signBehind_6 : decode cX2_signBehind 6 = .ok (.iload_n 0, 1) := by decide +kernel
theorem dX2_signBehind_7 : decode cX2_signBehind 7 = .ok (.bipush 13, 2) := by decide +kernel
theorem dX2_signBehind_9 : decode cX2_signBehind 9 = .ok (.if_icmp .ne 8, 3) := by decide +kernel
theorem dX2_signBehind_12 : decode cX2_signBehind 12 = .ok (.bipush 47, 2) := by decide +kernel
theorem dX2_signBehind_14 : decode cX2_signBehind 14 = .ok (.goto 5, 3) := by decide +kernel
theorem dX2_signBehind_17 : decode cX2_signBehind 17 = .ok (.bipush 44, 2) := by decide +kernel
theorem dX2_signBehind_19 : decode cX2_signBehind 19 = .ok (.ireturn, 1) := by decide +kernel
theorem dX3_init_0 : decode cX3_init 0 = .ok (.aload_n 0, 1) := by decide +kernel
theorem dX3_init_1 : decode cX3_init 1 = .ok (.invokespecial 3, 3) := by decide +kernel
theorem dX3_init_4 : decode cX3_init 4 = .ok (.aload_n 0, 1) := by decide +kernel
theorem dX3_init_5 : decode cX3_init 5 = .ok (.bipush 12, 2) := by decide +kernel
theorem dX3_init_7 : decode cX3_init 7 = .ok (.newarray .int, 2) := by decide +kernel
theorem dX3_init_9 : decode cX3_init 9 = .ok (.putfield 9, 3) := by decide +kernel
theorem dX3_init_12 : decode cX3_init 12 = .ok (.aload_n 0, 1) := by decide +kernel
theorem dX3_init_13 : decode cX3_init 13 = .ok (.bipush 12, 2) := by decide +kernel
theorem dX3_init_15 : decode cX3_init 15 = .ok (.newarray .int, 2) := by decide +kernel
theorem dX3_init_17 : decode cX3_init 17 = .ok (.putfield 15, 3) := by decide +kernel
theorem dX3_init_20 : decode cX3_init 20 = .ok (.aload_n 0, 1) := by decide +kernel
theorem dX3_init_21 : decode cX3_init 21 = .ok (.iconst 2, 1) := by decide +kernel
theorem dX3_init_22 : decode cX3_init 22 = .ok (.newarray .int, 2) := by decide +kernel
theorem dX3_init_24 : decode cX3_init 24 = .ok (.putfield 18, 3) := by decide +kernel
theorem dX3_init_27 : decode cX3_init 27 = .ok (.return_, 1) := by decide +kernel
theorem dX3_copyFrom_0 : decode cX3_copyFrom 0 = .ok (.aload_n 1, 1) := by decide +kernel
theorem dX3_copyFrom_1 : decode cX3_copyFrom 1 = .ok (.getfield 9, 3) := by decide +kernel
theorem dX3_copyFrom_4 : decode cX3_copyFrom 4 = .ok (.iconst 0, 1) := by decide +kernel
theorem dX3_copyFrom_5 : decode cX3_copyFrom 5 = .ok (.aload_n 0, 1) := by decide +kernel
theorem dX3_copyFrom_6 : decode cX3_copyFrom 6 = .ok (.getfield 9, 3) := by decide +kernel
theorem dX3_copyFrom_9 : decode cX3_copyFrom 9 = .ok (.iconst 0, 1) := by decide +kernel
theorem dX3_copyFrom_10 : decode cX3_copyFrom 10 = .ok (.bipush 12, 2) := by decide +kernel
theorem dX3_copyFrom_12 : decode cX3_copyFrom 12 = .ok (.invokestatic 21, 3) := by decide +kernel
theorem dX3_copyFrom_15 : decode cX3_copyFrom 15 = .ok (.aload_n 1, 1) := by decide +kernel
theorem dX3_copyFrom_16 : decode cX3_copyFrom 16 = .ok (.getfield 15, 3) := by decide +kernel
theorem dX3_copyFrom_19 : decode cX3_copyFrom 19 = .ok (.iconst 0, 1) := by decide +kernel
theorem dX3_copyFrom_20 : decode cX3_copyFrom 20 = .ok (.aload_n 0, 1) := by decide +kernel
theorem dX3_copyFrom_21 : decode cX3_copyFrom 21 = .ok (.getfield 15, 3) := by decide +kernel
theorem dX3_copyFrom_24 : decode cX3_copyFrom 24 = .ok (.iconst 0, 1) := by decide +kernel
theorem dX3_copyFrom_25 : decode cX3_copyFrom 25 = .ok (.bipush 12, 2) := by decide +kernel
theorem dX3_copyFrom_27 : decode cX3_copyFrom 27 = .ok (.invokestatic 21, 3) := by decide +kernel
theorem dX3_copyFrom_30 : decode cX3_copyFrom 30 = .ok (.aload_n 0, 1) := by decide +kernel
theorem dX3_copyFrom_31 : decode cX3_copyFrom 31 = .ok (.getfield 18, 3) := by decide +kernel
theorem dX3_copyFrom_34 : decode cX3_copyFrom 34 = .ok (.iconst 0, 1) := by decide +kernel
theorem dX3_copyFrom_35 : decode cX3_copyFrom 35 = .ok (.aload_n 1, 1) := by decide +kernel
theorem dX3_copyFrom_36 : decode cX3_copyFrom 36 = .ok (.getfield 18, 3) := by decide +kernel
theorem dX3_copyFrom_39 : decode cX3_copyFrom 39 = .ok (.iconst 0, 1) := by decide +kernel
theorem dX3_copyFrom_40 : decode cX3_copyFrom 40 = .ok (.iaload, 1) := by decide +kernel
theorem dX3_copyFrom_41 : decode cX3_copyFrom 41 = .ok (.iastore, 1) := by decide +kernel
theorem dX3_copyFrom_42 : decode cX3_copyFrom 42 = .ok (.aload_n 0, 1) := by decide +kernel
theorem dX3_copyFrom_43 : decode cX3_copyFrom 43 = .ok (.getfield 18, 3) := by decide +kernel
theorem dX3_copyFrom_46 : decode cX3_copyFrom 46 = .ok (.iconst 1, 1) := by decide +kernel
theorem dX3_copyFrom_47 : decode cX3_copyFrom 47 = .ok (.aload_n 1, 1) := by decide +kernel
theorem dX3_copyFrom_48 : decode cX3_copyFrom 48 = .ok (.getfield 18, 3) := by decide +kernel
theorem dX3_copyFrom_51 : decode cX3_copyFrom 51 = .ok (.iconst 1, 1) := by decide +kernel
theorem dX3_copyFrom_52 : decode cX3_copyFrom 52 = .ok (.iaload, 1) := by decide +kernel
theorem dX3_copyFrom_53 : decode cX3_copyFrom 53 = .ok (.iastore, 1) := by decide +kernel
theorem dX3_copyFrom_54 : decode cX3_copyFrom 54 = .ok (.aload_n 0, 1) := by decide +kernel
theorem dX3_copyFrom_55 : decode cX3_copyFrom 55 = .ok (.aload_n 1, 1) := by decide +kernel
theorem dX3_copyFrom_56 : decode cX3_copyFrom 56 = .ok (.getfield 27, 3) := by decide +kernel
theorem dX3_copyFrom_59 : decode cX3_copyFrom 59 = .ok (.putfield 27, 3) := by decide +kernel
theorem dX3_copyFrom_62 : decode cX3_copyFrom 62 = .ok (.aload_n 0, 1) := by decide +kernel
theorem dX3_copyFrom_63 : decode cX3_copyFrom 63 = .ok (.aload_n 1, 1) := by decide +kernel
theorem dX3_copyFrom_64 : decode cX3_copyFrom 64 = .ok (.getfield 31, 3) := by decide +kernel
theorem dX3_copyFrom_67 : decode cX3_copyFrom 67 = .ok (.putfield 31, 3) := by decide +kernel
theorem dX3_copyFrom_70 : decode cX3_copyFrom 70 = .ok (.aload_n 0, 1) := by decide +kernel
theorem dX3_copyFrom_71 : decode cX3_copyFrom 71 = .ok (.aload_n 1, 1) := by decide +kernel
theorem dX3_copyFrom_72 : decode cX3_copyFrom 72 = .ok (.getfield 35, 3) := by decide +kernel
theorem dX3_copyFrom_75 : decode cX3_copyFrom 75 = .ok (.putfield 35, 3) := by decide +kernel
theorem dX3_copyFrom_78 : decode cX3_copyFrom 78 = .ok (.return_, 1) := by decide +kernel
theorem dX3_fill_0 : decode cX3_fill 0 = .ok (.aload_n 0, 1) := by decide +kernel
theorem dX3_fill_1 : decode cX3_fill 1 = .ok (.invokevirtual 38, 3) := by decide +kernel
theorem dX3_fill_4 : decode cX3_fill 4 = .ok (.iconst 0, 1) := by decide +kernel
theorem dX3_fill_5 : decode cX3_fill 5 = .ok (.istore_n 2, 1) := by decide +kernel
theorem dX3_fill_6 : decode cX3_fill 6 = .ok (.iload_n 2, 1) := by decide +kernel
theorem dX3_fill_7 : decode cX3_fill 7 = .ok (.bipush 12, 2) := by decide +kernel
theorem dX3_fill_9 : decode cX3_fill 9 = .ok (.if_icmp .ge 16, 3) := by decide +kernel
theorem dX3_fill_12 : decode cX3_fill 12 = .ok (.aload_n 0, 1) := by decide +kernel
theorem dX3_fill_13 : decode cX3_fill 13 = .ok (.getfield 9, 3) := by decide +kernel
theorem dX3_fill_16 : decode cX3_fill 16 = .ok (.iload_n 2, 1) := by decide +kernel
theorem dX3_fill_17 : decode cX3_fill 17 = .ok (.iload_n 1, 1) := by decide +kernel
theorem dX3_fill_18 : decode cX3_fill 18 = .ok (.iastore, 1) := by decide +kernel
theorem dX3_fill_19 : decode cX3_fill 19 = .ok (.iinc 2 1, 3) := by decide +kernel
theorem dX3_fill_22 : decode cX3_fill 22 = .ok (.goto (-16), 3) := by decide +kernel
theorem dX3_fill_25 : decode cX3_fill 25 = .ok (.aload_n 0, 1) := by decide +kernel
theorem dX3_fill_26 : decode cX3_fill 26 = .ok (.getfield 18, 3) := by decide +kernel
theorem dX3_fill_29 : decode cX3_fill 29 = .ok (.iconst 0, 1) := by decide +kernel
theorem dX3_fill_30 : decode cX3_fill 30 = .ok (.iconst 0, 1) := by decide +kernel
theorem dX3_fill_31 : decode cX3_fill 31 = .ok (.iastore, 1) := by decide +kernel
theorem dX3_fill_32 : decode cX3_fill 32 = .ok (.aload_n 0, 1) := by decide +kernel
theorem dX3_fill_33 : decode cX3_fill 33 = .ok (.getfield 18, 3) := by decide +kernel
theorem dX3_fill_36 : decode cX3_fill 36 = .ok (.iconst 1, 1) := by decide +kernel
theorem dX3_fill_37 : decode cX3_fill 37 = .ok (.iconst 0, 1) := by decide +kernel
theorem dX3_fill_38 : decode cX3_fill 38 = .ok (.iastore, 1) := by decide +kernel
theorem dX3_fill_39 : decode cX3_fill 39 = .ok (.aload_n 0, 1) := by decide +kernel
theorem dX3_fill_40 : decode cX3_fill 40 = .ok (.iconst 0, 1) := by decide +kernel
theorem dX3_fill_41 : decode cX3_fill 41 = .ok (.putfield 27, 3) := by decide +kernel
theorem dX3_fill_44 : decode cX3_fill 44 = .ok (.return_, 1) := by decide +kernel
theorem dX3_fillFrom_0 : decode cX3_fillFrom 0 = .ok (.aload_n 0, 1) := by decide +kernel
theorem dX3_fillFrom_1 : decode cX3_fillFrom 1 = .ok (.invokevirtual 38, 3) := by decide +kernel
theorem dX3_fillFrom_4 : decode cX3_fillFrom 4 = .ok (.iconst 0, 1) := by decide +kernel
theorem dX3_fillFrom_5 : decode cX3_fillFrom 5 = .ok (.istore_n 2, 1) := by decide +kernel
theorem dX3_fillFrom_6 : decode cX3_fillFrom 6 = .ok (.iload_n 2, 1) := by decide +kernel
theorem dX3_fillFrom_7 : decode cX3_fillFrom 7 = .ok (.bipush 12, 2) := by decide +kernel
theorem dX3_fillFrom_9 : decode cX3_fillFrom 9 = .ok (.if_icmp .ge 18, 3) := by decide +kernel
theorem dX3_fillFrom_12 : decode cX3_fillFrom 12 = .ok (.aload_n 0, 1) := by decide +kernel
theorem dX3_fillFrom_13 : decode cX3_fillFrom 13 = .ok (.getfield 9, 3) := by decide +kernel
theorem dX3_fillFrom_16 : decode cX3_fillFrom 16 = .ok (.iload_n 2, 1) := by decide +kernel
theorem dX3_fillFrom_17 : decode cX3_fillFrom 17 = .ok (.aload_n 1, 1) := by decide +kernel
theorem dX3_fillFrom_18 : decode cX3_fillFrom 18 = .ok (.iload_n 2, 1) := by decide +kernel
theorem dX3_fillFrom_19 : decode cX3_fillFrom 19 = .ok (.iaload, 1) := by decide +kernel
theorem dX3_fillFrom_20 : decode cX3_fillFrom 20 = .ok (.iastore, 1) := by decide +kernel
theorem dX3_fillFrom_21 : decode cX3_fillFrom 21 = .ok (.iinc 2 1, 3) := by decide +kernel
theorem dX3_fillFrom_24 : decode cX3_fillFrom 24 = .ok (.goto (-18), 3) := by decide +kernel
theorem dX3_fillFrom_27 : decode cX3_fillFrom 27 = .ok (.aload_n 0, 1) := by decide +kernel
theorem dX3_fillFrom_28 : decode cX3_fillFrom 28 = .ok (.getfield 18, 3) := by decide +kernel
theorem dX3_fillFrom_31 : decode cX3_fillFrom 31 = .ok (.iconst 0, 1) := by decide +kernel
theorem dX3_fillFrom_32 : decode cX3_fillFrom 32 = .ok (.aload_n 1, 1) := by decide +kernel
theorem dX3_fillFrom_33 : decode cX3_fillFrom 33 = .ok (.bipush 12, 2) := by decide +kernel
theorem dX3_fillFrom_35 : decode cX3_fillFrom 35 = .ok (.iaload, 1) := by decide +kernel
theorem dX3_fillFrom_36 : decode cX3_fillFrom 36 = .ok (.iastore, 1) := by decide +kernel
theorem dX3_fillFrom_37 : decode cX3_fillFrom 37 = .ok (.aload_n 0, 1) := by decide +kernel
theorem dX3_fillFrom_38 : decode cX3_fillFrom 38 = .ok (.getfield 18, 3) := by decide +kernel
theorem dX3_fillFrom_41 : decode cX3_fillFrom 41 = .ok (.iconst 1, 1) := by decide +kernel
theorem dX3_fillFrom_42 : decode cX3_fillFrom 42 = .ok (.aload_n 1, 1) := by decide +kernel
theorem dX3_fillFrom_43 : decode cX3_fillFrom 43 = .ok (.bipush 13, 2) := by decide +kernel
theorem dX3_fillFrom_45 : decode cX3_fillFrom 45 = .ok (.iaload, 1) := by decide +kernel
theorem dX3_fillFrom_46 : decode cX3_fillFrom 46 = .ok (.iastore, 1) := by decide +kernel
theorem dX3_fillFrom_47 : decode cX3_fillFrom 47 = .ok (.aload_n 0, 1) := by decide +kernel
theorem dX3_fillFrom_48 : decode cX3_fillFrom 48 = .ok (.aload_n 1, 1) := by decide +kernel
theorem dX3_fillFrom_49 : decode cX3_fillFrom 49 = .ok (.bipush 14, 2) := by decide +kernel
theorem dX3_fillFrom_51 : decode cX3_fillFrom 51 = .ok (.iaload, 1) := by decide +kernel
theorem dX3_fillFrom_52 : decode cX3_fillFrom 52 = .ok (.ifCond .ne 7, 3) := by decide +kernel
theorem dX3_fillFrom_55 : decode cX3_fillFrom 55 = .ok (.iconst 0, 1) := by decide +kernel
theorem dX3_fillFrom_56 : decode cX3_fillFrom 56 = .ok (.goto 4, 3) := by decide +kernel
theorem dX3_fillFrom_59 : decode cX3_fillFrom 59 = .ok (.iconst 1, 1) := by decide +kernel
theorem dX3_fillFrom_60 : decode cX3_fillFrom 60 = .ok (.invokevirtual 41, 3) := by decide +kernel
theorem dX3_fillFrom_63 : decode cX3_fillFrom 63 = .ok (.return_, 1) := by decide +kernel
theorem dX3_startGame_0 : decode cX3_startGame 0 = .ok (.iconst 0, 1) := by decide +kernel
theorem dX3_startGame_1 : decode cX3_startGame 1 = .ok (.istore_n 1, 1) := by decide +kernel
theorem dX3_startGame_2 : decode cX3_startGame 2 = .ok (.iload_n 1, 1) := by decide +kernel
theorem dX3_startGame_3 : decode cX3_startGame 3 = .ok (.bipush 12, 2) := by decide +kernel
theorem dX3_startGame_5 : decode cX3_startGame 5 = .ok (.if_icmp .ge 16, 3) := by decide +kernel
theorem dX3_startGame_8 : decode cX3_startGame 8 = .ok (.aload_n 0, 1) := by decide +kernel
theorem dX3_startGame_9 : decode cX3_startGame 9 = .ok (.getfield 15, 3) := by decide +kernel
theorem dX3_startGame_12 : decode cX3_startGame 12 = .ok (.iload_n 1, 1) := by decide +kernel
theorem dX3_startGame_13 : decode cX3_startGame 13 = .ok (.iconst 0, 1) := by decide +kernel
theorem dX3_startGame_14 : decode cX3_startGame 14 = .ok (.iastore, 1) := by decide +kernel
theorem dX3_startGame_15 : decode cX3_startGame 15 = .ok (.iinc 1 1, 3) := by decide +kernel
theorem dX3_startGame_18 : decode cX3_startGame 18 = .ok (.goto (-16), 3) := by decide +kernel
theorem dX3_startGame_21 : decode cX3_startGame 21 = .ok (.aload_n 0, 1) := by decide +kernel
theorem dX3_startGame_22 : decode cX3_startGame 22 = .ok (.iconst 0, 1) := by decide +kernel
theorem dX3_startGame_23 : decode cX3_startGame 23 = .ok (.putfield 31, 3) := by decide +kernel
theorem dX3_startGame_26 : decode cX3_startGame 26 = .ok (.aload_n 0, 1) := by decide +kernel
theorem dX3_startGame_27 : decode cX3_startGame 27 = .ok (.iconst 0, 1) := by decide +kernel
theorem dX3_startGame_28 : decode cX3_startGame 28 = .ok (.putfield 35, 3) := by decide +kernel
theorem dX3_startGame_31 : decode cX3_startGame 31 = .ok (.return_, 1) := by decide +kernel
theorem dX3_ownerOf_0 : decode cX3_ownerOf 0 = .ok (.iload_n 0, 1) := by decide +kernel
theorem dX3_ownerOf_1 : decode cX3_ownerOf 1 = .ok (.bipush 6, 2) := by decide +kernel
theorem dX3_ownerOf_3 : decode cX3_ownerOf 3 = .ok (.if_icmp .ge 7, 3) := by decide +kernel
theorem dX3_ownerOf_6 : decode cX3_ownerOf 6 = .ok (.iconst 0, 1) := by decide +kernel
theorem dX3_ownerOf_7 : decode cX3_ownerOf 7 = .ok (.goto 4, 3) := by decide +kernel
theorem dX3_ownerOf_10 : decode cX3_ownerOf 10 = .ok (.iconst 1, 1) := by decide +kernel
theorem dX3_ownerOf_11 : decode cX3_ownerOf 11 = .ok (.ireturn, 1) := by decide +kernel
theorem dX3_houseBehind_0 : decode cX3_houseBehind 0 = .ok (.iload_n 0, 1) := by decide +kernel
theorem dX3_houseBehind_1 : decode cX3_houseBehind 1 = .ok (.bipush 11, 2) := by decide +kernel
theorem dX3_houseBehind_3 : decode cX3_houseBehind 3 = .ok (.if_icmp .ne 7, 3) := by decide +kernel
theorem dX3_houseBehind_6 : decode cX3_houseBehind 6 = .ok (.iconst 0, 1) := by decide +kernel
theorem dX3_houseBehind_7 : decode cX3_houseBehind 7 = .ok (.goto 6, 3) := by decide +kernel
theorem dX3_houseBehind_10 : decode cX3_houseBehind 10 = .ok (.iload_n 0, 1) := by decide +kernel
theorem dX3_houseBehind_11 : decode cX3_houseBehind 11 = .ok (.iconst 1, 1) := by decide +kernel
theorem dX3_houseBehind_12 : decode cX3_houseBehind 12 = .ok (.iadd, 1) := by decide +kernel
theorem dX3_houseBehind_13 : decode cX3_houseBehind 13 = .ok (.ireturn, 1) := by decide +kernel
theorem dX3_isHostile_0 : decode cX3_isHostile 0 = .ok (.aload_n 0, 1) := by decide +kernel
theorem dX3_isHostile_1 : decode cX3_isHostile 1 = .ok (.getfield 15, 3) := by decide +kernel
theorem dX3_isHostile_4 : decode cX3_isHostile 4 = .ok (.iload_n 1, 1) := by decide +kernel
theorem dX3_isHostile_5 : decode cX3_isHostile 5 = .ok (.iaload, 1) := by decide +kernel
theorem dX3_isHostile_6 : decode cX3_isHostile 6 = .ok (.aload_n 2, 1) := by decide +kernel
theorem dX3_isHostile_7 : decode cX3_isHostile 7 = .ok (.iconst 1, 1) := by decide +kernel
theorem dX3_isHostile_8 : decode cX3_isHostile 8 = .ok (.iaload, 1) := by decide +kernel
theorem dX3_isHostile_9 : decode cX3_isHostile 9 = .ok (.if_icmp .lt 7, 3) := by decide +kernel
theorem dX3_isHostile_12 : decode cX3_isHostile 12 = .ok (.iconst 1, 1) := by decide +kernel
theorem dX3_isHostile_13 : decode cX3_isHostile 13 = .ok (.goto 4, 3) := by decide +kernel
theorem dX3_isHostile_16 : decode cX3_isHostile 16 = .ok (.iconst 0, 1) := by decide +kernel
theorem dX3_isHostile_17 : decode cX3_isHostile 17 = .ok (.ireturn, 1) := by decide +kernel
theorem dX3_hostileHouses_0 : decode cX3_hostileHouses 0 = .ok (.iconst 0, 1) := by decide +kernel
theorem dX3_hostileHouses_1 : decode cX3_hostileHouses 1 = .ok (.istore_n 2, 1) := by decide +kernel
theorem dX3_hostileHouses_2 : decode cX3_hostileHouses 2 = .ok (.iconst 0, 1) := by decide +kernel
theorem dX3_hostileHouses_3 : decode cX3_hostileHouses 3 = .ok (.istore_n 3, 1) := by decide +kernel
theorem dX3_hostileHouses_4 : decode cX3_hostileHouses 4 = .ok (.iload_n 3, 1) := by decide +kernel
theorem dX3_hostileHouses_5 : decode cX3_hostileHouses 5 = .ok (.bipush 12, 2) := by decide +kernel
theorem dX3_hostileHouses_7 : decode cX3_hostileHouses 7 = .ok (.if_icmp .ge 26, 3) := by decide +kernel
theorem dX3_hostileHouses_10 : decode cX3_hostileHouses 10 = .ok (.iload_n 2, 1) := by decide +kernel
theorem dX3_hostileHouses_11 : decode cX3_hostileHouses 11 = .ok (.aload_n 0, 1) := by decide +kernel
theorem dX3_hostileHouses_12 : decode cX3_hostileHouses 12 = .ok (.iload_n 3, 1) := by decide +kernel
theorem dX3_hostileHouses_13 : decode cX3_hostileHouses 13 = .ok (.aload_n 1, 1) := by decide +kernel
theorem dX3_hostileHouses_14 : decode cX3_hostileHouses 14 = .ok (.invokevirtual 45, 3) := by decide +kernel
theorem dX3_hostileHouses_17 : decode cX3_hostileHouses 17 = .ok (.ifCond .eq 7, 3) := by decide +kernel
theorem dX3_hostileHouses_20 : decode cX3_hostileHouses 20 = .ok (.iconst 1, 1) := by decide +kernel
theorem dX3_hostileHouses_21 : decode cX3_hostileHouses 21 = .ok (.goto 4, 3) := by decide +kernel
theorem dX3_hostileHouses_24 : decode cX3_hostileHouses 24 = .ok (.iconst 0, 1) := by decide +kernel
theorem dX3_hostileHouses_25 : decode cX3_hostileHouses 25 = .ok (.iadd, 1) := by decide +kernel
theorem dX3_hostileHouses_26 : decode cX3_hostileHouses 26 = .ok (.istore_n 2, 1) := by decide +kernel
theorem dX3_hostileHouses_27 : decode cX3_hostileHouses 27 = .ok (.iinc 3 1, 3) := by decide +kernel
theorem dX3_hostileHouses_30 : decode cX3_hostileHouses 30 = .ok (.goto (-26), 3) := by decide +kernel
theorem dX3_hostileHouses_33 : decode cX3_hostileHouses 33 = .ok (.iload_n 2, 1) := by decide +kernel
theorem dX3_hostileHouses_34 : decode cX3_hostileHouses 34 = .ok (.ireturn, 1) := by decide +kernel
theorem dX3_canMoveFrom_0 : decode cX3_canMoveFrom 0 = .ok (.aload_n 0, 1) := by decide +kernel
theorem dX3_canMoveFrom_1 : decode cX3_canMoveFrom 1 = .ok (.getfield 31, 3) := by decide +kernel
theorem dX3_canMoveFrom_4 : decode cX3_canMoveFrom 4 = .ok (.ifCond .ne 27, 3) := by decide +kernel
theorem dX3_canMoveFrom_7 : decode cX3_canMoveFrom 7 = .ok (.iload_n 1, 1) := by decide +kernel
theorem dX3_canMoveFrom_8 : decode cX3_canMoveFrom 8 = .ok (.invokestatic 49, 3) := by decide +kernel
theorem dX3_canMoveFrom_11 : decode cX3_canMoveFrom 11 = .ok (.aload_n 0, 1) := by decide +kernel
theorem dX3_canMoveFrom_12 : decode cX3_canMoveFrom 12 = .ok (.getfield 27, 3) := by decide +kernel
theorem dX3_canMoveFrom_15 : decode cX3_canMoveFrom 15 = .ok (.if_icmp .ne 16, 3) := by decide +kernel
theorem dX3_canMoveFrom_18 : decode cX3_canMoveFrom 18 = .ok (.aload_n 0, 1) := by decide +kernel
theorem dX3_canMoveFrom_19 : decode cX3_canMoveFrom 19 = .ok (.getfield 9, 3) := by decide +kernel
theorem dX3_canMoveFrom_22 : decode cX3_canMoveFrom 22 = .ok (.iload_n 1, 1) := by decide +kernel
theorem dX3_canMoveFrom_23 : decode cX3_canMoveFrom 23 = .ok (.iaload, 1) := by decide +kernel
theorem dX3_canMoveFrom_24 : decode cX3_canMoveFrom 24 = .ok (.ifCond .le 7, 3) := by decide +kernel
theorem dX3_canMoveFrom_27 : decode cX3_canMoveFrom 27 = .ok (.iconst 1, 1) := by decide +kernel
theorem dX3_canMoveFrom_28 : decode cX3_canMoveFrom 28 = .ok (.goto 4, 3) := by decide +kernel
theorem dX3_canMoveFrom_31 : decode cX3_canMoveFrom 31 = .ok (.iconst 0, 1) := by decide +kernel
theorem dX3_canMoveFrom_32 : decode cX3_canMoveFrom 32 = .ok (.ireturn, 1) := by decide +kernel
theorem dX3_seedsInHousesOf_0 : decode cX3_seedsInHousesOf 0 = .ok (.iconst 0, 1) := by decide +kernel
theorem dX3_seedsInHousesOf_1 : decode cX3_seedsInHousesOf 1 = .ok (.istore_n 2, 1) := by decide +kernel
theorem dX3_seedsInHousesOf_2 : decode cX3_seedsInHousesOf 2 = .ok (.iload_n 1, 1) := by decide +kernel
theorem dX3_seedsInHousesOf_3 : decode cX3_seedsInHousesOf 3 = .ok (.bipush 6, 2) := by decide +kernel
theorem dX3_seedsInHousesOf_5 : decode cX3_seedsInHousesOf 5 = .ok (.imul, 1) := by decide +kernel
theorem dX3_seedsInHousesOf_6 : decode cX3_seedsInHousesOf 6 = .ok (.istore_n 3, 1) := by decide +kernel
theorem dX3_seedsInHousesOf_7 : decode cX3_seedsInHousesOf 7 = .ok (.iload_n 3, 1) := by decide +kernel
theorem dX3_seedsInHousesOf_8 : decode cX3_seedsInHousesOf 8 = .ok (.iload_n 1, 1) := by decide +kernel
theorem dX3_seedsInHousesOf_9 : decode cX3_seedsInHousesOf 9 = .ok (.iconst 1, 1) := by decide +kernel
theorem dX3_seedsInHousesOf_10 : decode cX3_seedsInHousesOf 10 = .ok (.iadd, 1) := by decide +kernel
theorem dX3_seedsInHousesOf_11 : decode cX3_seedsInHousesOf 11 = .ok (.bipush 6, 2) := by decide +kernel
theorem dX3_seedsInHousesOf_13 : decode cX3_seedsInHousesOf 13 = .ok (.imul, 1) := by decide +kernel
theorem dX3_seedsInHousesOf_14 : decode cX3_seedsInHousesOf 14 = .ok (.if_icmp .ge 18, 3) := by decide +kernel
theorem dX3_seedsInHousesOf_17 : decode cX3_seedsInHousesOf 17 = .ok (.iload_n 2, 1) := by decide +kernel
theorem dX3_seedsInHousesOf_18 : decode cX3_seedsInHousesOf 18 = .ok (.aload_n 0, 1) := by decide +kernel
theorem dX3_seedsInHousesOf_19 : decode cX3_seedsInHousesOf 19 = .ok (.getfield 9, 3) := by decide +kernel
theorem dX3_seedsInHousesOf_22 : decode cX3_seedsInHousesOf 22 = .ok (.iload_n 3, 1) := by decide +kernel
theorem dX3_seedsInHousesOf_23 : decode cX3_seedsInHousesOf 23 = .ok (.iaload, 1) := by decide +kernel
theorem dX3_seedsInHousesOf_24 : decode cX3_seedsInHousesOf 24 = .ok (.iadd, 1) := by decide +kernel
theorem dX3_seedsInHousesOf_25 : decode cX3_seedsInHousesOf 25 = .ok (.istore_n 2, 1) := by decide +kernel
theorem dX3_seedsInHousesOf_26 : decode cX3_seedsInHousesOf 26 = .ok (.iinc 3 1, 3) := by decide +kernel
theorem dX3_seedsInHousesOf_29 : decode cX3_seedsInHousesOf 29 = .ok (.goto (-22), 3) := by decide +kernel
theorem dX3_seedsInHousesOf_32 : decode cX3_seedsInHousesOf 32 = .ok (.iload_n 2, 1) := by decide +kernel
theorem dX3_seedsInHousesOf_33 : decode cX3_seedsInHousesOf 33 = .ok (.ireturn, 1) := by decide +kernel
theorem dX3_allSeeds_0 : decode cX3_allSeeds 0 = .ok (.aload_n 0, 1) := by decide +kernel
theorem dX3_allSeeds_1 : decode cX3_allSeeds 1 = .ok (.iconst 0, 1) := by decide +kernel
theorem dX3_allSeeds_2 : decode cX3_allSeeds 2 = .ok (.invokevirtual 53, 3) := by decide +kernel
theorem dX3_allSeeds_5 : decode cX3_allSeeds 5 = .ok (.aload_n 0, 1) := by decide +kernel
theorem dX3_allSeeds_6 : decode cX3_allSeeds 6 = .ok (.iconst 1, 1) := by decide +kernel
theorem dX3_allSeeds_7 : decode cX3_allSeeds 7 = .ok (.invokevirtual 53, 3) := by decide +kernel
theorem dX3_allSeeds_10 : decode cX3_allSeeds 10 = .ok (.iadd, 1) := by decide +kernel
theorem dX3_allSeeds_11 : decode cX3_allSeeds 11 = .ok (.aload_n 0, 1) := by decide +kernel
theorem dX3_allSeeds_12 : decode cX3_allSeeds 12 = .ok (.getfield 18, 3) := by decide +kernel
theorem dX3_allSeeds_15 : decode cX3_allSeeds 15 = .ok (.iconst 0, 1) := by decide +kernel
theorem dX3_allSeeds_16 : decode cX3_allSeeds 16 = .ok (.iaload, 1) := by decide +kernel
theorem dX3_allSeeds_17 : decode cX3_allSeeds 17 = .ok (.iadd, 1) := by decide +kernel
theorem dX3_allSeeds_18 : decode cX3_allSeeds 18 = .ok (.aload_n 0, 1) := by decide +kernel
theorem dX3_allSeeds_19 : decode cX3_allSeeds 19 = .ok (.getfield 18, 3) := by decide +kernel
theorem dX3_allSeeds_22 : decode cX3_allSeeds 22 = .ok (.iconst 1, 1) := by decide +kernel
theorem dX3_allSeeds_23 : decode cX3_allSeeds 23 = .ok (.iaload, 1) := by decide +kernel
theorem dX3_allSeeds_24 : decode cX3_allSeeds 24 = .ok (.iadd, 1) := by decide +kernel
theorem dX3_allSeeds_25 : decode cX3_allSeeds 25 = .ok (.ireturn, 1) := by decide +kernel
theorem dX3_winner_0 : decode cX3_winner 0 = .ok (.aload_n 0, 1) := by decide +kernel
theorem dX3_winner_1 : decode cX3_winner 1 = .ok (.getfield 18, 3) := by decide +kernel
theorem dX3_winner_4 : decode cX3_winner 4 = .ok (.iconst 0, 1) := by decide +kernel
theorem dX3_winner_5 : decode cX3_winner 5 = .ok (.iaload, 1) := by decide +kernel
theorem dX3_winner_6 : decode cX3_winner 6 = .ok (.aload_n 0, 1) := by decide +kernel
theorem dX3_winner_7 : decode cX3_winner 7 = .ok (.getfield 18, 3) := by decide +kernel
theorem dX3_winner_10 : decode cX3_winner 10 = .ok (.iconst 1, 1) := by decide +kernel
theorem dX3_winner_11 : decode cX3_winner 11 = .ok (.iaload, 1) := by decide +kernel
theorem dX3_winner_12 : decode cX3_winner 12 = .ok (.if_icmp .ne 5, 3) := by decide +kernel
theorem dX3_winner_15 : decode cX3_winner 15 = .ok (.iconst 2, 1) := by decide +kernel
theorem dX3_winner_16 : decode cX3_winner 16 = .ok (.ireturn, 1) := by decide +kernel
theorem dX3_winner_17 : decode cX3_winner 17 = .ok (.aload_n 0, 1) := by decide +kernel
theorem dX3_winner_18 : decode cX3_winner 18 = .ok (.getfield 18, 3) := by decide +kernel
theorem dX3_winner_21 : decode cX3_winner 21 = .ok (.iconst 0, 1) := by decide +kernel
theorem dX3_winner_22 : decode cX3_winner 22 = .ok (.iaload, 1) := by decide +kernel
theorem dX3_winner_23 : decode cX3_winner 23 = .ok (.aload_n 0, 1) := by decide +kernel
theorem dX3_winner_24 : decode cX3_winner 24 = .ok (.getfield 18, 3) := by decide +kernel
theorem dX3_winner_27 : decode cX3_winner 27 = .ok (.iconst 1, 1) := by decide +kernel
theorem dX3_winner_28 : decode cX3_winner 28 = .ok (.iaload, 1) := by decide +kernel
theorem dX3_winner_29 : decode cX3_winner 29 = .ok (.if_icmp .le 7, 3) := by decide +kernel
theorem dX3_winner_32 : decode cX3_winner 32 = .ok (.iconst 0, 1) := by decide +kernel
theorem dX3_winner_33 : decode cX3_winner 33 = .ok (.goto 4, 3) := by decide +kernel
theorem dX3_winner_36 : decode cX3_winner 36 = .ok (.iconst 1, 1) := by decide +kernel
theorem dX3_winner_37 : decode cX3_winner 37 = .ok (.ireturn, 1) := by decide +kernel
theorem dX3_lead_0 : decode cX3_lead 0 = .ok (.aload_n 0, 1) := by decide +kernel
theorem dX3_lead_1 : decode cX3_lead 1 = .ok (.getfield 18, 3) := by decide +kernel
theorem dX3_lead_4 : decode cX3_lead 4 = .ok (.aload_n 0, 1) := by decide +kernel
theorem dX3_lead_5 : decode cX3_lead 5 = .ok (.getfield 27, 3) := by decide +kernel
theorem dX3_lead_8 : decode cX3_lead 8 = .ok (.iaload, 1) := by decide +kernel
theorem dX3_lead_9 : decode cX3_lead 9 = .ok (.aload_n 0, 1) := by decide +kernel
theorem dX3_lead_10 : decode cX3_lead 10 = .ok (.getfield 18, 3) := by decide +kernel
theorem dX3_lead_13 : decode cX3_lead 13 = .ok (.iconst 1, 1) := by decide +kernel
theorem dX3_lead_14 : decode cX3_lead 14 = .ok (.aload_n 0, 1) := by decide +kernel
theorem dX3_lead_15 : decode cX3_lead 15 = .ok (.getfield 27, 3) := by decide +kernel
theorem dX3_lead_18 : decode cX3_lead 18 = .ok (.isub, 1) := by decide +kernel
theorem dX3_lead_19 : decode cX3_lead 19 = .ok (.iaload, 1) := by decide +kernel
theorem dX3_lead_20 : decode cX3_lead 20 = .ok (.isub, 1) := by decide +kernel
theorem dX3_lead_21 : decode cX3_lead 21 = .ok (.ireturn, 1) := by decide +kernel
theorem dX3_makeMove_0 : decode cX3_makeMove 0 = .ok (.aload_n 3, 1) := by decide +kernel
theorem dX3_makeMove_1 : decode cX3_makeMove 1 = .ok (.iload_n 1, 1) := by decide +kernel
theorem dX3_makeMove_2 : decode cX3_makeMove 2 = .ok (.invokevirtual 56, 3) := by decide +kernel
theorem dX3_makeMove_5 : decode cX3_makeMove 5 = .ok (.iconst 1, 1) := by decide +kernel
theorem dX3_makeMove_6 : decode cX3_makeMove 6 = .ok (.istore 4, 2) := by decide +kernel
theorem dX3_makeMove_8 : decode cX3_makeMove 8 = .ok (.iconst 0, 1) := by decide +kernel
theorem dX3_makeMove_9 : decode cX3_makeMove 9 = .ok (.istore 5, 2) := by decide +kernel
theorem dX3_makeMove_11 : decode cX3_makeMove 11 = .ok (.iload 4, 2) := by decide +kernel
theorem dX3_makeMove_13 : decode cX3_makeMove 13 = .ok (.ifCond .eq 29, 3) := by decide +kernel
theorem dX3_makeMove_16 : decode cX3_makeMove 16 = .ok (.iload 5, 2) := by decide +kernel
theorem dX3_makeMove_18 : decode cX3_makeMove 18 = .ok (.aload_n 2, 1) := by decide +kernel
theorem dX3_makeMove_19 : decode cX3_makeMove 19 = .ok (.iconst 2, 1) := by decide +kernel
theorem dX3_makeMove_20 : decode cX3_makeMove 20 = .ok (.iaload, 1) := by decide +kernel
theorem dX3_makeMove_21 : decode cX3_makeMove 21 = .ok (.if_icmp .gt 21, 3) := by decide +kernel
theorem dX3_makeMove_24 : decode cX3_makeMove 24 = .ok (.aload_n 0, 1) := by decide +kernel
theorem dX3_makeMove_25 : decode cX3_makeMove 25 = .ok (.aload_n 3, 1) := by decide +kernel
theorem dX3_makeMove_26 : decode cX3_makeMove 26 = .ok (.getfield 61, 3) := by decide +kernel
theorem dX3_makeMove_29 : decode cX3_makeMove 29 = .ok (.aload_n 2, 1) := by decide +kernel
theorem dX3_makeMove_30 : decode cX3_makeMove 30 = .ok (.aload_n 3, 1) := by decide +kernel
theorem dX3_makeMove_31 : decode cX3_makeMove 31 = .ok (.invokevirtual 64, 3) := by decide +kernel
theorem dX3_makeMove_34 : decode cX3_makeMove 34 = .ok (.istore 4, 2) := by decide +kernel
theorem dX3_makeMove_36 : decode cX3_makeMove 36 = .ok (.iinc 5 1, 3) := by decide +kernel
theorem dX3_makeMove_39 : decode cX3_makeMove 39 = .ok (.goto (-28), 3) := by decide +kernel
theorem dX3_makeMove_42 : decode cX3_makeMove 42 = .ok (.aload_n 0, 1) := by decide +kernel
theorem dX3_makeMove_43 : decode cX3_makeMove 43 = .ok (.dup, 1) := by decide +kernel
theorem dX3_makeMove_44 : decode cX3_makeMove 44 = .ok (.getfield 35, 3) := by decide +kernel
theorem dX3_makeMove_47 : decode cX3_makeMove 47 = .ok (.iconst 1, 1) := by decide +kernel
theorem dX3_makeMove_48 : decode cX3_makeMove 48 = .ok (.iadd, 1) := by decide +kernel
theorem dX3_makeMove_49 : decode cX3_makeMove 49 = .ok (.putfield 35, 3) := by decide +kernel
theorem dX3_makeMove_52 : decode cX3_makeMove 52 = .ok (.aload_n 0, 1) := by decide +kernel
theorem dX3_makeMove_53 : decode cX3_makeMove 53 = .ok (.iconst 1, 1) := by decide +kernel
theorem dX3_makeMove_54 : decode cX3_makeMove 54 = .ok (.aload_n 0, 1) := by decide +kernel
theorem dX3_makeMove_55 : decode cX3_makeMove 55 = .ok (.getfield 27, 3) := by decide +kernel
theorem dX3_makeMove_58 : decode cX3_makeMove 58 = .ok (.isub, 1) := by decide +kernel
theorem dX3_makeMove_59 : decode cX3_makeMove 59 = .ok (.invokevirtual 41, 3) := by decide +kernel
theorem dX3_makeMove_62 : decode cX3_makeMove 62 = .ok (.return_, 1) := by decide +kernel
theorem dX3_sowLap_0 : decode cX3_sowLap 0 = .ok (.aload_n 0, 1) := by decide +kernel
theorem dX3_sowLap_1 : decode cX3_sowLap 1 = .ok (.iload_n 1, 1) := by decide +kernel
theorem dX3_sowLap_2 : decode cX3_sowLap 2 = .ok (.aload_n 2, 1) := by decide +kernel
theorem dX3_sowLap_3 : decode cX3_sowLap 3 = .ok (.aload_n 3, 1) := by decide +kernel
theorem dX3_sowLap_4 : decode cX3_sowLap 4 = .ok (.invokevirtual 68, 3) := by decide +kernel
theorem dX3_sowLap_7 : decode cX3_sowLap 7 = .ok (.istore 4, 2) := by decide +kernel
theorem dX3_sowLap_9 : decode cX3_sowLap 9 = .ok (.aload_n 0, 1) := by decide +kernel
theorem dX3_sowLap_10 : decode cX3_sowLap 10 = .ok (.getfield 9, 3) := by decide +kernel
theorem dX3_sowLap_13 : decode cX3_sowLap 13 = .ok (.iload 4, 2) := by decide +kernel
theorem dX3_sowLap_15 : decode cX3_sowLap 15 = .ok (.iaload, 1) := by decide +kernel
theorem dX3_sowLap_16 : decode cX3_sowLap 16 = .ok (.iconst 1, 1) := by decide +kernel
theorem dX3_sowLap_17 : decode cX3_sowLap 17 = .ok (.if_icmp .ne 7, 3) := by decide +kernel
theorem dX3_sowLap_20 : decode cX3_sowLap 20 = .ok (.iconst 1, 1) := by decide +kernel
theorem dX3_sowLap_21 : decode cX3_sowLap 21 = .ok (.goto 4, 3) := by decide +kernel
theorem dX3_sowLap_24 : decode cX3_sowLap 24 = .ok (.iconst 0, 1) := by decide +kernel
theorem dX3_sowLap_25 : decode cX3_sowLap 25 = .ok (.istore 5, 2) := by decide +kernel
theorem dX3_sowLap_27 : decode cX3_sowLap 27 = .ok (.aload_n 0, 1) := by decide +kernel
theorem dX3_sowLap_28 : decode cX3_sowLap 28 = .ok (.iload 4, 2) := by decide +kernel
theorem dX3_sowLap_30 : decode cX3_sowLap 30 = .ok (.aload_n 2, 1) := by decide +kernel
theorem dX3_sowLap_31 : decode cX3_sowLap 31 = .ok (.invokevirtual 45, 3) := by decide +kernel
theorem dX3_sowLap_34 : decode cX3_sowLap 34 = .ok (.istore 6, 2) := by decide +kernel
theorem dX3_sowLap_36 : decode cX3_sowLap 36 = .ok (.aload_n 0, 1) := by decide +kernel
theorem dX3_sowLap_37 : decode cX3_sowLap 37 = .ok (.getfield 15, 3) := by decide +kernel
theorem dX3_sowLap_40 : decode cX3_sowLap 40 = .ok (.iload 4, 2) := by decide +kernel
theorem dX3_sowLap_42 : decode cX3_sowLap 42 = .ok (.dup2, 1) := by decide +kernel
theorem dX3_sowLap_43 : decode cX3_sowLap 43 = .ok (.iaload, 1) := by decide +kernel
theorem dX3_sowLap_44 : decode cX3_sowLap 44 = .ok (.iconst 1, 1) := by decide +kernel
theorem dX3_sowLap_45 : decode cX3_sowLap 45 = .ok (.iadd, 1) := by decide +kernel
theorem dX3_sowLap_46 : decode cX3_sowLap 46 = .ok (.iastore, 1) := by decide +kernel
theorem dX3_sowLap_47 : decode cX3_sowLap 47 = .ok (.aload_n 3, 1) := by decide +kernel
theorem dX3_sowLap_48 : decode cX3_sowLap 48 = .ok (.dup, 1) := by decide +kernel
theorem dX3_sowLap_49 : decode cX3_sowLap 49 = .ok (.getfield 72, 3) := by decide +kernel
theorem dX3_sowLap_52 : decode cX3_sowLap 52 = .ok (.iconst 1, 1) := by decide +kernel
theorem dX3_sowLap_53 : decode cX3_sowLap 53 = .ok (.iadd, 1) := by decide +kernel
theorem dX3_sowLap_54 : decode cX3_sowLap 54 = .ok (.putfield 72, 3) := by decide +kernel
theorem dX3_sowLap_57 : decode cX3_sowLap 57 = .ok (.aload_n 3, 1) := by decide +kernel
theorem dX3_sowLap_58 : decode cX3_sowLap 58 = .ok (.iload 4, 2) := by decide +kernel
theorem dX3_sowLap_60 : decode cX3_sowLap 60 = .ok (.putfield 61, 3) := by decide +kernel
theorem dX3_sowLap_63 : decode cX3_sowLap 63 = .ok (.iload 5, 2) := by decide +kernel
theorem dX3_sowLap_65 : decode cX3_sowLap 65 = .ok (.ifCond .eq 22, 3) := by decide +kernel
theorem dX3_sowLap_68 : decode cX3_sowLap 68 = .ok (.iload 4, 2) := by decide +kernel
theorem dX3_sowLap_70 : decode cX3_sowLap 70 = .ok (.invokestatic 49, 3) := by decide +kernel
theorem dX3_sowLap_73 : decode cX3_sowLap 73 = .ok (.aload_n 0, 1) := by decide +kernel
theorem dX3_sowLap_74 : decode cX3_sowLap 74 = .ok (.getfield 27, 3) := by decide +kernel
theorem dX3_sowLap_77 : decode cX3_sowLap 77 = .ok (.if_icmp .ne 10, 3) := by decide +kernel
theorem dX3_sowLap_80 : decode cX3_sowLap 80 = .ok (.aload_n 0, 1) := by decide +kernel
theorem dX3_sowLap_81 : decode cX3_sowLap 81 = .ok (.iload 4, 2) := by decide +kernel
theorem dX3_sowLap_83 : decode cX3_sowLap 83 = .ok (.aload_n 3, 1) := by decide +kernel
theorem dX3_sowLap_84 : decode cX3_sowLap 84 = .ok (.invokevirtual 75, 3) := by decide +kernel
theorem dX3_sowLap_87 : decode cX3_sowLap 87 = .ok (.iload 5, 2) := by decide +kernel
theorem dX3_sowLap_89 : decode cX3_sowLap 89 = .ok (.ifCond .ne 12, 3) := by decide +kernel
theorem dX3_sowLap_92 : decode cX3_sowLap 92 = .ok (.iload 6, 2) := by decide +kernel
theorem dX3_sowLap_94 : decode cX3_sowLap 94 = .ok (.ifCond .ne 7, 3) := by decide +kernel
theorem dX3_sowLap_97 : decode cX3_sowLap 97 = .ok (.iconst 1, 1) := by decide +kernel
theorem dX3_sowLap_98 : decode cX3_sowLap 98 = .ok (.goto 4, 3) := by decide +kernel
theorem dX3_sowLap_101 : decode cX3_sowLap 101 = .ok (.iconst 0, 1) := by decide +kernel
theorem dX3_sowLap_102 : decode cX3_sowLap 102 = .ok (.ireturn, 1) := by decide +kernel
theorem dX3_sowHand_0 : decode cX3_sowHand 0 = .ok (.aload_n 2, 1) := by decide +kernel
theorem dX3_sowHand_1 : decode cX3_sowHand 1 = .ok (.iconst 3, 1) := by decide +kernel
theorem dX3_sowHand_2 : decode cX3_sowHand 2 = .ok (.iaload, 1) := by decide +kernel
theorem dX3_sowHand_3 : decode cX3_sowHand 3 = .ok (.istore 4, 2) := by decide +kernel
theorem dX3_sowHand_5 : decode cX3_sowHand 5 = .ok (.aload_n 0, 1) := by decide +kernel
theorem dX3_sowHand_6 : decode cX3_sowHand 6 = .ok (.getfield 9, 3) := by decide +kernel
theorem dX3_sowHand_9 : decode cX3_sowHand 9 = .ok (.iload_n 1, 1) := by decide +kernel
theorem dX3_sowHand_10 : decode cX3_sowHand 10 = .ok (.iaload, 1) := by decide +kernel
theorem dX3_sowHand_11 : decode cX3_sowHand 11 = .ok (.istore 5, 2) := by decide +kernel
theorem dX3_sowHand_13 : decode cX3_sowHand 13 = .ok (.aload_n 0, 1) := by decide +kernel
theorem dX3_sowHand_14 : decode cX3_sowHand 14 = .ok (.getfield 9, 3) := by decide +kernel
theorem dX3_sowHand_17 : decode cX3_sowHand 17 = .ok (.iload_n 1, 1) := by decide +kernel
theorem dX3_sowHand_18 : decode cX3_sowHand 18 = .ok (.iconst 0, 1) := by decide +kernel
theorem dX3_sowHand_19 : decode cX3_sowHand 19 = .ok (.iastore, 1) := by decide +kernel
theorem dX3_sowHand_20 : decode cX3_sowHand 20 = .ok (.iload_n 1, 1) := by decide +kernel
theorem dX3_sowHand_21 : decode cX3_sowHand 21 = .ok (.istore 6, 2) := by decide +kernel
theorem dX3_sowHand_23 : decode cX3_sowHand 23 = .ok (.iload 5, 2) := by decide +kernel
theorem dX3_sowHand_25 : decode cX3_sowHand 25 = .ok (.ifCond .le 103, 3) := by decide +kernel
theorem dX3_sowHand_28 : decode cX3_sowHand 28 = .ok (.iload 6, 2) := by decide +kernel
theorem dX3_sowHand_30 : decode cX3_sowHand 30 = .ok (.invokestatic 79, 3) := by decide +kernel
theorem dX3_sowHand_33 : decode cX3_sowHand 33 = .ok (.istore 6, 2) := by decide +kernel
theorem dX3_sowHand_35 : decode cX3_sowHand 35 = .ok (.iload 6, 2) := by decide +kernel
theorem dX3_sowHand_37 : decode cX3_sowHand 37 = .ok (.iload_n 1, 1) := by decide +kernel
theorem dX3_sowHand_38 : decode cX3_sowHand 38 = .ok (.if_icmp .ne 10, 3) := by decide +kernel
theorem dX3_sowHand_41 : decode cX3_sowHand 41 = .ok (.iload 6, 2) := by decide +kernel
theorem dX3_sowHand_43 : decode cX3_sowHand 43 = .ok (.invokestatic 79, 3) := by decide +kernel
theorem dX3_sowHand_46 : decode cX3_sowHand 46 = .ok (.istore 6, 2) := by decide +kernel
theorem dX3_sowHand_48 : decode cX3_sowHand 48 = .ok (.iload 5, 2) := by decide +kernel
theorem dX3_sowHand_50 : decode cX3_sowHand 50 = .ok (.iload 4, 2) := by decide +kernel
theorem dX3_sowHand_52 : decode cX3_sowHand 52 = .ok (.if_icmp .le 59, 3) := by decide +kernel
theorem dX3_sowHand_55 : decode cX3_sowHand 55 = .ok (.iload 6, 2) := by decide +kernel
theorem dX3_sowHand_57 : decode cX3_sowHand 57 = .ok (.invokestatic 49, 3) := by decide +kernel
theorem dX3_sowHand_60 : decode cX3_sowHand 60 = .ok (.aload_n 0, 1) := by decide +kernel
theorem dX3_sowHand_61 : decode cX3_sowHand 61 = .ok (.getfield 27, 3) := by decide +kernel
theorem dX3_sowHand_64 : decode cX3_sowHand 64 = .ok (.if_icmp .eq 47, 3) := by decide +kernel
theorem dX3_sowHand_67 : decode cX3_sowHand 67 = .ok (.aload_n 0, 1) := by decide +kernel
theorem dX3_sowHand_68 : decode cX3_sowHand 68 = .ok (.iload 6, 2) := by decide +kernel
theorem dX3_sowHand_70 : decode cX3_sowHand 70 = .ok (.aload_n 2, 1) := by decide +kernel
theorem dX3_sowHand_71 : decode cX3_sowHand 71 = .ok (.invokevirtual 45, 3) := by decide +kernel
theorem dX3_sowHand_74 : decode cX3_sowHand 74 = .ok (.ifCond .eq 37, 3) := by decide +kernel
theorem dX3_sowHand_77 : decode cX3_sowHand 77 = .ok (.iload 5, 2) := by decide +kernel
theorem dX3_sowHand_79 : decode cX3_sowHand 79 = .ok (.iload 4, 2) := by decide +kernel
theorem dX3_sowHand_81 : decode cX3_sowHand 81 = .ok (.isub, 1) := by decide +kernel
theorem dX3_sowHand_82 : decode cX3_sowHand 82 = .ok (.istore 5, 2) := by decide +kernel
theorem dX3_sowHand_84 : decode cX3_sowHand 84 = .ok (.aload_n 0, 1) := by decide +kernel
theorem dX3_sowHand_85 : decode cX3_sowHand 85 = .ok (.getfield 18, 3) := by decide +kernel
theorem dX3_sowHand_88 : decode cX3_sowHand 88 = .ok (.iconst 1, 1) := by decide +kernel
theorem dX3_sowHand_89 : decode cX3_sowHand 89 = .ok (.aload_n 0, 1) := by decide +kernel
theorem dX3_sowHand_90 : decode cX3_sowHand 90 = .ok (.getfield 27, 3) := by decide +kernel
theorem dX3_sowHand_93 : decode cX3_sowHand 93 = .ok (.isub, 1) := by decide +kernel
theorem dX3_sowHand_94 : decode cX3_sowHand 94 = .ok (.dup2, 1) := by decide +kernel
theorem dX3_sowHand_95 : decode cX3_sowHand 95 = .ok (.iaload, 1) := by decide +kernel
theorem dX3_sowHand_96 : decode cX3_sowHand 96 = .ok (.iload 4, 2) := by decide +kernel
theorem dX3_sowHand_98 : decode cX3_sowHand 98 = .ok (.iadd, 1) := by decide +kernel
theorem dX3_sowHand_99 : decode cX3_sowHand 99 = .ok (.iastore, 1) := by decide +kernel
theorem dX3_sowHand_100 : decode cX3_sowHand 100 = .ok (.aload_n 3, 1) := by decide +kernel
theorem dX3_sowHand_101 : decode cX3_sowHand 101 = .ok (.dup, 1) := by decide +kernel
theorem dX3_sowHand_102 : decode cX3_sowHand 102 = .ok (.getfield 82, 3) := by decide +kernel
theorem dX3_sowHand_105 : decode cX3_sowHand 105 = .ok (.iload 4, 2) := by decide +kernel
theorem dX3_sowHand_107 : decode cX3_sowHand 107 = .ok (.iadd, 1) := by decide +kernel
theorem dX3_sowHand_108 : decode cX3_sowHand 108 = .ok (.putfield 82, 3) := by decide +kernel
theorem dX3_sowHand_111 : decode cX3_sowHand 111 = .ok (.aload_n 0, 1) := by decide +kernel
theorem dX3_sowHand_112 : decode cX3_sowHand 112 = .ok (.getfield 9, 3) := by decide +kernel
theorem dX3_sowHand_115 : decode cX3_sowHand 115 = .ok (.iload 6, 2) := by decide +kernel
theorem dX3_sowHand_117 : decode cX3_sowHand 117 = .ok (.dup2, 1) := by decide +kernel
theorem dX3_sowHand_118 : decode cX3_sowHand 118 = .ok (.iaload, 1) := by decide +kernel
theorem dX3_sowHand_119 : decode cX3_sowHand 119 = .ok (.iconst 1, 1) := by decide +kernel
theorem dX3_sowHand_120 : decode cX3_sowHand 120 = .ok (.iadd, 1) := by decide +kernel
theorem dX3_sowHand_121 : decode cX3_sowHand 121 = .ok (.iastore, 1) := by decide +kernel
theorem dX3_sowHand_122 : decode cX3_sowHand 122 = .ok (.iinc 5 (-1), 3) := by decide +kernel
theorem dX3_sowHand_125 : decode cX3_sowHand 125 = .ok (.goto (-102), 3) := by decide +kernel
theorem dX3_sowHand_128 : decode cX3_sowHand 128 = .ok (.iload 6, 2) := by decide +kernel
theorem dX3_sowHand_130 : decode cX3_sowHand 130 = .ok (.ireturn, 1) := by decide +kernel
theorem dX3_captureAcross_0 : decode cX3_captureAcross 0 = .ok (.bipush 11, 2) := by decide +kernel
theorem dX3_captureAcross_2 : decode cX3_captureAcross 2 = .ok (.iload_n 1, 1) := by decide +kernel
theorem dX3_captureAcross_3 : decode cX3_captureAcross 3 = .ok (.isub, 1) := by decide +kernel
theorem dX3_captureAcross_4 : decode cX3_captureAcross 4 = .ok (.istore_n 3, 1) := by decide +kernel
theorem dX3_captureAcross_5 : decode cX3_captureAcross 5 = .ok (.aload_n 0, 1) := by decide +kernel
theorem dX3_captureAcross_6 : decode cX3_captureAcross 6 = .ok (.getfield 9, 3) := by decide +kernel
theorem dX3_captureAcross_9 : decode cX3_captureAcross 9 = .ok (.iload_n 3, 1) := by decide +kernel
theorem dX3_captureAcross_10 : decode cX3_captureAcross 10 = .ok (.iaload, 1) := by decide +kernel
theorem dX3_captureAcross_11 : decode cX3_captureAcross 11 = .ok (.ifCond .ne 4, 3) := by decide +kernel
theorem dX3_captureAcross_14 : decode cX3_captureAcross 14 = .ok (.return_, 1) := by decide +kernel
theorem dX3_captureAcross_15 : decode cX3_captureAcross 15 = .ok (.aload_n 0, 1) := by decide +kernel
theorem dX3_captureAcross_16 : decode cX3_captureAcross 16 = .ok (.getfield 9, 3) := by decide +kernel
theorem dX3_captureAcross_19 : decode cX3_captureAcross 19 = .ok (.iload_n 1, 1) := by decide +kernel
theorem dX3_captureAcross_20 : decode cX3_captureAcross 20 = .ok (.iaload, 1) := by decide +kernel
theorem dX3_captureAcross_21 : decode cX3_captureAcross 21 = .ok (.aload_n 0, 1) := by decide +kernel
theorem dX3_captureAcross_22 : decode cX3_captureAcross 22 = .ok (.getfield 9, 3) := by decide +kernel
theorem dX3_captureAcross_25 : decode cX3_captureAcross 25 = .ok (.iload_n 3, 1) := by decide +kernel
theorem dX3_captureAcross_26 : decode cX3_captureAcross 26 = .ok (.iaload, 1) := by decide +kernel
theorem dX3_captureAcross_27 : decode cX3_captureAcross 27 = .ok (.iadd, 1) := by decide +kernel
theorem dX3_captureAcross_28 : decode cX3_captureAcross 28 = .ok (.istore 4, 2) := by decide +kernel
theorem dX3_captureAcross_30 : decode cX3_captureAcross 30 = .ok (.aload_n 0, 1) := by decide +kernel
theorem dX3_captureAcross_31 : decode cX3_captureAcross 31 = .ok (.getfield 9, 3) := by decide +kernel
theorem dX3_captureAcross_34 : decode cX3_captureAcross 34 = .ok (.iload_n 1, 1) := by decide +kernel
theorem dX3_captureAcross_35 : decode cX3_captureAcross 35 = .ok (.iconst 0, 1) := by decide +kernel
theorem dX3_captureAcross_36 : decode cX3_captureAcross 36 = .ok (.iastore, 1) := by decide +kernel
theorem dX3_captureAcross_37 : decode cX3_captureAcross 37 = .ok (.aload_n 0, 1) := by decide +kernel
theorem dX3_captureAcross_38 : decode cX3_captureAcross 38 = .ok (.getfield 9, 3) := by decide +kernel
theorem dX3_captureAcross_41 : decode cX3_captureAcross 41 = .ok (.iload_n 3, 1) := by decide +kernel
theorem dX3_captureAcross_42 : decode cX3_captureAcross 42 = .ok (.iconst 0, 1) := by decide +kernel
theorem dX3_captureAcross_43 : decode cX3_captureAcross 43 = .ok (.iastore, 1) := by decide +kernel
theorem dX3_captureAcross_44 : decode cX3_captureAcross 44 = .ok (.aload_n 0, 1) := by decide +kernel
theorem dX3_captureAcross_45 : decode cX3_captureAcross 45 = .ok (.getfield 15, 3) := by decide +kernel
theorem dX3_captureAcross_48 : decode cX3_captureAcross 48 = .ok (.iload_n 3, 1) := by decide +kernel
theorem dX3_captureAcross_49 : decode cX3_captureAcross 49 = .ok (.iconst 0, 1) := by decide +kernel
theorem dX3_captureAcross_50 : decode cX3_captureAcross 50 = .ok (.iastore, 1) := by decide +kernel
theorem dX3_captureAcross_51 : decode cX3_captureAcross 51 = .ok (.aload_n 0, 1) := by decide +kernel
theorem dX3_captureAcross_52 : decode cX3_captureAcross 52 = .ok (.getfield 18, 3) := by decide +kernel
theorem dX3_captureAcross_55 : decode cX3_captureAcross 55 = .ok (.aload_n 0, 1) := by decide +kernel
theorem dX3_captureAcross_56 : decode cX3_captureAcross 56 = .ok (.getfield 27, 3) := by decide +kernel
theorem dX3_captureAcross_59 : decode cX3_captureAcross 59 = .ok (.dup2, 1) := by decide +kernel
theorem dX3_captureAcross_60 : decode cX3_captureAcross 60 = .ok (.iaload, 1) := by decide +kernel
theorem dX3_captureAcross_61 : decode cX3_captureAcross 61 = .ok (.iload 4, 2) := by decide +kernel
theorem dX3_captureAcross_63 : decode cX3_captureAcross 63 = .ok (.iadd, 1) := by decide +kernel
theorem dX3_captureAcross_64 : decode cX3_captureAcross 64 = .ok (.iastore, 1) := by decide +kernel
theorem dX3_captureAcross_65 : decode cX3_captureAcross 65 = .ok (.aload_n 2, 1) := by decide +kernel
theorem dX3_captureAcross_66 : decode cX3_captureAcross 66 = .ok (.dup, 1) := by decide +kernel
theorem dX3_captureAcross_67 : decode cX3_captureAcross 67 = .ok (.getfield 85, 3) := by decide +kernel
theorem dX3_captureAcross_70 : decode cX3_captureAcross 70 = .ok (.iload 4, 2) := by decide +kernel
theorem dX3_captureAcross_72 : decode cX3_captureAcross 72 = .ok (.iadd, 1) := by decide +kernel
theorem dX3_captureAcross_73 : decode cX3_captureAcross 73 = .ok (.putfield 85, 3) := by decide +kernel
theorem dX3_captureAcross_76 : decode cX3_captureAcross 76 = .ok (.return_, 1) := by decide +kernel
theorem dX3_giveTurnTo_0 : decode cX3_giveTurnTo 0 = .ok (.aload_n 0, 1) := by decide +kernel
theorem dX3_giveTurnTo_1 : decode cX3_giveTurnTo 1 = .ok (.iload_n 1, 1) := by decide +kernel
theorem dX3_giveTurnTo_2 : decode cX3_giveTurnTo 2 = .ok (.putfield 27, 3) := by decide +kernel
theorem dX3_giveTurnTo_5 : decode cX3_giveTurnTo 5 = .ok (.aload_n 0, 1) := by decide +kernel
theorem dX3_giveTurnTo_6 : decode cX3_giveTurnTo 6 = .ok (.invokevirtual 88, 3) := by decide +kernel
theorem dX3_giveTurnTo_9 : decode cX3_giveTurnTo 9 = .ok (.ifCond .eq 60, 3) := by decide +kernel
theorem dX3_giveTurnTo_12 : decode cX3_giveTurnTo 12 = .ok (.aload_n 0, 1) := by decide +kernel
theorem dX3_giveTurnTo_13 : decode cX3_giveTurnTo 13 = .ok (.getfield 18, 3) := by decide +kernel
theorem dX3_giveTurnTo_16 : decode cX3_giveTurnTo 16 = .ok (.iconst 0, 1) := by decide +kernel
theorem dX3_giveTurnTo_17 : decode cX3_giveTurnTo 17 = .ok (.dup2, 1) := by decide +kernel
theorem dX3_giveTurnTo_18 : decode cX3_giveTurnTo 18 = .ok (.iaload, 1) := by decide +kernel
theorem dX3_giveTurnTo_19 : decode cX3_giveTurnTo 19 = .ok (.aload_n 0, 1) := by decide +kernel
theorem dX3_giveTurnTo_20 : decode cX3_giveTurnTo 20 = .ok (.iconst 0, 1) := by decide +kernel
theorem dX3_giveTurnTo_21 : decode cX3_giveTurnTo 21 = .ok (.invokevirtual 53, 3) := by decide +kernel
theorem dX3_giveTurnTo_24 : decode cX3_giveTurnTo 24 = .ok (.iadd, 1) := by decide +kernel
theorem dX3_giveTurnTo_25 : decode cX3_giveTurnTo 25 = .ok (.iastore, 1) := by decide +kernel
theorem dX3_giveTurnTo_26 : decode cX3_giveTurnTo 26 = .ok (.aload_n 0, 1) := by decide +kernel
theorem dX3_giveTurnTo_27 : decode cX3_giveTurnTo 27 = .ok (.getfield 18, 3) := by decide +kernel
theorem dX3_giveTurnTo_30 : decode cX3_giveTurnTo 30 = .ok (.iconst 1, 1) := by decide +kernel
theorem dX3_giveTurnTo_31 : decode cX3_giveTurnTo 31 = .ok (.dup2, 1) := by decide +kernel
theorem dX3_giveTurnTo_32 : decode cX3_giveTurnTo 32 = .ok (.iaload, 1) := by decide +kernel
theorem dX3_giveTurnTo_33 : decode cX3_giveTurnTo 33 = .ok (.aload_n 0, 1) := by decide +kernel
theorem dX3_giveTurnTo_34 : decode cX3_giveTurnTo 34 = .ok (.iconst 1, 1) := by decide +kernel
theorem dX3_giveTurnTo_35 : decode cX3_giveTurnTo 35 = .ok (.invokevirtual 53, 3) := by decide +kernel
theorem dX3_giveTurnTo_38 : decode cX3_giveTurnTo 38 = .ok (.iadd, 1) := by decide +kernel
theorem dX3_giveTurnTo_39 : decode cX3_giveTurnTo 39 = .ok (.iastore, 1) := by decide +kernel
theorem dX3_giveTurnTo_40 : decode cX3_giveTurnTo 40 = .ok (.iconst 0, 1) := by decide +kernel
theorem dX3_giveTurnTo_41 : decode cX3_giveTurnTo 41 = .ok (.istore_n 2, 1) := by decide +kernel
theorem dX3_giveTurnTo_42 : decode cX3_giveTurnTo 42 = .ok (.iload_n 2, 1) := by decide +kernel
theorem dX3_giveTurnTo_43 : decode cX3_giveTurnTo 43 = .ok (.bipush 12, 2) := by decide +kernel
theorem dX3_giveTurnTo_45 : decode cX3_giveTurnTo 45 = .ok (.if_icmp .ge 16, 3) := by decide +kernel
theorem dX3_giveTurnTo_48 : decode cX3_giveTurnTo 48 = .ok (.aload_n 0, 1) := by decide +kernel
theorem dX3_giveTurnTo_49 : decode cX3_giveTurnTo 49 = .ok (.getfield 9, 3) := by decide +kernel
theorem dX3_giveTurnTo_52 : decode cX3_giveTurnTo 52 = .ok (.iload_n 2, 1) := by decide +kernel
theorem dX3_giveTurnTo_53 : decode cX3_giveTurnTo 53 = .ok (.iconst 0, 1) := by decide +kernel
theorem dX3_giveTurnTo_54 : decode cX3_giveTurnTo 54 = .ok (.iastore, 1) := by decide +kernel
theorem dX3_giveTurnTo_55 : decode cX3_giveTurnTo 55 = .ok (.iinc 2 1, 3) := by decide +kernel
theorem dX3_giveTurnTo_58 : decode cX3_giveTurnTo 58 = .ok (.goto (-16), 3) := by decide +kernel
theorem dX3_giveTurnTo_61 : decode cX3_giveTurnTo 61 = .ok (.aload_n 0, 1) := by decide +kernel
theorem dX3_giveTurnTo_62 : decode cX3_giveTurnTo 62 = .ok (.iconst 1, 1) := by decide +kernel
theorem dX3_giveTurnTo_63 : decode cX3_giveTurnTo 63 = .ok (.putfield 31, 3) := by decide +kernel
theorem dX3_giveTurnTo_66 : decode cX3_giveTurnTo 66 = .ok (.goto 18, 3) := by decide +kernel
theorem dX3_giveTurnTo_69 : decode cX3_giveTurnTo 69 = .ok (.aload_n 0, 1) := by decide +kernel
theorem dX3_giveTurnTo_70 : decode cX3_giveTurnTo 70 = .ok (.iload_n 1, 1) := by decide +kernel
theorem dX3_giveTurnTo_71 : decode cX3_giveTurnTo 71 = .ok (.invokevirtual 53, 3) := by decide +kernel
theorem dX3_giveTurnTo_74 : decode cX3_giveTurnTo 74 = .ok (.ifCond .ne 10, 3) := by decide +kernel
theorem dX3_giveTurnTo_77 : decode cX3_giveTurnTo 77 = .ok (.aload_n 0, 1) := by decide +kernel
theorem dX3_giveTurnTo_78 : decode cX3_giveTurnTo 78 = .ok (.iconst 1, 1) := by decide +kernel
theorem dX3_giveTurnTo_79 : decode cX3_giveTurnTo 79 = .ok (.iload_n 1, 1) := by decide +kernel
theorem dX3_giveTurnTo_80 : decode cX3_giveTurnTo 80 = .ok (.isub, 1) := by decide +kernel
theorem dX3_giveTurnTo_81 : decode cX3_giveTurnTo 81 = .ok (.putfield 27, 3) := by decide +kernel
theorem dX3_giveTurnTo_84 : decode cX3_giveTurnTo 84 = .ok (.return_, 1) := by decide +kernel
theorem dX3_isDecided_0 : decode cX3_isDecided 0 = .ok (.aload_n 0, 1) := by decide +kernel
theorem dX3_isDecided_1 : decode cX3_isDecided 1 = .ok (.iconst 0, 1) := by decide +kernel
theorem dX3_isDecided_2 : decode cX3_isDecided 2 = .ok (.invokevirtual 53, 3) := by decide +kernel
theorem dX3_isDecided_5 : decode cX3_isDecided 5 = .ok (.aload_n 0, 1) := by decide +kernel
theorem dX3_isDecided_6 : decode cX3_isDecided 6 = .ok (.iconst 1, 1) := by decide +kernel
theorem dX3_isDecided_7 : decode cX3_isDecided 7 = .ok (.invokevirtual 53, 3) := by decide +kernel
theorem dX3_isDecided_10 : decode cX3_isDecided 10 = .ok (.iadd, 1) := by decide +kernel
theorem dX3_isDecided_11 : decode cX3_isDecided 11 = .ok (.istore_n 1, 1) := by decide +kernel
theorem dX3_isDecided_12 : decode cX3_isDecided 12 = .ok (.iload_n 1, 1) := by decide +kernel
theorem dX3_isDecided_13 : decode cX3_isDecided 13 = .ok (.aload_n 0, 1) := by decide +kernel
theorem dX3_isDecided_14 : decode cX3_isDecided 14 = .ok (.getfield 18, 3) := by decide +kernel
theorem dX3_isDecided_17 : decode cX3_isDecided 17 = .ok (.iconst 0, 1) := by decide +kernel
theorem dX3_isDecided_18 : decode cX3_isDecided 18 = .ok (.iaload, 1) := by decide +kernel
theorem dX3_isDecided_19 : decode cX3_isDecided 19 = .ok (.iadd, 1) := by decide +kernel
theorem dX3_isDecided_20 : decode cX3_isDecided 20 = .ok (.aload_n 0, 1) := by decide +kernel
theorem dX3_isDecided_21 : decode cX3_isDecided 21 = .ok (.getfield 18, 3) := by decide +kernel
theorem dX3_isDecided_24 : decode cX3_isDecided 24 = .ok (.iconst 1, 1) := by decide +kernel
theorem dX3_isDecided_25 : decode cX3_isDecided 25 = .ok (.iaload, 1) := by decide +kernel
theorem dX3_isDecided_26 : decode cX3_isDecided 26 = .ok (.iadd, 1) := by decide +kernel
theorem dX3_isDecided_27 : decode cX3_isDecided 27 = .ok (.istore_n 2, 1) := by decide +kernel
theorem dX3_isDecided_28 : decode cX3_isDecided 28 = .ok (.iload_n 1, 1) := by decide +kernel
theorem dX3_isDecided_29 : decode cX3_isDecided 29 = .ok (.ifCond .eq 37, 3) := by decide +kernel
theorem dX3_isDecided_32 : decode cX3_isDecided 32 = .ok (.aload_n 0, 1) := by decide +kernel
theorem dX3_isDecided_33 : decode cX3_isDecided 33 = .ok (.getfield 35, 3) := by decide +kernel
theorem dX3_isDecided_36 : decode cX3_isDecided 36 = .ok (.sipush 300, 3) := by decide +kernel
theorem dX3_isDecided_39 : decode cX3_isDecided 39 = .ok (.if_icmp .ge 27, 3) := by decide +kernel
theorem dX3_isDecided_42 : decode cX3_isDecided 42 = .ok (.iconst 2, 1) := by decide +kernel
theorem dX3_isDecided_43 : decode cX3_isDecided 43 = .ok (.aload_n 0, 1) := by decide +kernel
theorem dX3_isDecided_44 : decode cX3_isDecided 44 = .ok (.getfield 18, 3) := by decide +kernel
theorem dX3_isDecided_47 : decode cX3_isDecided 47 = .ok (.iconst 0, 1) := by decide +kernel
theorem dX3_isDecided_48 : decode cX3_isDecided 48 = .ok (.iaload, 1) := by decide +kernel
theorem dX3_isDecided_49 : decode cX3_isDecided 49 = .ok (.imul, 1) := by decide +kernel
theorem dX3_isDecided_50 : decode cX3_isDecided 50 = .ok (.iload_n 2, 1) := by decide +kernel
theorem dX3_isDecided_51 : decode cX3_isDecided 51 = .ok (.if_icmp .gt 15, 3) := by decide +kernel
theorem dX3_isDecided_54 : decode cX3_isDecided 54 = .ok (.iconst 2, 1) := by decide +kernel
theorem dX3_isDecided_55 : decode cX3_isDecided 55 = .ok (.aload_n 0, 1) := by decide +kernel
theorem dX3_isDecided_56 : decode cX3_isDecided 56 = .ok (.getfield 18, 3) := by decide +kernel
theorem dX3_isDecided_59 : decode cX3_isDecided 59 = .ok (.iconst 1, 1) := by decide +kernel
theorem dX3_isDecided_60 : decode cX3_isDecided 60 = .ok (.iaload, 1) := by decide +kernel
theorem dX3_isDecided_61 : decode cX3_isDecided 61 = .ok (.imul, 1) := by decide +kernel
theorem dX3_isDecided_62 : decode cX3_isDecided 62 = .ok (.iload_n 2, 1) := by decide +kernel
theorem dX3_isDecided_63 : decode cX3_isDecided 63 = .ok (.if_icmp .le 7, 3) := by decide +kernel
theorem dX3_isDecided_66 : decode cX3_isDecided 66 = .ok (.iconst 1, 1) := by decide +kernel
theorem dX3_isDecided_67 : decode cX3_isDecided 67 = .ok (.goto 4, 3) := by decide +kernel
theorem dX3_isDecided_70 : decode cX3_isDecided 70 = .ok (.iconst 0, 1) := by decide +kernel
theorem dX3_isDecided_71 : decode cX3_isDecided 71 = .ok (.ireturn, 1) := by decide +kernel
theorem dX4_init_0 : decode cX4_init 0 = .ok (.aload_n 0, 1) := by decide +kernel
theorem dX4_init_1 : decode cX4_init 1 = .ok (.invokespecial 1, 3) := by decide +kernel
theorem dX4_init_4 : decode cX4_init 4 = .ok (.return_, 1) := by decide +kernel
theorem dX4_clear_0 : decode cX4_clear 0 = .ok (.aload_n 0, 1) := by decide +kernel
theorem dX4_clear_1 : decode cX4_clear 1 = .ok (.iload_n 1, 1) := by decide +kernel
theorem dX4_clear_2 : decode cX4_clear 2 = .ok (.putfield 7, 3) := by decide +kernel
theorem dX4_clear_5 : decode cX4_clear 5 = .ok (.aload_n 0, 1) := by decide +kernel
theorem dX4_clear_6 : decode cX4_clear 6 = .ok (.iconst 0, 1) := by decide +kernel
theorem dX4_clear_7 : decode cX4_clear 7 = .ok (.putfield 13, 3) := by decide +kernel
theorem dX4_clear_10 : decode cX4_clear 10 = .ok (.aload_n 0, 1) := by decide +kernel
theorem dX4_clear_11 : decode cX4_clear 11 = .ok (.iload_n 1, 1) := by decide +kernel
theorem dX4_clear_12 : decode cX4_clear 12 = .ok (.putfield 16, 3) := by decide +kernel
theorem dX4_clear_15 : decode cX4_clear 15 = .ok (.aload_n 0, 1) := by decide +kernel
theorem dX4_clear_16 : decode cX4_clear 16 = .ok (.iconst 0, 1) := by decide +kernel
theorem dX4_clear_17 : decode cX4_clear 17 = .ok (.putfield 19, 3) := by decide +kernel
theorem dX4_clear_20 : decode cX4_clear 20 = .ok (.aload_n 0, 1) := by decide +kernel
theorem dX4_clear_21 : decode cX4_clear 21 = .ok (.iconst 0, 1) := by decide +kernel
theorem dX4_clear_22 : decode cX4_clear 22 = .ok (.putfield 22, 3) := by decide +kernel
theorem dX4_clear_25 : decode cX4_clear 25 = .ok (.return_, 1) := by decide +kernel
theorem dX4_copyFrom_0 : decode cX4_copyFrom 0 = .ok (.aload_n 0, 1) := by decide +kernel
theorem dX4_copyFrom_1 : decode cX4_copyFrom 1 = .ok (.aload_n 1, 1) := by decide +kernel
theorem dX4_copyFrom_2 : decode cX4_copyFrom 2 = .ok (.getfield 7, 3) := by decide +kernel
theorem dX4_copyFrom_5 : decode cX4_copyFrom 5 = .ok (.putfield 7, 3) := by decide +kernel
theorem dX4_copyFrom_8 : decode cX4_copyFrom 8 = .ok (.aload_n 0, 1) := by decide +kernel
theorem dX4_copyFrom_9 : decode cX4_copyFrom 9 = .ok (.aload_n 1, 1) := by decide +kernel
theorem dX4_copyFrom_10 : decode cX4_copyFrom 10 = .ok (.getfield 13, 3) := by decide +kernel
theorem dX4_copyFrom_13 : decode cX4_copyFrom 13 = .ok (.putfield 13, 3) := by decide +kernel
theorem dX4_copyFrom_16 : decode cX4_copyFrom 16 = .ok (.aload_n 0, 1) := by decide +kernel
theorem dX4_copyFrom_17 : decode cX4_copyFrom 17 = .ok (.aload_n 1, 1) := by decide +kernel
theorem dX4_copyFrom_18 : decode cX4_copyFrom 18 = .ok (.getfield 16, 3) := by decide +kernel
theorem dX4_copyFrom_21 : decode cX4_copyFrom 21 = .ok (.putfield 16, 3) := by decide +kernel
theorem dX4_copyFrom_24 : decode cX4_copyFrom 24 = .ok (.aload_n 0, 1) := by decide +kernel
theorem dX4_copyFrom_25 : decode cX4_copyFrom 25 = .ok (.aload_n 1, 1) := by decide +kernel
theorem dX4_copyFrom_26 : decode cX4_copyFrom 26 = .ok (.getfield 19, 3) := by decide +kernel
theorem dX4_copyFrom_29 : decode cX4_copyFrom 29 = .ok (.putfield 19, 3) := by decide +kernel
theorem dX4_copyFrom_32 : decode cX4_copyFrom 32 = .ok (.aload_n 0, 1) := by decide +kernel
theorem dX4_copyFrom_33 : decode cX4_copyFrom 33 = .ok (.aload_n 1, 1) := by decide +kernel
theorem dX4_copyFrom_34 : decode cX4_copyFrom 34 = .ok (.getfield 22, 3) := by decide +kernel
theorem dX4_copyFrom_37 : decode cX4_copyFrom 37 = .ok (.putfield 22, 3) := by decide +kernel
theorem dX4_copyFrom_40 : decode cX4_copyFrom 40 = .ok (.return_, 1) := by decide +kernel
theorem dX5_init_0 : decode cX5_init 0 = .ok (.aload_n 0, 1) := by decide +kernel
theorem dX5_init_1 : decode cX5_init 1 = .ok (.invokespecial 3, 3) := by decide +kernel
theorem dX5_init_4 : decode cX5_init 4 = .ok (.aload_n 0, 1) := by decide +kernel
theorem dX5_init_5 : decode cX5_init 5 = .ok (.new 9, 3) := by decide +kernel
theorem dX5_init_8 : decode cX5_init 8 = .ok (.dup, 1) := by decide +kernel
theorem dX5_init_9 : decode cX5_init 9 = .ok (.invokespecial 11, 3) := by decide +kernel
theorem dX5_init_12 : decode cX5_init 12 = .ok (.putfield 12, 3) := by decide +kernel
theorem dX5_init_15 : decode cX5_init 15 = .ok (.aload_n 0, 1) := by decide +kernel
theorem dX5_init_16 : decode cX5_init 16 = .ok (.getstatic 18, 3) := by decide +kernel
theorem dX5_init_19 : decode cX5_init 19 = .ok (.invokevirtual 22, 3) := by decide +kernel
theorem dX5_init_22 : decode cX5_init 22 = .ok (.checkcast 23, 3) := by decide +kernel
theorem dX5_init_25 : decode cX5_init 25 = .ok (.putfield 27, 3) := by decide +kernel
theorem dX5_init_28 : decode cX5_init 28 = .ok (.aload_n 0, 1) := by decide +kernel
theorem dX5_init_29 : decode cX5_init 29 = .ok (.new 30, 3) := by decide +kernel
theorem dX5_init_32 : decode cX5_init 32 = .ok (.dup, 1) := by decide +kernel
theorem dX5_init_33 : decode cX5_init 33 = .ok (.invokespecial 32, 3) := by decide +kernel
theorem dX5_init_36 : decode cX5_init 36 = .ok (.putfield 33, 3) := by decide +kernel
theorem dX5_init_39 : decode cX5_init 39 = .ok (.aload_n 0, 1) := by decide +kernel
theorem dX5_init_40 : decode cX5_init 40 = .ok (.sipush 300, 3) := by decide +kernel
theorem dX5_init_43 : decode cX5_init 43 = .ok (.newarray .int, 2) := by decide +kernel
theorem dX5_init_45 : decode cX5_init 45 = .ok (.putfield 37, 3) := by decide +kernel
theorem dX5_init_48 : decode cX5_init 48 = .ok (.return_, 1) := by decide +kernel
theorem dX5_copyFrom_0 : decode cX5_copyFrom 0 = .ok (.aload_n 0, 1) := by decide +kernel
theorem dX5_copyFrom_1 : decode cX5_copyFrom 1 = .ok (.getfield 12, 3) := by decide +kernel
theorem dX5_copyFrom_4 : decode cX5_copyFrom 4 = .ok (.aload_n 1, 1) := by decide +kernel
theorem dX5_copyFrom_5 : decode cX5_copyFrom 5 = .ok (.getfield 12, 3) := by decide +kernel
theorem dX5_copyFrom_8 : decode cX5_copyFrom 8 = .ok (.invokevirtual 40, 3) := by decide +kernel
theorem dX5_copyFrom_11 : decode cX5_copyFrom 11 = .ok (.aload_n 1, 1) := by decide +kernel
theorem dX5_copyFrom_12 : decode cX5_copyFrom 12 = .ok (.getfield 27, 3) := by decide +kernel
theorem dX5_copyFrom_15 : decode cX5_copyFrom 15 = .ok (.iconst 0, 1) := by decide +kernel
theorem dX5_copyFrom_16 : decode cX5_copyFrom 16 = .ok (.aload_n 0, 1) := by decide +kernel
theorem dX5_copyFrom_17 : decode cX5_copyFrom 17 = .ok (.getfield 27, 3) := by decide +kernel
theorem dX5_copyFrom_20 : decode cX5_copyFrom 20 = .ok (.iconst 0, 1) := by decide +kernel
theorem dX5_copyFrom_21 : decode cX5_copyFrom 21 = .ok (.iconst 4, 1) := by decide +kernel
theorem dX5_copyFrom_22 : decode cX5_copyFrom 22 = .ok (.invokestatic 44, 3) := by decide +kernel
theorem dX5_copyFrom_25 : decode cX5_copyFrom 25 = .ok (.aload_n 0, 1) := by decide +kernel
theorem dX5_copyFrom_26 : decode cX5_copyFrom 26 = .ok (.getfield 33, 3) := by decide +kernel
theorem dX5_copyFrom_29 : decode cX5_copyFrom 29 = .ok (.aload_n 1, 1) := by decide +kernel
theorem dX5_copyFrom_30 : decode cX5_copyFrom 30 = .ok (.getfield 33, 3) := by decide +kernel
theorem dX5_copyFrom_33 : decode cX5_copyFrom 33 = .ok (.invokevirtual 50, 3) := by decide +kernel
theorem dX5_copyFrom_36 : decode cX5_copyFrom 36 = .ok (.aload_n 1, 1) := by decide +kernel
theorem dX5_copyFrom_37 : decode cX5_copyFrom 37 = .ok (.getfield 37, 3) := by decide +kernel
theorem dX5_copyFrom_40 : decode cX5_copyFrom 40 = .ok (.iconst 0, 1) := by decide +kernel
theorem dX5_copyFrom_41 : decode cX5_copyFrom 41 = .ok (.aload_n 0, 1) := by decide +kernel
theorem dX5_copyFrom_42 : decode cX5_copyFrom 42 = .ok (.getfield 37, 3) := by decide +kernel
theorem dX5_copyFrom_45 : decode cX5_copyFrom 45 = .ok (.iconst 0, 1) := by decide +kernel
theorem dX5_copyFrom_46 : decode cX5_copyFrom 46 = .ok (.sipush 300, 3) := by decide +kernel
theorem dX5_copyFrom_49 : decode cX5_copyFrom 49 = .ok (.invokestatic 44, 3) := by decide +kernel
theorem dX5_copyFrom_52 : decode cX5_copyFrom 52 = .ok (.return_, 1) := by decide +kernel
theorem dX5_makeMove_0 : decode cX5_makeMove 0 = .ok (.aload_n 0, 1) := by decide +kernel
theorem dX5_makeMove_1 : decode cX5_makeMove 1 = .ok (.getfield 12, 3) := by decide +kernel
theorem dX5_makeMove_4 : decode cX5_makeMove 4 = .ok (.getfield 53, 3) := by decide +kernel
theorem dX5_makeMove_7 : decode cX5_makeMove 7 = .ok (.istore_n 2, 1) := by decide +kernel
theorem dX5_makeMove_8 : decode cX5_makeMove 8 = .ok (.iload_n 2, 1) := by decide +kernel
theorem dX5_makeMove_9 : decode cX5_makeMove 9 = .ok (.sipush 300, 3) := by decide +kernel
theorem dX5_makeMove_12 : decode cX5_makeMove 12 = .ok (.if_icmp .ge 10, 3) := by decide +kernel
theorem dX5_makeMove_15 : decode cX5_makeMove 15 = .ok (.aload_n 0, 1) := by decide +kernel
theorem dX5_makeMove_16 : decode cX5_makeMove 16 = .ok (.getfield 37, 3) := by decide +kernel
theorem dX5_makeMove_19 : decode cX5_makeMove 19 = .ok (.iload_n 2, 1) := by decide +kernel
theorem dX5_makeMove_20 : decode cX5_makeMove 20 = .ok (.iload_n 1, 1) := by decide +kernel
theorem dX5_makeMove_21 : decode cX5_makeMove 21 = .ok (.iastore, 1) := by decide +kernel
theorem dX5_makeMove_22 : decode cX5_makeMove 22 = .ok (.aload_n 0, 1) := by decide +kernel
theorem dX5_makeMove_23 : decode cX5_makeMove 23 = .ok (.getfield 12, 3) := by decide +kernel
theorem dX5_makeMove_26 : decode cX5_makeMove 26 = .ok (.iload_n 1, 1) := by decide +kernel
theorem dX5_makeMove_27 : decode cX5_makeMove 27 = .ok (.aload_n 0, 1) := by decide +kernel
theorem dX5_makeMove_28 : decode cX5_makeMove 28 = .ok (.getfield 27, 3) := by decide +kernel
theorem dX5_makeMove_31 : decode cX5_makeMove 31 = .ok (.aload_n 0, 1) := by decide +kernel
theorem dX5_makeMove_32 : decode cX5_makeMove 32 = .ok (.getfield 33, 3) := by decide +kernel
theorem dX5_makeMove_35 : decode cX5_makeMove 35 = .ok (.invokevirtual 57, 3) := by decide +kernel
theorem dX5_makeMove_38 : decode cX5_makeMove 38 = .ok (.return_, 1) := by decide +kernel
theorem dX6_init_0 : decode cX6_init 0 = .ok (.aload_n 0, 1) := by decide +kernel
theorem dX6_init_1 : decode cX6_init 1 = .ok (.invokespecial 3, 3) := by decide +kernel
theorem dX6_init_4 : decode cX6_init 4 = .ok (.aload_n 0, 1) := by decide +kernel
theorem dX6_init_5 : decode cX6_init 5 = .ok (.new 9, 3) := by decide +kernel
theorem dX6_init_8 : decode cX6_init 8 = .ok (.dup, 1) := by decide +kernel
theorem dX6_init_9 : decode cX6_init 9 = .ok (.invokespecial 11, 3) := by decide +kernel
theorem dX6_init_12 : decode cX6_init 12 = .ok (.putfield 12, 3) := by decide +kernel
theorem dX6_init_15 : decode cX6_init 15 = .ok (.aload_n 0, 1) := by decide +kernel
theorem dX6_init_16 : decode cX6_init 16 = .ok (.new 16, 3) := by decide +kernel
theorem dX6_init_19 : decode cX6_init 19 = .ok (.dup, 1) := by decide +kernel
theorem dX6_init_20 : decode cX6_init 20 = .ok (.invokespecial 18, 3) := by decide +kernel
theorem dX6_init_23 : decode cX6_init 23 = .ok (.putfield 19, 3) := by decide +kernel
theorem dX6_init_26 : decode cX6_init 26 = .ok (.aload_n 0, 1) := by decide +kernel
theorem dX6_init_27 : decode cX6_init 27 = .ok (.iconst 2, 1) := by decide +kernel
theorem dX6_init_28 : decode cX6_init 28 = .ok (.anewarray 9, 3) := by decide +kernel
theorem dX6_init_31 : decode cX6_init 31 = .ok (.putfield 23, 3) := by decide +kernel
theorem dX6_init_34 : decode cX6_init 34 = .ok (.aload_n 0, 1) := by decide +kernel
theorem dX6_init_35 : decode cX6_init 35 = .ok (.iconst 2, 1) := by decide +kernel
theorem dX6_init_36 : decode cX6_init 36 = .ok (.newarray .boolean, 2) := by decide +kernel
theorem dX6_init_38 : decode cX6_init 38 = .ok (.putfield 27, 3) := by decide +kernel
theorem dX6_init_41 : decode cX6_init 41 = .ok (.aload_n 0, 1) := by decide +kernel
theorem dX6_init_42 : decode cX6_init 42 = .ok (.new 31, 3) := by decide +kernel
theorem dX6_init_45 : decode cX6_init 45 = .ok (.dup, 1) := by decide +kernel
theorem dX6_init_46 : decode cX6_init 46 = .ok (.invokespecial 33, 3) := by decide +kernel
theorem dX6_init_49 : decode cX6_init 49 = .ok (.putfield 34, 3) := by decide +kernel
theorem dX6_init_52 : decode cX6_init 52 = .ok (.aload_n 0, 1) := by decide +kernel
theorem dX6_init_53 : decode cX6_init 53 = .ok (.new 38, 3) := by decide +kernel
theorem dX6_init_56 : decode cX6_init 56 = .ok (.dup, 1) := by decide +kernel
theorem dX6_init_57 : decode cX6_init 57 = .ok (.invokespecial 40, 3) := by decide +kernel
theorem dX6_init_60 : decode cX6_init 60 = .ok (.putfield 41, 3) := by decide +kernel
theorem dX6_init_63 : decode cX6_init 63 = .ok (.iconst 0, 1) := by decide +kernel
theorem dX6_init_64 : decode cX6_init 64 = .ok (.istore_n 1, 1) := by decide +kernel
theorem dX6_init_65 : decode cX6_init 65 = .ok (.iload_n 1, 1) := by decide +kernel
theorem dX6_init_66 : decode cX6_init 66 = .ok (.iconst 2, 1) := by decide +kernel
theorem dX6_init_67 : decode cX6_init 67 = .ok (.if_icmp .ge 22, 3) := by decide +kernel
theorem dX6_init_70 : decode cX6_init 70 = .ok (.aload_n 0, 1) := by decide +kernel
theorem dX6_init_71 : decode cX6_init 71 = .ok (.getfield 23, 3) := by decide +kernel
theorem dX6_init_74 : decode cX6_init 74 = .ok (.iload_n 1, 1) := by decide +kernel
theorem dX6_init_75 : decode cX6_init 75 = .ok (.new 9, 3) := by decide +kernel
theorem dX6_init_78 : decode cX6_init 78 = .ok (.dup, 1) := by decide +kernel
theorem dX6_init_79 : decode cX6_init 79 = .ok (.invokespecial 11, 3) := by decide +kernel
theorem dX6_init_82 : decode cX6_init 82 = .ok (.aastore, 1) := by decide +kernel
theorem dX6_init_83 : decode cX6_init 83 = .ok (.iinc 1 1, 3) := by decide +kernel
theorem dX6_init_86 : decode cX6_init 86 = .ok (.goto (-21), 3) := by decide +kernel
theorem dX6_init_89 : decode cX6_init 89 = .ok (.aload_n 0, 1) := by decide +kernel
theorem dX6_init_90 : decode cX6_init 90 = .ok (.getfield 12, 3) := by decide +kernel
theorem dX6_init_93 : decode cX6_init 93 = .ok (.getfield 45, 3) := by decide +kernel
theorem dX6_init_96 : decode cX6_init 96 = .ok (.aload_n 0, 1) := by decide +kernel
theorem dX6_init_97 : decode cX6_init 97 = .ok (.getfield 12, 3) := by decide +kernel
theorem dX6_init_100 : decode cX6_init 100 = .ok (.getfield 49, 3) := by decide +kernel
theorem dX6_init_103 : decode cX6_init 103 = .ok (.iconst 0, 1) := by decide +kernel
theorem dX6_init_104 : decode cX6_init 104 = .ok (.iaload, 1) := by decide +kernel
theorem dX6_init_105 : decode cX6_init 105 = .ok (.invokevirtual 53, 3) := by decide +kernel
theorem dX6_init_108 : decode cX6_init 108 = .ok (.return_, 1) := by decide +kernel
theorem dX6_set_0 : decode cX6_set 0 = .ok (.iload_n 1, 1) := by decide +kernel
theorem dX6_set_1 : decode cX6_set 1 = .ok (.ifCond .lt 26, 3) := by decide +kernel
theorem dX6_set_4 : decode cX6_set 4 = .ok (.iload_n 1, 1) := by decide +kernel
theorem dX6_set_5 : decode cX6_set 5 = .ok (.iconst 4, 1) := by decide +kernel
theorem dX6_set_6 : decode cX6_set 6 = .ok (.if_icmp .ge 21, 3) := by decide +kernel
theorem dX6_set_9 : decode cX6_set 9 = .ok (.iload_n 2, 1) := by decide +kernel
theorem dX6_set_10 : decode cX6_set 10 = .ok (.getstatic 59, 3) := by decide +kernel
theorem dX6_set_13 : decode cX6_set 13 = .ok (.iload_n 1, 1) := by decide +kernel
theorem dX6_set_14 : decode cX6_set 14 = .ok (.iaload, 1) := by decide +kernel
theorem dX6_set_15 : decode cX6_set 15 = .ok (.if_icmp .lt 12, 3) := by decide +kernel
theorem dX6_set_18 : decode cX6_set 18 = .ok (.iload_n 2, 1) := by decide +kernel
theorem dX6_set_19 : decode cX6_set 19 = .ok (.getstatic 62, 3) := by decide +kernel
theorem dX6_set_22 : decode cX6_set 22 = .ok (.iload_n 1, 1) := by decide +kernel
theorem dX6_set_23 : decode cX6_set 23 = .ok (.iaload, 1) := by decide +kernel
theorem dX6_set_24 : decode cX6_set 24 = .ok (.if_icmp .le 6, 3) := by decide +kernel
theorem dX6_set_27 : decode cX6_set 27 = .ok (.bipush (-2), 2) := by decide +kernel
theorem dX6_set_29 : decode cX6_set 29 = .ok (.ireturn, 1) := by decide +kernel
theorem dX6_set_30 : decode cX6_set 30 = .ok (.aload_n 0, 1) := by decide +kernel
theorem dX6_set_31 : decode cX6_set 31 = .ok (.getfield 19, 3) := by decide +kernel
theorem dX6_set_34 : decode cX6_set 34 = .ok (.aload_n 0, 1) := by decide +kernel
theorem dX6_set_35 : decode cX6_set 35 = .ok (.getfield 12, 3) := by decide +kernel
theorem dX6_set_38 : decode cX6_set 38 = .ok (.invokevirtual 65, 3) := by decide +kernel
theorem dX6_set_41 : decode cX6_set 41 = .ok (.aload_n 0, 1) := by decide +kernel
theorem dX6_set_42 : decode cX6_set 42 = .ok (.getfield 12, 3) := by decide +kernel
theorem dX6_set_45 : decode cX6_set 45 = .ok (.getfield 49, 3) := by decide +kernel
theorem dX6_set_48 : decode cX6_set 48 = .ok (.iload_n 1, 1) := by decide +kernel
theorem dX6_set_49 : decode cX6_set 49 = .ok (.iaload, 1) := by decide +kernel
theorem dX6_set_50 : decode cX6_set 50 = .ok (.istore_n 3, 1) := by decide +kernel
theorem dX6_set_51 : decode cX6_set 51 = .ok (.aload_n 0, 1) := by decide +kernel
theorem dX6_set_52 : decode cX6_set 52 = .ok (.getfield 12, 3) := by decide +kernel
theorem dX6_set_55 : decode cX6_set 55 = .ok (.getfield 49, 3) := by decide +kernel
theorem dX6_set_58 : decode cX6_set 58 = .ok (.iload_n 1, 1) := by decide +kernel
theorem dX6_set_59 : decode cX6_set 59 = .ok (.iload_n 2, 1) := by decide +kernel
theorem dX6_set_60 : decode cX6_set 60 = .ok (.iastore, 1) := by decide +kernel
theorem dX6_set_61 : decode cX6_set 61 = .ok (.iload_n 3, 1) := by decide +kernel
theorem dX6_set_62 : decode cX6_set 62 = .ok (.ireturn, 1) := by decide +kernel
theorem dX6_begin_0 : decode cX6_begin 0 = .ok (.aload_n 0, 1) := by decide +kernel
theorem dX6_begin_1 : decode cX6_begin 1 = .ok (.getfield 19, 3) := by decide +kernel
theorem dX6_begin_4 : decode cX6_begin 4 = .ok (.aload_n 0, 1) := by decide +kernel
theorem dX6_begin_5 : decode cX6_begin 5 = .ok (.getfield 12, 3) := by decide +kernel
theorem dX6_begin_8 : decode cX6_begin 8 = .ok (.invokevirtual 65, 3) := by decide +kernel
theorem dX6_begin_11 : decode cX6_begin 11 = .ok (.aload_n 0, 1) := by decide +kernel
theorem dX6_begin_12 : decode cX6_begin 12 = .ok (.getfield 12, 3) := by decide +kernel
theorem dX6_begin_15 : decode cX6_begin 15 = .ok (.getfield 45, 3) := by decide +kernel
theorem dX6_begin_18 : decode cX6_begin 18 = .ok (.getfield 69, 3) := by decide +kernel
theorem dX6_begin_21 : decode cX6_begin 21 = .ok (.istore_n 1, 1) := by decide +kernel
theorem dX6_begin_22 : decode cX6_begin 22 = .ok (.aload_n 0, 1) := by decide +kernel
theorem dX6_begin_23 : decode cX6_begin 23 = .ok (.getfield 12, 3) := by decide +kernel
theorem dX6_begin_26 : decode cX6_begin 26 = .ok (.getfield 45, 3) := by decide +kernel
theorem dX6_begin_29 : decode cX6_begin 29 = .ok (.aload_n 0, 1) := by decide +kernel
theorem dX6_begin_30 : decode cX6_begin 30 = .ok (.getfield 12, 3) := by decide +kernel
theorem dX6_begin_33 : decode cX6_begin 33 = .ok (.getfield 49, 3) := by decide +kernel
theorem dX6_begin_36 : decode cX6_begin 36 = .ok (.iconst 0, 1) := by decide +kernel
theorem dX6_begin_37 : decode cX6_begin 37 = .ok (.iaload, 1) := by decide +kernel
theorem dX6_begin_38 : decode cX6_begin 38 = .ok (.invokevirtual 53, 3) := by decide +kernel
theorem dX6_begin_41 : decode cX6_begin 41 = .ok (.iload_n 1, 1) := by decide +kernel
theorem dX6_begin_42 : decode cX6_begin 42 = .ok (.ireturn, 1) := by decide +kernel
theorem dX6_move_0 : decode cX6_move 0 = .ok (.aload_n 0, 1) := by decide +kernel
theorem dX6_move_1 : decode cX6_move 1 = .ok (.iload_n 1, 1) := by decide +kernel
theorem dX6_move_2 : decode cX6_move 2 = .ok (.invokevirtual 73, 3) := by decide +kernel
theorem dX6_move_5 : decode cX6_move 5 = .ok (.istore_n 2, 1) := by decide +kernel
theorem dX6_move_6 : decode cX6_move 6 = .ok (.iload_n 2, 1) := by decide +kernel
theorem dX6_move_7 : decode cX6_move 7 = .ok (.ifCond .eq 5, 3) := by decide +kernel
theorem dX6_move_10 : decode cX6_move 10 = .ok (.iload_n 2, 1) := by decide +kernel
theorem dX6_move_11 : decode cX6_move 11 = .ok (.ireturn, 1) := by decide +kernel
theorem dX6_move_12 : decode cX6_move 12 = .ok (.aload_n 0, 1) := by decide +kernel
theorem dX6_move_13 : decode cX6_move 13 = .ok (.getfield 19, 3) := by decide +kernel
theorem dX6_move_16 : decode cX6_move 16 = .ok (.aload_n 0, 1) := by decide +kernel
theorem dX6_move_17 : decode cX6_move 17 = .ok (.getfield 12, 3) := by decide +kernel
theorem dX6_move_20 : decode cX6_move 20 = .ok (.invokevirtual 65, 3) := by decide +kernel
theorem dX6_move_23 : decode cX6_move 23 = .ok (.aload_n 0, 1) := by decide +kernel
theorem dX6_move_24 : decode cX6_move 24 = .ok (.getfield 12, 3) := by decide +kernel
theorem dX6_move_27 : decode cX6_move 27 = .ok (.iload_n 1, 1) := by decide +kernel
theorem dX6_move_28 : decode cX6_move 28 = .ok (.invokevirtual 77, 3) := by decide +kernel
theorem dX6_move_31 : decode cX6_move 31 = .ok (.aload_n 0, 1) := by decide +kernel
theorem dX6_move_32 : decode cX6_move 32 = .ok (.getfield 12, 3) := by decide +kernel
theorem dX6_move_35 : decode cX6_move 35 = .ok (.getfield 80, 3) := by decide +kernel
theorem dX6_move_38 : decode cX6_move 38 = .ok (.getfield 84, 3) := by decide +kernel
theorem dX6_move_41 : decode cX6_move 41 = .ok (.ireturn, 1) := by decide +kernel
theorem dX6_play_0 : decode cX6_play 0 = .ok (.iload_n 1, 1) := by decide +kernel
theorem dX6_play_1 : decode cX6_play 1 = .ok (.iconst 1, 1) := by decide +kernel
theorem dX6_play_2 : decode cX6_play 2 = .ok (.if_icmp .lt 8, 3) := by decide +kernel
theorem dX6_play_5 : decode cX6_play 5 = .ok (.iload_n 1, 1) := by decide +kernel
theorem dX6_play_6 : decode cX6_play 6 = .ok (.iconst 4, 1) := by decide +kernel
theorem dX6_play_7 : decode cX6_play 7 = .ok (.if_icmp .le 6, 3) := by decide +kernel
theorem dX6_play_10 : decode cX6_play 10 = .ok (.bipush (-2), 2) := by decide +kernel
theorem dX6_play_12 : decode cX6_play 12 = .ok (.ireturn, 1) := by decide +kernel
theorem dX6_play_13 : decode cX6_play 13 = .ok (.aload_n 0, 1) := by decide +kernel
theorem dX6_play_14 : decode cX6_play 14 = .ok (.getfield 41, 3) := by decide +kernel
theorem dX6_play_17 : decode cX6_play 17 = .ok (.aload_n 0, 1) := by decide +kernel
theorem dX6_play_18 : decode cX6_play 18 = .ok (.getfield 12, 3) := by decide +kernel
theorem dX6_play_21 : decode cX6_play 21 = .ok (.getfield 45, 3) := by decide +kernel
theorem dX6_play_24 : decode cX6_play 24 = .ok (.aload_n 0, 1) := by decide +kernel
theorem dX6_play_25 : decode cX6_play 25 = .ok (.getfield 12, 3) := by decide +kernel
theorem dX6_play_28 : decode cX6_play 28 = .ok (.getfield 49, 3) := by decide +kernel
theorem dX6_play_31 : decode cX6_play 31 = .ok (.iload_n 1, 1) := by decide +kernel
theorem dX6_play_32 : decode cX6_play 32 = .ok (.invokevirtual 89, 3) := by decide +kernel
theorem dX6_play_35 : decode cX6_play 35 = .ok (.istore_n 2, 1) := by decide +kernel
theorem dX6_play_36 : decode cX6_play 36 = .ok (.iload_n 2, 1) := by decide +kernel
theorem dX6_play_37 : decode cX6_play 37 = .ok (.bipush (-6), 2) := by decide +kernel
theorem dX6_play_39 : decode cX6_play 39 = .ok (.if_icmp .ne 6, 3) := by decide +kernel
theorem dX6_play_42 : decode cX6_play 42 = .ok (.bipush (-5), 2) := by decide +kernel
theorem dX6_play_44 : decode cX6_play 44 = .ok (.ireturn, 1) := by decide +kernel
theorem dX6_play_45 : decode cX6_play 45 = .ok (.aload_n 0, 1) := by decide +kernel
theorem dX6_play_46 : decode cX6_play 46 = .ok (.getfield 19, 3) := by decide +kernel
theorem dX6_play_49 : decode cX6_play 49 = .ok (.aload_n 0, 1) := by decide +kernel
theorem dX6_play_50 : decode cX6_play 50 = .ok (.getfield 12, 3) := by decide +kernel
theorem dX6_play_53 : decode cX6_play 53 = .ok (.invokevirtual 65, 3) := by decide +kernel
theorem dX6_play_56 : decode cX6_play 56 = .ok (.aload_n 0, 1) := by decide +kernel
theorem dX6_play_57 : decode cX6_play 57 = .ok (.getfield 12, 3) := by decide +kernel
theorem dX6_play_60 : decode cX6_play 60 = .ok (.iload_n 2, 1) := by decide +kernel
theorem dX6_play_61 : decode cX6_play 61 = .ok (.invokevirtual 77, 3) := by decide +kernel
theorem dX6_play_64 : decode cX6_play 64 = .ok (.iload_n 2, 1) := by decide +kernel
theorem dX6_play_65 : decode cX6_play 65 = .ok (.ireturn, 1) := by decide +kernel
theorem dX6_read_0 : decode cX6_read 0 = .ok (.aload_n 0, 1) := by decide +kernel
theorem dX6_read_1 : decode cX6_read 1 = .ok (.getfield 34, 3) := by decide +kernel
theorem dX6_read_4 : decode cX6_read 4 = .ok (.invokevirtual 93, 3) := by decide +kernel
theorem dX6_read_7 : decode cX6_read 7 = .ok (.bipush (-6), 2) := by decide +kernel
theorem dX6_read_9 : decode cX6_read 9 = .ok (.if_icmp .eq 6, 3) := by decide +kernel
theorem dX6_read_12 : decode cX6_read 12 = .ok (.bipush (-3), 2) := by decide +kernel
theorem dX6_read_14 : decode cX6_read 14 = .ok (.ireturn, 1) := by decide +kernel
theorem dX6_read_15 : decode cX6_read 15 = .ok (.aload_n 0, 1) := by decide +kernel
theorem dX6_read_16 : decode cX6_read 16 = .ok (.getfield 19, 3) := by decide +kernel
theorem dX6_read_19 : decode cX6_read 19 = .ok (.aload_n 0, 1) := by decide +kernel
theorem dX6_read_20 : decode cX6_read 20 = .ok (.getfield 12, 3) := by decide +kernel
theorem dX6_read_23 : decode cX6_read 23 = .ok (.invokevirtual 65, 3) := by decide +kernel
theorem dX6_read_26 : decode cX6_read 26 = .ok (.aload_n 0, 1) := by decide +kernel
theorem dX6_read_27 : decode cX6_read 27 = .ok (.getfield 12, 3) := by decide +kernel
theorem dX6_read_30 : decode cX6_read 30 = .ok (.getfield 45, 3) := by decide +kernel
theorem dX6_read_33 : decode cX6_read 33 = .ok (.aload_n 0, 1) := by decide +kernel
theorem dX6_read_34 : decode cX6_read 34 = .ok (.getfield 34, 3) := by decide +kernel
theorem dX6_read_37 : decode cX6_read 37 = .ok (.getfield 97, 3) := by decide +kernel
theorem dX6_read_40 : decode cX6_read 40 = .ok (.invokevirtual 100, 3) := by decide +kernel
theorem dX6_read_43 : decode cX6_read 43 = .ok (.aload_n 0, 1) := by decide +kernel
theorem dX6_read_44 : decode cX6_read 44 = .ok (.getfield 34, 3) := by decide +kernel
theorem dX6_read_47 : decode cX6_read 47 = .ok (.iconst 0, 1) := by decide +kernel
theorem dX6_read_48 : decode cX6_read 48 = .ok (.putfield 104, 3) := by decide +kernel
theorem dX6_read_51 : decode cX6_read 51 = .ok (.aload_n 0, 1) := by decide +kernel
theorem dX6_read_52 : decode cX6_read 52 = .ok (.getfield 12, 3) := by decide +kernel
theorem dX6_read_55 : decode cX6_read 55 = .ok (.getfield 45, 3) := by decide +kernel
theorem dX6_read_58 : decode cX6_read 58 = .ok (.invokevirtual 107, 3) := by decide +kernel
theorem dX6_read_61 : decode cX6_read 61 = .ok (.ireturn, 1) := by decide +kernel
theorem dX6_house_0 : decode cX6_house 0 = .ok (.iload_n 1, 1) := by decide +kernel
theorem dX6_house_1 : decode cX6_house 1 = .ok (.invokestatic 110, 3) := by decide +kernel
theorem dX6_house_4 : decode cX6_house 4 = .ok (.ifCond .ne 5, 3) := by decide +kernel
theorem dX6_house_7 : decode cX6_house 7 = .ok (.iconst (-1), 1) := by decide +kernel
theorem dX6_house_8 : decode cX6_house 8 = .ok (.ireturn, 1) := by decide +kernel
theorem dX6_house_9 : decode cX6_house 9 = .ok (.iload_n 2, 1) := by decide +kernel
theorem dX6_house_10 : decode cX6_house 10 = .ok (.tableswitch 79 0 2 #[26, 39, 52], 26) := by decide +kernel
theorem dX6_house_36 : decode cX6_house 36 = .ok (.aload_n 0, 1) := by decide +kernel
theorem dX6_house_37 : decode cX6_house 37 = .ok (.getfield 12, 3) := by decide +kernel
theorem dX6_house_40 : decode cX6_house 40 = .ok (.getfield 45, 3) := by decide +kernel
theorem dX6_house_43 : decode cX6_house 43 = .ok (.getfield 114, 3) := by decide +kernel
theorem dX6_house_46 : decode cX6_house 46 = .ok (.iload_n 1, 1) := by decide +kernel
theorem dX6_house_47 : decode cX6_house 47 = .ok (.iaload, 1) := by decide +kernel
theorem dX6_house_48 : decode cX6_house 48 = .ok (.ireturn, 1) := by decide +kernel
theorem dX6_house_49 : decode cX6_house 49 = .ok (.aload_n 0, 1) := by decide +kernel
theorem dX6_house_50 : decode cX6_house 50 = .ok (.getfield 12, 3) := by decide +kernel
theorem dX6_house_53 : decode cX6_house 53 = .ok (.getfield 45, 3) := by decide +kernel
theorem dX6_house_56 : decode cX6_house 56 = .ok (.getfield 117, 3) := by decide +kernel
theorem dX6_house_59 : decode cX6_house 59 = .ok (.iload_n 1, 1) := by decide +kernel
theorem dX6_house_60 : decode cX6_house 60 = .ok (.iaload, 1) := by decide +kernel
theorem dX6_house_61 : decode cX6_house 61 = .ok (.ireturn, 1) := by decide +kernel
theorem dX6_house_62 : decode cX6_house 62 = .ok (.aload_n 0, 1) := by decide +kernel
theorem dX6_house_63 : decode cX6_house 63 = .ok (.getfield 12, 3) := by decide +kernel
theorem dX6_house_66 : decode cX6_house 66 = .ok (.getfield 45, 3) := by decide +kernel
theorem dX6_house_69 : decode cX6_house 69 = .ok (.iload_n 1, 1) := by decide +kernel
theorem dX6_house_70 : decode cX6_house 70 = .ok (.aload_n 0, 1) := by decide +kernel
theorem dX6_house_71 : decode cX6_house 71 = .ok (.getfield 12, 3) := by decide +kernel
theorem dX6_house_74 : decode cX6_house 74 = .ok (.getfield 49, 3) := by decide +kernel
theorem dX6_house_77 : decode cX6_house 77 = .ok (.invokevirtual 120, 3) := by decide +kernel
theorem dX6_house_80 : decode cX6_house 80 = .ok (.ifCond .eq 7, 3) := by decide +kernel
theorem dX6_house_83 : decode cX6_house 83 = .ok (.iconst 1, 1) := by decide +kernel
theorem dX6_house_84 : decode cX6_house 84 = .ok (.goto 4, 3) := by decide +kernel
theorem dX6_house_87 : decode cX6_house 87 = .ok (.iconst 0, 1) := by decide +kernel
theorem dX6_house_88 : decode cX6_house 88 = .ok (.ireturn, 1) := by decide +kernel
theorem dX6_house_89 : decode cX6_house 89 = .ok (.bipush (-2), 2) := by decide +kernel
theorem dX6_house_91 : decode cX6_house 91 = .ok (.ireturn, 1) := by decide +kernel
theorem dX6_count_0 : decode cX6_count 0 = .ok (.aload_n 0, 1) := by decide +kernel
theorem dX6_count_1 : decode cX6_count 1 = .ok (.getfield 12, 3) := by decide +kernel
theorem dX6_count_4 : decode cX6_count 4 = .ok (.getfield 45, 3) := by decide +kernel
theorem dX6_count_7 : decode cX6_count 7 = .ok (.astore_n 2, 1) := by decide +kernel
theorem dX6_count_8 : decode cX6_count 8 = .ok (.iload_n 1, 1) := by decide +kernel
theorem dX6_count_9 : decode cX6_count 9 = .ok (.tableswitch 198 0 13 #[71, 76, 89, 106, 113, 120, 125, 130, 140, 150, 160, 170, 182, 190], 71) := by decide +kernel
theorem dX6_count_80 : decode cX6_count 80 = .ok (.aload_n 2, 1) := by decide +kernel
theorem dX6_count_81 : decode cX6_count 81 = .ok (.getfield 124, 3) := by decide +kernel
theorem dX6_count_84 : decode cX6_count 84 = .ok (.ireturn, 1) := by decide +kernel
theorem dX6_count_85 : decode cX6_count 85 = .ok (.aload_n 2, 1) := by decide +kernel
theorem dX6_count_86 : decode cX6_count 86 = .ok (.getfield 127, 3) := by decide +kernel
theorem dX6_count_89 : decode cX6_count 89 = .ok (.ifCond .eq 7, 3) := by decide +kernel
theorem dX6_count_92 : decode cX6_count 92 = .ok (.iconst 1, 1) := by decide +kernel
theorem dX6_count_93 : decode cX6_count 93 = .ok (.goto 4, 3) := by decide +kernel
theorem dX6_count_96 : decode cX6_count 96 = .ok (.iconst 0, 1) := by decide +kernel
theorem dX6_count_97 : decode cX6_count 97 = .ok (.ireturn, 1) := by decide +kernel
theorem dX6_count_98 : decode cX6_count 98 = .ok (.aload_n 2, 1) := by decide +kernel
theorem dX6_count_99 : decode cX6_count 99 = .ok (.getfield 127, 3) := by decide +kernel
theorem dX6_count_102 : decode cX6_count 102 = .ok (.ifCond .eq 10, 3) := by decide +kernel
theorem dX6_count_105 : decode cX6_count 105 = .ok (.aload_n 2, 1) := by decide +kernel
theorem dX6_count_106 : decode cX6_count 106 = .ok (.invokevirtual 131, 3) := by decide +kernel
theorem dX6_count_109 : decode cX6_count 109 = .ok (.goto 5, 3) := by decide +kernel
theorem dX6_count_112 : decode cX6_count 112 = .ok (.bipush (-6), 2) := by decide +kernel
theorem dX6_count_114 : decode cX6_count 114 = .ok (.ireturn, 1) := by decide +kernel
theorem dX6_count_115 : decode cX6_count 115 = .ok (.aload_n 2, 1) := by decide +kernel
theorem dX6_count_116 : decode cX6_count 116 = .ok (.getfield 134, 3) := by decide +kernel
theorem dX6_count_119 : decode cX6_count 119 = .ok (.iconst 0, 1) := by decide +kernel
theorem dX6_count_120 : decode cX6_count 120 = .ok (.iaload, 1) := by decide +kernel
theorem dX6_count_121 : decode cX6_count 121 = .ok (.ireturn, 1) := by decide +kernel
theorem dX6_count_122 : decode cX6_count 122 = .ok (.aload_n 2, 1) := by decide +kernel
theorem dX6_count_123 : decode cX6_count 123 = .ok (.getfield 134, 3) := by decide +kernel
theorem dX6_count_126 : decode cX6_count 126 = .ok (.iconst 1, 1) := by decide +kernel
theorem dX6_count_127 : decode cX6_count 127 = .ok (.iaload, 1) := by decide +kernel
theorem dX6_count_128 : decode cX6_count 128 = .ok (.ireturn, 1) := by decide +kernel
theorem dX6_count_129 : decode cX6_count 129 = .ok (.aload_n 2, 1) := by decide +kernel
theorem dX6_count_130 : decode cX6_count 130 = .ok (.invokevirtual 107, 3) := by decide +kernel
theorem dX6_count_133 : decode cX6_count 133 = .ok (.ireturn, 1) := by decide +kernel
theorem dX6_count_134 : decode cX6_count 134 = .ok (.aload_n 2, 1) := by decide +kernel
theorem dX6_count_135 : decode cX6_count 135 = .ok (.getfield 69, 3) := by decide +kernel
theorem dX6_count_138 : decode cX6_count 138 = .ok (.ireturn, 1) := by decide +kernel
theorem dX6_count_139 : decode cX6_count 139 = .ok (.aload_n 0, 1) := by decide +kernel
theorem dX6_count_140 : decode cX6_count 140 = .ok (.getfield 12, 3) := by decide +kernel
theorem dX6_count_143 : decode cX6_count 143 = .ok (.getfield 49, 3) := by decide +kernel
theorem dX6_count_146 : decode cX6_count 146 = .ok (.iconst 0, 1) := by decide +kernel
theorem dX6_count_147 : decode cX6_count 147 = .ok (.iaload, 1) := by decide +kernel
theorem dX6_count_148 : decode cX6_count 148 = .ok (.ireturn, 1) := by decide +kernel
theorem dX6_count_149 : decode cX6_count 149 = .ok (.aload_n 0, 1) := by decide +kernel
theorem dX6_count_150 : decode cX6_count 150 = .ok (.getfield 12, 3) := by decide +kernel
theorem dX6_count_153 : decode cX6_count 153 = .ok (.getfield 49, 3) := by decide +kernel
theorem dX6_count_156 : decode cX6_count 156 = .ok (.iconst 1, 1) := by decide +kernel
theorem dX6_count_157 : decode cX6_count 157 = .ok (.iaload, 1) := by decide +kernel
theorem dX6_count_158 : decode cX6_count 158 = .ok (.ireturn, 1) := by decide +kernel
theorem dX6_count_159 : decode cX6_count 159 = .ok (.aload_n 0, 1) := by decide +kernel
theorem dX6_count_160 : decode cX6_count 160 = .ok (.getfield 12, 3) := by decide +kernel
theorem dX6_count_163 : decode cX6_count 163 = .ok (.getfield 49, 3) := by decide +kernel
theorem dX6_count_166 : decode cX6_count 166 = .ok (.iconst 2, 1) := by decide +kernel
theorem dX6_count_167 : decode cX6_count 167 = .ok (.iaload, 1) := by decide +kernel
theorem dX6_count_168 : decode cX6_count 168 = .ok (.ireturn, 1) := by decide +kernel
theorem dX6_count_169 : decode cX6_count 169 = .ok (.aload_n 0, 1) := by decide +kernel
theorem dX6_count_170 : decode cX6_count 170 = .ok (.getfield 12, 3) := by decide +kernel
theorem dX6_count_173 : decode cX6_count 173 = .ok (.getfield 49, 3) := by decide +kernel
theorem dX6_count_176 : decode cX6_count 176 = .ok (.iconst 3, 1) := by decide +kernel
theorem dX6_count_177 : decode cX6_count 177 = .ok (.iaload, 1) := by decide +kernel
theorem dX6_count_178 : decode cX6_count 178 = .ok (.ireturn, 1) := by decide +kernel
theorem dX6_count_179 : decode cX6_count 179 = .ok (.aload_n 2, 1) := by decide +kernel
theorem dX6_count_180 : decode cX6_count 180 = .ok (.aload_n 0, 1) := by decide +kernel
theorem dX6_count_181 : decode cX6_count 181 = .ok (.getfield 12, 3) := by decide +kernel
theorem dX6_count_184 : decode cX6_count 184 = .ok (.getfield 49, 3) := by decide +kernel
theorem dX6_count_187 : decode cX6_count 187 = .ok (.invokevirtual 137, 3) := by decide +kernel
theorem dX6_count_190 : decode cX6_count 190 = .ok (.ireturn, 1) := by decide +kernel
theorem dX6_count_191 : decode cX6_count 191 = .ok (.aload_n 0, 1) := by decide +kernel
theorem dX6_count_192 : decode cX6_count 192 = .ok (.getfield 34, 3) := by decide +kernel
theorem dX6_count_195 : decode cX6_count 195 = .ok (.getfield 104, 3) := by decide +kernel
theorem dX6_count_198 : decode cX6_count 198 = .ok (.ireturn, 1) := by decide +kernel
theorem dX6_count_199 : decode cX6_count 199 = .ok (.aload_n 0, 1) := by decide +kernel
theorem dX6_count_200 : decode cX6_count 200 = .ok (.getfield 19, 3) := by decide +kernel
theorem dX6_count_203 : decode cX6_count 203 = .ok (.getfield 141, 3) := by decide +kernel
theorem dX6_count_206 : decode cX6_count 206 = .ok (.ireturn, 1) := by decide +kernel
theorem dX6_count_207 : decode cX6_count 207 = .ok (.bipush (-2), 2) := by decide +kernel
theorem dX6_count_209 : decode cX6_count 209 = .ok (.ireturn, 1) := by decide +kernel
theorem dX6_last_0 : decode cX6_last 0 = .ok (.iload_n 1, 1) := by decide +kernel
theorem dX6_last_1 : decode cX6_last 1 = .ok (.ifCond .lt 8, 3) := by decide +kernel
theorem dX6_last_4 : decode cX6_last 4 = .ok (.iload_n 1, 1) := by decide +kernel
theorem dX6_last_5 : decode cX6_last 5 = .ok (.iconst 4, 1) := by decide +kernel
theorem dX6_last_6 : decode cX6_last 6 = .ok (.if_icmp .le 6, 3) := by decide +kernel
theorem dX6_last_9 : decode cX6_last 9 = .ok (.bipush (-2), 2) := by decide +kernel
theorem dX6_last_11 : decode cX6_last 11 = .ok (.ireturn, 1) := by decide +kernel
theorem dX6_last_12 : decode cX6_last 12 = .ok (.aload_n 0, 1) := by decide +kernel
theorem dX6_last_13 : decode cX6_last 13 = .ok (.getfield 12, 3) := by decide +kernel
theorem dX6_last_16 : decode cX6_last 16 = .ok (.getfield 45, 3) := by decide +kernel
theorem dX6_last_19 : decode cX6_last 19 = .ok (.getfield 69, 3) := by decide +kernel
theorem dX6_last_22 : decode cX6_last 22 = .ok (.ifCond .ne 6, 3) := by decide +kernel
theorem dX6_last_25 : decode cX6_last 25 = .ok (.bipush (-6), 2) := by decide +kernel
theorem dX6_last_27 : decode cX6_last 27 = .ok (.ireturn, 1) := by decide +kernel
theorem dX6_last_28 : decode cX6_last 28 = .ok (.iload_n 1, 1) := by decide +kernel
theorem dX6_last_29 : decode cX6_last 29 = .ok (.tableswitch 75 0 3 #[31, 42, 53, 64], 31) := by decide +kernel
theorem dX6_last_60 : decode cX6_last 60 = .ok (.aload_n 0, 1) := by decide +kernel
theorem dX6_last_61 : decode cX6_last 61 = .ok (.getfield 12, 3) := by decide +kernel
theorem dX6_last_64 : decode cX6_last 64 = .ok (.getfield 80, 3) := by decide +kernel
theorem dX6_last_67 : decode cX6_last 67 = .ok (.getfield 144, 3) := by decide +kernel
theorem dX6_last_70 : decode cX6_last 70 = .ok (.ireturn, 1) := by decide +kernel
theorem dX6_last_71 : decode cX6_last 71 = .ok (.aload_n 0, 1) := by decide +kernel
theorem dX6_last_72 : decode cX6_last 72 = .ok (.getfield 12, 3) := by decide +kernel
theorem dX6_last_75 : decode cX6_last 75 = .ok (.getfield 80, 3) := by decide +kernel
theorem dX6_last_78 : decode cX6_last 78 = .ok (.getfield 84, 3) := by decide +kernel
theorem dX6_last_81 : decode cX6_last 81 = .ok (.ireturn, 1) := by decide +kernel
theorem dX6_last_82 : decode cX6_last 82 = .ok (.aload_n 0, 1) := by decide +kernel
theorem dX6_last_83 : decode cX6_last 83 = .ok (.getfield 12, 3) := by decide +kernel
theorem dX6_last_86 : decode cX6_last 86 = .ok (.getfield 80, 3) := by decide +kernel
theorem dX6_last_89 : decode cX6_last 89 = .ok (.getfield 147, 3) := by decide +kernel
theorem dX6_last_92 : decode cX6_last 92 = .ok (.ireturn, 1) := by decide +kernel
theorem dX6_last_93 : decode cX6_last 93 = .ok (.aload_n 0, 1) := by decide +kernel
theorem dX6_last_94 : decode cX6_last 94 = .ok (.getfield 12, 3) := by decide +kernel
theorem dX6_last_97 : decode cX6_last 97 = .ok (.getfield 80, 3) := by decide +kernel
theorem dX6_last_100 : decode cX6_last 100 = .ok (.getfield 150, 3) := by decide +kernel
theorem dX6_last_103 : decode cX6_last 103 = .ok (.ireturn, 1) := by decide +kernel
theorem dX6_last_104 : decode cX6_last 104 = .ok (.aload_n 0, 1) := by decide +kernel
theorem dX6_last_105 : decode cX6_last 105 = .ok (.getfield 12, 3) := by decide +kernel
theorem dX6_last_108 : decode cX6_last 108 = .ok (.getfield 80, 3) := by decide +kernel
theorem dX6_last_111 : decode cX6_last 111 = .ok (.getfield 153, 3) := by decide +kernel
theorem dX6_last_114 : decode cX6_last 114 = .ok (.ireturn, 1) := by decide +kernel
theorem dX6_moved_0 : decode cX6_moved 0 = .ok (.iload_n 1, 1) := by decide +kernel
theorem dX6_moved_1 : decode cX6_moved 1 = .ok (.ifCond .lt 24, 3) := by decide +kernel
theorem dX6_moved_4 : decode cX6_moved 4 = .ok (.iload_n 1, 1) := by decide +kernel
theorem dX6_moved_5 : decode cX6_moved 5 = .ok (.aload_n 0, 1) := by decide +kernel
theorem dX6_moved_6 : decode cX6_moved 6 = .ok (.getfield 12, 3) := by decide +kernel
theorem dX6_moved_9 : decode cX6_moved 9 = .ok (.getfield 45, 3) := by decide +kernel
theorem dX6_moved_12 : decode cX6_moved 12 = .ok (.getfield 69, 3) := by decide +kernel
theorem dX6_moved_15 : decode cX6_moved 15 = .ok (.if_icmp .ge 10, 3) := by decide +kernel
theorem dX6_moved_18 : decode cX6_moved 18 = .ok (.iload_n 1, 1) := by decide +kernel
theorem dX6_moved_19 : decode cX6_moved 19 = .ok (.sipush 300, 3) := by decide +kernel
theorem dX6_moved_22 : decode cX6_moved 22 = .ok (.if_icmp .lt 5, 3) := by decide +kernel
theorem dX6_moved_25 : decode cX6_moved 25 = .ok (.iconst (-1), 1) := by decide +kernel
theorem dX6_moved_26 : decode cX6_moved 26 = .ok (.ireturn, 1) := by decide +kernel
theorem dX6_moved_27 : decode cX6_moved 27 = .ok (.aload_n 0, 1) := by decide +kernel
theorem dX6_moved_28 : decode cX6_moved 28 = .ok (.getfield 12, 3) := by decide +kernel
theorem dX6_moved_31 : decode cX6_moved 31 = .ok (.getfield 156, 3) := by decide +kernel
theorem dX6_moved_34 : decode cX6_moved 34 = .ok (.iload_n 1, 1) := by decide +kernel
theorem dX6_moved_35 : decode cX6_moved 35 = .ok (.iaload, 1) := by decide +kernel
theorem dX6_moved_36 : decode cX6_moved 36 = .ok (.ireturn, 1) := by decide +kernel
theorem dX6_ifMove_0 : decode cX6_ifMove 0 = .ok (.aload_n 0, 1) := by decide +kernel
theorem dX6_ifMove_1 : decode cX6_ifMove 1 = .ok (.iload_n 1, 1) := by decide +kernel
theorem dX6_ifMove_2 : decode cX6_ifMove 2 = .ok (.invokevirtual 73, 3) := by decide +kernel
theorem dX6_ifMove_5 : decode cX6_ifMove 5 = .ok (.istore_n 3, 1) := by decide +kernel
theorem dX6_ifMove_6 : decode cX6_ifMove 6 = .ok (.iload_n 3, 1) := by decide +kernel
theorem dX6_ifMove_7 : decode cX6_ifMove 7 = .ok (.ifCond .eq 5, 3) := by decide +kernel
theorem dX6_ifMove_10 : decode cX6_ifMove 10 = .ok (.iload_n 3, 1) := by decide +kernel
theorem dX6_ifMove_11 : decode cX6_ifMove 11 = .ok (.ireturn, 1) := by decide +kernel
theorem dX6_ifMove_12 : decode cX6_ifMove 12 = .ok (.iload_n 2, 1) := by decide +kernel
theorem dX6_ifMove_13 : decode cX6_ifMove 13 = .ok (.ifCond .lt 9, 3) := by decide +kernel
theorem dX6_ifMove_16 : decode cX6_ifMove 16 = .ok (.iload_n 2, 1) := by decide +kernel
theorem dX6_ifMove_17 : decode cX6_ifMove 17 = .ok (.bipush 6, 2) := by decide +kernel
theorem dX6_ifMove_19 : decode cX6_ifMove 19 = .ok (.if_icmp .le 6, 3) := by decide +kernel
theorem dX6_ifMove_22 : decode cX6_ifMove 22 = .ok (.bipush (-2), 2) := by decide +kernel
theorem dX6_ifMove_24 : decode cX6_ifMove 24 = .ok (.ireturn, 1) := by decide +kernel
theorem dX6_ifMove_25 : decode cX6_ifMove 25 = .ok (.aload_n 0, 1) := by decide +kernel
theorem dX6_ifMove_26 : decode cX6_ifMove 26 = .ok (.getfield 41, 3) := by decide +kernel
theorem dX6_ifMove_29 : decode cX6_ifMove 29 = .ok (.getfield 159, 3) := by decide +kernel
theorem dX6_ifMove_32 : decode cX6_ifMove 32 = .ok (.astore 4, 2) := by decide +kernel
theorem dX6_ifMove_34 : decode cX6_ifMove 34 = .ok (.aload_n 0, 1) := by decide +kernel
theorem dX6_ifMove_35 : decode cX6_ifMove 35 = .ok (.getfield 41, 3) := by decide +kernel
theorem dX6_ifMove_38 : decode cX6_ifMove 38 = .ok (.getfield 162, 3) := by decide +kernel
theorem dX6_ifMove_41 : decode cX6_ifMove 41 = .ok (.astore 5, 2) := by decide +kernel
theorem dX6_ifMove_43 : decode cX6_ifMove 43 = .ok (.aload 4, 2) := by decide +kernel
theorem dX6_ifMove_45 : decode cX6_ifMove 45 = .ok (.aload_n 0, 1) := by decide +kernel
theorem dX6_ifMove_46 : decode cX6_ifMove 46 = .ok (.getfield 12, 3) := by decide +kernel
theorem dX6_ifMove_49 : decode cX6_ifMove 49 = .ok (.getfield 45, 3) := by decide +kernel
theorem dX6_ifMove_52 : decode cX6_ifMove 52 = .ok (.invokevirtual 165, 3) := by decide +kernel
theorem dX6_ifMove_55 : decode cX6_ifMove 55 = .ok (.aload 4, 2) := by decide +kernel
theorem dX6_ifMove_57 : decode cX6_ifMove 57 = .ok (.iload_n 1, 1) := by decide +kernel
theorem dX6_ifMove_58 : decode cX6_ifMove 58 = .ok (.aload_n 0, 1) := by decide +kernel
theorem dX6_ifMove_59 : decode cX6_ifMove 59 = .ok (.getfield 12, 3) := by decide +kernel
theorem dX6_ifMove_62 : decode cX6_ifMove 62 = .ok (.getfield 49, 3) := by decide +kernel
theorem dX6_ifMove_65 : decode cX6_ifMove 65 = .ok (.aload 5, 2) := by decide +kernel
theorem dX6_ifMove_67 : decode cX6_ifMove 67 = .ok (.invokevirtual 169, 3) := by decide +kernel
theorem dX6_ifMove_70 : decode cX6_ifMove 70 = .ok (.iload_n 2, 1) := by decide +kernel
theorem dX6_ifMove_71 : decode cX6_ifMove 71 = .ok (.tableswitch 84 0 5 #[37, 43, 49, 55, 61, 78], 37) := by decide +kernel
theorem dX6_ifMove_108 : decode cX6_ifMove 108 = .ok (.aload 5, 2) := by decide +kernel
theorem dX6_ifMove_110 : decode cX6_ifMove 110 = .ok (.getfield 84, 3) := by decide +kernel
theorem dX6_ifMove_113 : decode cX6_ifMove 113 = .ok (.ireturn, 1) := by decide +kernel
theorem dX6_ifMove_114 : decode cX6_ifMove 114 = .ok (.aload 5, 2) := by decide +kernel
theorem dX6_ifMove_116 : decode cX6_ifMove 116 = .ok (.getfield 147, 3) := by decide +kernel
theorem dX6_ifMove_119 : decode cX6_ifMove 119 = .ok (.ireturn, 1) := by decide +kernel
theorem dX6_ifMove_120 : decode cX6_ifMove 120 = .ok (.aload 5, 2) := by decide +kernel
theorem dX6_ifMove_122 : decode cX6_ifMove 122 = .ok (.getfield 150, 3) := by decide +kernel
theorem dX6_ifMove_125 : decode cX6_ifMove 125 = .ok (.ireturn, 1) := by decide +kernel
theorem dX6_ifMove_126 : decode cX6_ifMove 126 = .ok (.aload 5, 2) := by decide +kernel
theorem dX6_ifMove_128 : decode cX6_ifMove 128 = .ok (.getfield 153, 3) := by decide +kernel
theorem dX6_ifMove_131 : decode cX6_ifMove 131 = .ok (.ireturn, 1) := by decide +kernel
theorem dX6_ifMove_132 : decode cX6_ifMove 132 = .ok (.aload_n 0, 1) := by decide +kernel
theorem dX6_ifMove_133 : decode cX6_ifMove 133 = .ok (.getfield 12, 3) := by decide +kernel
theorem dX6_ifMove_136 : decode cX6_ifMove 136 = .ok (.getfield 45, 3) := by decide +kernel
theorem dX6_ifMove_139 : decode cX6_ifMove 139 = .ok (.aload 4, 2) := by decide +kernel
theorem dX6_ifMove_141 : decode cX6_ifMove 141 = .ok (.invokestatic 172, 3) := by decide +kernel
theorem dX6_ifMove_144 : decode cX6_ifMove 144 = .ok (.sipush 10000, 3) := by decide +kernel
theorem dX6_ifMove_147 : decode cX6_ifMove 147 = .ok (.iadd, 1) := by decide +kernel
theorem dX6_ifMove_148 : decode cX6_ifMove 148 = .ok (.ireturn, 1) := by decide +kernel
theorem dX6_ifMove_149 : decode cX6_ifMove 149 = .ok (.aload 4, 2) := by decide +kernel
theorem dX6_ifMove_151 : decode cX6_ifMove 151 = .ok (.getfield 124, 3) := by decide +kernel
theorem dX6_ifMove_154 : decode cX6_ifMove 154 = .ok (.ireturn, 1) := by decide +kernel
theorem dX6_ifMove_155 : decode cX6_ifMove 155 = .ok (.aload 4, 2) := by decide +kernel
theorem dX6_ifMove_157 : decode cX6_ifMove 157 = .ok (.getfield 127, 3) := by decide +kernel
theorem dX6_ifMove_160 : decode cX6_ifMove 160 = .ok (.ifCond .eq 7, 3) := by decide +kernel
theorem dX6_ifMove_163 : decode cX6_ifMove 163 = .ok (.iconst 1, 1) := by decide +kernel
theorem dX6_ifMove_164 : decode cX6_ifMove 164 = .ok (.goto 4, 3) := by decide +kernel
theorem dX6_ifMove_167 : decode cX6_ifMove 167 = .ok (.iconst 0, 1) := by decide +kernel
theorem dX6_ifMove_168 : decode cX6_ifMove 168 = .ok (.ireturn, 1) := by decide +kernel
theorem dX6_worth_0 : decode cX6_worth 0 = .ok (.iload_n 1, 1) := by decide +kernel
theorem dX6_worth_1 : decode cX6_worth 1 = .ok (.ifCond .lt 8, 3) := by decide +kernel
theorem dX6_worth_4 : decode cX6_worth 4 = .ok (.iload_n 1, 1) := by decide +kernel
theorem dX6_worth_5 : decode cX6_worth 5 = .ok (.iconst 4, 1) := by decide +kernel
theorem dX6_worth_6 : decode cX6_worth 6 = .ok (.if_icmp .le 6, 3) := by decide +kernel
theorem dX6_worth_9 : decode cX6_worth 9 = .ok (.bipush (-2), 2) := by decide +kernel
theorem dX6_worth_11 : decode cX6_worth 11 = .ok (.ireturn, 1) := by decide +kernel
theorem dX6_worth_12 : decode cX6_worth 12 = .ok (.aload_n 0, 1) := by decide +kernel
theorem dX6_worth_13 : decode cX6_worth 13 = .ok (.getfield 41, 3) := by decide +kernel
theorem dX6_worth_16 : decode cX6_worth 16 = .ok (.aload_n 0, 1) := by decide +kernel
theorem dX6_worth_17 : decode cX6_worth 17 = .ok (.getfield 12, 3) := by decide +kernel
theorem dX6_worth_20 : decode cX6_worth 20 = .ok (.getfield 45, 3) := by decide +kernel
theorem dX6_worth_23 : decode cX6_worth 23 = .ok (.aload_n 0, 1) := by decide +kernel
theorem dX6_worth_24 : decode cX6_worth 24 = .ok (.getfield 12, 3) := by decide +kernel
theorem dX6_worth_27 : decode cX6_worth 27 = .ok (.getfield 49, 3) := by decide +kernel
theorem dX6_worth_30 : decode cX6_worth 30 = .ok (.iload_n 1, 1) := by decide +kernel
theorem dX6_worth_31 : decode cX6_worth 31 = .ok (.invokevirtual 176, 3) := by decide +kernel
theorem dX6_worth_34 : decode cX6_worth 34 = .ok (.sipush 10000, 3) := by decide +kernel
theorem dX6_worth_37 : decode cX6_worth 37 = .ok (.iadd, 1) := by decide +kernel
theorem dX6_worth_38 : decode cX6_worth 38 = .ok (.ireturn, 1) := by decide +kernel
theorem dX6_best_0 : decode cX6_best 0 = .ok (.iload_n 1, 1) := by decide +kernel
theorem dX6_best_1 : decode cX6_best 1 = .ok (.iconst 1, 1) := by decide +kernel
theorem dX6_best_2 : decode cX6_best 2 = .ok (.if_icmp .lt 8, 3) := by decide +kernel
theorem dX6_best_5 : decode cX6_best 5 = .ok (.iload_n 1, 1) := by decide +kernel
theorem dX6_best_6 : decode cX6_best 6 = .ok (.iconst 4, 1) := by decide +kernel
theorem dX6_best_7 : decode cX6_best 7 = .ok (.if_icmp .le 6, 3) := by decide +kernel
theorem dX6_best_10 : decode cX6_best 10 = .ok (.bipush (-2), 2) := by decide +kernel
theorem dX6_best_12 : decode cX6_best 12 = .ok (.ireturn, 1) := by decide +kernel
theorem dX6_best_13 : decode cX6_best 13 = .ok (.aload_n 0, 1) := by decide +kernel
theorem dX6_best_14 : decode cX6_best 14 = .ok (.getfield 41, 3) := by decide +kernel
theorem dX6_best_17 : decode cX6_best 17 = .ok (.aload_n 0, 1) := by decide +kernel
theorem dX6_best_18 : decode cX6_best 18 = .ok (.getfield 12, 3) := by decide +kernel
theorem dX6_best_21 : decode cX6_best 21 = .ok (.getfield 45, 3) := by decide +kernel
theorem dX6_best_24 : decode cX6_best 24 = .ok (.aload_n 0, 1) := by decide +kernel
theorem dX6_best_25 : decode cX6_best 25 = .ok (.getfield 12, 3) := by decide +kernel
theorem dX6_best_28 : decode cX6_best 28 = .ok (.getfield 49, 3) := by decide +kernel
theorem dX6_best_31 : decode cX6_best 31 = .ok (.iload_n 1, 1) := by decide +kernel
theorem dX6_best_32 : decode cX6_best 32 = .ok (.invokevirtual 89, 3) := by decide +kernel
theorem dX6_best_35 : decode cX6_best 35 = .ok (.ireturn, 1) := by decide +kernel
theorem dX6_movesLeft_0 : decode cX6_movesLeft 0 = .ok (.iload_n 1, 1) := by decide +kernel
theorem dX6_movesLeft_1 : decode cX6_movesLeft 1 = .ok (.iconst 1, 1) := by decide +kernel
theorem dX6_movesLeft_2 : decode cX6_movesLeft 2 = .ok (.if_icmp .lt 8, 3) := by decide +kernel
theorem dX6_movesLeft_5 : decode cX6_movesLeft 5 = .ok (.iload_n 1, 1) := by decide +kernel
theorem dX6_movesLeft_6 : decode cX6_movesLeft 6 = .ok (.iconst 2, 1) := by decide +kernel
theorem dX6_movesLeft_7 : decode cX6_movesLeft 7 = .ok (.if_icmp .le 6, 3) := by decide +kernel
theorem dX6_movesLeft_10 : decode cX6_movesLeft 10 = .ok (.bipush (-2), 2) := by decide +kernel
theorem dX6_movesLeft_12 : decode cX6_movesLeft 12 = .ok (.ireturn, 1) := by decide +kernel
theorem dX6_movesLeft_13 : decode cX6_movesLeft 13 = .ok (.aload_n 0, 1) := by decide +kernel
theorem dX6_movesLeft_14 : decode cX6_movesLeft 14 = .ok (.getfield 41, 3) := by decide +kernel
theorem dX6_movesLeft_17 : decode cX6_movesLeft 17 = .ok (.aload_n 0, 1) := by decide +kernel
theorem dX6_movesLeft_18 : decode cX6_movesLeft 18 = .ok (.getfield 12, 3) := by decide +kernel
theorem dX6_movesLeft_21 : decode cX6_movesLeft 21 = .ok (.getfield 45, 3) := by decide +kernel
theorem dX6_movesLeft_24 : decode cX6_movesLeft 24 = .ok (.aload_n 0, 1) := by decide +kernel
theorem dX6_movesLeft_25 : decode cX6_movesLeft 25 = .ok (.getfield 12, 3) := by decide +kernel
theorem dX6_movesLeft_28 : decode cX6_movesLeft 28 = .ok (.getfield 49, 3) := by decide +kernel
theorem dX6_movesLeft_31 : decode cX6_movesLeft 31 = .ok (.iload_n 1, 1) := by decide +kernel
theorem dX6_movesLeft_32 : decode cX6_movesLeft 32 = .ok (.invokevirtual 179, 3) := by decide +kernel
theorem dX6_movesLeft_35 : decode cX6_movesLeft 35 = .ok (.ireturn, 1) := by decide +kernel
theorem dX6_put_0 : decode cX6_put 0 = .ok (.lload_n 1, 1) := by decide +kernel
theorem dX6_put_1 : decode cX6_put 1 = .ok (.invokestatic 182, 3) := by decide +kernel
theorem dX6_put_4 : decode cX6_put 4 = .ok (.istore_n 3, 1) := by decide +kernel
theorem dX6_put_5 : decode cX6_put 5 = .ok (.iload_n 3, 1) := by decide +kernel
theorem dX6_put_6 : decode cX6_put 6 = .ok (.ifCond .ne 6, 3) := by decide +kernel
theorem dX6_put_9 : decode cX6_put 9 = .ok (.bipush (-2), 2) := by decide +kernel
theorem dX6_put_11 : decode cX6_put 11 = .ok (.ireturn, 1) := by decide +kernel
theorem dX6_put_12 : decode cX6_put 12 = .ok (.aload_n 0, 1) := by decide +kernel
theorem dX6_put_13 : decode cX6_put 13 = .ok (.getfield 34, 3) := by decide +kernel
theorem dX6_put_16 : decode cX6_put 16 = .ok (.getfield 104, 3) := by decide +kernel
theorem dX6_put_19 : decode cX6_put 19 = .ok (.iload_n 3, 1) := by decide +kernel
theorem dX6_put_20 : decode cX6_put 20 = .ok (.iadd, 1) := by decide +kernel
theorem dX6_put_21 : decode cX6_put 21 = .ok (.bipush 60, 2) := by decide +kernel
theorem dX6_put_23 : decode cX6_put 23 = .ok (.if_icmp .le 6, 3) := by decide +kernel
theorem dX6_put_26 : decode cX6_put 26 = .ok (.bipush (-4), 2) := by decide +kernel
theorem dX6_put_28 : decode cX6_put 28 = .ok (.ireturn, 1) := by decide +kernel
theorem dX6_put_29 : decode cX6_put 29 = .ok (.aload_n 0, 1) := by decide +kernel
theorem dX6_put_30 : decode cX6_put 30 = .ok (.getfield 34, 3) := by decide +kernel
theorem dX6_put_33 : decode cX6_put 33 = .ok (.lload_n 1, 1) := by decide +kernel
theorem dX6_put_34 : decode cX6_put 34 = .ok (.iload_n 3, 1) := by decide +kernel
theorem dX6_put_35 : decode cX6_put 35 = .ok (.invokevirtual 186, 3) := by decide +kernel
theorem dX6_put_38 : decode cX6_put 38 = .ok (.aload_n 0, 1) := by decide +kernel
theorem dX6_put_39 : decode cX6_put 39 = .ok (.getfield 34, 3) := by decide +kernel
theorem dX6_put_42 : decode cX6_put 42 = .ok (.getfield 104, 3) := by decide +kernel
theorem dX6_put_45 : decode cX6_put 45 = .ok (.ireturn, 1) := by decide +kernel
theorem dX6_wipe_0 : decode cX6_wipe 0 = .ok (.aload_n 0, 1) := by decide +kernel
theorem dX6_wipe_1 : decode cX6_wipe 1 = .ok (.getfield 34, 3) := by decide +kernel
theorem dX6_wipe_4 : decode cX6_wipe 4 = .ok (.getfield 104, 3) := by decide +kernel
theorem dX6_wipe_7 : decode cX6_wipe 7 = .ok (.istore_n 1, 1) := by decide +kernel
theorem dX6_wipe_8 : decode cX6_wipe 8 = .ok (.aload_n 0, 1) := by decide +kernel
theorem dX6_wipe_9 : decode cX6_wipe 9 = .ok (.getfield 34, 3) := by decide +kernel
theorem dX6_wipe_12 : decode cX6_wipe 12 = .ok (.iconst 0, 1) := by decide +kernel
theorem dX6_wipe_13 : decode cX6_wipe 13 = .ok (.putfield 104, 3) := by decide +kernel
theorem dX6_wipe_16 : decode cX6_wipe 16 = .ok (.iload_n 1, 1) := by decide +kernel
theorem dX6_wipe_17 : decode cX6_wipe 17 = .ok (.ireturn, 1) := by decide +kernel
theorem dX6_fault_0 : decode cX6_fault 0 = .ok (.aload_n 0, 1) := by decide +kernel
theorem dX6_fault_1 : decode cX6_fault 1 = .ok (.getfield 34, 3) := by decide +kernel
theorem dX6_fault_4 : decode cX6_fault 4 = .ok (.invokevirtual 93, 3) := by decide +kernel
theorem dX6_fault_7 : decode cX6_fault 7 = .ok (.ireturn, 1) := by decide +kernel
theorem dX6_undo_0 : decode cX6_undo 0 = .ok (.aload_n 0, 1) := by decide +kernel
theorem dX6_undo_1 : decode cX6_undo 1 = .ok (.getfield 19, 3) := by decide +kernel
theorem dX6_undo_4 : decode cX6_undo 4 = .ok (.getfield 141, 3) := by decide +kernel
theorem dX6_undo_7 : decode cX6_undo 7 = .ok (.ifCond .ne 6, 3) := by decide +kernel
theorem dX6_undo_10 : decode cX6_undo 10 = .ok (.bipush (-5), 2) := by decide +kernel
theorem dX6_undo_12 : decode cX6_undo 12 = .ok (.ireturn, 1) := by decide +kernel
theorem dX6_undo_13 : decode cX6_undo 13 = .ok (.aload_n 0, 1) := by decide +kernel
theorem dX6_undo_14 : decode cX6_undo 14 = .ok (.getfield 19, 3) := by decide +kernel
theorem dX6_undo_17 : decode cX6_undo 17 = .ok (.aload_n 0, 1) := by decide +kernel
theorem dX6_undo_18 : decode cX6_undo 18 = .ok (.getfield 12, 3) := by decide +kernel
theorem dX6_undo_21 : decode cX6_undo 21 = .ok (.invokevirtual 190, 3) := by decide +kernel
theorem dX6_undo_24 : decode cX6_undo 24 = .ok (.aload_n 0, 1) := by decide +kernel
theorem dX6_undo_25 : decode cX6_undo 25 = .ok (.getfield 19, 3) := by decide +kernel
theorem dX6_undo_28 : decode cX6_undo 28 = .ok (.getfield 141, 3) := by decide +kernel
theorem dX6_undo_31 : decode cX6_undo 31 = .ok (.ireturn, 1) := by decide +kernel
theorem dX6_save_0 : decode cX6_save 0 = .ok (.iload_n 1, 1) := by decide +kernel
theorem dX6_save_1 : decode cX6_save 1 = .ok (.invokestatic 193, 3) := by decide +kernel
theorem dX6_save_4 : decode cX6_save 4 = .ok (.ifCond .ne 6, 3) := by decide +kernel
theorem dX6_save_7 : decode cX6_save 7 = .ok (.bipush (-2), 2) := by decide +kernel
theorem dX6_save_9 : decode cX6_save 9 = .ok (.ireturn, 1) := by decide +kernel
theorem dX6_save_10 : decode cX6_save 10 = .ok (.aload_n 0, 1) := by decide +kernel
theorem dX6_save_11 : decode cX6_save 11 = .ok (.getfield 23, 3) := by decide +kernel
theorem dX6_save_14 : decode cX6_save 14 = .ok (.iload_n 1, 1) := by decide +kernel
theorem dX6_save_15 : decode cX6_save 15 = .ok (.aaload, 1) := by decide +kernel
theorem dX6_save_16 : decode cX6_save 16 = .ok (.aload_n 0, 1) := by decide +kernel
theorem dX6_save_17 : decode cX6_save 17 = .ok (.getfield 12, 3) := by decide +kernel
theorem dX6_save_20 : decode cX6_save 20 = .ok (.invokevirtual 196, 3) := by decide +kernel
theorem dX6_save_23 : decode cX6_save 23 = .ok (.aload_n 0, 1) := by decide +kernel
theorem dX6_save_24 : decode cX6_save 24 = .ok (.getfield 27, 3) := by decide +kernel
theorem dX6_save_27 : decode cX6_save 27 = .ok (.iload_n 1, 1) := by decide +kernel
theorem dX6_save_28 : decode cX6_save 28 = .ok (.iconst 1, 1) := by decide +kernel
theorem dX6_save_29 : decode cX6_save 29 = .ok (.bastore, 1) := by decide +kernel
theorem dX6_save_30 : decode cX6_save 30 = .ok (.aload_n 0, 1) := by decide +kernel
theorem dX6_save_31 : decode cX6_save 31 = .ok (.getfield 12, 3) := by decide +kernel
theorem dX6_save_34 : decode cX6_save 34 = .ok (.getfield 45, 3) := by decide +kernel
theorem dX6_save_37 : decode cX6_save 37 = .ok (.getfield 69, 3) := by decide +kernel
theorem dX6_save_40 : decode cX6_save 40 = .ok (.ireturn, 1) := by decide +kernel
theorem dX6_restore_0 : decode cX6_restore 0 = .ok (.iload_n 1, 1) := by decide +kernel
theorem dX6_restore_1 : decode cX6_restore 1 = .ok (.invokestatic 193, 3) := by decide +kernel
theorem dX6_restore_4 : decode cX6_restore 4 = .ok (.ifCond .ne 6, 3) := by decide +kernel
theorem dX6_restore_7 : decode cX6_restore 7 = .ok (.bipush (-2), 2) := by decide +kernel
theorem dX6_restore_9 : decode cX6_restore 9 = .ok (.ireturn, 1) := by decide +kernel
theorem dX6_restore_10 : decode cX6_restore 10 = .ok (.aload_n 0, 1) := by decide +kernel
theorem dX6_restore_11 : decode cX6_restore 11 = .ok (.getfield 27, 3) := by decide +kernel
theorem dX6_restore_14 : decode cX6_restore 14 = .ok (.iload_n 1, 1) := by decide +kernel
theorem dX6_restore_15 : decode cX6_restore 15 = .ok (.baload, 1) := by decide +kernel
theorem dX6_restore_16 : decode cX6_restore 16 = .ok (.ifCond .ne 6, 3) := by decide +kernel
theorem dX6_restore_19 : decode cX6_restore 19 = .ok (.bipush (-5), 2) := by decide +kernel
theorem dX6_restore_21 : decode cX6_restore 21 = .ok (.ireturn, 1) := by decide +kernel
theorem dX6_restore_22 : decode cX6_restore 22 = .ok (.aload_n 0, 1) := by decide +kernel
theorem dX6_restore_23 : decode cX6_restore 23 = .ok (.getfield 19, 3) := by decide +kernel
theorem dX6_restore_26 : decode cX6_restore 26 = .ok (.aload_n 0, 1) := by decide +kernel
theorem dX6_restore_27 : decode cX6_restore 27 = .ok (.getfield 12, 3) := by decide +kernel
theorem dX6_restore_30 : decode cX6_restore 30 = .ok (.invokevirtual 65, 3) := by decide +kernel
theorem dX6_restore_33 : decode cX6_restore 33 = .ok (.aload_n 0, 1) := by decide +kernel
theorem dX6_restore_34 : decode cX6_restore 34 = .ok (.getfield 12, 3) := by decide +kernel
theorem dX6_restore_37 : decode cX6_restore 37 = .ok (.aload_n 0, 1) := by decide +kernel
theorem dX6_restore_38 : decode cX6_restore 38 = .ok (.getfield 23, 3) := by decide +kernel
theorem dX6_restore_41 : decode cX6_restore 41 = .ok (.iload_n 1, 1) := by decide +kernel
theorem dX6_restore_42 : decode cX6_restore 42 = .ok (.aaload, 1) := by decide +kernel
theorem dX6_restore_43 : decode cX6_restore 43 = .ok (.invokevirtual 196, 3) := by decide +kernel
theorem dX6_restore_46 : decode cX6_restore 46 = .ok (.aload_n 0, 1) := by decide +kernel
theorem dX6_restore_47 : decode cX6_restore 47 = .ok (.getfield 12, 3) := by decide +kernel
theorem dX6_restore_50 : decode cX6_restore 50 = .ok (.getfield 45, 3) := by decide +kernel
theorem dX6_restore_53 : decode cX6_restore 53 = .ok (.getfield 69, 3) := by decide +kernel
theorem dX6_restore_56 : decode cX6_restore 56 = .ok (.ireturn, 1) := by decide +kernel
theorem dX6_isHouse_0 : decode cX6_isHouse 0 = .ok (.iload_n 0, 1) := by decide +kernel
theorem dX6_isHouse_1 : decode cX6_isHouse 1 = .ok (.ifCond .lt 13, 3) := by decide +kernel
theorem dX6_isHouse_4 : decode cX6_isHouse 4 = .ok (.iload_n 0, 1) := by decide +kernel
theorem dX6_isHouse_5 : decode cX6_isHouse 5 = .ok (.bipush 12, 2) := by decide +kernel
theorem dX6_isHouse_7 : decode cX6_isHouse 7 = .ok (.if_icmp .ge 7, 3) := by decide +kernel
theorem dX6_isHouse_10 : decode cX6_isHouse 10 = .ok (.iconst 1, 1) := by decide +kernel
theorem dX6_isHouse_11 : decode cX6_isHouse 11 = .ok (.goto 4, 3) := by decide +kernel
theorem dX6_isHouse_14 : decode cX6_isHouse 14 = .ok (.iconst 0, 1) := by decide +kernel
theorem dX6_isHouse_15 : decode cX6_isHouse 15 = .ok (.ireturn, 1) := by decide +kernel
theorem dX6_isSlot_0 : decode cX6_isSlot 0 = .ok (.iload_n 0, 1) := by decide +kernel
theorem dX6_isSlot_1 : decode cX6_isSlot 1 = .ok (.ifCond .lt 12, 3) := by decide +kernel
theorem dX6_isSlot_4 : decode cX6_isSlot 4 = .ok (.iload_n 0, 1) := by decide +kernel
theorem dX6_isSlot_5 : decode cX6_isSlot 5 = .ok (.iconst 2, 1) := by decide +kernel
theorem dX6_isSlot_6 : decode cX6_isSlot 6 = .ok (.if_icmp .ge 7, 3) := by decide +kernel
theorem dX6_isSlot_9 : decode cX6_isSlot 9 = .ok (.iconst 1, 1) := by decide +kernel
theorem dX6_isSlot_10 : decode cX6_isSlot 10 = .ok (.goto 4, 3) := by decide +kernel
theorem dX6_isSlot_13 : decode cX6_isSlot 13 = .ok (.iconst 0, 1) := by decide +kernel
theorem dX6_isSlot_14 : decode cX6_isSlot 14 = .ok (.ireturn, 1) := by decide +kernel
theorem dX6_errorOfMove_0 : decode cX6_errorOfMove 0 = .ok (.iload_n 1, 1) := by decide +kernel
theorem dX6_errorOfMove_1 : decode cX6_errorOfMove 1 = .ok (.invokestatic 110, 3) := by decide +kernel
theorem dX6_errorOfMove_4 : decode cX6_errorOfMove 4 = .ok (.ifCond .ne 5, 3) := by decide +kernel
theorem dX6_errorOfMove_7 : decode cX6_errorOfMove 7 = .ok (.iconst (-1), 1) := by decide +kernel
theorem dX6_errorOfMove_8 : decode cX6_errorOfMove 8 = .ok (.ireturn, 1) := by decide +kernel
theorem dX6_errorOfMove_9 : decode cX6_errorOfMove 9 = .ok (.aload_n 0, 1) := by decide +kernel
theorem dX6_errorOfMove_10 : decode cX6_errorOfMove 10 = .ok (.getfield 12, 3) := by decide +kernel
theorem dX6_errorOfMove_13 : decode cX6_errorOfMove 13 = .ok (.getfield 45, 3) := by decide +kernel
theorem dX6_errorOfMove_16 : decode cX6_errorOfMove 16 = .ok (.iload_n 1, 1) := by decide +kernel
theorem dX6_errorOfMove_17 : decode cX6_errorOfMove 17 = .ok (.invokevirtual 198, 3) := by decide +kernel
theorem dX6_errorOfMove_20 : decode cX6_errorOfMove 20 = .ok (.ifCond .eq 7, 3) := by decide +kernel
theorem dX6_errorOfMove_23 : decode cX6_errorOfMove 23 = .ok (.iconst 0, 1) := by decide +kernel
theorem dX6_errorOfMove_24 : decode cX6_errorOfMove 24 = .ok (.goto 5, 3) := by decide +kernel
theorem dX6_errorOfMove_27 : decode cX6_errorOfMove 27 = .ok (.bipush (-5), 2) := by decide +kernel
theorem dX6_errorOfMove_29 : decode cX6_errorOfMove 29 = .ok (.ireturn, 1) := by decide +kernel
theorem dX6_storeGain_0 : decode cX6_storeGain 0 = .ok (.aload_n 1, 1) := by decide +kernel
theorem dX6_storeGain_1 : decode cX6_storeGain 1 = .ok (.getfield 134, 3) := by decide +kernel
theorem dX6_storeGain_4 : decode cX6_storeGain 4 = .ok (.aload_n 0, 1) := by decide +kernel
theorem dX6_storeGain_5 : decode cX6_storeGain 5 = .ok (.getfield 124, 3) := by decide +kernel
theorem dX6_storeGain_8 : decode cX6_storeGain 8 = .ok (.iaload, 1) := by decide +kernel
theorem dX6_storeGain_9 : decode cX6_storeGain 9 = .ok (.aload_n 0, 1) := by decide +kernel
theorem dX6_storeGain_10 : decode cX6_storeGain 10 = .ok (.getfield 134, 3) := by decide +kernel
theorem dX6_storeGain_13 : decode cX6_storeGain 13 = .ok (.aload_n 0, 1) := by decide +kernel
theorem dX6_storeGain_14 : decode cX6_storeGain 14 = .ok (.getfield 124, 3) := by decide +kernel
theorem dX6_storeGain_17 : decode cX6_storeGain 17 = .ok (.iaload, 1) := by decide +kernel
theorem dX6_storeGain_18 : decode cX6_storeGain 18 = .ok (.isub, 1) := by decide +kernel
theorem dX6_storeGain_19 : decode cX6_storeGain 19 = .ok (.ireturn, 1) := by decide +kernel
theorem dX7_init_0 : decode cX7_init 0 = .ok (.aload_n 0, 1) := by decide +kernel
theorem dX7_init_1 : decode cX7_init 1 = .ok (.invokespecial 1, 3) := by decide +kernel
theorem dX7_init_4 : decode cX7_init 4 = .ok (.aload_n 0, 1) := by decide +kernel
theorem dX7_init_5 : decode cX7_init 5 = .ok (.sipush 340, 3) := by decide +kernel
theorem dX7_init_8 : decode cX7_init 8 = .ok (.newarray .int, 2) := by decide +kernel
theorem dX7_init_10 : decode cX7_init 10 = .ok (.putfield 7, 3) := by decide +kernel
theorem dX7_init_13 : decode cX7_init 13 = .ok (.aload_n 0, 1) := by decide +kernel
theorem dX7_init_14 : decode cX7_init 14 = .ok (.sipush 2040, 3) := by decide +kernel
theorem dX7_init_17 : decode cX7_init 17 = .ok (.newarray .int, 2) := by decide +kernel
theorem dX7_init_19 : decode cX7_init 19 = .ok (.putfield 13, 3) := by decide +kernel
theorem dX7_init_22 : decode cX7_init 22 = .ok (.aload_n 0, 1) := by decide +kernel
theorem dX7_init_23 : decode cX7_init 23 = .ok (.sipush 680, 3) := by decide +kernel
theorem dX7_init_26 : decode cX7_init 26 = .ok (.newarray .int, 2) := by decide +kernel
theorem dX7_init_28 : decode cX7_init 28 = .ok (.putfield 16, 3) := by decide +kernel
theorem dX7_init_31 : decode cX7_init 31 = .ok (.aload_n 0, 1) := by decide +kernel
theorem dX7_init_32 : decode cX7_init 32 = .ok (.iconst 2, 1) := by decide +kernel
theorem dX7_init_33 : decode cX7_init 33 = .ok (.newarray .int, 2) := by decide +kernel
theorem dX7_init_35 : decode cX7_init 35 = .ok (.putfield 19, 3) := by decide +kernel
theorem dX7_init_38 : decode cX7_init 38 = .ok (.aload_n 0, 1) := by decide +kernel
theorem dX7_init_39 : decode cX7_init 39 = .ok (.sipush 280, 3) := by decide +kernel
theorem dX7_init_42 : decode cX7_init 42 = .ok (.newarray .int, 2) := by decide +kernel
theorem dX7_init_44 : decode cX7_init 44 = .ok (.putfield 22, 3) := by decide +kernel
theorem dX7_init_47 : decode cX7_init 47 = .ok (.aload_n 0, 1) := by decide +kernel
theorem dX7_init_48 : decode cX7_init 48 = .ok (.bipush 7, 2) := by decide +kernel
theorem dX7_init_50 : decode cX7_init 50 = .ok (.newarray .int, 2) := by decide +kernel
theorem dX7_init_52 : decode cX7_init 52 = .ok (.putfield 25, 3) := by decide +kernel
theorem dX7_init_55 : decode cX7_init 55 = .ok (.aload_n 0, 1) := by decide +kernel
theorem dX7_init_56 : decode cX7_init 56 = .ok (.bipush 7, 2) := by decide +kernel
theorem dX7_init_58 : decode cX7_init 58 = .ok (.newarray .int, 2) := by decide +kernel
theorem dX7_init_60 : decode cX7_init 60 = .ok (.putfield 28, 3) := by decide +kernel
theorem dX7_init_63 : decode cX7_init 63 = .ok (.aload_n 0, 1) := by decide +kernel
theorem dX7_init_64 : decode cX7_init 64 = .ok (.bipush 7, 2) := by decide +kernel
theorem dX7_init_66 : decode cX7_init 66 = .ok (.newarray .int, 2) := by decide +kernel
theorem dX7_init_68 : decode cX7_init 68 = .ok (.putfield 31, 3) := by decide +kernel
theorem dX7_init_71 : decode cX7_init 71 = .ok (.aload_n 0, 1) := by decide +kernel
theorem dX7_init_72 : decode cX7_init 72 = .ok (.bipush 60, 2) := by decide +kernel
theorem dX7_init_74 : decode cX7_init 74 = .ok (.newarray .int, 2) := by decide +kernel
theorem dX7_init_76 : decode cX7_init 76 = .ok (.putfield 34, 3) := by decide +kernel
theorem dX7_init_79 : decode cX7_init 79 = .ok (.aload_n 0, 1) := by decide +kernel
theorem dX7_init_80 : decode cX7_init 80 = .ok (.bipush 15, 2) := by decide +kernel
theorem dX7_init_82 : decode cX7_init 82 = .ok (.newarray .int, 2) := by decide +kernel
theorem dX7_init_84 : decode cX7_init 84 = .ok (.putfield 37, 3) := by decide +kernel
theorem dX7_init_87 : decode cX7_init 87 = .ok (.aload_n 0, 1) := by decide +kernel
theorem dX7_init_88 : decode cX7_init 88 = .ok (.getfield 7, 3) := by decide +kernel
theorem dX7_init_91 : decode cX7_init 91 = .ok (.bipush 34, 2) := by decide +kernel
theorem dX7_init_93 : decode cX7_init 93 = .ok (.iconst 4, 1) := by decide +kernel
theorem dX7_init_94 : decode cX7_init 94 = .ok (.iastore, 1) := by decide +kernel
theorem dX7_init_95 : decode cX7_init 95 = .ok (.aload_n 0, 1) := by decide +kernel
theorem dX7_init_96 : decode cX7_init 96 = .ok (.getfield 7, 3) := by decide +kernel
theorem dX7_init_99 : decode cX7_init 99 = .ok (.bipush 35, 2) := by decide +kernel
theorem dX7_init_101 : decode cX7_init 101 = .ok (.iconst 3, 1) := by decide +kernel
theorem dX7_init_102 : decode cX7_init 102 = .ok (.iastore, 1) := by decide +kernel
theorem dX7_init_103 : decode cX7_init 103 = .ok (.aload_n 0, 1) := by decide +kernel
theorem dX7_init_104 : decode cX7_init 104 = .ok (.getfield 7, 3) := by decide +kernel
theorem dX7_init_107 : decode cX7_init 107 = .ok (.bipush 36, 2) := by decide +kernel
theorem dX7_init_109 : decode cX7_init 109 = .ok (.bipush 6, 2) := by decide +kernel
theorem dX7_init_111 : decode cX7_init 111 = .ok (.iastore, 1) := by decide +kernel
theorem dX7_init_112 : decode cX7_init 112 = .ok (.aload_n 0, 1) := by decide +kernel
theorem dX7_init_113 : decode cX7_init 113 = .ok (.getfield 7, 3) := by decide +kernel
theorem dX7_init_116 : decode cX7_init 116 = .ok (.bipush 37, 2) := by decide +kernel
theorem dX7_init_118 : decode cX7_init 118 = .ok (.iconst 1, 1) := by decide +kernel
theorem dX7_init_119 : decode cX7_init 119 = .ok (.iastore, 1) := by decide +kernel
theorem dX7_init_120 : decode cX7_init 120 = .ok (.aload_n 0, 1) := by decide +kernel
theorem dX7_init_121 : decode cX7_init 121 = .ok (.invokevirtual 40, 3) := by decide +kernel
theorem dX7_init_124 : decode cX7_init 124 = .ok (.return_, 1) := by decide +kernel
theorem dX7_in_0 : decode cX7_in 0 = .ok (.lload_n 0, 1) := by decide +kernel
theorem dX7_in_1 : decode cX7_in 1 = .ok (.lload_n 2, 1) := by decide +kernel
theorem dX7_in_2 : decode cX7_in 2 = .ok (.lcmp, 1) := by decide +kernel
theorem dX7_in_3 : decode cX7_in 3 = .ok (.ifCond .lt 14, 3) := by decide +kernel
theorem dX7_in_6 : decode cX7_in 6 = .ok (.lload_n 0, 1) := by decide +kernel
theorem dX7_in_7 : decode cX7_in 7 = .ok (.lload 4, 2) := by decide +kernel
theorem dX7_in_9 : decode cX7_in 9 = .ok (.lcmp, 1) := by decide +kernel
theorem dX7_in_10 : decode cX7_in 10 = .ok (.ifCond .gt 7, 3) := by decide +kernel
theorem dX7_in_13 : decode cX7_in 13 = .ok (.iconst 1, 1) := by decide +kernel
theorem dX7_in_14 : decode cX7_in 14 = .ok (.goto 4, 3) := by decide +kernel
theorem dX7_in_17 : decode cX7_in 17 = .ok (.iconst 0, 1) := by decide +kernel
theorem dX7_in_18 : decode cX7_in 18 = .ok (.ireturn, 1) := by decide +kernel
theorem dX7_record_0 : decode cX7_record 0 = .ok (.aload_n 0, 1) := by decide +kernel
theorem dX7_record_1 : decode cX7_record 1 = .ok (.getfield 43, 3) := by decide +kernel
theorem dX7_record_4 : decode cX7_record 4 = .ok (.bipush 6, 2) := by decide +kernel
theorem dX7_record_6 : decode cX7_record 6 = .ok (.if_icmp .ne 44, 3) := by decide +kernel
theorem dX7_record_9 : decode cX7_record 9 = .ok (.iconst 0, 1) := by decide +kernel
theorem dX7_record_10 : decode cX7_record 10 = .ok (.istore_n 1, 1) := by decide +kernel
theorem dX7_record_11 : decode cX7_record 11 = .ok (.iload_n 1, 1) := by decide +kernel
theorem dX7_record_12 : decode cX7_record 12 = .ok (.sipush 1700, 3) := by decide +kernel
theorem dX7_record_15 : decode cX7_record 15 = .ok (.if_icmp .ge 25, 3) := by decide +kernel
theorem dX7_record_18 : decode cX7_record 18 = .ok (.aload_n 0, 1) := by decide +kernel
theorem dX7_record_19 : decode cX7_record 19 = .ok (.getfield 13, 3) := by decide +kernel
theorem dX7_record_22 : decode cX7_record 22 = .ok (.iload_n 1, 1) := by decide +kernel
theorem dX7_record_23 : decode cX7_record 23 = .ok (.aload_n 0, 1) := by decide +kernel
theorem dX7_record_24 : decode cX7_record 24 = .ok (.getfield 13, 3) := by decide +kernel
theorem dX7_record_27 : decode cX7_record 27 = .ok (.iload_n 1, 1) := by decide +kernel
theorem dX7_record_28 : decode cX7_record 28 = .ok (.sipush 340, 3) := by decide +kernel
theorem dX7_record_31 : decode cX7_record 31 = .ok (.iadd, 1) := by decide +kernel
theorem dX7_record_32 : decode cX7_record 32 = .ok (.iaload, 1) := by decide +kernel
theorem dX7_record_33 : decode cX7_record 33 = .ok (.iastore, 1) := by decide +kernel
theorem dX7_record_34 : decode cX7_record 34 = .ok (.iinc 1 1, 3) := by decide +kernel
theorem dX7_record_37 : decode cX7_record 37 = .ok (.goto (-26), 3) := by decide +kernel
theorem dX7_record_40 : decode cX7_record 40 = .ok (.aload_n 0, 1) := by decide +kernel
theorem dX7_record_41 : decode cX7_record 41 = .ok (.dup, 1) := by decide +kernel
theorem dX7_record_42 : decode cX7_record 42 = .ok (.getfield 43, 3) := by decide +kernel
theorem dX7_record_45 : decode cX7_record 45 = .ok (.iconst 1, 1) := by decide +kernel
theorem dX7_record_46 : decode cX7_record 46 = .ok (.isub, 1) := by decide +kernel
theorem dX7_record_47 : decode cX7_record 47 = .ok (.putfield 43, 3) := by decide +kernel
theorem dX7_record_50 : decode cX7_record 50 = .ok (.iconst 0, 1) := by decide +kernel
theorem dX7_record_51 : decode cX7_record 51 = .ok (.istore_n 1, 1) := by decide +kernel
theorem dX7_record_52 : decode cX7_record 52 = .ok (.iload_n 1, 1) := by decide +kernel
theorem dX7_record_53 : decode cX7_record 53 = .ok (.sipush 340, 3) := by decide +kernel
theorem dX7_record_56 : decode cX7_record 56 = .ok (.if_icmp .ge 30, 3) := by decide +kernel
theorem dX7_record_59 : decode cX7_record 59 = .ok (.aload_n 0, 1) := by decide +kernel
theorem dX7_record_60 : decode cX7_record 60 = .ok (.getfield 13, 3) := by decide +kernel
theorem dX7_record_63 : decode cX7_record 63 = .ok (.sipush 340, 3) := by decide +kernel
theorem dX7_record_66 : decode cX7_record 66 = .ok (.aload_n 0, 1) := by decide +kernel
theorem dX7_record_67 : decode cX7_record 67 = .ok (.getfield 43, 3) := by decide +kernel
theorem dX7_record_70 : decode cX7_record 70 = .ok (.imul, 1) := by decide +kernel
theorem dX7_record_71 : decode cX7_record 71 = .ok (.iload_n 1, 1) := by decide +kernel
theorem dX7_record_72 : decode cX7_record 72 = .ok (.iadd, 1) := by decide +kernel
theorem dX7_record_73 : decode cX7_record 73 = .ok (.aload_n 0, 1) := by decide +kernel
theorem dX7_record_74 : decode cX7_record 74 = .ok (.getfield 7, 3) := by decide +kernel
theorem dX7_record_77 : decode cX7_record 77 = .ok (.iload_n 1, 1) := by decide +kernel
theorem dX7_record_78 : decode cX7_record 78 = .ok (.iaload, 1) := by decide +kernel
theorem dX7_record_79 : decode cX7_record 79 = .ok (.iastore, 1) := by decide +kernel
theorem dX7_record_80 : decode cX7_record 80 = .ok (.iinc 1 1, 3) := by decide +kernel
theorem dX7_record_83 : decode cX7_record 83 = .ok (.goto (-31), 3) := by decide +kernel
theorem dX7_record_86 : decode cX7_record 86 = .ok (.aload_n 0, 1) := by decide +kernel
theorem dX7_record_87 : decode cX7_record 87 = .ok (.dup, 1) := by decide +kernel
theorem dX7_record_88 : decode cX7_record 88 = .ok (.getfield 43, 3) := by decide +kernel
theorem dX7_record_91 : decode cX7_record 91 = .ok (.iconst 1, 1) := by decide +kernel
theorem dX7_record_92 : decode cX7_record 92 = .ok (.iadd, 1) := by decide +kernel
theorem dX7_record_93 : decode cX7_record 93 = .ok (.putfield 43, 3) := by decide +kernel
theorem dX7_record_96 : decode cX7_record 96 = .ok (.return_, 1) := by decide +kernel
theorem dX7_empties_0 : decode cX7_empties 0 = .ok (.iconst 0, 1) := by decide +kernel
theorem dX7_empties_1 : decode cX7_empties 1 = .ok (.istore_n 1, 1) := by decide +kernel
theorem dX7_empties_2 : decode cX7_empties 2 = .ok (.iload_n 1, 1) := by decide +kernel
theorem dX7_empties_3 : decode cX7_empties 3 = .ok (.bipush 34, 2) := by decide +kernel
theorem dX7_empties_5 : decode cX7_empties 5 = .ok (.if_icmp .ge 16, 3) := by decide +kernel
theorem dX7_empties_8 : decode cX7_empties 8 = .ok (.aload_n 0, 1) := by decide +kernel
theorem dX7_empties_9 : decode cX7_empties 9 = .ok (.getfield 7, 3) := by decide +kernel
theorem dX7_empties_12 : decode cX7_empties 12 = .ok (.iload_n 1, 1) := by decide +kernel
theorem dX7_empties_13 : decode cX7_empties 13 = .ok (.iconst 0, 1) := by decide +kernel
theorem dX7_empties_14 : decode cX7_empties 14 = .ok (.iastore, 1) := by decide +kernel
theorem dX7_empties_15 : decode cX7_empties 15 = .ok (.iinc 1 1, 3) := by decide +kernel
theorem dX7_empties_18 : decode cX7_empties 18 = .ok (.goto (-16), 3) := by decide +kernel
theorem dX7_empties_21 : decode cX7_empties 21 = .ok (.bipush 40, 2) := by decide +kernel
theorem dX7_empties_23 : decode cX7_empties 23 = .ok (.istore_n 1, 1) := by decide +kernel
theorem dX7_empties_24 : decode cX7_empties 24 = .ok (.iload_n 1, 1) := by decide +kernel
theorem dX7_empties_25 : decode cX7_empties 25 = .ok (.sipush 340, 3) := by decide +kernel
theorem dX7_empties_28 : decode cX7_empties 28 = .ok (.if_icmp .ge 16, 3) := by decide +kernel
theorem dX7_empties_31 : decode cX7_empties 31 = .ok (.aload_n 0, 1) := by decide +kernel
theorem dX7_empties_32 : decode cX7_empties 32 = .ok (.getfield 7, 3) := by decide +kernel
theorem dX7_empties_35 : decode cX7_empties 35 = .ok (.iload_n 1, 1) := by decide +kernel
theorem dX7_empties_36 : decode cX7_empties 36 = .ok (.iconst 0, 1) := by decide +kernel
theorem dX7_empties_37 : decode cX7_empties 37 = .ok (.iastore, 1) := by decide +kernel
theorem dX7_empties_38 : decode cX7_empties 38 = .ok (.iinc 1 1, 3) := by decide +kernel
theorem dX7_empties_41 : decode cX7_empties 41 = .ok (.goto (-17), 3) := by decide +kernel
theorem dX7_empties_44 : decode cX7_empties 44 = .ok (.return_, 1) := by decide +kernel
theorem dX7_anew_0 : decode cX7_anew 0 = .ok (.aload_n 0, 1) := by decide +kernel
theorem dX7_anew_1 : decode cX7_anew 1 = .ok (.invokevirtual 47, 3) := by decide +kernel
theorem dX7_anew_4 : decode cX7_anew 4 = .ok (.iconst 0, 1) := by decide +kernel
theorem dX7_anew_5 : decode cX7_anew 5 = .ok (.istore_n 1, 1) := by decide +kernel
theorem dX7_anew_6 : decode cX7_anew 6 = .ok (.iload_n 1, 1) := by decide +kernel
theorem dX7_anew_7 : decode cX7_anew 7 = .ok (.bipush 12, 2) := by decide +kernel
theorem dX7_anew_9 : decode cX7_anew 9 = .ok (.if_icmp .ge 24, 3) := by decide +kernel
theorem dX7_anew_12 : decode cX7_anew 12 = .ok (.aload_n 0, 1) := by decide +kernel
theorem dX7_anew_13 : decode cX7_anew 13 = .ok (.getfield 7, 3) := by decide +kernel
theorem dX7_anew_16 : decode cX7_anew 16 = .ok (.iconst 0, 1) := by decide +kernel
theorem dX7_anew_17 : decode cX7_anew 17 = .ok (.iload_n 1, 1) := by decide +kernel
theorem dX7_anew_18 : decode cX7_anew 18 = .ok (.iadd, 1) := by decide +kernel
theorem dX7_anew_19 : decode cX7_anew 19 = .ok (.aload_n 0, 1) := by decide +kernel
theorem dX7_anew_20 : decode cX7_anew 20 = .ok (.getfield 7, 3) := by decide +kernel
theorem dX7_anew_23 : decode cX7_anew 23 = .ok (.bipush 34, 2) := by decide +kernel
theorem dX7_anew_25 : decode cX7_anew 25 = .ok (.iaload, 1) := by decide +kernel
theorem dX7_anew_26 : decode cX7_anew 26 = .ok (.iastore, 1) := by decide +kernel
theorem dX7_anew_27 : decode cX7_anew 27 = .ok (.iinc 1 1, 3) := by decide +kernel
theorem dX7_anew_30 : decode cX7_anew 30 = .ok (.goto (-24), 3) := by decide +kernel
theorem dX7_anew_33 : decode cX7_anew 33 = .ok (.return_, 1) := by decide +kernel
theorem dX7_owner_0 : decode cX7_owner 0 = .ok (.iload_n 0, 1) := by decide +kernel
theorem dX7_owner_1 : decode cX7_owner 1 = .ok (.bipush 6, 2) := by decide +kernel
theorem dX7_owner_3 : decode cX7_owner 3 = .ok (.idiv, 1) := by decide +kernel
theorem dX7_owner_4 : decode cX7_owner 4 = .ok (.ireturn, 1) := by decide +kernel
theorem dX7_total_0 : decode cX7_total 0 = .ok (.aload_n 0, 1) := by decide +kernel
theorem dX7_total_1 : decode cX7_total 1 = .ok (.iload_n 1, 1) := by decide +kernel
theorem dX7_total_2 : decode cX7_total 2 = .ok (.bipush 24, 2) := by decide +kernel
theorem dX7_total_4 : decode cX7_total 4 = .ok (.iadd, 1) := by decide +kernel
theorem dX7_total_5 : decode cX7_total 5 = .ok (.iaload, 1) := by decide +kernel
theorem dX7_total_6 : decode cX7_total 6 = .ok (.aload_n 0, 1) := by decide +kernel
theorem dX7_total_7 : decode cX7_total 7 = .ok (.iload_n 1, 1) := by decide +kernel
theorem dX7_total_8 : decode cX7_total 8 = .ok (.bipush 24, 2) := by decide +kernel
theorem dX7_total_10 : decode cX7_total 10 = .ok (.iadd, 1) := by decide +kernel
theorem dX7_total_11 : decode cX7_total 11 = .ok (.iconst 1, 1) := by decide +kernel
theorem dX7_total_12 : decode cX7_total 12 = .ok (.iadd, 1) := by decide +kernel
theorem dX7_total_13 : decode cX7_total 13 = .ok (.iaload, 1) := by decide +kernel
theorem dX7_total_14 : decode cX7_total 14 = .ok (.iadd, 1) := by decide +kernel
theorem dX7_total_15 : decode cX7_total 15 = .ok (.istore_n 2, 1) := by decide +kernel
theorem dX7_total_16 : decode cX7_total 16 = .ok (.iconst 0, 1) := by decide +kernel
theorem dX7_total_17 : decode cX7_total 17 = .ok (.istore_n 3, 1) := by decide +kernel
theorem dX7_total_18 : decode cX7_total 18 = .ok (.iload_n 3, 1) := by decide +kernel
theorem dX7_total_19 : decode cX7_total 19 = .ok (.bipush 12, 2) := by decide +kernel
theorem dX7_total_21 : decode cX7_total 21 = .ok (.if_icmp .ge 19, 3) := by decide +kernel
theorem dX7_total_24 : decode cX7_total 24 = .ok (.iload_n 2, 1) := by decide +kernel
theorem dX7_total_25 : decode cX7_total 25 = .ok (.aload_n 0, 1) := by decide +kernel
theorem dX7_total_26 : decode cX7_total 26 = .ok (.iload_n 1, 1) := by decide +kernel
theorem dX7_total_27 : decode cX7_total 27 = .ok (.iconst 0, 1) := by decide +kernel
theorem dX7_total_28 : decode cX7_total 28 = .ok (.iadd, 1) := by decide +kernel
theorem dX7_total_29 : decode cX7_total 29 = .ok (.iload_n 3, 1) := by decide +kernel
theorem dX7_total_30 : decode cX7_total 30 = .ok (.iadd, 1) := by decide +kernel
theorem dX7_total_31 : decode cX7_total 31 = .ok (.iaload, 1) := by decide +kernel
theorem dX7_total_32 : decode cX7_total 32 = .ok (.iadd, 1) := by decide +kernel
theorem dX7_total_33 : decode cX7_total 33 = .ok (.istore_n 2, 1) := by decide +kernel
theorem dX7_total_34 : decode cX7_total 34 = .ok (.iinc 3 1, 3) := by decide +kernel
theorem dX7_total_37 : decode cX7_total 37 = .ok (.goto (-19), 3) := by decide +kernel
theorem dX7_total_40 : decode cX7_total 40 = .ok (.iload_n 2, 1) := by decide +kernel
theorem dX7_total_41 : decode cX7_total 41 = .ok (.ireturn, 1) := by decide +kernel
theorem dX7_seedsOf_0 : decode cX7_seedsOf 0 = .ok (.iconst 0, 1) := by decide +kernel
theorem dX7_seedsOf_1 : decode cX7_seedsOf 1 = .ok (.istore_n 3, 1) := by decide +kernel
theorem dX7_seedsOf_2 : decode cX7_seedsOf 2 = .ok (.bipush 6, 2) := by decide +kernel
theorem dX7_seedsOf_4 : decode cX7_seedsOf 4 = .ok (.iload_n 2, 1) := by decide +kernel
theorem dX7_seedsOf_5 : decode cX7_seedsOf 5 = .ok (.imul, 1) := by decide +kernel
theorem dX7_seedsOf_6 : decode cX7_seedsOf 6 = .ok (.istore 4, 2) := by decide +kernel
theorem dX7_seedsOf_8 : decode cX7_seedsOf 8 = .ok (.iload 4, 2) := by decide +kernel
theorem dX7_seedsOf_10 : decode cX7_seedsOf 10 = .ok (.bipush 6, 2) := by decide +kernel
theorem dX7_seedsOf_12 : decode cX7_seedsOf 12 = .ok (.iload_n 2, 1) := by decide +kernel
theorem dX7_seedsOf_13 : decode cX7_seedsOf 13 = .ok (.imul, 1) := by decide +kernel
theorem dX7_seedsOf_14 : decode cX7_seedsOf 14 = .ok (.bipush 6, 2) := by decide +kernel
theorem dX7_seedsOf_16 : decode cX7_seedsOf 16 = .ok (.iadd, 1) := by decide +kernel
theorem dX7_seedsOf_17 : decode cX7_seedsOf 17 = .ok (.if_icmp .ge 20, 3) := by decide +kernel
theorem dX7_seedsOf_20 : decode cX7_seedsOf 20 = .ok (.iload_n 3, 1) := by decide +kernel
theorem dX7_seedsOf_21 : decode cX7_seedsOf 21 = .ok (.aload_n 0, 1) := by decide +kernel
theorem dX7_seedsOf_22 : decode cX7_seedsOf 22 = .ok (.iload_n 1, 1) := by decide +kernel
theorem dX7_seedsOf_23 : decode cX7_seedsOf 23 = .ok (.iconst 0, 1) := by decide +kernel
theorem dX7_seedsOf_24 : decode cX7_seedsOf 24 = .ok (.iadd, 1) := by decide +kernel
theorem dX7_seedsOf_25 : decode cX7_seedsOf 25 = .ok (.iload 4, 2) := by decide +kernel
theorem dX7_seedsOf_27 : decode cX7_seedsOf 27 = .ok (.iadd, 1) := by decide +kernel
theorem dX7_seedsOf_28 : decode cX7_seedsOf 28 = .ok (.iaload, 1) := by decide +kernel
theorem dX7_seedsOf_29 : decode cX7_seedsOf 29 = .ok (.iadd, 1) := by decide +kernel
theorem dX7_seedsOf_30 : decode cX7_seedsOf 30 = .ok (.istore_n 3, 1) := by decide +kernel
theorem dX7_seedsOf_31 : decode cX7_seedsOf 31 = .ok (.iinc 4 1, 3) := by decide +kernel
theorem dX7_seedsOf_34 : decode cX7_seedsOf 34 = .ok (.goto (-26), 3) := by decide +kernel
theorem dX7_seedsOf_37 : decode cX7_seedsOf 37 = .ok (.iload_n 3, 1) := by decide +kernel
theorem dX7_seedsOf_38 : decode cX7_seedsOf 38 = .ok (.ireturn, 1) := by decide +kernel
theorem dX7_isHostile_0 : decode cX7_isHostile 0 = .ok (.aload_n 0, 1) := by decide +kernel
theorem dX7_isHostile_1 : decode cX7_isHostile 1 = .ok (.iload_n 1, 1) := by decide +kernel
theorem dX7_isHostile_2 : decode cX7_isHostile 2 = .ok (.bipush 12, 2) := by decide +kernel
theorem dX7_isHostile_4 : decode cX7_isHostile 4 = .ok (.iadd, 1) := by decide +kernel
theorem dX7_isHostile_5 : decode cX7_isHostile 5 = .ok (.iload_n 2, 1) := by decide +kernel
theorem dX7_isHostile_6 : decode cX7_isHostile 6 = .ok (.iadd, 1) := by decide +kernel
theorem dX7_isHostile_7 : decode cX7_isHostile 7 = .ok (.iaload, 1) := by decide +kernel
theorem dX7_isHostile_8 : decode cX7_isHostile 8 = .ok (.aload_n 0, 1) := by decide +kernel
theorem dX7_isHostile_9 : decode cX7_isHostile 9 = .ok (.iload_n 1, 1) := by decide +kernel
theorem dX7_isHostile_10 : decode cX7_isHostile 10 = .ok (.bipush 34, 2) := by decide +kernel
theorem dX7_isHostile_12 : decode cX7_isHostile 12 = .ok (.iadd, 1) := by decide +kernel
theorem dX7_isHostile_13 : decode cX7_isHostile 13 = .ok (.iconst 1, 1) := by decide +kernel
theorem dX7_isHostile_14 : decode cX7_isHostile 14 = .ok (.iadd, 1) := by decide +kernel
theorem dX7_isHostile_15 : decode cX7_isHostile 15 = .ok (.iaload, 1) := by decide +kernel
theorem dX7_isHostile_16 : decode cX7_isHostile 16 = .ok (.if_icmp .lt 7, 3) := by decide +kernel
theorem dX7_isHostile_19 : decode cX7_isHostile 19 = .ok (.iconst 1, 1) := by decide +kernel
theorem dX7_isHostile_20 : decode cX7_isHostile 20 = .ok (.goto 4, 3) := by decide +kernel
theorem dX7_isHostile_23 : decode cX7_isHostile 23 = .ok (.iconst 0, 1) := by decide +kernel
theorem dX7_isHostile_24 : decode cX7_isHostile 24 = .ok (.ireturn, 1) := by decide +kernel
theorem dX7_ends_0 : decode cX7_ends 0 = .ok (.aload_n 0, 1) := by decide +kernel
theorem dX7_ends_1 : decode cX7_ends 1 = .ok (.iload_n 1, 1) := by decide +kernel
theorem dX7_ends_2 : decode cX7_ends 2 = .ok (.invokestatic 50, 3) := by decide +kernel
theorem dX7_ends_5 : decode cX7_ends 5 = .ok (.istore_n 2, 1) := by decide +kernel
theorem dX7_ends_6 : decode cX7_ends 6 = .ok (.aload_n 0, 1) := by decide +kernel
theorem dX7_ends_7 : decode cX7_ends 7 = .ok (.iload_n 1, 1) := by decide +kernel
theorem dX7_ends_8 : decode cX7_ends 8 = .ok (.iconst 0, 1) := by decide +kernel
theorem dX7_ends_9 : decode cX7_ends 9 = .ok (.invokestatic 54, 3) := by decide +kernel
theorem dX7_ends_12 : decode cX7_ends 12 = .ok (.aload_n 0, 1) := by decide +kernel
theorem dX7_ends_13 : decode cX7_ends 13 = .ok (.iload_n 1, 1) := by decide +kernel
theorem dX7_ends_14 : decode cX7_ends 14 = .ok (.iconst 1, 1) := by decide +kernel
theorem dX7_ends_15 : decode cX7_ends 15 = .ok (.invokestatic 54, 3) := by decide +kernel
theorem dX7_ends_18 : decode cX7_ends 18 = .ok (.iadd, 1) := by decide +kernel
theorem dX7_ends_19 : decode cX7_ends 19 = .ok (.ifCond .eq 41, 3) := by decide +kernel
theorem dX7_ends_22 : decode cX7_ends 22 = .ok (.aload_n 0, 1) := by decide +kernel
theorem dX7_ends_23 : decode cX7_ends 23 = .ok (.iload_n 1, 1) := by decide +kernel
theorem dX7_ends_24 : decode cX7_ends 24 = .ok (.bipush 28, 2) := by decide +kernel
theorem dX7_ends_26 : decode cX7_ends 26 = .ok (.iadd, 1) := by decide +kernel
theorem dX7_ends_27 : decode cX7_ends 27 = .ok (.iaload, 1) := by decide +kernel
theorem dX7_ends_28 : decode cX7_ends 28 = .ok (.sipush 300, 3) := by decide +kernel
theorem dX7_ends_31 : decode cX7_ends 31 = .ok (.if_icmp .eq 29, 3) := by decide +kernel
theorem dX7_ends_34 : decode cX7_ends 34 = .ok (.iconst 2, 1) := by decide +kernel
theorem dX7_ends_35 : decode cX7_ends 35 = .ok (.aload_n 0, 1) := by decide +kernel
theorem dX7_ends_36 : decode cX7_ends 36 = .ok (.iload_n 1, 1) := by decide +kernel
theorem dX7_ends_37 : decode cX7_ends 37 = .ok (.bipush 24, 2) := by decide +kernel
theorem dX7_ends_39 : decode cX7_ends 39 = .ok (.iadd, 1) := by decide +kernel
theorem dX7_ends_40 : decode cX7_ends 40 = .ok (.iaload, 1) := by decide +kernel
theorem dX7_ends_41 : decode cX7_ends 41 = .ok (.imul, 1) := by decide +kernel
theorem dX7_ends_42 : decode cX7_ends 42 = .ok (.iload_n 2, 1) := by decide +kernel
theorem dX7_ends_43 : decode cX7_ends 43 = .ok (.if_icmp .gt 17, 3) := by decide +kernel
theorem dX7_ends_46 : decode cX7_ends 46 = .ok (.iconst 2, 1) := by decide +kernel
theorem dX7_ends_47 : decode cX7_ends 47 = .ok (.aload_n 0, 1) := by decide +kernel
theorem dX7_ends_48 : decode cX7_ends 48 = .ok (.iload_n 1, 1) := by decide +kernel
theorem dX7_ends_49 : decode cX7_ends 49 = .ok (.bipush 24, 2) := by decide +kernel
theorem dX7_ends_51 : decode cX7_ends 51 = .ok (.iadd, 1) := by decide +kernel
theorem dX7_ends_52 : decode cX7_ends 52 = .ok (.iconst 1, 1) := by decide +kernel
theorem dX7_ends_53 : decode cX7_ends 53 = .ok (.iadd, 1) := by decide +kernel
theorem dX7_ends_54 : decode cX7_ends 54 = .ok (.iaload, 1) := by decide +kernel
theorem dX7_ends_55 : decode cX7_ends 55 = .ok (.imul, 1) := by decide +kernel
theorem dX7_ends_56 : decode cX7_ends 56 = .ok (.iload_n 2, 1) := by decide +kernel
theorem dX7_ends_57 : decode cX7_ends 57 = .ok (.if_icmp .le 7, 3) := by decide +kernel
theorem dX7_ends_60 : decode cX7_ends 60 = .ok (.iconst 1, 1) := by decide +kernel
theorem dX7_ends_61 : decode cX7_ends 61 = .ok (.goto 4, 3) := by decide +kernel
theorem dX7_ends_64 : decode cX7_ends 64 = .ok (.iconst 0, 1) := by decide +kernel
theorem dX7_ends_65 : decode cX7_ends 65 = .ok (.istore_n 3, 1) := by decide +kernel
theorem dX7_ends_66 : decode cX7_ends 66 = .ok (.iconst 0, 1) := by decide +kernel
theorem dX7_ends_67 : decode cX7_ends 67 = .ok (.istore 4, 2) := by decide +kernel
theorem dX7_ends_69 : decode cX7_ends 69 = .ok (.iload 4, 2) := by decide +kernel
theorem dX7_ends_71 : decode cX7_ends 71 = .ok (.bipush 12, 2) := by decide +kernel
theorem dX7_ends_73 : decode cX7_ends 73 = .ok (.if_icmp .ge 45, 3) := by decide +kernel
theorem dX7_ends_76 : decode cX7_ends 76 = .ok (.iload_n 3, 1) := by decide +kernel
theorem dX7_ends_77 : decode cX7_ends 77 = .ok (.ifCond .eq 41, 3) := by decide +kernel
theorem dX7_ends_80 : decode cX7_ends 80 = .ok (.aload_n 0, 1) := by decide +kernel
theorem dX7_ends_81 : decode cX7_ends 81 = .ok (.iload_n 1, 1) := by decide +kernel
theorem dX7_ends_82 : decode cX7_ends 82 = .ok (.bipush 24, 2) := by decide +kernel
theorem dX7_ends_84 : decode cX7_ends 84 = .ok (.iadd, 1) := by decide +kernel
theorem dX7_ends_85 : decode cX7_ends 85 = .ok (.iload 4, 2) := by decide +kernel
theorem dX7_ends_87 : decode cX7_ends 87 = .ok (.invokestatic 58, 3) := by decide +kernel
theorem dX7_ends_90 : decode cX7_ends 90 = .ok (.iadd, 1) := by decide +kernel
theorem dX7_ends_91 : decode cX7_ends 91 = .ok (.dup2, 1) := by decide +kernel
theorem dX7_ends_92 : decode cX7_ends 92 = .ok (.iaload, 1) := by decide +kernel
theorem dX7_ends_93 : decode cX7_ends 93 = .ok (.aload_n 0, 1) := by decide +kernel
theorem dX7_ends_94 : decode cX7_ends 94 = .ok (.iload_n 1, 1) := by decide +kernel
theorem dX7_ends_95 : decode cX7_ends 95 = .ok (.iconst 0, 1) := by decide +kernel
theorem dX7_ends_96 : decode cX7_ends 96 = .ok (.iadd, 1) := by decide +kernel
theorem dX7_ends_97 : decode cX7_ends 97 = .ok (.iload 4, 2) := by decide +kernel
theorem dX7_ends_99 : decode cX7_ends 99 = .ok (.iadd, 1) := by decide +kernel
theorem dX7_ends_100 : decode cX7_ends 100 = .ok (.iaload, 1) := by decide +kernel
theorem dX7_ends_101 : decode cX7_ends 101 = .ok (.iadd, 1) := by decide +kernel
theorem dX7_ends_102 : decode cX7_ends 102 = .ok (.iastore, 1) := by decide +kernel
theorem dX7_ends_103 : decode cX7_ends 103 = .ok (.aload_n 0, 1) := by decide +kernel
theorem dX7_ends_104 : decode cX7_ends 104 = .ok (.iload_n 1, 1) := by decide +kernel
theorem dX7_ends_105 : decode cX7_ends 105 = .ok (.iconst 0, 1) := by decide +kernel
theorem dX7_ends_106 : decode cX7_ends 106 = .ok (.iadd, 1) := by decide +kernel
theorem dX7_ends_107 : decode cX7_ends 107 = .ok (.iload 4, 2) := by decide +kernel
theorem dX7_ends_109 : decode cX7_ends 109 = .ok (.iadd, 1) := by decide +kernel
theorem dX7_ends_110 : decode cX7_ends 110 = .ok (.iconst 0, 1) := by decide +kernel
theorem dX7_ends_111 : decode cX7_ends 111 = .ok (.iastore, 1) := by decide +kernel
theorem dX7_ends_112 : decode cX7_ends 112 = .ok (.iinc 4 1, 3) := by decide +kernel
theorem dX7_ends_115 : decode cX7_ends 115 = .ok (.goto (-46), 3) := by decide +kernel
theorem dX7_ends_118 : decode cX7_ends 118 = .ok (.aload_n 0, 1) := by decide +kernel
theorem dX7_ends_119 : decode cX7_ends 119 = .ok (.iload_n 1, 1) := by decide +kernel
theorem dX7_ends_120 : decode cX7_ends 120 = .ok (.bipush 27, 2) := by decide +kernel
theorem dX7_ends_122 : decode cX7_ends 122 = .ok (.iadd, 1) := by decide +kernel
theorem dX7_ends_123 : decode cX7_ends 123 = .ok (.iload_n 3, 1) := by decide +kernel
theorem dX7_ends_124 : decode cX7_ends 124 = .ok (.ifCond .eq 7, 3) := by decide +kernel
theorem dX7_ends_127 : decode cX7_ends 127 = .ok (.iconst 1, 1) := by decide +kernel
theorem dX7_ends_128 : decode cX7_ends 128 = .ok (.goto 4, 3) := by decide +kernel
theorem dX7_ends_131 : decode cX7_ends 131 = .ok (.iconst 0, 1) := by decide +kernel
theorem dX7_ends_132 : decode cX7_ends 132 = .ok (.iastore, 1) := by decide +kernel
theorem dX7_ends_133 : decode cX7_ends 133 = .ok (.iload_n 3, 1) := by decide +kernel
theorem dX7_ends_134 : decode cX7_ends 134 = .ok (.ireturn, 1) := by decide +kernel
theorem dX7_sows_0 : decode cX7_sows 0 = .ok (.aload_n 0, 1) := by decide +kernel
theorem dX7_sows_1 : decode cX7_sows 1 = .ok (.iload_n 1, 1) := by decide +kernel
theorem dX7_sows_2 : decode cX7_sows 2 = .ok (.iconst 0, 1) := by decide +kernel
theorem dX7_sows_3 : decode cX7_sows 3 = .ok (.iadd, 1) := by decide +kernel
theorem dX7_sows_4 : decode cX7_sows 4 = .ok (.iload_n 2, 1) := by decide +kernel
theorem dX7_sows_5 : decode cX7_sows 5 = .ok (.iadd, 1) := by decide +kernel
theorem dX7_sows_6 : decode cX7_sows 6 = .ok (.iaload, 1) := by decide +kernel
theorem dX7_sows_7 : decode cX7_sows 7 = .ok (.istore 4, 2) := by decide +kernel
theorem dX7_sows_9 : decode cX7_sows 9 = .ok (.aload_n 0, 1) := by decide +kernel
theorem dX7_sows_10 : decode cX7_sows 10 = .ok (.iload_n 1, 1) := by decide +kernel
theorem dX7_sows_11 : decode cX7_sows 11 = .ok (.iconst 0, 1) := by decide +kernel
theorem dX7_sows_12 : decode cX7_sows 12 = .ok (.iadd, 1) := by decide +kernel
theorem dX7_sows_13 : decode cX7_sows 13 = .ok (.iload_n 2, 1) := by decide +kernel
theorem dX7_sows_14 : decode cX7_sows 14 = .ok (.iadd, 1) := by decide +kernel
theorem dX7_sows_15 : decode cX7_sows 15 = .ok (.iconst 0, 1) := by decide +kernel
theorem dX7_sows_16 : decode cX7_sows 16 = .ok (.iastore, 1) := by decide +kernel
theorem dX7_sows_17 : decode cX7_sows 17 = .ok (.iload_n 2, 1) := by decide +kernel
theorem dX7_sows_18 : decode cX7_sows 18 = .ok (.istore 5, 2) := by decide +kernel
theorem dX7_sows_20 : decode cX7_sows 20 = .ok (.iload 4, 2) := by decide +kernel
theorem dX7_sows_22 : decode cX7_sows 22 = .ok (.ifCond .le 107, 3) := by decide +kernel
theorem dX7_sows_25 : decode cX7_sows 25 = .ok (.iload 5, 2) := by decide +kernel
theorem dX7_sows_27 : decode cX7_sows 27 = .ok (.iconst 1, 1) := by decide +kernel
theorem dX7_sows_28 : decode cX7_sows 28 = .ok (.iadd, 1) := by decide +kernel
theorem dX7_sows_29 : decode cX7_sows 29 = .ok (.bipush 12, 2) := by decide +kernel
theorem dX7_sows_31 : decode cX7_sows 31 = .ok (.irem, 1) := by decide +kernel
theorem dX7_sows_32 : decode cX7_sows 32 = .ok (.istore 5, 2) := by decide +kernel
theorem dX7_sows_34 : decode cX7_sows 34 = .ok (.iload 5, 2) := by decide +kernel
theorem dX7_sows_36 : decode cX7_sows 36 = .ok (.iload_n 2, 1) := by decide +kernel
theorem dX7_sows_37 : decode cX7_sows 37 = .ok (.if_icmp .eq (-17), 3) := by decide +kernel
theorem dX7_sows_40 : decode cX7_sows 40 = .ok (.aload_n 0, 1) := by decide +kernel
theorem dX7_sows_41 : decode cX7_sows 41 = .ok (.iload_n 1, 1) := by decide +kernel
theorem dX7_sows_42 : decode cX7_sows 42 = .ok (.bipush 34, 2) := by decide +kernel
theorem dX7_sows_44 : decode cX7_sows 44 = .ok (.iadd, 1) := by decide +kernel
theorem dX7_sows_45 : decode cX7_sows 45 = .ok (.iconst 3, 1) := by decide +kernel
theorem dX7_sows_46 : decode cX7_sows 46 = .ok (.iadd, 1) := by decide +kernel
theorem dX7_sows_47 : decode cX7_sows 47 = .ok (.iaload, 1) := by decide +kernel
theorem dX7_sows_48 : decode cX7_sows 48 = .ok (.istore 6, 2) := by decide +kernel
theorem dX7_sows_50 : decode cX7_sows 50 = .ok (.iload 5, 2) := by decide +kernel
theorem dX7_sows_52 : decode cX7_sows 52 = .ok (.invokestatic 58, 3) := by decide +kernel
theorem dX7_sows_55 : decode cX7_sows 55 = .ok (.iload_n 3, 1) := by decide +kernel
theorem dX7_sows_56 : decode cX7_sows 56 = .ok (.if_icmp .eq 55, 3) := by decide +kernel
theorem dX7_sows_59 : decode cX7_sows 59 = .ok (.aload_n 0, 1) := by decide +kernel
theorem dX7_sows_60 : decode cX7_sows 60 = .ok (.iload_n 1, 1) := by decide +kernel
theorem dX7_sows_61 : decode cX7_sows 61 = .ok (.iload 5, 2) := by decide +kernel
theorem dX7_sows_63 : decode cX7_sows 63 = .ok (.invokestatic 62, 3) := by decide +kernel
theorem dX7_sows_66 : decode cX7_sows 66 = .ok (.ifCond .eq 45, 3) := by decide +kernel
theorem dX7_sows_69 : decode cX7_sows 69 = .ok (.iload 4, 2) := by decide +kernel
theorem dX7_sows_71 : decode cX7_sows 71 = .ok (.iload 6, 2) := by decide +kernel
theorem dX7_sows_73 : decode cX7_sows 73 = .ok (.if_icmp .le 38, 3) := by decide +kernel
theorem dX7_sows_76 : decode cX7_sows 76 = .ok (.iload 4, 2) := by decide +kernel
theorem dX7_sows_78 : decode cX7_sows 78 = .ok (.iload 6, 2) := by decide +kernel
theorem dX7_sows_80 : decode cX7_sows 80 = .ok (.isub, 1) := by decide +kernel
theorem dX7_sows_81 : decode cX7_sows 81 = .ok (.istore 4, 2) := by decide +kernel
theorem dX7_sows_83 : decode cX7_sows 83 = .ok (.aload_n 0, 1) := by decide +kernel
theorem dX7_sows_84 : decode cX7_sows 84 = .ok (.iload_n 1, 1) := by decide +kernel
theorem dX7_sows_85 : decode cX7_sows 85 = .ok (.bipush 24, 2) := by decide +kernel
theorem dX7_sows_87 : decode cX7_sows 87 = .ok (.iadd, 1) := by decide +kernel
theorem dX7_sows_88 : decode cX7_sows 88 = .ok (.iconst 1, 1) := by decide +kernel
theorem dX7_sows_89 : decode cX7_sows 89 = .ok (.iadd, 1) := by decide +kernel
theorem dX7_sows_90 : decode cX7_sows 90 = .ok (.iload_n 3, 1) := by decide +kernel
theorem dX7_sows_91 : decode cX7_sows 91 = .ok (.isub, 1) := by decide +kernel
theorem dX7_sows_92 : decode cX7_sows 92 = .ok (.dup2, 1) := by decide +kernel
theorem dX7_sows_93 : decode cX7_sows 93 = .ok (.iaload, 1) := by decide +kernel
theorem dX7_sows_94 : decode cX7_sows 94 = .ok (.iload 6, 2) := by decide +kernel
theorem dX7_sows_96 : decode cX7_sows 96 = .ok (.iadd, 1) := by decide +kernel
theorem dX7_sows_97 : decode cX7_sows 97 = .ok (.iastore, 1) := by decide +kernel
theorem dX7_sows_98 : decode cX7_sows 98 = .ok (.aload_n 0, 1) := by decide +kernel
theorem dX7_sows_99 : decode cX7_sows 99 = .ok (.iload_n 1, 1) := by decide +kernel
theorem dX7_sows_100 : decode cX7_sows 100 = .ok (.bipush 29, 2) := by decide +kernel
theorem dX7_sows_102 : decode cX7_sows 102 = .ok (.iadd, 1) := by decide +kernel
theorem dX7_sows_103 : decode cX7_sows 103 = .ok (.iconst 4, 1) := by decide +kernel
theorem dX7_sows_104 : decode cX7_sows 104 = .ok (.iadd, 1) := by decide +kernel
theorem dX7_sows_105 : decode cX7_sows 105 = .ok (.dup2, 1) := by decide +kernel
theorem dX7_sows_106 : decode cX7_sows 106 = .ok (.iaload, 1) := by decide +kernel
theorem dX7_sows_107 : decode cX7_sows 107 = .ok (.iload 6, 2) := by decide +kernel
theorem dX7_sows_109 : decode cX7_sows 109 = .ok (.iadd, 1) := by decide +kernel
theorem dX7_sows_110 : decode cX7_sows 110 = .ok (.iastore, 1) := by decide +kernel
theorem dX7_sows_111 : decode cX7_sows 111 = .ok (.aload_n 0, 1) := by decide +kernel
theorem dX7_sows_112 : decode cX7_sows 112 = .ok (.iload_n 1, 1) := by decide +kernel
theorem dX7_sows_113 : decode cX7_sows 113 = .ok (.iconst 0, 1) := by decide +kernel
theorem dX7_sows_114 : decode cX7_sows 114 = .ok (.iadd, 1) := by decide +kernel
theorem dX7_sows_115 : decode cX7_sows 115 = .ok (.iload 5, 2) := by decide +kernel
theorem dX7_sows_117 : decode cX7_sows 117 = .ok (.iadd, 1) := by decide +kernel
theorem dX7_sows_118 : decode cX7_sows 118 = .ok (.dup2, 1) := by decide +kernel
theorem dX7_sows_119 : decode cX7_sows 119 = .ok (.iaload, 1) := by decide +kernel
theorem dX7_sows_120 : decode cX7_sows 120 = .ok (.iconst 1, 1) := by decide +kernel
theorem dX7_sows_121 : decode cX7_sows 121 = .ok (.iadd, 1) := by decide +kernel
theorem dX7_sows_122 : decode cX7_sows 122 = .ok (.iastore, 1) := by decide +kernel
theorem dX7_sows_123 : decode cX7_sows 123 = .ok (.iinc 4 (-1), 3) := by decide +kernel
theorem dX7_sows_126 : decode cX7_sows 126 = .ok (.goto (-106), 3) := by decide +kernel
theorem dX7_sows_129 : decode cX7_sows 129 = .ok (.iload 5, 2) := by decide +kernel
theorem dX7_sows_131 : decode cX7_sows 131 = .ok (.ireturn, 1) := by decide +kernel
theorem dX7_captures_0 : decode cX7_captures 0 = .ok (.bipush 11, 2) := by decide +kernel
theorem dX7_captures_2 : decode cX7_captures 2 = .ok (.iload_n 2, 1) := by decide +kernel
theorem dX7_captures_3 : decode cX7_captures 3 = .ok (.isub, 1) := by decide +kernel
theorem dX7_captures_4 : decode cX7_captures 4 = .ok (.istore 4, 2) := by decide +kernel
theorem dX7_captures_6 : decode cX7_captures 6 = .ok (.aload_n 0, 1) := by decide +kernel
theorem dX7_captures_7 : decode cX7_captures 7 = .ok (.iload_n 1, 1) := by decide +kernel
theorem dX7_captures_8 : decode cX7_captures 8 = .ok (.iconst 0, 1) := by decide +kernel
theorem dX7_captures_9 : decode cX7_captures 9 = .ok (.iadd, 1) := by decide +kernel
theorem dX7_captures_10 : decode cX7_captures 10 = .ok (.iload_n 2, 1) := by decide +kernel
theorem dX7_captures_11 : decode cX7_captures 11 = .ok (.iadd, 1) := by decide +kernel
theorem dX7_captures_12 : decode cX7_captures 12 = .ok (.iaload, 1) := by decide +kernel
theorem dX7_captures_13 : decode cX7_captures 13 = .ok (.aload_n 0, 1) := by decide +kernel
theorem dX7_captures_14 : decode cX7_captures 14 = .ok (.iload_n 1, 1) := by decide +kernel
theorem dX7_captures_15 : decode cX7_captures 15 = .ok (.iconst 0, 1) := by decide +kernel
theorem dX7_captures_16 : decode cX7_captures 16 = .ok (.iadd, 1) := by decide +kernel
theorem dX7_captures_17 : decode cX7_captures 17 = .ok (.iload 4, 2) := by decide +kernel
theorem dX7_captures_19 : decode cX7_captures 19 = .ok (.iadd, 1) := by decide +kernel
theorem dX7_captures_20 : decode cX7_captures 20 = .ok (.iaload, 1) := by decide +kernel
theorem dX7_captures_21 : decode cX7_captures 21 = .ok (.iadd, 1) := by decide +kernel
theorem dX7_captures_22 : decode cX7_captures 22 = .ok (.istore 5, 2) := by decide +kernel
theorem dX7_captures_24 : decode cX7_captures 24 = .ok (.aload_n 0, 1) := by decide +kernel
theorem dX7_captures_25 : decode cX7_captures 25 = .ok (.iload_n 1, 1) := by decide +kernel
theorem dX7_captures_26 : decode cX7_captures 26 = .ok (.bipush 24, 2) := by decide +kernel
theorem dX7_captures_28 : decode cX7_captures 28 = .ok (.iadd, 1) := by decide +kernel
theorem dX7_captures_29 : decode cX7_captures 29 = .ok (.iload_n 3, 1) := by decide +kernel
theorem dX7_captures_30 : decode cX7_captures 30 = .ok (.iadd, 1) := by decide +kernel
theorem dX7_captures_31 : decode cX7_captures 31 = .ok (.dup2, 1) := by decide +kernel
theorem dX7_captures_32 : decode cX7_captures 32 = .ok (.iaload, 1) := by decide +kernel
theorem dX7_captures_33 : decode cX7_captures 33 = .ok (.iload 5, 2) := by decide +kernel
theorem dX7_captures_35 : decode cX7_captures 35 = .ok (.iadd, 1) := by decide +kernel
theorem dX7_captures_36 : decode cX7_captures 36 = .ok (.iastore, 1) := by decide +kernel
theorem dX7_captures_37 : decode cX7_captures 37 = .ok (.aload_n 0, 1) := by decide +kernel
theorem dX7_captures_38 : decode cX7_captures 38 = .ok (.iload_n 1, 1) := by decide +kernel
theorem dX7_captures_39 : decode cX7_captures 39 = .ok (.iconst 0, 1) := by decide +kernel
theorem dX7_captures_40 : decode cX7_captures 40 = .ok (.iadd, 1) := by decide +kernel
theorem dX7_captures_41 : decode cX7_captures 41 = .ok (.iload_n 2, 1) := by decide +kernel
theorem dX7_captures_42 : decode cX7_captures 42 = .ok (.iadd, 1) := by decide +kernel
theorem dX7_captures_43 : decode cX7_captures 43 = .ok (.iconst 0, 1) := by decide +kernel
theorem dX7_captures_44 : decode cX7_captures 44 = .ok (.iastore, 1) := by decide +kernel
theorem dX7_captures_45 : decode cX7_captures 45 = .ok (.aload_n 0, 1) := by decide +kernel
theorem dX7_captures_46 : decode cX7_captures 46 = .ok (.iload_n 1, 1) := by decide +kernel
theorem dX7_captures_47 : decode cX7_captures 47 = .ok (.iconst 0, 1) := by decide +kernel
theorem dX7_captures_48 : decode cX7_captures 48 = .ok (.iadd, 1) := by decide +kernel
theorem dX7_captures_49 : decode cX7_captures 49 = .ok (.iload 4, 2) := by decide +kernel
theorem dX7_captures_51 : decode cX7_captures 51 = .ok (.iadd, 1) := by decide +kernel
theorem dX7_captures_52 : decode cX7_captures 52 = .ok (.iconst 0, 1) := by decide +kernel
theorem dX7_captures_53 : decode cX7_captures 53 = .ok (.iastore, 1) := by decide +kernel
theorem dX7_captures_54 : decode cX7_captures 54 = .ok (.aload_n 0, 1) := by decide +kernel
theorem dX7_captures_55 : decode cX7_captures 55 = .ok (.iload_n 1, 1) := by decide +kernel
theorem dX7_captures_56 : decode cX7_captures 56 = .ok (.bipush 12, 2) := by decide +kernel
theorem dX7_captures_58 : decode cX7_captures 58 = .ok (.iadd, 1) := by decide +kernel
theorem dX7_captures_59 : decode cX7_captures 59 = .ok (.iload 4, 2) := by decide +kernel
theorem dX7_captures_61 : decode cX7_captures 61 = .ok (.iadd, 1) := by decide +kernel
theorem dX7_captures_62 : decode cX7_captures 62 = .ok (.iconst 0, 1) := by decide +kernel
theorem dX7_captures_63 : decode cX7_captures 63 = .ok (.iastore, 1) := by decide +kernel
theorem dX7_captures_64 : decode cX7_captures 64 = .ok (.aload_n 0, 1) := by decide +kernel
theorem dX7_captures_65 : decode cX7_captures 65 = .ok (.iload_n 1, 1) := by decide +kernel
theorem dX7_captures_66 : decode cX7_captures 66 = .ok (.bipush 29, 2) := by decide +kernel
theorem dX7_captures_68 : decode cX7_captures 68 = .ok (.iadd, 1) := by decide +kernel
theorem dX7_captures_69 : decode cX7_captures 69 = .ok (.iconst 3, 1) := by decide +kernel
theorem dX7_captures_70 : decode cX7_captures 70 = .ok (.iadd, 1) := by decide +kernel
theorem dX7_captures_71 : decode cX7_captures 71 = .ok (.iload 5, 2) := by decide +kernel
theorem dX7_captures_73 : decode cX7_captures 73 = .ok (.iastore, 1) := by decide +kernel
theorem dX7_captures_74 : decode cX7_captures 74 = .ok (.return_, 1) := by decide +kernel
theorem dX7_moves_0 : decode cX7_moves 0 = .ok (.aload_n 0, 1) := by decide +kernel
theorem dX7_moves_1 : decode cX7_moves 1 = .ok (.iload_n 1, 1) := by decide +kernel
theorem dX7_moves_2 : decode cX7_moves 2 = .ok (.bipush 26, 2) := by decide +kernel
theorem dX7_moves_4 : decode cX7_moves 4 = .ok (.iadd, 1) := by decide +kernel
theorem dX7_moves_5 : decode cX7_moves 5 = .ok (.iaload, 1) := by decide +kernel
theorem dX7_moves_6 : decode cX7_moves 6 = .ok (.istore_n 3, 1) := by decide +kernel
theorem dX7_moves_7 : decode cX7_moves 7 = .ok (.iconst 0, 1) := by decide +kernel
theorem dX7_moves_8 : decode cX7_moves 8 = .ok (.istore 4, 2) := by decide +kernel
theorem dX7_moves_10 : decode cX7_moves 10 = .ok (.iload 4, 2) := by decide +kernel
theorem dX7_moves_12 : decode cX7_moves 12 = .ok (.iconst 5, 1) := by decide +kernel
theorem dX7_moves_13 : decode cX7_moves 13 = .ok (.if_icmp .ge 19, 3) := by decide +kernel
theorem dX7_moves_16 : decode cX7_moves 16 = .ok (.aload_n 0, 1) := by decide +kernel
theorem dX7_moves_17 : decode cX7_moves 17 = .ok (.iload_n 1, 1) := by decide +kernel
theorem dX7_moves_18 : decode cX7_moves 18 = .ok (.bipush 29, 2) := by decide +kernel
theorem dX7_moves_20 : decode cX7_moves 20 = .ok (.iadd, 1) := by decide +kernel
theorem dX7_moves_21 : decode cX7_moves 21 = .ok (.iload 4, 2) := by decide +kernel
theorem dX7_moves_23 : decode cX7_moves 23 = .ok (.iadd, 1) := by decide +kernel
theorem dX7_moves_24 : decode cX7_moves 24 = .ok (.iconst 0, 1) := by decide +kernel
theorem dX7_moves_25 : decode cX7_moves 25 = .ok (.iastore, 1) := by decide +kernel
theorem dX7_moves_26 : decode cX7_moves 26 = .ok (.iinc 4 1, 3) := by decide +kernel
theorem dX7_moves_29 : decode cX7_moves 29 = .ok (.goto (-19), 3) := by decide +kernel
theorem dX7_moves_32 : decode cX7_moves 32 = .ok (.iload_n 2, 1) := by decide +kernel
theorem dX7_moves_33 : decode cX7_moves 33 = .ok (.istore 4, 2) := by decide +kernel
theorem dX7_moves_35 : decode cX7_moves 35 = .ok (.iconst 1, 1) := by decide +kernel
theorem dX7_moves_36 : decode cX7_moves 36 = .ok (.istore 5, 2) := by decide +kernel
theorem dX7_moves_38 : decode cX7_moves 38 = .ok (.iload 5, 2) := by decide +kernel
theorem dX7_moves_40 : decode cX7_moves 40 = .ok (.ifCond .eq 148, 3) := by decide +kernel
theorem dX7_moves_43 : decode cX7_moves 43 = .ok (.aload_n 0, 1) := by decide +kernel
theorem dX7_moves_44 : decode cX7_moves 44 = .ok (.iload_n 1, 1) := by decide +kernel
theorem dX7_moves_45 : decode cX7_moves 45 = .ok (.iload 4, 2) := by decide +kernel
theorem dX7_moves_47 : decode cX7_moves 47 = .ok (.iload_n 3, 1) := by decide +kernel
theorem dX7_moves_48 : decode cX7_moves 48 = .ok (.invokestatic 66, 3) := by decide +kernel
theorem dX7_moves_51 : decode cX7_moves 51 = .ok (.istore 4, 2) := by decide +kernel
theorem dX7_moves_53 : decode cX7_moves 53 = .ok (.aload_n 0, 1) := by decide +kernel
theorem dX7_moves_54 : decode cX7_moves 54 = .ok (.iload_n 1, 1) := by decide +kernel
theorem dX7_moves_55 : decode cX7_moves 55 = .ok (.bipush 29, 2) := by decide +kernel
theorem dX7_moves_57 : decode cX7_moves 57 = .ok (.iadd, 1) := by decide +kernel
theorem dX7_moves_58 : decode cX7_moves 58 = .ok (.iconst 1, 1) := by decide +kernel
theorem dX7_moves_59 : decode cX7_moves 59 = .ok (.iadd, 1) := by decide +kernel
theorem dX7_moves_60 : decode cX7_moves 60 = .ok (.dup2, 1) := by decide +kernel
theorem dX7_moves_61 : decode cX7_moves 61 = .ok (.iaload, 1) := by decide +kernel
theorem dX7_moves_62 : decode cX7_moves 62 = .ok (.iconst 1, 1) := by decide +kernel
theorem dX7_moves_63 : decode cX7_moves 63 = .ok (.iadd, 1) := by decide +kernel
theorem dX7_moves_64 : decode cX7_moves 64 = .ok (.iastore, 1) := by decide +kernel
theorem dX7_moves_65 : decode cX7_moves 65 = .ok (.aload_n 0, 1) := by decide +kernel
theorem dX7_moves_66 : decode cX7_moves 66 = .ok (.iload_n 1, 1) := by decide +kernel
theorem dX7_moves_67 : decode cX7_moves 67 = .ok (.iconst 0, 1) := by decide +kernel
theorem dX7_moves_68 : decode cX7_moves 68 = .ok (.iadd, 1) := by decide +kernel
theorem dX7_moves_69 : decode cX7_moves 69 = .ok (.iload 4, 2) := by decide +kernel
theorem dX7_moves_71 : decode cX7_moves 71 = .ok (.iadd, 1) := by decide +kernel
theorem dX7_moves_72 : decode cX7_moves 72 = .ok (.iaload, 1) := by decide +kernel
theorem dX7_moves_73 : decode cX7_moves 73 = .ok (.iconst 1, 1) := by decide +kernel
theorem dX7_moves_74 : decode cX7_moves 74 = .ok (.if_icmp .le 7, 3) := by decide +kernel
theorem dX7_moves_77 : decode cX7_moves 77 = .ok (.iconst 1, 1) := by decide +kernel
theorem dX7_moves_78 : decode cX7_moves 78 = .ok (.goto 4, 3) := by decide +kernel
theorem dX7_moves_81 : decode cX7_moves 81 = .ok (.iconst 0, 1) := by decide +kernel
theorem dX7_moves_82 : decode cX7_moves 82 = .ok (.istore 6, 2) := by decide +kernel
theorem dX7_moves_84 : decode cX7_moves 84 = .ok (.aload_n 0, 1) := by decide +kernel
theorem dX7_moves_85 : decode cX7_moves 85 = .ok (.iload_n 1, 1) := by decide +kernel
theorem dX7_moves_86 : decode cX7_moves 86 = .ok (.iload 4, 2) := by decide +kernel
theorem dX7_moves_88 : decode cX7_moves 88 = .ok (.invokestatic 62, 3) := by decide +kernel
theorem dX7_moves_91 : decode cX7_moves 91 = .ok (.istore 7, 2) := by decide +kernel
theorem dX7_moves_93 : decode cX7_moves 93 = .ok (.aload_n 0, 1) := by decide +kernel
theorem dX7_moves_94 : decode cX7_moves 94 = .ok (.iload_n 1, 1) := by decide +kernel
theorem dX7_moves_95 : decode cX7_moves 95 = .ok (.bipush 12, 2) := by decide +kernel
theorem dX7_moves_97 : decode cX7_moves 97 = .ok (.iadd, 1) := by decide +kernel
theorem dX7_moves_98 : decode cX7_moves 98 = .ok (.iload 4, 2) := by decide +kernel
theorem dX7_moves_100 : decode cX7_moves 100 = .ok (.iadd, 1) := by decide +kernel
theorem dX7_moves_101 : decode cX7_moves 101 = .ok (.dup2, 1) := by decide +kernel
theorem dX7_moves_102 : decode cX7_moves 102 = .ok (.iaload, 1) := by decide +kernel
theorem dX7_moves_103 : decode cX7_moves 103 = .ok (.iconst 1, 1) := by decide +kernel
theorem dX7_moves_104 : decode cX7_moves 104 = .ok (.iadd, 1) := by decide +kernel
theorem dX7_moves_105 : decode cX7_moves 105 = .ok (.iastore, 1) := by decide +kernel
theorem dX7_moves_106 : decode cX7_moves 106 = .ok (.iload 6, 2) := by decide +kernel
theorem dX7_moves_108 : decode cX7_moves 108 = .ok (.ifCond .eq 31, 3) := by decide +kernel
theorem dX7_moves_111 : decode cX7_moves 111 = .ok (.iload 7, 2) := by decide +kernel
theorem dX7_moves_113 : decode cX7_moves 113 = .ok (.ifCond .ne 26, 3) := by decide +kernel
theorem dX7_moves_116 : decode cX7_moves 116 = .ok (.aload_n 0, 1) := by decide +kernel
theorem dX7_moves_117 : decode cX7_moves 117 = .ok (.iload_n 1, 1) := by decide +kernel
theorem dX7_moves_118 : decode cX7_moves 118 = .ok (.bipush 29, 2) := by decide +kernel
theorem dX7_moves_120 : decode cX7_moves 120 = .ok (.iadd, 1) := by decide +kernel
theorem dX7_moves_121 : decode cX7_moves 121 = .ok (.iconst 1, 1) := by decide +kernel
theorem dX7_moves_122 : decode cX7_moves 122 = .ok (.iadd, 1) := by decide +kernel
theorem dX7_moves_123 : decode cX7_moves 123 = .ok (.iaload, 1) := by decide +kernel
theorem dX7_moves_124 : decode cX7_moves 124 = .ok (.aload_n 0, 1) := by decide +kernel
theorem dX7_moves_125 : decode cX7_moves 125 = .ok (.iload_n 1, 1) := by decide +kernel
theorem dX7_moves_126 : decode cX7_moves 126 = .ok (.bipush 34, 2) := by decide +kernel
theorem dX7_moves_128 : decode cX7_moves 128 = .ok (.iadd, 1) := by decide +kernel
theorem dX7_moves_129 : decode cX7_moves 129 = .ok (.iconst 2, 1) := by decide +kernel
theorem dX7_moves_130 : decode cX7_moves 130 = .ok (.iadd, 1) := by decide +kernel
theorem dX7_moves_131 : decode cX7_moves 131 = .ok (.iaload, 1) := by decide +kernel
theorem dX7_moves_132 : decode cX7_moves 132 = .ok (.if_icmp .gt 7, 3) := by decide +kernel
theorem dX7_moves_135 : decode cX7_moves 135 = .ok (.iconst 1, 1) := by decide +kernel
theorem dX7_moves_136 : decode cX7_moves 136 = .ok (.goto 4, 3) := by decide +kernel
theorem dX7_moves_139 : decode cX7_moves 139 = .ok (.iconst 0, 1) := by decide +kernel
theorem dX7_moves_140 : decode cX7_moves 140 = .ok (.istore 5, 2) := by decide +kernel
theorem dX7_moves_142 : decode cX7_moves 142 = .ok (.iload 5, 2) := by decide +kernel
theorem dX7_moves_144 : decode cX7_moves 144 = .ok (.ifCond .ne 41, 3) := by decide +kernel
theorem dX7_moves_147 : decode cX7_moves 147 = .ok (.iload 6, 2) := by decide +kernel
theorem dX7_moves_149 : decode cX7_moves 149 = .ok (.ifCond .ne 36, 3) := by decide +kernel
theorem dX7_moves_152 : decode cX7_moves 152 = .ok (.iload 4, 2) := by decide +kernel
theorem dX7_moves_154 : decode cX7_moves 154 = .ok (.invokestatic 58, 3) := by decide +kernel
theorem dX7_moves_157 : decode cX7_moves 157 = .ok (.iload_n 3, 1) := by decide +kernel
theorem dX7_moves_158 : decode cX7_moves 158 = .ok (.if_icmp .ne 27, 3) := by decide +kernel
theorem dX7_moves_161 : decode cX7_moves 161 = .ok (.aload_n 0, 1) := by decide +kernel
theorem dX7_moves_162 : decode cX7_moves 162 = .ok (.iload_n 1, 1) := by decide +kernel
theorem dX7_moves_163 : decode cX7_moves 163 = .ok (.iconst 0, 1) := by decide +kernel
theorem dX7_moves_164 : decode cX7_moves 164 = .ok (.iadd, 1) := by decide +kernel
theorem dX7_moves_165 : decode cX7_moves 165 = .ok (.bipush 12, 2) := by decide +kernel
theorem dX7_moves_167 : decode cX7_moves 167 = .ok (.iadd, 1) := by decide +kernel
theorem dX7_moves_168 : decode cX7_moves 168 = .ok (.iconst 1, 1) := by decide +kernel
theorem dX7_moves_169 : decode cX7_moves 169 = .ok (.isub, 1) := by decide +kernel
theorem dX7_moves_170 : decode cX7_moves 170 = .ok (.iload 4, 2) := by decide +kernel
theorem dX7_moves_172 : decode cX7_moves 172 = .ok (.isub, 1) := by decide +kernel
theorem dX7_moves_173 : decode cX7_moves 173 = .ok (.iaload, 1) := by decide +kernel
theorem dX7_moves_174 : decode cX7_moves 174 = .ok (.ifCond .le 11, 3) := by decide +kernel
theorem dX7_moves_177 : decode cX7_moves 177 = .ok (.aload_n 0, 1) := by decide +kernel
theorem dX7_moves_178 : decode cX7_moves 178 = .ok (.iload_n 1, 1) := by decide +kernel
theorem dX7_moves_179 : decode cX7_moves 179 = .ok (.iload 4, 2) := by decide +kernel
theorem dX7_moves_181 : decode cX7_moves 181 = .ok (.iload_n 3, 1) := by decide +kernel
theorem dX7_moves_182 : decode cX7_moves 182 = .ok (.invokestatic 70, 3) := by decide +kernel
theorem dX7_moves_185 : decode cX7_moves 185 = .ok (.goto (-147), 3) := by decide +kernel
theorem dX7_moves_188 : decode cX7_moves 188 = .ok (.aload_n 0, 1) := by decide +kernel
theorem dX7_moves_189 : decode cX7_moves 189 = .ok (.iload_n 1, 1) := by decide +kernel
theorem dX7_moves_190 : decode cX7_moves 190 = .ok (.bipush 29, 2) := by decide +kernel
theorem dX7_moves_192 : decode cX7_moves 192 = .ok (.iadd, 1) := by decide +kernel
theorem dX7_moves_193 : decode cX7_moves 193 = .ok (.iload_n 2, 1) := by decide +kernel
theorem dX7_moves_194 : decode cX7_moves 194 = .ok (.iastore, 1) := by decide +kernel
theorem dX7_moves_195 : decode cX7_moves 195 = .ok (.aload_n 0, 1) := by decide +kernel
theorem dX7_moves_196 : decode cX7_moves 196 = .ok (.iload_n 1, 1) := by decide +kernel
theorem dX7_moves_197 : decode cX7_moves 197 = .ok (.bipush 29, 2) := by decide +kernel
theorem dX7_moves_199 : decode cX7_moves 199 = .ok (.iadd, 1) := by decide +kernel
theorem dX7_moves_200 : decode cX7_moves 200 = .ok (.iconst 2, 1) := by decide +kernel
theorem dX7_moves_201 : decode cX7_moves 201 = .ok (.iadd, 1) := by decide +kernel
theorem dX7_moves_202 : decode cX7_moves 202 = .ok (.iload 4, 2) := by decide +kernel
theorem dX7_moves_204 : decode cX7_moves 204 = .ok (.iastore, 1) := by decide +kernel
theorem dX7_moves_205 : decode cX7_moves 205 = .ok (.aload_n 0, 1) := by decide +kernel
theorem dX7_moves_206 : decode cX7_moves 206 = .ok (.iload_n 1, 1) := by decide +kernel
theorem dX7_moves_207 : decode cX7_moves 207 = .ok (.bipush 28, 2) := by decide +kernel
theorem dX7_moves_209 : decode cX7_moves 209 = .ok (.iadd, 1) := by decide +kernel
theorem dX7_moves_210 : decode cX7_moves 210 = .ok (.dup2, 1) := by decide +kernel
theorem dX7_moves_211 : decode cX7_moves 211 = .ok (.iaload, 1) := by decide +kernel
theorem dX7_moves_212 : decode cX7_moves 212 = .ok (.iconst 1, 1) := by decide +kernel
theorem dX7_moves_213 : decode cX7_moves 213 = .ok (.iadd, 1) := by decide +kernel
theorem dX7_moves_214 : decode cX7_moves 214 = .ok (.iastore, 1) := by decide +kernel
theorem dX7_moves_215 : decode cX7_moves 215 = .ok (.aload_n 0, 1) := by decide +kernel
theorem dX7_moves_216 : decode cX7_moves 216 = .ok (.iload_n 1, 1) := by decide +kernel
theorem dX7_moves_217 : decode cX7_moves 217 = .ok (.invokestatic 74, 3) := by decide +kernel
theorem dX7_moves_220 : decode cX7_moves 220 = .ok (.istore 6, 2) := by decide +kernel
theorem dX7_moves_222 : decode cX7_moves 222 = .ok (.aload_n 0, 1) := by decide +kernel
theorem dX7_moves_223 : decode cX7_moves 223 = .ok (.iload_n 1, 1) := by decide +kernel
theorem dX7_moves_224 : decode cX7_moves 224 = .ok (.bipush 26, 2) := by decide +kernel
theorem dX7_moves_226 : decode cX7_moves 226 = .ok (.iadd, 1) := by decide +kernel
theorem dX7_moves_227 : decode cX7_moves 227 = .ok (.iload 6, 2) := by decide +kernel
theorem dX7_moves_229 : decode cX7_moves 229 = .ok (.ifCond .ne 14, 3) := by decide +kernel
theorem dX7_moves_232 : decode cX7_moves 232 = .ok (.aload_n 0, 1) := by decide +kernel
theorem dX7_moves_233 : decode cX7_moves 233 = .ok (.iload_n 1, 1) := by decide +kernel
theorem dX7_moves_234 : decode cX7_moves 234 = .ok (.iconst 1, 1) := by decide +kernel
theorem dX7_moves_235 : decode cX7_moves 235 = .ok (.iload_n 3, 1) := by decide +kernel
theorem dX7_moves_236 : decode cX7_moves 236 = .ok (.isub, 1) := by decide +kernel
theorem dX7_moves_237 : decode cX7_moves 237 = .ok (.invokestatic 54, 3) := by decide +kernel
theorem dX7_moves_240 : decode cX7_moves 240 = .ok (.ifCond .le 9, 3) := by decide +kernel
theorem dX7_moves_243 : decode cX7_moves 243 = .ok (.iconst 1, 1) := by decide +kernel
theorem dX7_moves_244 : decode cX7_moves 244 = .ok (.iload_n 3, 1) := by decide +kernel
theorem dX7_moves_245 : decode cX7_moves 245 = .ok (.isub, 1) := by decide +kernel
theorem dX7_moves_246 : decode cX7_moves 246 = .ok (.goto 4, 3) := by decide +kernel
theorem dX7_moves_249 : decode cX7_moves 249 = .ok (.iload_n 3, 1) := by decide +kernel
theorem dX7_moves_250 : decode cX7_moves 250 = .ok (.iastore, 1) := by decide +kernel
theorem dX7_moves_251 : decode cX7_moves 251 = .ok (.return_, 1) := by decide +kernel
theorem dX7_canMove_0 : decode cX7_canMove 0 = .ok (.aload_n 0, 1) := by decide +kernel
theorem dX7_canMove_1 : decode cX7_canMove 1 = .ok (.iload_n 1, 1) := by decide +kernel
theorem dX7_canMove_2 : decode cX7_canMove 2 = .ok (.bipush 27, 2) := by decide +kernel
theorem dX7_canMove_4 : decode cX7_canMove 4 = .ok (.iadd, 1) := by decide +kernel
theorem dX7_canMove_5 : decode cX7_canMove 5 = .ok (.iaload, 1) := by decide +kernel
theorem dX7_canMove_6 : decode cX7_canMove 6 = .ok (.ifCond .ne 30, 3) := by decide +kernel
theorem dX7_canMove_9 : decode cX7_canMove 9 = .ok (.iload_n 2, 1) := by decide +kernel
theorem dX7_canMove_10 : decode cX7_canMove 10 = .ok (.invokestatic 58, 3) := by decide +kernel
theorem dX7_canMove_13 : decode cX7_canMove 13 = .ok (.aload_n 0, 1) := by decide +kernel
theorem dX7_canMove_14 : decode cX7_canMove 14 = .ok (.iload_n 1, 1) := by decide +kernel
theorem dX7_canMove_15 : decode cX7_canMove 15 = .ok (.bipush 26, 2) := by decide +kernel
theorem dX7_canMove_17 : decode cX7_canMove 17 = .ok (.iadd, 1) := by decide +kernel
theorem dX7_canMove_18 : decode cX7_canMove 18 = .ok (.iaload, 1) := by decide +kernel
theorem dX7_canMove_19 : decode cX7_canMove 19 = .ok (.if_icmp .ne 17, 3) := by decide +kernel
theorem dX7_canMove_22 : decode cX7_canMove 22 = .ok (.aload_n 0, 1) := by decide +kernel
theorem dX7_canMove_23 : decode cX7_canMove 23 = .ok (.iload_n 1, 1) := by decide +kernel
theorem dX7_canMove_24 : decode cX7_canMove 24 = .ok (.iconst 0, 1) := by decide +kernel
theorem dX7_canMove_25 : decode cX7_canMove 25 = .ok (.iadd, 1) := by decide +kernel
theorem dX7_canMove_26 : decode cX7_canMove 26 = .ok (.iload_n 2, 1) := by decide +kernel
theorem dX7_canMove_27 : decode cX7_canMove 27 = .ok (.iadd, 1) := by decide +kernel
theorem dX7_canMove_28 : decode cX7_canMove 28 = .ok (.iaload, 1) := by decide +kernel
theorem dX7_canMove_29 : decode cX7_canMove 29 = .ok (.ifCond .le 7, 3) := by decide +kernel
theorem dX7_canMove_32 : decode cX7_canMove 32 = .ok (.iconst 1, 1) := by decide +kernel
theorem dX7_canMove_33 : decode cX7_canMove 33 = .ok (.goto 4, 3) := by decide +kernel
theorem dX7_canMove_36 : decode cX7_canMove 36 = .ok (.iconst 0, 1) := by decide +kernel
theorem dX7_canMove_37 : decode cX7_canMove 37 = .ok (.ireturn, 1) := by decide +kernel
theorem dX7_copy_0 : decode cX7_copy 0 = .ok (.iconst 0, 1) := by decide +kernel
theorem dX7_copy_1 : decode cX7_copy 1 = .ok (.istore 4, 2) := by decide +kernel
theorem dX7_copy_3 : decode cX7_copy 3 = .ok (.iload 4, 2) := by decide +kernel
theorem dX7_copy_5 : decode cX7_copy 5 = .ok (.bipush 40, 2) := by decide +kernel
theorem dX7_copy_7 : decode cX7_copy 7 = .ok (.if_icmp .ge 24, 3) := by decide +kernel
theorem dX7_copy_10 : decode cX7_copy 10 = .ok (.aload_n 0, 1) := by decide +kernel
theorem dX7_copy_11 : decode cX7_copy 11 = .ok (.getfield 22, 3) := by decide +kernel
theorem dX7_copy_14 : decode cX7_copy 14 = .ok (.iload_n 3, 1) := by decide +kernel
theorem dX7_copy_15 : decode cX7_copy 15 = .ok (.iload 4, 2) := by decide +kernel
theorem dX7_copy_17 : decode cX7_copy 17 = .ok (.iadd, 1) := by decide +kernel
theorem dX7_copy_18 : decode cX7_copy 18 = .ok (.aload_n 1, 1) := by decide +kernel
theorem dX7_copy_19 : decode cX7_copy 19 = .ok (.iload_n 2, 1) := by decide +kernel
theorem dX7_copy_20 : decode cX7_copy 20 = .ok (.iload 4, 2) := by decide +kernel
theorem dX7_copy_22 : decode cX7_copy 22 = .ok (.iadd, 1) := by decide +kernel
theorem dX7_copy_23 : decode cX7_copy 23 = .ok (.iaload, 1) := by decide +kernel
theorem dX7_copy_24 : decode cX7_copy 24 = .ok (.iastore, 1) := by decide +kernel
theorem dX7_copy_25 : decode cX7_copy 25 = .ok (.iinc 4 1, 3) := by decide +kernel
theorem dX7_copy_28 : decode cX7_copy 28 = .ok (.goto (-25), 3) := by decide +kernel
theorem dX7_copy_31 : decode cX7_copy 31 = .ok (.return_, 1) := by decide +kernel
theorem dX7_ahead_0 : decode cX7_ahead 0 = .ok (.bipush 40, 2) := by decide +kernel
theorem dX7_ahead_2 : decode cX7_ahead 2 = .ok (.iload_n 1, 1) := by decide +kernel
theorem dX7_ahead_3 : decode cX7_ahead 3 = .ok (.imul, 1) := by decide +kernel
theorem dX7_ahead_4 : decode cX7_ahead 4 = .ok (.istore_n 2, 1) := by decide +kernel
theorem dX7_ahead_5 : decode cX7_ahead 5 = .ok (.aload_n 0, 1) := by decide +kernel
theorem dX7_ahead_6 : decode cX7_ahead 6 = .ok (.getfield 22, 3) := by decide +kernel
theorem dX7_ahead_9 : decode cX7_ahead 9 = .ok (.iload_n 2, 1) := by decide +kernel
theorem dX7_ahead_10 : decode cX7_ahead 10 = .ok (.bipush 26, 2) := by decide +kernel
theorem dX7_ahead_12 : decode cX7_ahead 12 = .ok (.iadd, 1) := by decide +kernel
theorem dX7_ahead_13 : decode cX7_ahead 13 = .ok (.iaload, 1) := by decide +kernel
theorem dX7_ahead_14 : decode cX7_ahead 14 = .ok (.istore_n 3, 1) := by decide +kernel
theorem dX7_ahead_15 : decode cX7_ahead 15 = .ok (.aload_n 0, 1) := by decide +kernel
theorem dX7_ahead_16 : decode cX7_ahead 16 = .ok (.getfield 22, 3) := by decide +kernel
theorem dX7_ahead_19 : decode cX7_ahead 19 = .ok (.iload_n 2, 1) := by decide +kernel
theorem dX7_ahead_20 : decode cX7_ahead 20 = .ok (.bipush 24, 2) := by decide +kernel
theorem dX7_ahead_22 : decode cX7_ahead 22 = .ok (.iadd, 1) := by decide +kernel
theorem dX7_ahead_23 : decode cX7_ahead 23 = .ok (.iload_n 3, 1) := by decide +kernel
theorem dX7_ahead_24 : decode cX7_ahead 24 = .ok (.iadd, 1) := by decide +kernel
theorem dX7_ahead_25 : decode cX7_ahead 25 = .ok (.iaload, 1) := by decide +kernel
theorem dX7_ahead_26 : decode cX7_ahead 26 = .ok (.aload_n 0, 1) := by decide +kernel
theorem dX7_ahead_27 : decode cX7_ahead 27 = .ok (.getfield 22, 3) := by decide +kernel
theorem dX7_ahead_30 : decode cX7_ahead 30 = .ok (.iload_n 2, 1) := by decide +kernel
theorem dX7_ahead_31 : decode cX7_ahead 31 = .ok (.bipush 24, 2) := by decide +kernel
theorem dX7_ahead_33 : decode cX7_ahead 33 = .ok (.iadd, 1) := by decide +kernel
theorem dX7_ahead_34 : decode cX7_ahead 34 = .ok (.iconst 1, 1) := by decide +kernel
theorem dX7_ahead_35 : decode cX7_ahead 35 = .ok (.iadd, 1) := by decide +kernel
theorem dX7_ahead_36 : decode cX7_ahead 36 = .ok (.iload_n 3, 1) := by decide +kernel
theorem dX7_ahead_37 : decode cX7_ahead 37 = .ok (.isub, 1) := by decide +kernel
theorem dX7_ahead_38 : decode cX7_ahead 38 = .ok (.iaload, 1) := by decide +kernel
theorem dX7_ahead_39 : decode cX7_ahead 39 = .ok (.isub, 1) := by decide +kernel
theorem dX7_ahead_40 : decode cX7_ahead 40 = .ok (.ireturn, 1) := by decide +kernel
theorem dX7_worthOf_0 : decode cX7_worthOf 0 = .ok (.iload_n 1, 1) := by decide +kernel
theorem dX7_worthOf_1 : decode cX7_worthOf 1 = .ok (.istore_n 3, 1) := by decide +kernel
theorem dX7_worthOf_2 : decode cX7_worthOf 2 = .ok (.aload_n 0, 1) := by decide +kernel
theorem dX7_worthOf_3 : decode cX7_worthOf 3 = .ok (.getfield 25, 3) := by decide +kernel
theorem dX7_worthOf_6 : decode cX7_worthOf 6 = .ok (.iload_n 3, 1) := by decide +kernel
theorem dX7_worthOf_7 : decode cX7_worthOf 7 = .ok (.iconst (-1), 1) := by decide +kernel
theorem dX7_worthOf_8 : decode cX7_worthOf 8 = .ok (.iastore, 1) := by decide +kernel
theorem dX7_worthOf_9 : decode cX7_worthOf 9 = .ok (.aload_n 0, 1) := by decide +kernel
theorem dX7_worthOf_10 : decode cX7_worthOf 10 = .ok (.getfield 31, 3) := by decide +kernel
theorem dX7_worthOf_13 : decode cX7_worthOf 13 = .ok (.iload_n 3, 1) := by decide +kernel
theorem dX7_worthOf_14 : decode cX7_worthOf 14 = .ok (.bipush (-6), 2) := by decide +kernel
theorem dX7_worthOf_16 : decode cX7_worthOf 16 = .ok (.iastore, 1) := by decide +kernel
theorem dX7_worthOf_17 : decode cX7_worthOf 17 = .ok (.bipush 40, 2) := by decide +kernel
theorem dX7_worthOf_19 : decode cX7_worthOf 19 = .ok (.iload_n 3, 1) := by decide +kernel
theorem dX7_worthOf_20 : decode cX7_worthOf 20 = .ok (.imul, 1) := by decide +kernel
theorem dX7_worthOf_21 : decode cX7_worthOf 21 = .ok (.istore 4, 2) := by decide +kernel
theorem dX7_worthOf_23 : decode cX7_worthOf 23 = .ok (.aload_n 0, 1) := by decide +kernel
theorem dX7_worthOf_24 : decode cX7_worthOf 24 = .ok (.getfield 22, 3) := by decide +kernel
theorem dX7_worthOf_27 : decode cX7_worthOf 27 = .ok (.iload 4, 2) := by decide +kernel
theorem dX7_worthOf_29 : decode cX7_worthOf 29 = .ok (.bipush 27, 2) := by decide +kernel
theorem dX7_worthOf_31 : decode cX7_worthOf 31 = .ok (.iadd, 1) := by decide +kernel
theorem dX7_worthOf_32 : decode cX7_worthOf 32 = .ok (.iaload, 1) := by decide +kernel
theorem dX7_worthOf_33 : decode cX7_worthOf 33 = .ok (.iconst 1, 1) := by decide +kernel
theorem dX7_worthOf_34 : decode cX7_worthOf 34 = .ok (.if_icmp .eq 10, 3) := by decide +kernel
theorem dX7_worthOf_37 : decode cX7_worthOf 37 = .ok (.iload_n 3, 1) := by decide +kernel
theorem dX7_worthOf_38 : decode cX7_worthOf 38 = .ok (.iload_n 1, 1) := by decide +kernel
theorem dX7_worthOf_39 : decode cX7_worthOf 39 = .ok (.iload_n 2, 1) := by decide +kernel
theorem dX7_worthOf_40 : decode cX7_worthOf 40 = .ok (.iadd, 1) := by decide +kernel
theorem dX7_worthOf_41 : decode cX7_worthOf 41 = .ok (.if_icmp .ne 7, 3) := by decide +kernel
theorem dX7_worthOf_44 : decode cX7_worthOf 44 = .ok (.iconst 1, 1) := by decide +kernel
theorem dX7_worthOf_45 : decode cX7_worthOf 45 = .ok (.goto 4, 3) := by decide +kernel
theorem dX7_worthOf_48 : decode cX7_worthOf 48 = .ok (.iconst 0, 1) := by decide +kernel
theorem dX7_worthOf_49 : decode cX7_worthOf 49 = .ok (.istore 5, 2) := by decide +kernel
theorem dX7_worthOf_51 : decode cX7_worthOf 51 = .ok (.aload_n 0, 1) := by decide +kernel
theorem dX7_worthOf_52 : decode cX7_worthOf 52 = .ok (.getfield 25, 3) := by decide +kernel
theorem dX7_worthOf_55 : decode cX7_worthOf 55 = .ok (.iload_n 3, 1) := by decide +kernel
theorem dX7_worthOf_56 : decode cX7_worthOf 56 = .ok (.iaload, 1) := by decide +kernel
theorem dX7_worthOf_57 : decode cX7_worthOf 57 = .ok (.iconst 1, 1) := by decide +kernel
theorem dX7_worthOf_58 : decode cX7_worthOf 58 = .ok (.iadd, 1) := by decide +kernel
theorem dX7_worthOf_59 : decode cX7_worthOf 59 = .ok (.istore 6, 2) := by decide +kernel
theorem dX7_worthOf_61 : decode cX7_worthOf 61 = .ok (.iload 5, 2) := by decide +kernel
theorem dX7_worthOf_63 : decode cX7_worthOf 63 = .ok (.ifCond .ne 30, 3) := by decide +kernel
theorem dX7_worthOf_66 : decode cX7_worthOf 66 = .ok (.iload 6, 2) := by decide +kernel
theorem dX7_worthOf_68 : decode cX7_worthOf 68 = .ok (.bipush 12, 2) := by decide +kernel
theorem dX7_worthOf_70 : decode cX7_worthOf 70 = .ok (.if_icmp .ge 23, 3) := by decide +kernel
theorem dX7_worthOf_73 : decode cX7_worthOf 73 = .ok (.aload_n 0, 1) := by decide +kernel
theorem dX7_worthOf_74 : decode cX7_worthOf 74 = .ok (.getfield 22, 3) := by decide +kernel
theorem dX7_worthOf_77 : decode cX7_worthOf 77 = .ok (.iload 4, 2) := by decide +kernel
theorem dX7_worthOf_79 : decode cX7_worthOf 79 = .ok (.iload 6, 2) := by decide +kernel
theorem dX7_worthOf_81 : decode cX7_worthOf 81 = .ok (.invokestatic 78, 3) := by decide +kernel
theorem dX7_worthOf_84 : decode cX7_worthOf 84 = .ok (.ifCond .ne 9, 3) := by decide +kernel
theorem dX7_worthOf_87 : decode cX7_worthOf 87 = .ok (.iinc 6 1, 3) := by decide +kernel
theorem dX7_worthOf_90 : decode cX7_worthOf 90 = .ok (.goto (-29), 3) := by decide +kernel
theorem dX7_worthOf_93 : decode cX7_worthOf 93 = .ok (.iload 5, 2) := by decide +kernel
theorem dX7_worthOf_95 : decode cX7_worthOf 95 = .ok (.ifCond .ne 68, 3) := by decide +kernel
theorem dX7_worthOf_98 : decode cX7_worthOf 98 = .ok (.iload 6, 2) := by decide +kernel
theorem dX7_worthOf_100 : decode cX7_worthOf 100 = .ok (.bipush 12, 2) := by decide +kernel
theorem dX7_worthOf_102 : decode cX7_worthOf 102 = .ok (.if_icmp .ge 61, 3) := by decide +kernel
theorem dX7_worthOf_105 : decode cX7_worthOf 105 = .ok (.aload_n 0, 1) := by decide +kernel
theorem dX7_worthOf_106 : decode cX7_worthOf 106 = .ok (.getfield 25, 3) := by decide +kernel
theorem dX7_worthOf_109 : decode cX7_worthOf 109 = .ok (.iload_n 3, 1) := by decide +kernel
theorem dX7_worthOf_110 : decode cX7_worthOf 110 = .ok (.iload 6, 2) := by decide +kernel
theorem dX7_worthOf_112 : decode cX7_worthOf 112 = .ok (.iastore, 1) := by decide +kernel
theorem dX7_worthOf_113 : decode cX7_worthOf 113 = .ok (.aload_n 0, 1) := by decide +kernel
theorem dX7_worthOf_114 : decode cX7_worthOf 114 = .ok (.aload_n 0, 1) := by decide +kernel
theorem dX7_worthOf_115 : decode cX7_worthOf 115 = .ok (.getfield 22, 3) := by decide +kernel
theorem dX7_worthOf_118 : decode cX7_worthOf 118 = .ok (.iload 4, 2) := by decide +kernel
theorem dX7_worthOf_120 : decode cX7_worthOf 120 = .ok (.iload 4, 2) := by decide +kernel
theorem dX7_worthOf_122 : decode cX7_worthOf 122 = .ok (.bipush 40, 2) := by decide +kernel
theorem dX7_worthOf_124 : decode cX7_worthOf 124 = .ok (.iadd, 1) := by decide +kernel
theorem dX7_worthOf_125 : decode cX7_worthOf 125 = .ok (.invokevirtual 81, 3) := by decide +kernel
theorem dX7_worthOf_128 : decode cX7_worthOf 128 = .ok (.aload_n 0, 1) := by decide +kernel
theorem dX7_worthOf_129 : decode cX7_worthOf 129 = .ok (.getfield 22, 3) := by decide +kernel
theorem dX7_worthOf_132 : decode cX7_worthOf 132 = .ok (.iload 4, 2) := by decide +kernel
theorem dX7_worthOf_134 : decode cX7_worthOf 134 = .ok (.bipush 40, 2) := by decide +kernel
theorem dX7_worthOf_136 : decode cX7_worthOf 136 = .ok (.iadd, 1) := by decide +kernel
theorem dX7_worthOf_137 : decode cX7_worthOf 137 = .ok (.iload 6, 2) := by decide +kernel
theorem dX7_worthOf_139 : decode cX7_worthOf 139 = .ok (.invokestatic 85, 3) := by decide +kernel
theorem dX7_worthOf_142 : decode cX7_worthOf 142 = .ok (.iinc 3 1, 3) := by decide +kernel
theorem dX7_worthOf_145 : decode cX7_worthOf 145 = .ok (.aload_n 0, 1) := by decide +kernel
theorem dX7_worthOf_146 : decode cX7_worthOf 146 = .ok (.getfield 25, 3) := by decide +kernel
theorem dX7_worthOf_149 : decode cX7_worthOf 149 = .ok (.iload_n 3, 1) := by decide +kernel
theorem dX7_worthOf_150 : decode cX7_worthOf 150 = .ok (.iconst (-1), 1) := by decide +kernel
theorem dX7_worthOf_151 : decode cX7_worthOf 151 = .ok (.iastore, 1) := by decide +kernel
theorem dX7_worthOf_152 : decode cX7_worthOf 152 = .ok (.aload_n 0, 1) := by decide +kernel
theorem dX7_worthOf_153 : decode cX7_worthOf 153 = .ok (.getfield 31, 3) := by decide +kernel
theorem dX7_worthOf_156 : decode cX7_worthOf 156 = .ok (.iload_n 3, 1) := by decide +kernel
theorem dX7_worthOf_157 : decode cX7_worthOf 157 = .ok (.bipush (-6), 2) := by decide +kernel
theorem dX7_worthOf_159 : decode cX7_worthOf 159 = .ok (.iastore, 1) := by decide +kernel
theorem dX7_worthOf_160 : decode cX7_worthOf 160 = .ok (.goto 147, 3) := by decide +kernel
theorem dX7_worthOf_163 : decode cX7_worthOf 163 = .ok (.iload 5, 2) := by decide +kernel
theorem dX7_worthOf_165 : decode cX7_worthOf 165 = .ok (.ifCond .eq 11, 3) := by decide +kernel
theorem dX7_worthOf_168 : decode cX7_worthOf 168 = .ok (.aload_n 0, 1) := by decide +kernel
theorem dX7_worthOf_169 : decode cX7_worthOf 169 = .ok (.iload_n 3, 1) := by decide +kernel
theorem dX7_worthOf_170 : decode cX7_worthOf 170 = .ok (.invokevirtual 88, 3) := by decide +kernel
theorem dX7_worthOf_173 : decode cX7_worthOf 173 = .ok (.goto 9, 3) := by decide +kernel
theorem dX7_worthOf_176 : decode cX7_worthOf 176 = .ok (.aload_n 0, 1) := by decide +kernel
theorem dX7_worthOf_177 : decode cX7_worthOf 177 = .ok (.getfield 28, 3) := by decide +kernel
theorem dX7_worthOf_180 : decode cX7_worthOf 180 = .ok (.iload_n 3, 1) := by decide +kernel
theorem dX7_worthOf_181 : decode cX7_worthOf 181 = .ok (.iaload, 1) := by decide +kernel
theorem dX7_worthOf_182 : decode cX7_worthOf 182 = .ok (.istore 7, 2) := by decide +kernel
theorem dX7_worthOf_184 : decode cX7_worthOf 184 = .ok (.iload_n 3, 1) := by decide +kernel
theorem dX7_worthOf_185 : decode cX7_worthOf 185 = .ok (.iload_n 1, 1) := by decide +kernel
theorem dX7_worthOf_186 : decode cX7_worthOf 186 = .ok (.if_icmp .ne 6, 3) := by decide +kernel
theorem dX7_worthOf_189 : decode cX7_worthOf 189 = .ok (.iload 7, 2) := by decide +kernel
theorem dX7_worthOf_191 : decode cX7_worthOf 191 = .ok (.ireturn, 1) := by decide +kernel
theorem dX7_worthOf_192 : decode cX7_worthOf 192 = .ok (.iinc 3 (-1), 3) := by decide +kernel
theorem dX7_worthOf_195 : decode cX7_worthOf 195 = .ok (.aload_n 0, 1) := by decide +kernel
theorem dX7_worthOf_196 : decode cX7_worthOf 196 = .ok (.getfield 22, 3) := by decide +kernel
theorem dX7_worthOf_199 : decode cX7_worthOf 199 = .ok (.bipush 40, 2) := by decide +kernel
theorem dX7_worthOf_201 : decode cX7_worthOf 201 = .ok (.iload_n 3, 1) := by decide +kernel
theorem dX7_worthOf_202 : decode cX7_worthOf 202 = .ok (.imul, 1) := by decide +kernel
theorem dX7_worthOf_203 : decode cX7_worthOf 203 = .ok (.bipush 26, 2) := by decide +kernel
theorem dX7_worthOf_205 : decode cX7_worthOf 205 = .ok (.iadd, 1) := by decide +kernel
theorem dX7_worthOf_206 : decode cX7_worthOf 206 = .ok (.iaload, 1) := by decide +kernel
theorem dX7_worthOf_207 : decode cX7_worthOf 207 = .ok (.aload_n 0, 1) := by decide +kernel
theorem dX7_worthOf_208 : decode cX7_worthOf 208 = .ok (.getfield 22, 3) := by decide +kernel
theorem dX7_worthOf_211 : decode cX7_worthOf 211 = .ok (.iload 4, 2) := by decide +kernel
theorem dX7_worthOf_213 : decode cX7_worthOf 213 = .ok (.bipush 26, 2) := by decide +kernel
theorem dX7_worthOf_215 : decode cX7_worthOf 215 = .ok (.iadd, 1) := by decide +kernel
theorem dX7_worthOf_216 : decode cX7_worthOf 216 = .ok (.iaload, 1) := by decide +kernel
theorem dX7_worthOf_217 : decode cX7_worthOf 217 = .ok (.if_icmp .ne 8, 3) := by decide +kernel
theorem dX7_worthOf_220 : decode cX7_worthOf 220 = .ok (.iload 7, 2) := by decide +kernel
theorem dX7_worthOf_222 : decode cX7_worthOf 222 = .ok (.goto 6, 3) := by decide +kernel
theorem dX7_worthOf_225 : decode cX7_worthOf 225 = .ok (.iload 7, 2) := by decide +kernel
theorem dX7_worthOf_227 : decode cX7_worthOf 227 = .ok (.ineg, 1) := by decide +kernel
theorem dX7_worthOf_228 : decode cX7_worthOf 228 = .ok (.istore 8, 2) := by decide +kernel
theorem dX7_worthOf_230 : decode cX7_worthOf 230 = .ok (.aload_n 0, 1) := by decide +kernel
theorem dX7_worthOf_231 : decode cX7_worthOf 231 = .ok (.getfield 31, 3) := by decide +kernel
theorem dX7_worthOf_234 : decode cX7_worthOf 234 = .ok (.iload_n 3, 1) := by decide +kernel
theorem dX7_worthOf_235 : decode cX7_worthOf 235 = .ok (.iaload, 1) := by decide +kernel
theorem dX7_worthOf_236 : decode cX7_worthOf 236 = .ok (.bipush (-6), 2) := by decide +kernel
theorem dX7_worthOf_238 : decode cX7_worthOf 238 = .ok (.if_icmp .eq 14, 3) := by decide +kernel
theorem dX7_worthOf_241 : decode cX7_worthOf 241 = .ok (.iload 8, 2) := by decide +kernel
theorem dX7_worthOf_243 : decode cX7_worthOf 243 = .ok (.aload_n 0, 1) := by decide +kernel
theorem dX7_worthOf_244 : decode cX7_worthOf 244 = .ok (.getfield 28, 3) := by decide +kernel
theorem dX7_worthOf_247 : decode cX7_worthOf 247 = .ok (.iload_n 3, 1) := by decide +kernel
theorem dX7_worthOf_248 : decode cX7_worthOf 248 = .ok (.iaload, 1) := by decide +kernel
theorem dX7_worthOf_249 : decode cX7_worthOf 249 = .ok (.if_icmp .le 7, 3) := by decide +kernel
theorem dX7_worthOf_252 : decode cX7_worthOf 252 = .ok (.iconst 1, 1) := by decide +kernel
theorem dX7_worthOf_253 : decode cX7_worthOf 253 = .ok (.goto 4, 3) := by decide +kernel
theorem dX7_worthOf_256 : decode cX7_worthOf 256 = .ok (.iconst 0, 1) := by decide +kernel
theorem dX7_worthOf_257 : decode cX7_worthOf 257 = .ok (.istore 9, 2) := by decide +kernel
theorem dX7_worthOf_259 : decode cX7_worthOf 259 = .ok (.aload_n 0, 1) := by decide +kernel
theorem dX7_worthOf_260 : decode cX7_worthOf 260 = .ok (.getfield 28, 3) := by decide +kernel
theorem dX7_worthOf_263 : decode cX7_worthOf 263 = .ok (.iload_n 3, 1) := by decide +kernel
theorem dX7_worthOf_264 : decode cX7_worthOf 264 = .ok (.iload 9, 2) := by decide +kernel
theorem dX7_worthOf_266 : decode cX7_worthOf 266 = .ok (.ifCond .eq 8, 3) := by decide +kernel
theorem dX7_worthOf_269 : decode cX7_worthOf 269 = .ok (.iload 8, 2) := by decide +kernel
theorem dX7_worthOf_271 : decode cX7_worthOf 271 = .ok (.goto 9, 3) := by decide +kernel
theorem dX7_worthOf_274 : decode cX7_worthOf 274 = .ok (.aload_n 0, 1) := by decide +kernel
theorem dX7_worthOf_275 : decode cX7_worthOf 275 = .ok (.getfield 28, 3) := by decide +kernel
theorem dX7_worthOf_278 : decode cX7_worthOf 278 = .ok (.iload_n 3, 1) := by decide +kernel
theorem dX7_worthOf_279 : decode cX7_worthOf 279 = .ok (.iaload, 1) := by decide +kernel
theorem dX7_worthOf_280 : decode cX7_worthOf 280 = .ok (.iastore, 1) := by decide +kernel
theorem dX7_worthOf_281 : decode cX7_worthOf 281 = .ok (.aload_n 0, 1) := by decide +kernel
theorem dX7_worthOf_282 : decode cX7_worthOf 282 = .ok (.getfield 31, 3) := by decide +kernel
theorem dX7_worthOf_285 : decode cX7_worthOf 285 = .ok (.iload_n 3, 1) := by decide +kernel
theorem dX7_worthOf_286 : decode cX7_worthOf 286 = .ok (.iload 9, 2) := by decide +kernel
theorem dX7_worthOf_288 : decode cX7_worthOf 288 = .ok (.ifCond .eq 12, 3) := by decide +kernel
theorem dX7_worthOf_291 : decode cX7_worthOf 291 = .ok (.aload_n 0, 1) := by decide +kernel
theorem dX7_worthOf_292 : decode cX7_worthOf 292 = .ok (.getfield 25, 3) := by decide +kernel
theorem dX7_worthOf_295 : decode cX7_worthOf 295 = .ok (.iload_n 3, 1) := by decide +kernel
theorem dX7_worthOf_296 : decode cX7_worthOf 296 = .ok (.iaload, 1) := by decide +kernel
theorem dX7_worthOf_297 : decode cX7_worthOf 297 = .ok (.goto 9, 3) := by decide +kernel
theorem dX7_worthOf_300 : decode cX7_worthOf 300 = .ok (.aload_n 0, 1) := by decide +kernel
theorem dX7_worthOf_301 : decode cX7_worthOf 301 = .ok (.getfield 31, 3) := by decide +kernel
theorem dX7_worthOf_304 : decode cX7_worthOf 304 = .ok (.iload_n 3, 1) := by decide +kernel
theorem dX7_worthOf_305 : decode cX7_worthOf 305 = .ok (.iaload, 1) := by decide +kernel
theorem dX7_worthOf_306 : decode cX7_worthOf 306 = .ok (.iastore, 1) := by decide +kernel
theorem dX7_worthOf_307 : decode cX7_worthOf 307 = .ok (.goto (-290), 3) := by decide +kernel
theorem dX7_bestOf_0 : decode cX7_bestOf 0 = .ok (.aload_n 0, 1) := by decide +kernel
theorem dX7_bestOf_1 : decode cX7_bestOf 1 = .ok (.iload_n 1, 1) := by decide +kernel
theorem dX7_bestOf_2 : decode cX7_bestOf 2 = .ok (.iload_n 2, 1) := by decide +kernel
theorem dX7_bestOf_3 : decode cX7_bestOf 3 = .ok (.invokevirtual 91, 3) := by decide +kernel
theorem dX7_bestOf_6 : decode cX7_bestOf 6 = .ok (.istore_n 3, 1) := by decide +kernel
theorem dX7_bestOf_7 : decode cX7_bestOf 7 = .ok (.aload_n 0, 1) := by decide +kernel
theorem dX7_bestOf_8 : decode cX7_bestOf 8 = .ok (.getfield 31, 3) := by decide +kernel
theorem dX7_bestOf_11 : decode cX7_bestOf 11 = .ok (.iload_n 1, 1) := by decide +kernel
theorem dX7_bestOf_12 : decode cX7_bestOf 12 = .ok (.iaload, 1) := by decide +kernel
theorem dX7_bestOf_13 : decode cX7_bestOf 13 = .ok (.ireturn, 1) := by decide +kernel
theorem dX7_isSetting_0 : decode cX7_isSetting 0 = .ok (.iload_n 0, 1) := by decide +kernel
theorem dX7_isSetting_1 : decode cX7_isSetting 1 = .ok (.ifCond .eq 8, 3) := by decide +kernel
theorem dX7_isSetting_4 : decode cX7_isSetting 4 = .ok (.iload_n 0, 1) := by decide +kernel
theorem dX7_isSetting_5 : decode cX7_isSetting 5 = .ok (.iconst 1, 1) := by decide +kernel
theorem dX7_isSetting_6 : decode cX7_isSetting 6 = .ok (.if_icmp .ne 15, 3) := by decide +kernel
theorem dX7_isSetting_9 : decode cX7_isSetting 9 = .ok (.iload_n 1, 1) := by decide +kernel
theorem dX7_isSetting_10 : decode cX7_isSetting 10 = .ok (.i2l, 1) := by decide +kernel
theorem dX7_isSetting_11 : decode cX7_isSetting 11 = .ok (.lconst 1, 1) := by decide +kernel
theorem dX7_isSetting_12 : decode cX7_isSetting 12 = .ok (.ldc2_w 95, 3) := by decide +kernel
theorem dX7_isSetting_15 : decode cX7_isSetting 15 = .ok (.invokestatic 97, 3) := by decide +kernel
theorem dX7_isSetting_18 : decode cX7_isSetting 18 = .ok (.goto 42, 3) := by decide +kernel
theorem dX7_isSetting_21 : decode cX7_isSetting 21 = .ok (.iload_n 0, 1) := by decide +kernel
theorem dX7_isSetting_22 : decode cX7_isSetting 22 = .ok (.iconst 2, 1) := by decide +kernel
theorem dX7_isSetting_23 : decode cX7_isSetting 23 = .ok (.if_icmp .ne 15, 3) := by decide +kernel
theorem dX7_isSetting_26 : decode cX7_isSetting 26 = .ok (.iload_n 1, 1) := by decide +kernel
theorem dX7_isSetting_27 : decode cX7_isSetting 27 = .ok (.i2l, 1) := by decide +kernel
theorem dX7_isSetting_28 : decode cX7_isSetting 28 = .ok (.lconst 0, 1) := by decide +kernel
theorem dX7_isSetting_29 : decode cX7_isSetting 29 = .ok (.ldc2_w 101, 3) := by decide +kernel
theorem dX7_isSetting_32 : decode cX7_isSetting 32 = .ok (.invokestatic 97, 3) := by decide +kernel
theorem dX7_isSetting_35 : decode cX7_isSetting 35 = .ok (.goto 25, 3) := by decide +kernel
theorem dX7_isSetting_38 : decode cX7_isSetting 38 = .ok (.iload_n 0, 1) := by decide +kernel
theorem dX7_isSetting_39 : decode cX7_isSetting 39 = .ok (.iconst 3, 1) := by decide +kernel
theorem dX7_isSetting_40 : decode cX7_isSetting 40 = .ok (.if_icmp .ne 19, 3) := by decide +kernel
theorem dX7_isSetting_43 : decode cX7_isSetting 43 = .ok (.iload_n 1, 1) := by decide +kernel
theorem dX7_isSetting_44 : decode cX7_isSetting 44 = .ok (.i2l, 1) := by decide +kernel
theorem dX7_isSetting_45 : decode cX7_isSetting 45 = .ok (.lconst 0, 1) := by decide +kernel
theorem dX7_isSetting_46 : decode cX7_isSetting 46 = .ok (.ldc2_w 103, 3) := by decide +kernel
theorem dX7_isSetting_49 : decode cX7_isSetting 49 = .ok (.invokestatic 97, 3) := by decide +kernel
theorem dX7_isSetting_52 : decode cX7_isSetting 52 = .ok (.ifCond .eq 7, 3) := by decide +kernel
theorem dX7_isSetting_55 : decode cX7_isSetting 55 = .ok (.iconst 1, 1) := by decide +kernel
theorem dX7_isSetting_56 : decode cX7_isSetting 56 = .ok (.goto 4, 3) := by decide +kernel
theorem dX7_isSetting_59 : decode cX7_isSetting 59 = .ok (.iconst 0, 1) := by decide +kernel
theorem dX7_isSetting_60 : decode cX7_isSetting 60 = .ok (.ireturn, 1) := by decide +kernel
theorem dX7_set_0 : decode cX7_set 0 = .ok (.iload_n 1, 1) := by decide +kernel
theorem dX7_set_1 : decode cX7_set 1 = .ok (.iload_n 2, 1) := by decide +kernel
theorem dX7_set_2 : decode cX7_set 2 = .ok (.invokestatic 105, 3) := by decide +kernel
theorem dX7_set_5 : decode cX7_set 5 = .ok (.ifCond .ne 6, 3) := by decide +kernel
theorem dX7_set_8 : decode cX7_set 8 = .ok (.bipush (-2), 2) := by decide +kernel
theorem dX7_set_10 : decode cX7_set 10 = .ok (.ireturn, 1) := by decide +kernel
theorem dX7_set_11 : decode cX7_set 11 = .ok (.aload_n 0, 1) := by decide +kernel
theorem dX7_set_12 : decode cX7_set 12 = .ok (.invokevirtual 109, 3) := by decide +kernel
theorem dX7_set_15 : decode cX7_set 15 = .ok (.aload_n 0, 1) := by decide +kernel
theorem dX7_set_16 : decode cX7_set 16 = .ok (.getfield 7, 3) := by decide +kernel
theorem dX7_set_19 : decode cX7_set 19 = .ok (.bipush 34, 2) := by decide +kernel
theorem dX7_set_21 : decode cX7_set 21 = .ok (.iload_n 1, 1) := by decide +kernel
theorem dX7_set_22 : decode cX7_set 22 = .ok (.iadd, 1) := by decide +kernel
theorem dX7_set_23 : decode cX7_set 23 = .ok (.iaload, 1) := by decide +kernel
theorem dX7_set_24 : decode cX7_set 24 = .ok (.istore_n 3, 1) := by decide +kernel
theorem dX7_set_25 : decode cX7_set 25 = .ok (.aload_n 0, 1) := by decide +kernel
theorem dX7_set_26 : decode cX7_set 26 = .ok (.getfield 7, 3) := by decide +kernel
theorem dX7_set_29 : decode cX7_set 29 = .ok (.bipush 34, 2) := by decide +kernel
theorem dX7_set_31 : decode cX7_set 31 = .ok (.iload_n 1, 1) := by decide +kernel
theorem dX7_set_32 : decode cX7_set 32 = .ok (.iadd, 1) := by decide +kernel
theorem dX7_set_33 : decode cX7_set 33 = .ok (.iload_n 2, 1) := by decide +kernel
theorem dX7_set_34 : decode cX7_set 34 = .ok (.iastore, 1) := by decide +kernel
theorem dX7_set_35 : decode cX7_set 35 = .ok (.iload_n 3, 1) := by decide +kernel
theorem dX7_set_36 : decode cX7_set 36 = .ok (.ireturn, 1) := by decide +kernel
theorem dX7_begin_0 : decode cX7_begin 0 = .ok (.aload_n 0, 1) := by decide +kernel
theorem dX7_begin_1 : decode cX7_begin 1 = .ok (.invokevirtual 109, 3) := by decide +kernel
theorem dX7_begin_4 : decode cX7_begin 4 = .ok (.aload_n 0, 1) := by decide +kernel
theorem dX7_begin_5 : decode cX7_begin 5 = .ok (.getfield 7, 3) := by decide +kernel
theorem dX7_begin_8 : decode cX7_begin 8 = .ok (.bipush 28, 2) := by decide +kernel
theorem dX7_begin_10 : decode cX7_begin 10 = .ok (.iaload, 1) := by decide +kernel
theorem dX7_begin_11 : decode cX7_begin 11 = .ok (.istore_n 1, 1) := by decide +kernel
theorem dX7_begin_12 : decode cX7_begin 12 = .ok (.aload_n 0, 1) := by decide +kernel
theorem dX7_begin_13 : decode cX7_begin 13 = .ok (.invokevirtual 40, 3) := by decide +kernel
theorem dX7_begin_16 : decode cX7_begin 16 = .ok (.iload_n 1, 1) := by decide +kernel
theorem dX7_begin_17 : decode cX7_begin 17 = .ok (.ireturn, 1) := by decide +kernel
theorem dX7_isHouse_0 : decode cX7_isHouse 0 = .ok (.iload_n 0, 1) := by decide +kernel
theorem dX7_isHouse_1 : decode cX7_isHouse 1 = .ok (.i2l, 1) := by decide +kernel
theorem dX7_isHouse_2 : decode cX7_isHouse 2 = .ok (.lconst 0, 1) := by decide +kernel
theorem dX7_isHouse_3 : decode cX7_isHouse 3 = .ok (.ldc2_w 112, 3) := by decide +kernel
theorem dX7_isHouse_6 : decode cX7_isHouse 6 = .ok (.invokestatic 97, 3) := by decide +kernel
theorem dX7_isHouse_9 : decode cX7_isHouse 9 = .ok (.ireturn, 1) := by decide +kernel
theorem dX7_makes_0 : decode cX7_makes 0 = .ok (.aload_n 0, 1) := by decide +kernel
theorem dX7_makes_1 : decode cX7_makes 1 = .ok (.getfield 7, 3) := by decide +kernel
theorem dX7_makes_4 : decode cX7_makes 4 = .ok (.bipush 40, 2) := by decide +kernel
theorem dX7_makes_6 : decode cX7_makes 6 = .ok (.aload_n 0, 1) := by decide +kernel
theorem dX7_makes_7 : decode cX7_makes 7 = .ok (.getfield 7, 3) := by decide +kernel
theorem dX7_makes_10 : decode cX7_makes 10 = .ok (.bipush 28, 2) := by decide +kernel
theorem dX7_makes_12 : decode cX7_makes 12 = .ok (.iaload, 1) := by decide +kernel
theorem dX7_makes_13 : decode cX7_makes 13 = .ok (.iadd, 1) := by decide +kernel
theorem dX7_makes_14 : decode cX7_makes 14 = .ok (.iload_n 1, 1) := by decide +kernel
theorem dX7_makes_15 : decode cX7_makes 15 = .ok (.iastore, 1) := by decide +kernel
theorem dX7_makes_16 : decode cX7_makes 16 = .ok (.aload_n 0, 1) := by decide +kernel
theorem dX7_makes_17 : decode cX7_makes 17 = .ok (.getfield 7, 3) := by decide +kernel
theorem dX7_makes_20 : decode cX7_makes 20 = .ok (.iconst 0, 1) := by decide +kernel
theorem dX7_makes_21 : decode cX7_makes 21 = .ok (.iload_n 1, 1) := by decide +kernel
theorem dX7_makes_22 : decode cX7_makes 22 = .ok (.invokestatic 85, 3) := by decide +kernel
theorem dX7_makes_25 : decode cX7_makes 25 = .ok (.return_, 1) := by decide +kernel
theorem dX7_move_0 : decode cX7_move 0 = .ok (.iload_n 1, 1) := by decide +kernel
theorem dX7_move_1 : decode cX7_move 1 = .ok (.invokestatic 114, 3) := by decide +kernel
theorem dX7_move_4 : decode cX7_move 4 = .ok (.ifCond .ne 5, 3) := by decide +kernel
theorem dX7_move_7 : decode cX7_move 7 = .ok (.iconst (-1), 1) := by decide +kernel
theorem dX7_move_8 : decode cX7_move 8 = .ok (.ireturn, 1) := by decide +kernel
theorem dX7_move_9 : decode cX7_move 9 = .ok (.aload_n 0, 1) := by decide +kernel
theorem dX7_move_10 : decode cX7_move 10 = .ok (.getfield 7, 3) := by decide +kernel
theorem dX7_move_13 : decode cX7_move 13 = .ok (.iconst 0, 1) := by decide +kernel
theorem dX7_move_14 : decode cX7_move 14 = .ok (.iload_n 1, 1) := by decide +kernel
theorem dX7_move_15 : decode cX7_move 15 = .ok (.invokestatic 78, 3) := by decide +kernel
theorem dX7_move_18 : decode cX7_move 18 = .ok (.ifCond .ne 6, 3) := by decide +kernel
theorem dX7_move_21 : decode cX7_move 21 = .ok (.bipush (-5), 2) := by decide +kernel
theorem dX7_move_23 : decode cX7_move 23 = .ok (.ireturn, 1) := by decide +kernel
theorem dX7_move_24 : decode cX7_move 24 = .ok (.aload_n 0, 1) := by decide +kernel
theorem dX7_move_25 : decode cX7_move 25 = .ok (.invokevirtual 109, 3) := by decide +kernel
theorem dX7_move_28 : decode cX7_move 28 = .ok (.aload_n 0, 1) := by decide +kernel
theorem dX7_move_29 : decode cX7_move 29 = .ok (.iload_n 1, 1) := by decide +kernel
theorem dX7_move_30 : decode cX7_move 30 = .ok (.invokevirtual 118, 3) := by decide +kernel
theorem dX7_move_33 : decode cX7_move 33 = .ok (.aload_n 0, 1) := by decide +kernel
theorem dX7_move_34 : decode cX7_move 34 = .ok (.getfield 7, 3) := by decide +kernel
theorem dX7_move_37 : decode cX7_move 37 = .ok (.bipush 30, 2) := by decide +kernel
theorem dX7_move_39 : decode cX7_move 39 = .ok (.iaload, 1) := by decide +kernel
theorem dX7_move_40 : decode cX7_move 40 = .ok (.ireturn, 1) := by decide +kernel
theorem dX7_play_0 : decode cX7_play 0 = .ok (.iload_n 1, 1) := by decide +kernel
theorem dX7_play_1 : decode cX7_play 1 = .ok (.i2l, 1) := by decide +kernel
theorem dX7_play_2 : decode cX7_play 2 = .ok (.lconst 1, 1) := by decide +kernel
theorem dX7_play_3 : decode cX7_play 3 = .ok (.ldc2_w 122, 3) := by decide +kernel
theorem dX7_play_6 : decode cX7_play 6 = .ok (.invokestatic 97, 3) := by decide +kernel
theorem dX7_play_9 : decode cX7_play 9 = .ok (.ifCond .ne 6, 3) := by decide +kernel
theorem dX7_play_12 : decode cX7_play 12 = .ok (.bipush (-2), 2) := by decide +kernel
theorem dX7_play_14 : decode cX7_play 14 = .ok (.ireturn, 1) := by decide +kernel
theorem dX7_play_15 : decode cX7_play 15 = .ok (.aload_n 0, 1) := by decide +kernel
theorem dX7_play_16 : decode cX7_play 16 = .ok (.getfield 7, 3) := by decide +kernel
theorem dX7_play_19 : decode cX7_play 19 = .ok (.bipush 27, 2) := by decide +kernel
theorem dX7_play_21 : decode cX7_play 21 = .ok (.iaload, 1) := by decide +kernel
theorem dX7_play_22 : decode cX7_play 22 = .ok (.iconst 1, 1) := by decide +kernel
theorem dX7_play_23 : decode cX7_play 23 = .ok (.if_icmp .ne 6, 3) := by decide +kernel
theorem dX7_play_26 : decode cX7_play 26 = .ok (.bipush (-5), 2) := by decide +kernel
theorem dX7_play_28 : decode cX7_play 28 = .ok (.ireturn, 1) := by decide +kernel
theorem dX7_play_29 : decode cX7_play 29 = .ok (.aload_n 0, 1) := by decide +kernel
theorem dX7_play_30 : decode cX7_play 30 = .ok (.invokevirtual 109, 3) := by decide +kernel
theorem dX7_play_33 : decode cX7_play 33 = .ok (.aload_n 0, 1) := by decide +kernel
theorem dX7_play_34 : decode cX7_play 34 = .ok (.aload_n 0, 1) := by decide +kernel
theorem dX7_play_35 : decode cX7_play 35 = .ok (.getfield 7, 3) := by decide +kernel
theorem dX7_play_38 : decode cX7_play 38 = .ok (.iconst 0, 1) := by decide +kernel
theorem dX7_play_39 : decode cX7_play 39 = .ok (.iconst 0, 1) := by decide +kernel
theorem dX7_play_40 : decode cX7_play 40 = .ok (.invokevirtual 81, 3) := by decide +kernel
theorem dX7_play_43 : decode cX7_play 43 = .ok (.aload_n 0, 1) := by decide +kernel
theorem dX7_play_44 : decode cX7_play 44 = .ok (.iconst 0, 1) := by decide +kernel
theorem dX7_play_45 : decode cX7_play 45 = .ok (.iload_n 1, 1) := by decide +kernel
theorem dX7_play_46 : decode cX7_play 46 = .ok (.invokevirtual 124, 3) := by decide +kernel
theorem dX7_play_49 : decode cX7_play 49 = .ok (.istore_n 2, 1) := by decide +kernel
theorem dX7_play_50 : decode cX7_play 50 = .ok (.aload_n 0, 1) := by decide +kernel
theorem dX7_play_51 : decode cX7_play 51 = .ok (.iload_n 2, 1) := by decide +kernel
theorem dX7_play_52 : decode cX7_play 52 = .ok (.invokevirtual 118, 3) := by decide +kernel
theorem dX7_play_55 : decode cX7_play 55 = .ok (.iload_n 2, 1) := by decide +kernel
theorem dX7_play_56 : decode cX7_play 56 = .ok (.ireturn, 1) := by decide +kernel
theorem dX7_takes_0 : decode cX7_takes 0 = .ok (.aload_n 0, 1) := by decide +kernel
theorem dX7_takes_1 : decode cX7_takes 1 = .ok (.getfield 127, 3) := by decide +kernel
theorem dX7_takes_4 : decode cX7_takes 4 = .ok (.aload_n 0, 1) := by decide +kernel
theorem dX7_takes_5 : decode cX7_takes 5 = .ok (.getfield 130, 3) := by decide +kernel
theorem dX7_takes_8 : decode cX7_takes 8 = .ok (.if_icmp .ge 20, 3) := by decide +kernel
theorem dX7_takes_11 : decode cX7_takes 11 = .ok (.aload_n 0, 1) := by decide +kernel
theorem dX7_takes_12 : decode cX7_takes 12 = .ok (.getfield 34, 3) := by decide +kernel
theorem dX7_takes_15 : decode cX7_takes 15 = .ok (.aload_n 0, 1) := by decide +kernel
theorem dX7_takes_16 : decode cX7_takes 16 = .ok (.getfield 127, 3) := by decide +kernel
theorem dX7_takes_19 : decode cX7_takes 19 = .ok (.iaload, 1) := by decide +kernel
theorem dX7_takes_20 : decode cX7_takes 20 = .ok (.iload_n 1, 1) := by decide +kernel
theorem dX7_takes_21 : decode cX7_takes 21 = .ok (.if_icmp .ne 7, 3) := by decide +kernel
theorem dX7_takes_24 : decode cX7_takes 24 = .ok (.iconst 1, 1) := by decide +kernel
theorem dX7_takes_25 : decode cX7_takes 25 = .ok (.goto 4, 3) := by decide +kernel
theorem dX7_takes_28 : decode cX7_takes 28 = .ok (.iconst 0, 1) := by decide +kernel
theorem dX7_takes_29 : decode cX7_takes 29 = .ok (.istore_n 2, 1) := by decide +kernel
theorem dX7_takes_30 : decode cX7_takes 30 = .ok (.aload_n 0, 1) := by decide +kernel
theorem dX7_takes_31 : decode cX7_takes 31 = .ok (.dup, 1) := by decide +kernel
theorem dX7_takes_32 : decode cX7_takes 32 = .ok (.getfield 127, 3) := by decide +kernel
theorem dX7_takes_35 : decode cX7_takes 35 = .ok (.iload_n 2, 1) := by decide +kernel
theorem dX7_takes_36 : decode cX7_takes 36 = .ok (.ifCond .eq 7, 3) := by decide +kernel
theorem dX7_takes_39 : decode cX7_takes 39 = .ok (.iconst 1, 1) := by decide +kernel
theorem dX7_takes_40 : decode cX7_takes 40 = .ok (.goto 4, 3) := by decide +kernel
theorem dX7_takes_43 : decode cX7_takes 43 = .ok (.iconst 0, 1) := by decide +kernel
theorem dX7_takes_44 : decode cX7_takes 44 = .ok (.iadd, 1) := by decide +kernel
theorem dX7_takes_45 : decode cX7_takes 45 = .ok (.putfield 127, 3) := by decide +kernel
theorem dX7_takes_48 : decode cX7_takes 48 = .ok (.iload_n 2, 1) := by decide +kernel
theorem dX7_takes_49 : decode cX7_takes 49 = .ok (.ireturn, 1) := by decide +kernel
theorem dX7_isDigit_0 : decode cX7_isDigit 0 = .ok (.aload_n 0, 1) := by decide +kernel
theorem dX7_isDigit_1 : decode cX7_isDigit 1 = .ok (.getfield 127, 3) := by decide +kernel
theorem dX7_isDigit_4 : decode cX7_isDigit 4 = .ok (.aload_n 0, 1) := by decide +kernel
theorem dX7_isDigit_5 : decode cX7_isDigit 5 = .ok (.getfield 130, 3) := by decide +kernel
theorem dX7_isDigit_8 : decode cX7_isDigit 8 = .ok (.if_icmp .ge 29, 3) := by decide +kernel
theorem dX7_isDigit_11 : decode cX7_isDigit 11 = .ok (.aload_n 0, 1) := by decide +kernel
theorem dX7_isDigit_12 : decode cX7_isDigit 12 = .ok (.getfield 34, 3) := by decide +kernel
theorem dX7_isDigit_15 : decode cX7_isDigit 15 = .ok (.aload_n 0, 1) := by decide +kernel
theorem dX7_isDigit_16 : decode cX7_isDigit 16 = .ok (.getfield 127, 3) := by decide +kernel
theorem dX7_isDigit_19 : decode cX7_isDigit 19 = .ok (.iaload, 1) := by decide +kernel
theorem dX7_isDigit_20 : decode cX7_isDigit 20 = .ok (.i2l, 1) := by decide +kernel
theorem dX7_isDigit_21 : decode cX7_isDigit 21 = .ok (.ldc2_w 133, 3) := by decide +kernel
theorem dX7_isDigit_24 : decode cX7_isDigit 24 = .ok (.ldc2_w 135, 3) := by decide +kernel
theorem dX7_isDigit_27 : decode cX7_isDigit 27 = .ok (.invokestatic 97, 3) := by decide +kernel
theorem dX7_isDigit_30 : decode cX7_isDigit 30 = .ok (.ifCond .eq 7, 3) := by decide +kernel
theorem dX7_isDigit_33 : decode cX7_isDigit 33 = .ok (.iconst 1, 1) := by decide +kernel
theorem dX7_isDigit_34 : decode cX7_isDigit 34 = .ok (.goto 4, 3) := by decide +kernel
theorem dX7_isDigit_37 : decode cX7_isDigit 37 = .ok (.iconst 0, 1) := by decide +kernel
theorem dX7_isDigit_38 : decode cX7_isDigit 38 = .ok (.ireturn, 1) := by decide +kernel
theorem dX7_readsNumber_0 : decode cX7_readsNumber 0 = .ok (.aload_n 0, 1) := by decide +kernel
theorem dX7_readsNumber_1 : decode cX7_readsNumber 1 = .ok (.invokevirtual 137, 3) := by decide +kernel
theorem dX7_readsNumber_4 : decode cX7_readsNumber 4 = .ok (.ifCond .ne 5, 3) := by decide +kernel
theorem dX7_readsNumber_7 : decode cX7_readsNumber 7 = .ok (.iconst 0, 1) := by decide +kernel
theorem dX7_readsNumber_8 : decode cX7_readsNumber 8 = .ok (.ireturn, 1) := by decide +kernel
theorem dX7_readsNumber_9 : decode cX7_readsNumber 9 = .ok (.aload_n 0, 1) := by decide +kernel
theorem dX7_readsNumber_10 : decode cX7_readsNumber 10 = .ok (.getfield 37, 3) := by decide +kernel
theorem dX7_readsNumber_13 : decode cX7_readsNumber 13 = .ok (.iload_n 1, 1) := by decide +kernel
theorem dX7_readsNumber_14 : decode cX7_readsNumber 14 = .ok (.aload_n 0, 1) := by decide +kernel
theorem dX7_readsNumber_15 : decode cX7_readsNumber 15 = .ok (.getfield 34, 3) := by decide +kernel
theorem dX7_readsNumber_18 : decode cX7_readsNumber 18 = .ok (.aload_n 0, 1) := by decide +kernel
theorem dX7_readsNumber_19 : decode cX7_readsNumber 19 = .ok (.getfield 127, 3) := by decide +kernel
theorem dX7_readsNumber_22 : decode cX7_readsNumber 22 = .ok (.iaload, 1) := by decide +kernel
theorem dX7_readsNumber_23 : decode cX7_readsNumber 23 = .ok (.bipush 48, 2) := by decide +kernel
theorem dX7_readsNumber_25 : decode cX7_readsNumber 25 = .ok (.isub, 1) := by decide +kernel
theorem dX7_readsNumber_26 : decode cX7_readsNumber 26 = .ok (.iastore, 1) := by decide +kernel
theorem dX7_readsNumber_27 : decode cX7_readsNumber 27 = .ok (.aload_n 0, 1) := by decide +kernel
theorem dX7_readsNumber_28 : decode cX7_readsNumber 28 = .ok (.dup, 1) := by decide +kernel
theorem dX7_readsNumber_29 : decode cX7_readsNumber 29 = .ok (.getfield 127, 3) := by decide +kernel
theorem dX7_readsNumber_32 : decode cX7_readsNumber 32 = .ok (.iconst 1, 1) := by decide +kernel
theorem dX7_readsNumber_33 : decode cX7_readsNumber 33 = .ok (.iadd, 1) := by decide +kernel
theorem dX7_readsNumber_34 : decode cX7_readsNumber 34 = .ok (.putfield 127, 3) := by decide +kernel
theorem dX7_readsNumber_37 : decode cX7_readsNumber 37 = .ok (.aload_n 0, 1) := by decide +kernel
theorem dX7_readsNumber_38 : decode cX7_readsNumber 38 = .ok (.getfield 37, 3) := by decide +kernel
theorem dX7_readsNumber_41 : decode cX7_readsNumber 41 = .ok (.iload_n 1, 1) := by decide +kernel
theorem dX7_readsNumber_42 : decode cX7_readsNumber 42 = .ok (.iaload, 1) := by decide +kernel
theorem dX7_readsNumber_43 : decode cX7_readsNumber 43 = .ok (.ifCond .le 48, 3) := by decide +kernel
theorem dX7_readsNumber_46 : decode cX7_readsNumber 46 = .ok (.aload_n 0, 1) := by decide +kernel
theorem dX7_readsNumber_47 : decode cX7_readsNumber 47 = .ok (.invokevirtual 137, 3) := by decide +kernel
theorem dX7_readsNumber_50 : decode cX7_readsNumber 50 = .ok (.ifCond .eq 41, 3) := by decide +kernel
theorem dX7_readsNumber_53 : decode cX7_readsNumber 53 = .ok (.aload_n 0, 1) := by decide +kernel
theorem dX7_readsNumber_54 : decode cX7_readsNumber 54 = .ok (.getfield 37, 3) := by decide +kernel
theorem dX7_readsNumber_57 : decode cX7_readsNumber 57 = .ok (.iload_n 1, 1) := by decide +kernel
theorem dX7_readsNumber_58 : decode cX7_readsNumber 58 = .ok (.bipush 10, 2) := by decide +kernel
theorem dX7_readsNumber_60 : decode cX7_readsNumber 60 = .ok (.aload_n 0, 1) := by decide +kernel
theorem dX7_readsNumber_61 : decode cX7_readsNumber 61 = .ok (.getfield 37, 3) := by decide +kernel
theorem dX7_readsNumber_64 : decode cX7_readsNumber 64 = .ok (.iload_n 1, 1) := by decide +kernel
theorem dX7_readsNumber_65 : decode cX7_readsNumber 65 = .ok (.iaload, 1) := by decide +kernel
theorem dX7_readsNumber_66 : decode cX7_readsNumber 66 = .ok (.imul, 1) := by decide +kernel
theorem dX7_readsNumber_67 : decode cX7_readsNumber 67 = .ok (.aload_n 0, 1) := by decide +kernel
theorem dX7_readsNumber_68 : decode cX7_readsNumber 68 = .ok (.getfield 34, 3) := by decide +kernel
theorem dX7_readsNumber_71 : decode cX7_readsNumber 71 = .ok (.aload_n 0, 1) := by decide +kernel
theorem dX7_readsNumber_72 : decode cX7_readsNumber 72 = .ok (.getfield 127, 3) := by decide +kernel
theorem dX7_readsNumber_75 : decode cX7_readsNumber 75 = .ok (.iaload, 1) := by decide +kernel
theorem dX7_readsNumber_76 : decode cX7_readsNumber 76 = .ok (.iadd, 1) := by decide +kernel
theorem dX7_readsNumber_77 : decode cX7_readsNumber 77 = .ok (.bipush 48, 2) := by decide +kernel
theorem dX7_readsNumber_79 : decode cX7_readsNumber 79 = .ok (.isub, 1) := by decide +kernel
theorem dX7_readsNumber_80 : decode cX7_readsNumber 80 = .ok (.iastore, 1) := by decide +kernel
theorem dX7_readsNumber_81 : decode cX7_readsNumber 81 = .ok (.aload_n 0, 1) := by decide +kernel
theorem dX7_readsNumber_82 : decode cX7_readsNumber 82 = .ok (.dup, 1) := by decide +kernel
theorem dX7_readsNumber_83 : decode cX7_readsNumber 83 = .ok (.getfield 127, 3) := by decide +kernel
theorem dX7_readsNumber_86 : decode cX7_readsNumber 86 = .ok (.iconst 1, 1) := by decide +kernel
theorem dX7_readsNumber_87 : decode cX7_readsNumber 87 = .ok (.iadd, 1) := by decide +kernel
theorem dX7_readsNumber_88 : decode cX7_readsNumber 88 = .ok (.putfield 127, 3) := by decide +kernel
theorem dX7_readsNumber_91 : decode cX7_readsNumber 91 = .ok (.iconst 1, 1) := by decide +kernel
theorem dX7_readsNumber_92 : decode cX7_readsNumber 92 = .ok (.ireturn, 1) := by decide +kernel
theorem dX7_faultOf_0 : decode cX7_faultOf 0 = .ok (.aload_n 0, 1) := by decide +kernel
theorem dX7_faultOf_1 : decode cX7_faultOf 1 = .ok (.iconst 0, 1) := by decide +kernel
theorem dX7_faultOf_2 : decode cX7_faultOf 2 = .ok (.putfield 127, 3) := by decide +kernel
theorem dX7_faultOf_5 : decode cX7_faultOf 5 = .ok (.iconst 0, 1) := by decide +kernel
theorem dX7_faultOf_6 : decode cX7_faultOf 6 = .ok (.istore_n 1, 1) := by decide +kernel
theorem dX7_faultOf_7 : decode cX7_faultOf 7 = .ok (.iload_n 1, 1) := by decide +kernel
theorem dX7_faultOf_8 : decode cX7_faultOf 8 = .ok (.bipush 14, 2) := by decide +kernel
theorem dX7_faultOf_10 : decode cX7_faultOf 10 = .ok (.if_icmp .ge 48, 3) := by decide +kernel
theorem dX7_faultOf_13 : decode cX7_faultOf 13 = .ok (.aload_n 0, 1) := by decide +kernel
theorem dX7_faultOf_14 : decode cX7_faultOf 14 = .ok (.iload_n 1, 1) := by decide +kernel
theorem dX7_faultOf_15 : decode cX7_faultOf 15 = .ok (.invokevirtual 141, 3) := by decide +kernel
theorem dX7_faultOf_18 : decode cX7_faultOf 18 = .ok (.ifCond .eq 29, 3) := by decide +kernel
theorem dX7_faultOf_21 : decode cX7_faultOf 21 = .ok (.aload_n 0, 1) := by decide +kernel
theorem dX7_faultOf_22 : decode cX7_faultOf 22 = .ok (.iload_n 1, 1) := by decide +kernel
theorem dX7_faultOf_23 : decode cX7_faultOf 23 = .ok (.bipush 11, 2) := by decide +kernel
theorem dX7_faultOf_25 : decode cX7_faultOf 25 = .ok (.if_icmp .eq 9, 3) := by decide +kernel
theorem dX7_faultOf_28 : decode cX7_faultOf 28 = .ok (.iload_n 1, 1) := by decide +kernel
theorem dX7_faultOf_29 : decode cX7_faultOf 29 = .ok (.bipush 13, 2) := by decide +kernel
theorem dX7_faultOf_31 : decode cX7_faultOf 31 = .ok (.if_icmp .ne 8, 3) := by decide +kernel
theorem dX7_faultOf_34 : decode cX7_faultOf 34 = .ok (.bipush 47, 2) := by decide +kernel
theorem dX7_faultOf_36 : decode cX7_faultOf 36 = .ok (.goto 5, 3) := by decide +kernel
theorem dX7_faultOf_39 : decode cX7_faultOf 39 = .ok (.bipush 44, 2) := by decide +kernel
theorem dX7_faultOf_41 : decode cX7_faultOf 41 = .ok (.invokevirtual 144, 3) := by decide +kernel
theorem dX7_faultOf_44 : decode cX7_faultOf 44 = .ok (.ifCond .ne 8, 3) := by decide +kernel
theorem dX7_faultOf_47 : decode cX7_faultOf 47 = .ok (.aload_n 0, 1) := by decide +kernel
theorem dX7_faultOf_48 : decode cX7_faultOf 48 = .ok (.getfield 127, 3) := by decide +kernel
theorem dX7_faultOf_51 : decode cX7_faultOf 51 = .ok (.ireturn, 1) := by decide +kernel
theorem dX7_faultOf_52 : decode cX7_faultOf 52 = .ok (.iinc 1 1, 3) := by decide +kernel
theorem dX7_faultOf_55 : decode cX7_faultOf 55 = .ok (.goto (-48), 3) := by decide +kernel
theorem dX7_faultOf_58 : decode cX7_faultOf 58 = .ok (.aload_n 0, 1) := by decide +kernel
theorem dX7_faultOf_59 : decode cX7_faultOf 59 = .ok (.getfield 127, 3) := by decide +kernel
theorem dX7_faultOf_62 : decode cX7_faultOf 62 = .ok (.aload_n 0, 1) := by decide +kernel
theorem dX7_faultOf_63 : decode cX7_faultOf 63 = .ok (.getfield 130, 3) := by decide +kernel
theorem dX7_faultOf_66 : decode cX7_faultOf 66 = .ok (.if_icmp .eq 25, 3) := by decide +kernel
theorem dX7_faultOf_69 : decode cX7_faultOf 69 = .ok (.aload_n 0, 1) := by decide +kernel
theorem dX7_faultOf_70 : decode cX7_faultOf 70 = .ok (.getfield 34, 3) := by decide +kernel
theorem dX7_faultOf_73 : decode cX7_faultOf 73 = .ok (.aload_n 0, 1) := by decide +kernel
theorem dX7_faultOf_74 : decode cX7_faultOf 74 = .ok (.getfield 127, 3) := by decide +kernel
theorem dX7_faultOf_77 : decode cX7_faultOf 77 = .ok (.iaload, 1) := by decide +kernel
theorem dX7_faultOf_78 : decode cX7_faultOf 78 = .ok (.i2l, 1) := by decide +kernel
theorem dX7_faultOf_79 : decode cX7_faultOf 79 = .ok (.ldc2_w 133, 3) := by decide +kernel
theorem dX7_faultOf_82 : decode cX7_faultOf 82 = .ok (.ldc2_w 147, 3) := by decide +kernel
theorem dX7_faultOf_85 : decode cX7_faultOf 85 = .ok (.invokestatic 97, 3) := by decide +kernel
theorem dX7_faultOf_88 : decode cX7_faultOf 88 = .ok (.ifCond .ne 8, 3) := by decide +kernel
theorem dX7_faultOf_91 : decode cX7_faultOf 91 = .ok (.aload_n 0, 1) := by decide +kernel
theorem dX7_faultOf_92 : decode cX7_faultOf 92 = .ok (.getfield 127, 3) := by decide +kernel
theorem dX7_faultOf_95 : decode cX7_faultOf 95 = .ok (.ireturn, 1) := by decide +kernel
theorem dX7_faultOf_96 : decode cX7_faultOf 96 = .ok (.aload_n 0, 1) := by decide +kernel
theorem dX7_faultOf_97 : decode cX7_faultOf 97 = .ok (.getfield 37, 3) := by decide +kernel
theorem dX7_faultOf_100 : decode cX7_faultOf 100 = .ok (.bipush 14, 2) := by decide +kernel
theorem dX7_faultOf_102 : decode cX7_faultOf 102 = .ok (.aload_n 0, 1) := by decide +kernel
theorem dX7_faultOf_103 : decode cX7_faultOf 103 = .ok (.getfield 34, 3) := by decide +kernel
theorem dX7_faultOf_106 : decode cX7_faultOf 106 = .ok (.aload_n 0, 1) := by decide +kernel
theorem dX7_faultOf_107 : decode cX7_faultOf 107 = .ok (.getfield 127, 3) := by decide +kernel
theorem dX7_faultOf_110 : decode cX7_faultOf 110 = .ok (.iaload, 1) := by decide +kernel
theorem dX7_faultOf_111 : decode cX7_faultOf 111 = .ok (.bipush 48, 2) := by decide +kernel
theorem dX7_faultOf_113 : decode cX7_faultOf 113 = .ok (.isub, 1) := by decide +kernel
theorem dX7_faultOf_114 : decode cX7_faultOf 114 = .ok (.iastore, 1) := by decide +kernel
theorem dX7_faultOf_115 : decode cX7_faultOf 115 = .ok (.aload_n 0, 1) := by decide +kernel
theorem dX7_faultOf_116 : decode cX7_faultOf 116 = .ok (.dup, 1) := by decide +kernel
theorem dX7_faultOf_117 : decode cX7_faultOf 117 = .ok (.getfield 127, 3) := by decide +kernel
theorem dX7_faultOf_120 : decode cX7_faultOf 120 = .ok (.iconst 1, 1) := by decide +kernel
theorem dX7_faultOf_121 : decode cX7_faultOf 121 = .ok (.iadd, 1) := by decide +kernel
theorem dX7_faultOf_122 : decode cX7_faultOf 122 = .ok (.putfield 127, 3) := by decide +kernel
theorem dX7_faultOf_125 : decode cX7_faultOf 125 = .ok (.aload_n 0, 1) := by decide +kernel
theorem dX7_faultOf_126 : decode cX7_faultOf 126 = .ok (.getfield 127, 3) := by decide +kernel
theorem dX7_faultOf_129 : decode cX7_faultOf 129 = .ok (.aload_n 0, 1) := by decide +kernel
theorem dX7_faultOf_130 : decode cX7_faultOf 130 = .ok (.getfield 130, 3) := by decide +kernel
theorem dX7_faultOf_133 : decode cX7_faultOf 133 = .ok (.if_icmp .ne 8, 3) := by decide +kernel
theorem dX7_faultOf_136 : decode cX7_faultOf 136 = .ok (.bipush (-6), 2) := by decide +kernel
theorem dX7_faultOf_138 : decode cX7_faultOf 138 = .ok (.goto 7, 3) := by decide +kernel
theorem dX7_faultOf_141 : decode cX7_faultOf 141 = .ok (.aload_n 0, 1) := by decide +kernel
theorem dX7_faultOf_142 : decode cX7_faultOf 142 = .ok (.getfield 127, 3) := by decide +kernel
theorem dX7_faultOf_145 : decode cX7_faultOf 145 = .ok (.ireturn, 1) := by decide +kernel
theorem dX7_read_0 : decode cX7_read 0 = .ok (.aload_n 0, 1) := by decide +kernel
theorem dX7_read_1 : decode cX7_read 1 = .ok (.invokevirtual 149, 3) := by decide +kernel
theorem dX7_read_4 : decode cX7_read 4 = .ok (.bipush (-6), 2) := by decide +kernel
theorem dX7_read_6 : decode cX7_read 6 = .ok (.if_icmp .eq 6, 3) := by decide +kernel
theorem dX7_read_9 : decode cX7_read 9 = .ok (.bipush (-3), 2) := by decide +kernel
theorem dX7_read_11 : decode cX7_read 11 = .ok (.ireturn, 1) := by decide +kernel
theorem dX7_read_12 : decode cX7_read 12 = .ok (.aload_n 0, 1) := by decide +kernel
theorem dX7_read_13 : decode cX7_read 13 = .ok (.invokevirtual 109, 3) := by decide +kernel
theorem dX7_read_16 : decode cX7_read 16 = .ok (.aload_n 0, 1) := by decide +kernel
theorem dX7_read_17 : decode cX7_read 17 = .ok (.invokevirtual 47, 3) := by decide +kernel
theorem dX7_read_20 : decode cX7_read 20 = .ok (.iconst 0, 1) := by decide +kernel
theorem dX7_read_21 : decode cX7_read 21 = .ok (.istore_n 1, 1) := by decide +kernel
theorem dX7_read_22 : decode cX7_read 22 = .ok (.iload_n 1, 1) := by decide +kernel
theorem dX7_read_23 : decode cX7_read 23 = .ok (.bipush 12, 2) := by decide +kernel
theorem dX7_read_25 : decode cX7_read 25 = .ok (.if_icmp .ge 23, 3) := by decide +kernel
theorem dX7_read_28 : decode cX7_read 28 = .ok (.aload_n 0, 1) := by decide +kernel
theorem dX7_read_29 : decode cX7_read 29 = .ok (.getfield 7, 3) := by decide +kernel
theorem dX7_read_32 : decode cX7_read 32 = .ok (.iconst 0, 1) := by decide +kernel
theorem dX7_read_33 : decode cX7_read 33 = .ok (.iload_n 1, 1) := by decide +kernel
theorem dX7_read_34 : decode cX7_read 34 = .ok (.iadd, 1) := by decide +kernel
theorem dX7_read_35 : decode cX7_read 35 = .ok (.aload_n 0, 1) := by decide +kernel
theorem dX7_read_36 : decode cX7_read 36 = .ok (.getfield 37, 3) := by decide +kernel
theorem dX7_read_39 : decode cX7_read 39 = .ok (.iload_n 1, 1) := by decide +kernel
theorem dX7_read_40 : decode cX7_read 40 = .ok (.iaload, 1) := by decide +kernel
theorem dX7_read_41 : decode cX7_read 41 = .ok (.iastore, 1) := by decide +kernel
theorem dX7_read_42 : decode cX7_read 42 = .ok (.iinc 1 1, 3) := by decide +kernel
theorem dX7_read_45 : decode cX7_read 45 = .ok (.goto (-23), 3) := by decide +kernel
theorem dX7_read_48 : decode cX7_read 48 = .ok (.aload_n 0, 1) := by decide +kernel
theorem dX7_read_49 : decode cX7_read 49 = .ok (.getfield 7, 3) := by decide +kernel
theorem dX7_read_52 : decode cX7_read 52 = .ok (.bipush 24, 2) := by decide +kernel
theorem dX7_read_54 : decode cX7_read 54 = .ok (.aload_n 0, 1) := by decide +kernel
theorem dX7_read_55 : decode cX7_read 55 = .ok (.getfield 37, 3) := by decide +kernel
theorem dX7_read_58 : decode cX7_read 58 = .ok (.bipush 12, 2) := by decide +kernel
theorem dX7_read_60 : decode cX7_read 60 = .ok (.iaload, 1) := by decide +kernel
theorem dX7_read_61 : decode cX7_read 61 = .ok (.iastore, 1) := by decide +kernel
theorem dX7_read_62 : decode cX7_read 62 = .ok (.aload_n 0, 1) := by decide +kernel
theorem dX7_read_63 : decode cX7_read 63 = .ok (.getfield 7, 3) := by decide +kernel
theorem dX7_read_66 : decode cX7_read 66 = .ok (.bipush 25, 2) := by decide +kernel
theorem dX7_read_68 : decode cX7_read 68 = .ok (.aload_n 0, 1) := by decide +kernel
theorem dX7_read_69 : decode cX7_read 69 = .ok (.getfield 37, 3) := by decide +kernel
theorem dX7_read_72 : decode cX7_read 72 = .ok (.bipush 13, 2) := by decide +kernel
theorem dX7_read_74 : decode cX7_read 74 = .ok (.iaload, 1) := by decide +kernel
theorem dX7_read_75 : decode cX7_read 75 = .ok (.iastore, 1) := by decide +kernel
theorem dX7_read_76 : decode cX7_read 76 = .ok (.aload_n 0, 1) := by decide +kernel
theorem dX7_read_77 : decode cX7_read 77 = .ok (.getfield 7, 3) := by decide +kernel
theorem dX7_read_80 : decode cX7_read 80 = .ok (.bipush 26, 2) := by decide +kernel
theorem dX7_read_82 : decode cX7_read 82 = .ok (.aload_n 0, 1) := by decide +kernel
theorem dX7_read_83 : decode cX7_read 83 = .ok (.getfield 37, 3) := by decide +kernel
theorem dX7_read_86 : decode cX7_read 86 = .ok (.bipush 14, 2) := by decide +kernel
theorem dX7_read_88 : decode cX7_read 88 = .ok (.iaload, 1) := by decide +kernel
theorem dX7_read_89 : decode cX7_read 89 = .ok (.iastore, 1) := by decide +kernel
theorem dX7_read_90 : decode cX7_read 90 = .ok (.aload_n 0, 1) := by decide +kernel
theorem dX7_read_91 : decode cX7_read 91 = .ok (.iconst 0, 1) := by decide +kernel
theorem dX7_read_92 : decode cX7_read 92 = .ok (.putfield 130, 3) := by decide +kernel
theorem dX7_read_95 : decode cX7_read 95 = .ok (.aload_n 0, 1) := by decide +kernel
theorem dX7_read_96 : decode cX7_read 96 = .ok (.getfield 7, 3) := by decide +kernel
theorem dX7_read_99 : decode cX7_read 99 = .ok (.iconst 0, 1) := by decide +kernel
theorem dX7_read_100 : decode cX7_read 100 = .ok (.invokestatic 74, 3) := by decide +kernel
theorem dX7_read_103 : decode cX7_read 103 = .ok (.istore_n 1, 1) := by decide +kernel
theorem dX7_read_104 : decode cX7_read 104 = .ok (.iload_n 1, 1) := by decide +kernel
theorem dX7_read_105 : decode cX7_read 105 = .ok (.ifCond .ne 37, 3) := by decide +kernel
theorem dX7_read_108 : decode cX7_read 108 = .ok (.aload_n 0, 1) := by decide +kernel
theorem dX7_read_109 : decode cX7_read 109 = .ok (.getfield 7, 3) := by decide +kernel
theorem dX7_read_112 : decode cX7_read 112 = .ok (.iconst 0, 1) := by decide +kernel
theorem dX7_read_113 : decode cX7_read 113 = .ok (.aload_n 0, 1) := by decide +kernel
theorem dX7_read_114 : decode cX7_read 114 = .ok (.getfield 7, 3) := by decide +kernel
theorem dX7_read_117 : decode cX7_read 117 = .ok (.bipush 26, 2) := by decide +kernel
theorem dX7_read_119 : decode cX7_read 119 = .ok (.iaload, 1) := by decide +kernel
theorem dX7_read_120 : decode cX7_read 120 = .ok (.invokestatic 54, 3) := by decide +kernel
theorem dX7_read_123 : decode cX7_read 123 = .ok (.ifCond .ne 19, 3) := by decide +kernel
theorem dX7_read_126 : decode cX7_read 126 = .ok (.aload_n 0, 1) := by decide +kernel
theorem dX7_read_127 : decode cX7_read 127 = .ok (.getfield 7, 3) := by decide +kernel
theorem dX7_read_130 : decode cX7_read 130 = .ok (.bipush 26, 2) := by decide +kernel
theorem dX7_read_132 : decode cX7_read 132 = .ok (.iconst 1, 1) := by decide +kernel
theorem dX7_read_133 : decode cX7_read 133 = .ok (.aload_n 0, 1) := by decide +kernel
theorem dX7_read_134 : decode cX7_read 134 = .ok (.getfield 7, 3) := by decide +kernel
theorem dX7_read_137 : decode cX7_read 137 = .ok (.bipush 26, 2) := by decide +kernel
theorem dX7_read_139 : decode cX7_read 139 = .ok (.iaload, 1) := by decide +kernel
theorem dX7_read_140 : decode cX7_read 140 = .ok (.isub, 1) := by decide +kernel
theorem dX7_read_141 : decode cX7_read 141 = .ok (.iastore, 1) := by decide +kernel
theorem dX7_read_142 : decode cX7_read 142 = .ok (.aload_n 0, 1) := by decide +kernel
theorem dX7_read_143 : decode cX7_read 143 = .ok (.getfield 7, 3) := by decide +kernel
theorem dX7_read_146 : decode cX7_read 146 = .ok (.iconst 0, 1) := by decide +kernel
theorem dX7_read_147 : decode cX7_read 147 = .ok (.invokestatic 50, 3) := by decide +kernel
theorem dX7_read_150 : decode cX7_read 150 = .ok (.ireturn, 1) := by decide +kernel
theorem dX7_house_0 : decode cX7_house 0 = .ok (.iload_n 1, 1) := by decide +kernel
theorem dX7_house_1 : decode cX7_house 1 = .ok (.invokestatic 114, 3) := by decide +kernel
theorem dX7_house_4 : decode cX7_house 4 = .ok (.ifCond .ne 5, 3) := by decide +kernel
theorem dX7_house_7 : decode cX7_house 7 = .ok (.iconst (-1), 1) := by decide +kernel
theorem dX7_house_8 : decode cX7_house 8 = .ok (.ireturn, 1) := by decide +kernel
theorem dX7_house_9 : decode cX7_house 9 = .ok (.iload_n 2, 1) := by decide +kernel
theorem dX7_house_10 : decode cX7_house 10 = .ok (.i2l, 1) := by decide +kernel
theorem dX7_house_11 : decode cX7_house 11 = .ok (.lconst 0, 1) := by decide +kernel
theorem dX7_house_12 : decode cX7_house 12 = .ok (.ldc2_w 153, 3) := by decide +kernel
theorem dX7_house_15 : decode cX7_house 15 = .ok (.invokestatic 97, 3) := by decide +kernel
theorem dX7_house_18 : decode cX7_house 18 = .ok (.ifCond .ne 6, 3) := by decide +kernel
theorem dX7_house_21 : decode cX7_house 21 = .ok (.bipush (-2), 2) := by decide +kernel
theorem dX7_house_23 : decode cX7_house 23 = .ok (.ireturn, 1) := by decide +kernel
theorem dX7_house_24 : decode cX7_house 24 = .ok (.iload_n 2, 1) := by decide +kernel
theorem dX7_house_25 : decode cX7_house 25 = .ok (.ifCond .ne 14, 3) := by decide +kernel
theorem dX7_house_28 : decode cX7_house 28 = .ok (.aload_n 0, 1) := by decide +kernel
theorem dX7_house_29 : decode cX7_house 29 = .ok (.getfield 7, 3) := by decide +kernel
theorem dX7_house_32 : decode cX7_house 32 = .ok (.iconst 0, 1) := by decide +kernel
theorem dX7_house_33 : decode cX7_house 33 = .ok (.iload_n 1, 1) := by decide +kernel
theorem dX7_house_34 : decode cX7_house 34 = .ok (.iadd, 1) := by decide +kernel
theorem dX7_house_35 : decode cX7_house 35 = .ok (.iaload, 1) := by decide +kernel
theorem dX7_house_36 : decode cX7_house 36 = .ok (.goto 37, 3) := by decide +kernel
theorem dX7_house_39 : decode cX7_house 39 = .ok (.iload_n 2, 1) := by decide +kernel
theorem dX7_house_40 : decode cX7_house 40 = .ok (.iconst 1, 1) := by decide +kernel
theorem dX7_house_41 : decode cX7_house 41 = .ok (.if_icmp .ne 15, 3) := by decide +kernel
theorem dX7_house_44 : decode cX7_house 44 = .ok (.aload_n 0, 1) := by decide +kernel
theorem dX7_house_45 : decode cX7_house 45 = .ok (.getfield 7, 3) := by decide +kernel
theorem dX7_house_48 : decode cX7_house 48 = .ok (.bipush 12, 2) := by decide +kernel
theorem dX7_house_50 : decode cX7_house 50 = .ok (.iload_n 1, 1) := by decide +kernel
theorem dX7_house_51 : decode cX7_house 51 = .ok (.iadd, 1) := by decide +kernel
theorem dX7_house_52 : decode cX7_house 52 = .ok (.iaload, 1) := by decide +kernel
theorem dX7_house_53 : decode cX7_house 53 = .ok (.goto 20, 3) := by decide +kernel
theorem dX7_house_56 : decode cX7_house 56 = .ok (.aload_n 0, 1) := by decide +kernel
theorem dX7_house_57 : decode cX7_house 57 = .ok (.getfield 7, 3) := by decide +kernel
theorem dX7_house_60 : decode cX7_house 60 = .ok (.iconst 0, 1) := by decide +kernel
theorem dX7_house_61 : decode cX7_house 61 = .ok (.iload_n 1, 1) := by decide +kernel
theorem dX7_house_62 : decode cX7_house 62 = .ok (.invokestatic 62, 3) := by decide +kernel
theorem dX7_house_65 : decode cX7_house 65 = .ok (.ifCond .eq 7, 3) := by decide +kernel
theorem dX7_house_68 : decode cX7_house 68 = .ok (.iconst 1, 1) := by decide +kernel
theorem dX7_house_69 : decode cX7_house 69 = .ok (.goto 4, 3) := by decide +kernel
theorem dX7_house_72 : decode cX7_house 72 = .ok (.iconst 0, 1) := by decide +kernel
theorem dX7_house_73 : decode cX7_house 73 = .ok (.ireturn, 1) := by decide +kernel
theorem dX7_winner_0 : decode cX7_winner 0 = .ok (.aload_n 0, 1) := by decide +kernel
theorem dX7_winner_1 : decode cX7_winner 1 = .ok (.getfield 7, 3) := by decide +kernel
theorem dX7_winner_4 : decode cX7_winner 4 = .ok (.bipush 27, 2) := by decide +kernel
theorem dX7_winner_6 : decode cX7_winner 6 = .ok (.iaload, 1) := by decide +kernel
theorem dX7_winner_7 : decode cX7_winner 7 = .ok (.ifCond .ne 6, 3) := by decide +kernel
theorem dX7_winner_10 : decode cX7_winner 10 = .ok (.bipush (-6), 2) := by decide +kernel
theorem dX7_winner_12 : decode cX7_winner 12 = .ok (.ireturn, 1) := by decide +kernel
theorem dX7_winner_13 : decode cX7_winner 13 = .ok (.aload_n 0, 1) := by decide +kernel
theorem dX7_winner_14 : decode cX7_winner 14 = .ok (.getfield 7, 3) := by decide +kernel
theorem dX7_winner_17 : decode cX7_winner 17 = .ok (.bipush 24, 2) := by decide +kernel
theorem dX7_winner_19 : decode cX7_winner 19 = .ok (.iaload, 1) := by decide +kernel
theorem dX7_winner_20 : decode cX7_winner 20 = .ok (.aload_n 0, 1) := by decide +kernel
theorem dX7_winner_21 : decode cX7_winner 21 = .ok (.getfield 7, 3) := by decide +kernel
theorem dX7_winner_24 : decode cX7_winner 24 = .ok (.bipush 25, 2) := by decide +kernel
theorem dX7_winner_26 : decode cX7_winner 26 = .ok (.iaload, 1) := by decide +kernel
theorem dX7_winner_27 : decode cX7_winner 27 = .ok (.if_icmp .le 7, 3) := by decide +kernel
theorem dX7_winner_30 : decode cX7_winner 30 = .ok (.iconst 0, 1) := by decide +kernel
theorem dX7_winner_31 : decode cX7_winner 31 = .ok (.goto 25, 3) := by decide +kernel
theorem dX7_winner_34 : decode cX7_winner 34 = .ok (.aload_n 0, 1) := by decide +kernel
theorem dX7_winner_35 : decode cX7_winner 35 = .ok (.getfield 7, 3) := by decide +kernel
theorem dX7_winner_38 : decode cX7_winner 38 = .ok (.bipush 24, 2) := by decide +kernel
theorem dX7_winner_40 : decode cX7_winner 40 = .ok (.iaload, 1) := by decide +kernel
theorem dX7_winner_41 : decode cX7_winner 41 = .ok (.aload_n 0, 1) := by decide +kernel
theorem dX7_winner_42 : decode cX7_winner 42 = .ok (.getfield 7, 3) := by decide +kernel
theorem dX7_winner_45 : decode cX7_winner 45 = .ok (.bipush 25, 2) := by decide +kernel
theorem dX7_winner_47 : decode cX7_winner 47 = .ok (.iaload, 1) := by decide +kernel
theorem dX7_winner_48 : decode cX7_winner 48 = .ok (.if_icmp .ge 7, 3) := by decide +kernel
theorem dX7_winner_51 : decode cX7_winner 51 = .ok (.iconst 1, 1) := by decide +kernel
theorem dX7_winner_52 : decode cX7_winner 52 = .ok (.goto 4, 3) := by decide +kernel
theorem dX7_winner_55 : decode cX7_winner 55 = .ok (.iconst 2, 1) := by decide +kernel
theorem dX7_winner_56 : decode cX7_winner 56 = .ok (.ireturn, 1) := by decide +kernel
theorem dX7_hostiles_0 : decode cX7_hostiles 0 = .ok (.iconst 0, 1) := by decide +kernel
theorem dX7_hostiles_1 : decode cX7_hostiles 1 = .ok (.istore_n 1, 1) := by decide +kernel
theorem dX7_hostiles_2 : decode cX7_hostiles 2 = .ok (.iconst 0, 1) := by decide +kernel
theorem dX7_hostiles_3 : decode cX7_hostiles 3 = .ok (.istore_n 2, 1) := by decide +kernel
theorem dX7_hostiles_4 : decode cX7_hostiles 4 = .ok (.iload_n 2, 1) := by decide +kernel
theorem dX7_hostiles_5 : decode cX7_hostiles 5 = .ok (.bipush 12, 2) := by decide +kernel
theorem dX7_hostiles_7 : decode cX7_hostiles 7 = .ok (.if_icmp .ge 29, 3) := by decide +kernel
theorem dX7_hostiles_10 : decode cX7_hostiles 10 = .ok (.iload_n 1, 1) := by decide +kernel
theorem dX7_hostiles_11 : decode cX7_hostiles 11 = .ok (.aload_n 0, 1) := by decide +kernel
theorem dX7_hostiles_12 : decode cX7_hostiles 12 = .ok (.getfield 7, 3) := by decide +kernel
theorem dX7_hostiles_15 : decode cX7_hostiles 15 = .ok (.iconst 0, 1) := by decide +kernel
theorem dX7_hostiles_16 : decode cX7_hostiles 16 = .ok (.iload_n 2, 1) := by decide +kernel
theorem dX7_hostiles_17 : decode cX7_hostiles 17 = .ok (.invokestatic 62, 3) := by decide +kernel
theorem dX7_hostiles_20 : decode cX7_hostiles 20 = .ok (.ifCond .eq 7, 3) := by decide +kernel
theorem dX7_hostiles_23 : decode cX7_hostiles 23 = .ok (.iconst 1, 1) := by decide +kernel
theorem dX7_hostiles_24 : decode cX7_hostiles 24 = .ok (.goto 4, 3) := by decide +kernel
theorem dX7_hostiles_27 : decode cX7_hostiles 27 = .ok (.iconst 0, 1) := by decide +kernel
theorem dX7_hostiles_28 : decode cX7_hostiles 28 = .ok (.iadd, 1) := by decide +kernel
theorem dX7_hostiles_29 : decode cX7_hostiles 29 = .ok (.istore_n 1, 1) := by decide +kernel
theorem dX7_hostiles_30 : decode cX7_hostiles 30 = .ok (.iinc 2 1, 3) := by decide +kernel
theorem dX7_hostiles_33 : decode cX7_hostiles 33 = .ok (.goto (-29), 3) := by decide +kernel
theorem dX7_hostiles_36 : decode cX7_hostiles 36 = .ok (.iload_n 1, 1) := by decide +kernel
theorem dX7_hostiles_37 : decode cX7_hostiles 37 = .ok (.ireturn, 1) := by decide +kernel
theorem dX7_count_0 : decode cX7_count 0 = .ok (.iload_n 1, 1) := by decide +kernel
theorem dX7_count_1 : decode cX7_count 1 = .ok (.i2l, 1) := by decide +kernel
theorem dX7_count_2 : decode cX7_count 2 = .ok (.ldc2_w 155, 3) := by decide +kernel
theorem dX7_count_5 : decode cX7_count 5 = .ok (.ldc2_w 157, 3) := by decide +kernel
theorem dX7_count_8 : decode cX7_count 8 = .ok (.invokestatic 97, 3) := by decide +kernel
theorem dX7_count_11 : decode cX7_count 11 = .ok (.ifCond .eq 16, 3) := by decide +kernel
theorem dX7_count_14 : decode cX7_count 14 = .ok (.aload_n 0, 1) := by decide +kernel
theorem dX7_count_15 : decode cX7_count 15 = .ok (.getfield 7, 3) := by decide +kernel
theorem dX7_count_18 : decode cX7_count 18 = .ok (.bipush 34, 2) := by decide +kernel
theorem dX7_count_20 : decode cX7_count 20 = .ok (.iload_n 1, 1) := by decide +kernel
theorem dX7_count_21 : decode cX7_count 21 = .ok (.iadd, 1) := by decide +kernel
theorem dX7_count_22 : decode cX7_count 22 = .ok (.bipush 7, 2) := by decide +kernel
theorem dX7_count_24 : decode cX7_count 24 = .ok (.isub, 1) := by decide +kernel
theorem dX7_count_25 : decode cX7_count 25 = .ok (.iaload, 1) := by decide +kernel
theorem dX7_count_26 : decode cX7_count 26 = .ok (.ireturn, 1) := by decide +kernel
theorem dX7_count_27 : decode cX7_count 27 = .ok (.iload_n 1, 1) := by decide +kernel
theorem dX7_count_28 : decode cX7_count 28 = .ok (.tableswitch 137 0 13 #[72, 80, 88, 93, 93, 105, 114, 137, 137, 137, 137, 122, 127, 132], 72) := by decide +kernel
theorem dX7_count_100 : decode cX7_count 100 = .ok (.aload_n 0, 1) := by decide +kernel
theorem dX7_count_101 : decode cX7_count 101 = .ok (.getfield 7, 3) := by decide +kernel
theorem dX7_count_104 : decode cX7_count 104 = .ok (.bipush 26, 2) := by decide +kernel
theorem dX7_count_106 : decode cX7_count 106 = .ok (.iaload, 1) := by decide +kernel
theorem dX7_count_107 : decode cX7_count 107 = .ok (.ireturn, 1) := by decide +kernel
theorem dX7_count_108 : decode cX7_count 108 = .ok (.aload_n 0, 1) := by decide +kernel
theorem dX7_count_109 : decode cX7_count 109 = .ok (.getfield 7, 3) := by decide +kernel
theorem dX7_count_112 : decode cX7_count 112 = .ok (.bipush 27, 2) := by decide +kernel
theorem dX7_count_114 : decode cX7_count 114 = .ok (.iaload, 1) := by decide +kernel
theorem dX7_count_115 : decode cX7_count 115 = .ok (.ireturn, 1) := by decide +kernel
theorem dX7_count_116 : decode cX7_count 116 = .ok (.aload_n 0, 1) := by decide +kernel
theorem dX7_count_117 : decode cX7_count 117 = .ok (.invokevirtual 159, 3) := by decide +kernel
theorem dX7_count_120 : decode cX7_count 120 = .ok (.ireturn, 1) := by decide +kernel
theorem dX7_count_121 : decode cX7_count 121 = .ok (.aload_n 0, 1) := by decide +kernel
theorem dX7_count_122 : decode cX7_count 122 = .ok (.getfield 7, 3) := by decide +kernel
theorem dX7_count_125 : decode cX7_count 125 = .ok (.bipush 24, 2) := by decide +kernel
theorem dX7_count_127 : decode cX7_count 127 = .ok (.iload_n 1, 1) := by decide +kernel
theorem dX7_count_128 : decode cX7_count 128 = .ok (.iadd, 1) := by decide +kernel
theorem dX7_count_129 : decode cX7_count 129 = .ok (.iconst 3, 1) := by decide +kernel
theorem dX7_count_130 : decode cX7_count 130 = .ok (.isub, 1) := by decide +kernel
theorem dX7_count_131 : decode cX7_count 131 = .ok (.iaload, 1) := by decide +kernel
theorem dX7_count_132 : decode cX7_count 132 = .ok (.ireturn, 1) := by decide +kernel
theorem dX7_count_133 : decode cX7_count 133 = .ok (.aload_n 0, 1) := by decide +kernel
theorem dX7_count_134 : decode cX7_count 134 = .ok (.getfield 7, 3) := by decide +kernel
theorem dX7_count_137 : decode cX7_count 137 = .ok (.iconst 0, 1) := by decide +kernel
theorem dX7_count_138 : decode cX7_count 138 = .ok (.invokestatic 50, 3) := by decide +kernel
theorem dX7_count_141 : decode cX7_count 141 = .ok (.ireturn, 1) := by decide +kernel
theorem dX7_count_142 : decode cX7_count 142 = .ok (.aload_n 0, 1) := by decide +kernel
theorem dX7_count_143 : decode cX7_count 143 = .ok (.getfield 7, 3) := by decide +kernel
theorem dX7_count_146 : decode cX7_count 146 = .ok (.bipush 28, 2) := by decide +kernel
theorem dX7_count_148 : decode cX7_count 148 = .ok (.iaload, 1) := by decide +kernel
theorem dX7_count_149 : decode cX7_count 149 = .ok (.ireturn, 1) := by decide +kernel
theorem dX7_count_150 : decode cX7_count 150 = .ok (.aload_n 0, 1) := by decide +kernel
theorem dX7_count_151 : decode cX7_count 151 = .ok (.invokevirtual 162, 3) := by decide +kernel
theorem dX7_count_154 : decode cX7_count 154 = .ok (.ireturn, 1) := by decide +kernel
theorem dX7_count_155 : decode cX7_count 155 = .ok (.aload_n 0, 1) := by decide +kernel
theorem dX7_count_156 : decode cX7_count 156 = .ok (.getfield 130, 3) := by decide +kernel
theorem dX7_count_159 : decode cX7_count 159 = .ok (.ireturn, 1) := by decide +kernel
theorem dX7_count_160 : decode cX7_count 160 = .ok (.aload_n 0, 1) := by decide +kernel
theorem dX7_count_161 : decode cX7_count 161 = .ok (.getfield 43, 3) := by decide +kernel
theorem dX7_count_164 : decode cX7_count 164 = .ok (.ireturn, 1) := by decide +kernel
theorem dX7_count_165 : decode cX7_count 165 = .ok (.bipush (-2), 2) := by decide +kernel
theorem dX7_count_167 : decode cX7_count 167 = .ok (.ireturn, 1) := by decide +kernel
theorem dX7_last_0 : decode cX7_last 0 = .ok (.iload_n 1, 1) := by decide +kernel
theorem dX7_last_1 : decode cX7_last 1 = .ok (.i2l, 1) := by decide +kernel
theorem dX7_last_2 : decode cX7_last 2 = .ok (.lconst 0, 1) := by decide +kernel
theorem dX7_last_3 : decode cX7_last 3 = .ok (.ldc2_w 122, 3) := by decide +kernel
theorem dX7_last_6 : decode cX7_last 6 = .ok (.invokestatic 97, 3) := by decide +kernel
theorem dX7_last_9 : decode cX7_last 9 = .ok (.ifCond .ne 8, 3) := by decide +kernel
theorem dX7_last_12 : decode cX7_last 12 = .ok (.bipush (-2), 2) := by decide +kernel
theorem dX7_last_14 : decode cX7_last 14 = .ok (.goto 27, 3) := by decide +kernel
theorem dX7_last_17 : decode cX7_last 17 = .ok (.aload_n 0, 1) := by decide +kernel
theorem dX7_last_18 : decode cX7_last 18 = .ok (.getfield 7, 3) := by decide +kernel
theorem dX7_last_21 : decode cX7_last 21 = .ok (.bipush 28, 2) := by decide +kernel
theorem dX7_last_23 : decode cX7_last 23 = .ok (.iaload, 1) := by decide +kernel
theorem dX7_last_24 : decode cX7_last 24 = .ok (.ifCond .ne 8, 3) := by decide +kernel
theorem dX7_last_27 : decode cX7_last 27 = .ok (.bipush (-6), 2) := by decide +kernel
theorem dX7_last_29 : decode cX7_last 29 = .ok (.goto 12, 3) := by decide +kernel
theorem dX7_last_32 : decode cX7_last 32 = .ok (.aload_n 0, 1) := by decide +kernel
theorem dX7_last_33 : decode cX7_last 33 = .ok (.getfield 7, 3) := by decide +kernel
theorem dX7_last_36 : decode cX7_last 36 = .ok (.bipush 29, 2) := by decide +kernel
theorem dX7_last_38 : decode cX7_last 38 = .ok (.iload_n 1, 1) := by decide +kernel
theorem dX7_last_39 : decode cX7_last 39 = .ok (.iadd, 1) := by decide +kernel
theorem dX7_last_40 : decode cX7_last 40 = .ok (.iaload, 1) := by decide +kernel
theorem dX7_last_41 : decode cX7_last 41 = .ok (.ireturn, 1) := by decide +kernel
theorem dX7_moved_0 : decode cX7_moved 0 = .ok (.iload_n 1, 1) := by decide +kernel
theorem dX7_moved_1 : decode cX7_moved 1 = .ok (.i2l, 1) := by decide +kernel
theorem dX7_moved_2 : decode cX7_moved 2 = .ok (.lconst 0, 1) := by decide +kernel
theorem dX7_moved_3 : decode cX7_moved 3 = .ok (.aload_n 0, 1) := by decide +kernel
theorem dX7_moved_4 : decode cX7_moved 4 = .ok (.getfield 7, 3) := by decide +kernel
theorem dX7_moved_7 : decode cX7_moved 7 = .ok (.bipush 28, 2) := by decide +kernel
theorem dX7_moved_9 : decode cX7_moved 9 = .ok (.iaload, 1) := by decide +kernel
theorem dX7_moved_10 : decode cX7_moved 10 = .ok (.i2l, 1) := by decide +kernel
theorem dX7_moved_11 : decode cX7_moved 11 = .ok (.lconst 1, 1) := by decide +kernel
theorem dX7_moved_12 : decode cX7_moved 12 = .ok (.lsub, 1) := by decide +kernel
theorem dX7_moved_13 : decode cX7_moved 13 = .ok (.invokestatic 97, 3) := by decide +kernel
theorem dX7_moved_16 : decode cX7_moved 16 = .ok (.ifCond .eq 15, 3) := by decide +kernel
theorem dX7_moved_19 : decode cX7_moved 19 = .ok (.aload_n 0, 1) := by decide +kernel
theorem dX7_moved_20 : decode cX7_moved 20 = .ok (.getfield 7, 3) := by decide +kernel
theorem dX7_moved_23 : decode cX7_moved 23 = .ok (.bipush 40, 2) := by decide +kernel
theorem dX7_moved_25 : decode cX7_moved 25 = .ok (.iload_n 1, 1) := by decide +kernel
theorem dX7_moved_26 : decode cX7_moved 26 = .ok (.iadd, 1) := by decide +kernel
theorem dX7_moved_27 : decode cX7_moved 27 = .ok (.iaload, 1) := by decide +kernel
theorem dX7_moved_28 : decode cX7_moved 28 = .ok (.goto 4, 3) := by decide +kernel
theorem dX7_moved_31 : decode cX7_moved 31 = .ok (.iconst (-1), 1) := by decide +kernel
theorem dX7_moved_32 : decode cX7_moved 32 = .ok (.ireturn, 1) := by decide +kernel
theorem dX7_ifMove_0 : decode cX7_ifMove 0 = .ok (.iload_n 1, 1) := by decide +kernel
theorem dX7_ifMove_1 : decode cX7_ifMove 1 = .ok (.invokestatic 114, 3) := by decide +kernel
theorem dX7_ifMove_4 : decode cX7_ifMove 4 = .ok (.ifCond .ne 5, 3) := by decide +kernel
theorem dX7_ifMove_7 : decode cX7_ifMove 7 = .ok (.iconst (-1), 1) := by decide +kernel
theorem dX7_ifMove_8 : decode cX7_ifMove 8 = .ok (.ireturn, 1) := by decide +kernel
theorem dX7_ifMove_9 : decode cX7_ifMove 9 = .ok (.aload_n 0, 1) := by decide +kernel
theorem dX7_ifMove_10 : decode cX7_ifMove 10 = .ok (.getfield 7, 3) := by decide +kernel
theorem dX7_ifMove_13 : decode cX7_ifMove 13 = .ok (.iconst 0, 1) := by decide +kernel
theorem dX7_ifMove_14 : decode cX7_ifMove 14 = .ok (.iload_n 1, 1) := by decide +kernel
theorem dX7_ifMove_15 : decode cX7_ifMove 15 = .ok (.invokestatic 78, 3) := by decide +kernel
theorem dX7_ifMove_18 : decode cX7_ifMove 18 = .ok (.ifCond .ne 6, 3) := by decide +kernel
theorem dX7_ifMove_21 : decode cX7_ifMove 21 = .ok (.bipush (-5), 2) := by decide +kernel
theorem dX7_ifMove_23 : decode cX7_ifMove 23 = .ok (.ireturn, 1) := by decide +kernel
theorem dX7_ifMove_24 : decode cX7_ifMove 24 = .ok (.iload_n 2, 1) := by decide +kernel
theorem dX7_ifMove_25 : decode cX7_ifMove 25 = .ok (.i2l, 1) := by decide +kernel
theorem dX7_ifMove_26 : decode cX7_ifMove 26 = .ok (.lconst 0, 1) := by decide +kernel
theorem dX7_ifMove_27 : decode cX7_ifMove 27 = .ok (.ldc2_w 165, 3) := by decide +kernel
theorem dX7_ifMove_30 : decode cX7_ifMove 30 = .ok (.invokestatic 97, 3) := by decide +kernel
theorem dX7_ifMove_33 : decode cX7_ifMove 33 = .ok (.ifCond .ne 6, 3) := by decide +kernel
theorem dX7_ifMove_36 : decode cX7_ifMove 36 = .ok (.bipush (-2), 2) := by decide +kernel
theorem dX7_ifMove_38 : decode cX7_ifMove 38 = .ok (.ireturn, 1) := by decide +kernel
theorem dX7_ifMove_39 : decode cX7_ifMove 39 = .ok (.aload_n 0, 1) := by decide +kernel
theorem dX7_ifMove_40 : decode cX7_ifMove 40 = .ok (.aload_n 0, 1) := by decide +kernel
theorem dX7_ifMove_41 : decode cX7_ifMove 41 = .ok (.getfield 7, 3) := by decide +kernel
theorem dX7_ifMove_44 : decode cX7_ifMove 44 = .ok (.iconst 0, 1) := by decide +kernel
theorem dX7_ifMove_45 : decode cX7_ifMove 45 = .ok (.iconst 0, 1) := by decide +kernel
theorem dX7_ifMove_46 : decode cX7_ifMove 46 = .ok (.invokevirtual 81, 3) := by decide +kernel
theorem dX7_ifMove_49 : decode cX7_ifMove 49 = .ok (.aload_n 0, 1) := by decide +kernel
theorem dX7_ifMove_50 : decode cX7_ifMove 50 = .ok (.getfield 22, 3) := by decide +kernel
theorem dX7_ifMove_53 : decode cX7_ifMove 53 = .ok (.iconst 0, 1) := by decide +kernel
theorem dX7_ifMove_54 : decode cX7_ifMove 54 = .ok (.iload_n 1, 1) := by decide +kernel
theorem dX7_ifMove_55 : decode cX7_ifMove 55 = .ok (.invokestatic 85, 3) := by decide +kernel
theorem dX7_ifMove_58 : decode cX7_ifMove 58 = .ok (.aload_n 0, 1) := by decide +kernel
theorem dX7_ifMove_59 : decode cX7_ifMove 59 = .ok (.getfield 7, 3) := by decide +kernel
theorem dX7_ifMove_62 : decode cX7_ifMove 62 = .ok (.bipush 26, 2) := by decide +kernel
theorem dX7_ifMove_64 : decode cX7_ifMove 64 = .ok (.iaload, 1) := by decide +kernel
theorem dX7_ifMove_65 : decode cX7_ifMove 65 = .ok (.istore_n 3, 1) := by decide +kernel
theorem dX7_ifMove_66 : decode cX7_ifMove 66 = .ok (.iload_n 2, 1) := by decide +kernel
theorem dX7_ifMove_67 : decode cX7_ifMove 67 = .ok (.iconst 4, 1) := by decide +kernel
theorem dX7_ifMove_68 : decode cX7_ifMove 68 = .ok (.if_icmp .ge 15, 3) := by decide +kernel
theorem dX7_ifMove_71 : decode cX7_ifMove 71 = .ok (.aload_n 0, 1) := by decide +kernel
theorem dX7_ifMove_72 : decode cX7_ifMove 72 = .ok (.getfield 22, 3) := by decide +kernel
theorem dX7_ifMove_75 : decode cX7_ifMove 75 = .ok (.bipush 30, 2) := by decide +kernel
theorem dX7_ifMove_77 : decode cX7_ifMove 77 = .ok (.iload_n 2, 1) := by decide +kernel
theorem dX7_ifMove_78 : decode cX7_ifMove 78 = .ok (.iadd, 1) := by decide +kernel
theorem dX7_ifMove_79 : decode cX7_ifMove 79 = .ok (.iaload, 1) := by decide +kernel
theorem dX7_ifMove_80 : decode cX7_ifMove 80 = .ok (.goto 56, 3) := by decide +kernel
theorem dX7_ifMove_83 : decode cX7_ifMove 83 = .ok (.iload_n 2, 1) := by decide +kernel
theorem dX7_ifMove_84 : decode cX7_ifMove 84 = .ok (.iconst 4, 1) := by decide +kernel
theorem dX7_ifMove_85 : decode cX7_ifMove 85 = .ok (.if_icmp .ne 29, 3) := by decide +kernel
theorem dX7_ifMove_88 : decode cX7_ifMove 88 = .ok (.aload_n 0, 1) := by decide +kernel
theorem dX7_ifMove_89 : decode cX7_ifMove 89 = .ok (.getfield 22, 3) := by decide +kernel
theorem dX7_ifMove_92 : decode cX7_ifMove 92 = .ok (.bipush 24, 2) := by decide +kernel
theorem dX7_ifMove_94 : decode cX7_ifMove 94 = .ok (.iload_n 3, 1) := by decide +kernel
theorem dX7_ifMove_95 : decode cX7_ifMove 95 = .ok (.iadd, 1) := by decide +kernel
theorem dX7_ifMove_96 : decode cX7_ifMove 96 = .ok (.iaload, 1) := by decide +kernel
theorem dX7_ifMove_97 : decode cX7_ifMove 97 = .ok (.aload_n 0, 1) := by decide +kernel
theorem dX7_ifMove_98 : decode cX7_ifMove 98 = .ok (.getfield 7, 3) := by decide +kernel
theorem dX7_ifMove_101 : decode cX7_ifMove 101 = .ok (.bipush 24, 2) := by decide +kernel
theorem dX7_ifMove_103 : decode cX7_ifMove 103 = .ok (.iload_n 3, 1) := by decide +kernel
theorem dX7_ifMove_104 : decode cX7_ifMove 104 = .ok (.iadd, 1) := by decide +kernel
theorem dX7_ifMove_105 : decode cX7_ifMove 105 = .ok (.iaload, 1) := by decide +kernel
theorem dX7_ifMove_106 : decode cX7_ifMove 106 = .ok (.isub, 1) := by decide +kernel
theorem dX7_ifMove_107 : decode cX7_ifMove 107 = .ok (.sipush 10000, 3) := by decide +kernel
theorem dX7_ifMove_110 : decode cX7_ifMove 110 = .ok (.iadd, 1) := by decide +kernel
theorem dX7_ifMove_111 : decode cX7_ifMove 111 = .ok (.goto 25, 3) := by decide +kernel
theorem dX7_ifMove_114 : decode cX7_ifMove 114 = .ok (.iload_n 2, 1) := by decide +kernel
theorem dX7_ifMove_115 : decode cX7_ifMove 115 = .ok (.iconst 5, 1) := by decide +kernel
theorem dX7_ifMove_116 : decode cX7_ifMove 116 = .ok (.if_icmp .ne 13, 3) := by decide +kernel
theorem dX7_ifMove_119 : decode cX7_ifMove 119 = .ok (.aload_n 0, 1) := by decide +kernel
theorem dX7_ifMove_120 : decode cX7_ifMove 120 = .ok (.getfield 22, 3) := by decide +kernel
theorem dX7_ifMove_123 : decode cX7_ifMove 123 = .ok (.bipush 26, 2) := by decide +kernel
theorem dX7_ifMove_125 : decode cX7_ifMove 125 = .ok (.iaload, 1) := by decide +kernel
theorem dX7_ifMove_126 : decode cX7_ifMove 126 = .ok (.goto 10, 3) := by decide +kernel
theorem dX7_ifMove_129 : decode cX7_ifMove 129 = .ok (.aload_n 0, 1) := by decide +kernel
theorem dX7_ifMove_130 : decode cX7_ifMove 130 = .ok (.getfield 22, 3) := by decide +kernel
theorem dX7_ifMove_133 : decode cX7_ifMove 133 = .ok (.bipush 27, 2) := by decide +kernel
theorem dX7_ifMove_135 : decode cX7_ifMove 135 = .ok (.iaload, 1) := by decide +kernel
theorem dX7_ifMove_136 : decode cX7_ifMove 136 = .ok (.ireturn, 1) := by decide +kernel
theorem dX7_worth_0 : decode cX7_worth 0 = .ok (.iload_n 1, 1) := by decide +kernel
theorem dX7_worth_1 : decode cX7_worth 1 = .ok (.i2l, 1) := by decide +kernel
theorem dX7_worth_2 : decode cX7_worth 2 = .ok (.lconst 0, 1) := by decide +kernel
theorem dX7_worth_3 : decode cX7_worth 3 = .ok (.ldc2_w 122, 3) := by decide +kernel
theorem dX7_worth_6 : decode cX7_worth 6 = .ok (.invokestatic 97, 3) := by decide +kernel
theorem dX7_worth_9 : decode cX7_worth 9 = .ok (.ifCond .ne 6, 3) := by decide +kernel
theorem dX7_worth_12 : decode cX7_worth 12 = .ok (.bipush (-2), 2) := by decide +kernel
theorem dX7_worth_14 : decode cX7_worth 14 = .ok (.ireturn, 1) := by decide +kernel
theorem dX7_worth_15 : decode cX7_worth 15 = .ok (.aload_n 0, 1) := by decide +kernel
theorem dX7_worth_16 : decode cX7_worth 16 = .ok (.aload_n 0, 1) := by decide +kernel
theorem dX7_worth_17 : decode cX7_worth 17 = .ok (.getfield 7, 3) := by decide +kernel
theorem dX7_worth_20 : decode cX7_worth 20 = .ok (.iconst 0, 1) := by decide +kernel
theorem dX7_worth_21 : decode cX7_worth 21 = .ok (.iconst 0, 1) := by decide +kernel
theorem dX7_worth_22 : decode cX7_worth 22 = .ok (.invokevirtual 81, 3) := by decide +kernel
theorem dX7_worth_25 : decode cX7_worth 25 = .ok (.aload_n 0, 1) := by decide +kernel
theorem dX7_worth_26 : decode cX7_worth 26 = .ok (.iconst 0, 1) := by decide +kernel
theorem dX7_worth_27 : decode cX7_worth 27 = .ok (.iload_n 1, 1) := by decide +kernel
theorem dX7_worth_28 : decode cX7_worth 28 = .ok (.invokevirtual 91, 3) := by decide +kernel
theorem dX7_worth_31 : decode cX7_worth 31 = .ok (.sipush 10000, 3) := by decide +kernel
theorem dX7_worth_34 : decode cX7_worth 34 = .ok (.iadd, 1) := by decide +kernel
theorem dX7_worth_35 : decode cX7_worth 35 = .ok (.ireturn, 1) := by decide +kernel
theorem dX7_best_0 : decode cX7_best 0 = .ok (.iload_n 1, 1) := by decide +kernel
theorem dX7_best_1 : decode cX7_best 1 = .ok (.i2l, 1) := by decide +kernel
theorem dX7_best_2 : decode cX7_best 2 = .ok (.lconst 1, 1) := by decide +kernel
theorem dX7_best_3 : decode cX7_best 3 = .ok (.ldc2_w 122, 3) := by decide +kernel
theorem dX7_best_6 : decode cX7_best 6 = .ok (.invokestatic 97, 3) := by decide +kernel
theorem dX7_best_9 : decode cX7_best 9 = .ok (.ifCond .ne 6, 3) := by decide +kernel
theorem dX7_best_12 : decode cX7_best 12 = .ok (.bipush (-2), 2) := by decide +kernel
theorem dX7_best_14 : decode cX7_best 14 = .ok (.ireturn, 1) := by decide +kernel
theorem dX7_best_15 : decode cX7_best 15 = .ok (.aload_n 0, 1) := by decide +kernel
theorem dX7_best_16 : decode cX7_best 16 = .ok (.aload_n 0, 1) := by decide +kernel
theorem dX7_best_17 : decode cX7_best 17 = .ok (.getfield 7, 3) := by decide +kernel
theorem dX7_best_20 : decode cX7_best 20 = .ok (.iconst 0, 1) := by decide +kernel
theorem dX7_best_21 : decode cX7_best 21 = .ok (.iconst 0, 1) := by decide +kernel
theorem dX7_best_22 : decode cX7_best 22 = .ok (.invokevirtual 81, 3) := by decide +kernel
theorem dX7_best_25 : decode cX7_best 25 = .ok (.aload_n 0, 1) := by decide +kernel
theorem dX7_best_26 : decode cX7_best 26 = .ok (.iconst 0, 1) := by decide +kernel
theorem dX7_best_27 : decode cX7_best 27 = .ok (.iload_n 1, 1) := by decide +kernel
theorem dX7_best_28 : decode cX7_best 28 = .ok (.invokevirtual 124, 3) := by decide +kernel
theorem dX7_best_31 : decode cX7_best 31 = .ok (.ireturn, 1) := by decide +kernel
theorem dX7_movesLeft_0 : decode cX7_movesLeft 0 = .ok (.iload_n 1, 1) := by decide +kernel
theorem dX7_movesLeft_1 : decode cX7_movesLeft 1 = .ok (.i2l, 1) := by decide +kernel
theorem dX7_movesLeft_2 : decode cX7_movesLeft 2 = .ok (.lconst 1, 1) := by decide +kernel
theorem dX7_movesLeft_3 : decode cX7_movesLeft 3 = .ok (.ldc2_w 153, 3) := by decide +kernel
theorem dX7_movesLeft_6 : decode cX7_movesLeft 6 = .ok (.invokestatic 97, 3) := by decide +kernel
theorem dX7_movesLeft_9 : decode cX7_movesLeft 9 = .ok (.ifCond .ne 6, 3) := by decide +kernel
theorem dX7_movesLeft_12 : decode cX7_movesLeft 12 = .ok (.bipush (-2), 2) := by decide +kernel
theorem dX7_movesLeft_14 : decode cX7_movesLeft 14 = .ok (.ireturn, 1) := by decide +kernel
theorem dX7_movesLeft_15 : decode cX7_movesLeft 15 = .ok (.aload_n 0, 1) := by decide +kernel
theorem dX7_movesLeft_16 : decode cX7_movesLeft 16 = .ok (.aload_n 0, 1) := by decide +kernel
theorem dX7_movesLeft_17 : decode cX7_movesLeft 17 = .ok (.getfield 7, 3) := by decide +kernel
theorem dX7_movesLeft_20 : decode cX7_movesLeft 20 = .ok (.iconst 0, 1) := by decide +kernel
theorem dX7_movesLeft_21 : decode cX7_movesLeft 21 = .ok (.iconst 0, 1) := by decide +kernel
theorem dX7_movesLeft_22 : decode cX7_movesLeft 22 = .ok (.invokevirtual 81, 3) := by decide +kernel
theorem dX7_movesLeft_25 : decode cX7_movesLeft 25 = .ok (.iconst 0, 1) := by decide +kernel
theorem dX7_movesLeft_26 : decode cX7_movesLeft 26 = .ok (.istore_n 2, 1) := by decide +kernel
theorem dX7_movesLeft_27 : decode cX7_movesLeft 27 = .ok (.aload_n 0, 1) := by decide +kernel
theorem dX7_movesLeft_28 : decode cX7_movesLeft 28 = .ok (.getfield 22, 3) := by decide +kernel
theorem dX7_movesLeft_31 : decode cX7_movesLeft 31 = .ok (.bipush 27, 2) := by decide +kernel
theorem dX7_movesLeft_33 : decode cX7_movesLeft 33 = .ok (.iaload, 1) := by decide +kernel
theorem dX7_movesLeft_34 : decode cX7_movesLeft 34 = .ok (.ifCond .ne 23, 3) := by decide +kernel
theorem dX7_movesLeft_37 : decode cX7_movesLeft 37 = .ok (.aload_n 0, 1) := by decide +kernel
theorem dX7_movesLeft_38 : decode cX7_movesLeft 38 = .ok (.getfield 22, 3) := by decide +kernel
theorem dX7_movesLeft_41 : decode cX7_movesLeft 41 = .ok (.iconst 0, 1) := by decide +kernel
theorem dX7_movesLeft_42 : decode cX7_movesLeft 42 = .ok (.aload_n 0, 1) := by decide +kernel
theorem dX7_movesLeft_43 : decode cX7_movesLeft 43 = .ok (.iconst 0, 1) := by decide +kernel
theorem dX7_movesLeft_44 : decode cX7_movesLeft 44 = .ok (.iload_n 1, 1) := by decide +kernel
theorem dX7_movesLeft_45 : decode cX7_movesLeft 45 = .ok (.invokevirtual 124, 3) := by decide +kernel
theorem dX7_movesLeft_48 : decode cX7_movesLeft 48 = .ok (.invokestatic 85, 3) := by decide +kernel
theorem dX7_movesLeft_51 : decode cX7_movesLeft 51 = .ok (.iinc 2 1, 3) := by decide +kernel
theorem dX7_movesLeft_54 : decode cX7_movesLeft 54 = .ok (.goto (-27), 3) := by decide +kernel
theorem dX7_movesLeft_57 : decode cX7_movesLeft 57 = .ok (.iload_n 2, 1) := by decide +kernel
theorem dX7_movesLeft_58 : decode cX7_movesLeft 58 = .ok (.ireturn, 1) := by decide +kernel
theorem dX7_put_0 : decode cX7_put 0 = .ok (.iconst 0, 1) := by decide +kernel
theorem dX7_put_1 : decode cX7_put 1 = .ok (.istore_n 3, 1) := by decide +kernel
theorem dX7_put_2 : decode cX7_put 2 = .ok (.iconst 1, 1) := by decide +kernel
theorem dX7_put_3 : decode cX7_put 3 = .ok (.istore 4, 2) := by decide +kernel
theorem dX7_put_5 : decode cX7_put 5 = .ok (.lload_n 1, 1) := by decide +kernel
theorem dX7_put_6 : decode cX7_put 6 = .ok (.lstore 5, 2) := by decide +kernel
theorem dX7_put_8 : decode cX7_put 8 = .ok (.iload_n 3, 1) := by decide +kernel
theorem dX7_put_9 : decode cX7_put 9 = .ok (.bipush 8, 2) := by decide +kernel
theorem dX7_put_11 : decode cX7_put 11 = .ok (.if_icmp .ge 57, 3) := by decide +kernel
theorem dX7_put_14 : decode cX7_put 14 = .ok (.lload 5, 2) := by decide +kernel
theorem dX7_put_16 : decode cX7_put 16 = .ok (.ldc2_w 167, 3) := by decide +kernel
theorem dX7_put_19 : decode cX7_put 19 = .ok (.land, 1) := by decide +kernel
theorem dX7_put_20 : decode cX7_put 20 = .ok (.lconst 0, 1) := by decide +kernel
theorem dX7_put_21 : decode cX7_put 21 = .ok (.lcmp, 1) := by decide +kernel
theorem dX7_put_22 : decode cX7_put 22 = .ok (.ifCond .eq 46, 3) := by decide +kernel
theorem dX7_put_25 : decode cX7_put 25 = .ok (.iload 4, 2) := by decide +kernel
theorem dX7_put_27 : decode cX7_put 27 = .ok (.ifCond .eq 25, 3) := by decide +kernel
theorem dX7_put_30 : decode cX7_put 30 = .ok (.lload 5, 2) := by decide +kernel
theorem dX7_put_32 : decode cX7_put 32 = .ok (.ldc2_w 167, 3) := by decide +kernel
theorem dX7_put_35 : decode cX7_put 35 = .ok (.land, 1) := by decide +kernel
theorem dX7_put_36 : decode cX7_put 36 = .ok (.ldc2_w 169, 3) := by decide +kernel
theorem dX7_put_39 : decode cX7_put 39 = .ok (.ldc2_w 171, 3) := by decide +kernel
theorem dX7_put_42 : decode cX7_put 42 = .ok (.invokestatic 97, 3) := by decide +kernel
theorem dX7_put_45 : decode cX7_put 45 = .ok (.ifCond .eq 7, 3) := by decide +kernel
theorem dX7_put_48 : decode cX7_put 48 = .ok (.iconst 1, 1) := by decide +kernel
theorem dX7_put_49 : decode cX7_put 49 = .ok (.goto 4, 3) := by decide +kernel
theorem dX7_put_52 : decode cX7_put 52 = .ok (.iconst 0, 1) := by decide +kernel
theorem dX7_put_53 : decode cX7_put 53 = .ok (.istore 4, 2) := by decide +kernel
theorem dX7_put_55 : decode cX7_put 55 = .ok (.lload 5, 2) := by decide +kernel
theorem dX7_put_57 : decode cX7_put 57 = .ok (.bipush 8, 2) := by decide +kernel
theorem dX7_put_59 : decode cX7_put 59 = .ok (.lushr, 1) := by decide +kernel
theorem dX7_put_60 : decode cX7_put 60 = .ok (.lstore 5, 2) := by decide +kernel
theorem dX7_put_62 : decode cX7_put 62 = .ok (.iinc 3 1, 3) := by decide +kernel
theorem dX7_put_65 : decode cX7_put 65 = .ok (.goto (-57), 3) := by decide +kernel
theorem dX7_put_68 : decode cX7_put 68 = .ok (.iload_n 3, 1) := by decide +kernel
theorem dX7_put_69 : decode cX7_put 69 = .ok (.ifCond .eq 15, 3) := by decide +kernel
theorem dX7_put_72 : decode cX7_put 72 = .ok (.lload 5, 2) := by decide +kernel
theorem dX7_put_74 : decode cX7_put 74 = .ok (.lconst 0, 1) := by decide +kernel
theorem dX7_put_75 : decode cX7_put 75 = .ok (.lcmp, 1) := by decide +kernel
theorem dX7_put_76 : decode cX7_put 76 = .ok (.ifCond .ne 8, 3) := by decide +kernel
theorem dX7_put_79 : decode cX7_put 79 = .ok (.iload 4, 2) := by decide +kernel
theorem dX7_put_81 : decode cX7_put 81 = .ok (.ifCond .ne 6, 3) := by decide +kernel
theorem dX7_put_84 : decode cX7_put 84 = .ok (.bipush (-2), 2) := by decide +kernel
theorem dX7_put_86 : decode cX7_put 86 = .ok (.ireturn, 1) := by decide +kernel
theorem dX7_put_87 : decode cX7_put 87 = .ok (.aload_n 0, 1) := by decide +kernel
theorem dX7_put_88 : decode cX7_put 88 = .ok (.getfield 130, 3) := by decide +kernel
theorem dX7_put_91 : decode cX7_put 91 = .ok (.iload_n 3, 1) := by decide +kernel
theorem dX7_put_92 : decode cX7_put 92 = .ok (.iadd, 1) := by decide +kernel
theorem dX7_put_93 : decode cX7_put 93 = .ok (.bipush 60, 2) := by decide +kernel
theorem dX7_put_95 : decode cX7_put 95 = .ok (.if_icmp .le 6, 3) := by decide +kernel
theorem dX7_put_98 : decode cX7_put 98 = .ok (.bipush (-4), 2) := by decide +kernel
theorem dX7_put_100 : decode cX7_put 100 = .ok (.ireturn, 1) := by decide +kernel
theorem dX7_put_101 : decode cX7_put 101 = .ok (.iload_n 3, 1) := by decide +kernel
theorem dX7_put_102 : decode cX7_put 102 = .ok (.iconst 1, 1) := by decide +kernel
theorem dX7_put_103 : decode cX7_put 103 = .ok (.isub, 1) := by decide +kernel
theorem dX7_put_104 : decode cX7_put 104 = .ok (.istore 7, 2) := by decide +kernel
theorem dX7_put_106 : decode cX7_put 106 = .ok (.iload 7, 2) := by decide +kernel
theorem dX7_put_108 : decode cX7_put 108 = .ok (.ifCond .lt 40, 3) := by decide +kernel
theorem dX7_put_111 : decode cX7_put 111 = .ok (.aload_n 0, 1) := by decide +kernel
theorem dX7_put_112 : decode cX7_put 112 = .ok (.getfield 34, 3) := by decide +kernel
theorem dX7_put_115 : decode cX7_put 115 = .ok (.aload_n 0, 1) := by decide +kernel
theorem dX7_put_116 : decode cX7_put 116 = .ok (.getfield 130, 3) := by decide +kernel
theorem dX7_put_119 : decode cX7_put 119 = .ok (.lload_n 1, 1) := by decide +kernel
theorem dX7_put_120 : decode cX7_put 120 = .ok (.bipush 8, 2) := by decide +kernel
theorem dX7_put_122 : decode cX7_put 122 = .ok (.iload 7, 2) := by decide +kernel
theorem dX7_put_124 : decode cX7_put 124 = .ok (.imul, 1) := by decide +kernel
theorem dX7_put_125 : decode cX7_put 125 = .ok (.lushr, 1) := by decide +kernel
theorem dX7_put_126 : decode cX7_put 126 = .ok (.ldc2_w 167, 3) := by decide +kernel
theorem dX7_put_129 : decode cX7_put 129 = .ok (.land, 1) := by decide +kernel
theorem dX7_put_130 : decode cX7_put 130 = .ok (.l2i, 1) := by decide +kernel
theorem dX7_put_131 : decode cX7_put 131 = .ok (.iastore, 1) := by decide +kernel
theorem dX7_put_132 : decode cX7_put 132 = .ok (.aload_n 0, 1) := by decide +kernel
theorem dX7_put_133 : decode cX7_put 133 = .ok (.dup, 1) := by decide +kernel
theorem dX7_put_134 : decode cX7_put 134 = .ok (.getfield 130, 3) := by decide +kernel
theorem dX7_put_137 : decode cX7_put 137 = .ok (.iconst 1, 1) := by decide +kernel
theorem dX7_put_138 : decode cX7_put 138 = .ok (.iadd, 1) := by decide +kernel
theorem dX7_put_139 : decode cX7_put 139 = .ok (.putfield 130, 3) := by decide +kernel
theorem dX7_put_142 : decode cX7_put 142 = .ok (.iinc 7 (-1), 3) := by decide +kernel
theorem dX7_put_145 : decode cX7_put 145 = .ok (.goto (-39), 3) := by decide +kernel
theorem dX7_put_148 : decode cX7_put 148 = .ok (.aload_n 0, 1) := by decide +kernel
theorem dX7_put_149 : decode cX7_put 149 = .ok (.getfield 130, 3) := by decide +kernel
theorem dX7_put_152 : decode cX7_put 152 = .ok (.ireturn, 1) := by decide +kernel
theorem dX7_wipe_0 : decode cX7_wipe 0 = .ok (.aload_n 0, 1) := by decide +kernel
theorem dX7_wipe_1 : decode cX7_wipe 1 = .ok (.getfield 130, 3) := by decide +kernel
theorem dX7_wipe_4 : decode cX7_wipe 4 = .ok (.istore_n 1, 1) := by decide +kernel
theorem dX7_wipe_5 : decode cX7_wipe 5 = .ok (.aload_n 0, 1) := by decide +kernel
theorem dX7_wipe_6 : decode cX7_wipe 6 = .ok (.iconst 0, 1) := by decide +kernel
theorem dX7_wipe_7 : decode cX7_wipe 7 = .ok (.putfield 130, 3) := by decide +kernel
theorem dX7_wipe_10 : decode cX7_wipe 10 = .ok (.iload_n 1, 1) := by decide +kernel
theorem dX7_wipe_11 : decode cX7_wipe 11 = .ok (.ireturn, 1) := by decide +kernel
theorem dX7_fault_0 : decode cX7_fault 0 = .ok (.aload_n 0, 1) := by decide +kernel
theorem dX7_fault_1 : decode cX7_fault 1 = .ok (.invokevirtual 149, 3) := by decide +kernel
theorem dX7_fault_4 : decode cX7_fault 4 = .ok (.ireturn, 1) := by decide +kernel
theorem dX7_undo_0 : decode cX7_undo 0 = .ok (.aload_n 0, 1) := by decide +kernel
theorem dX7_undo_1 : decode cX7_undo 1 = .ok (.getfield 43, 3) := by decide +kernel
theorem dX7_undo_4 : decode cX7_undo 4 = .ok (.ifCond .ne 6, 3) := by decide +kernel
theorem dX7_undo_7 : decode cX7_undo 7 = .ok (.bipush (-5), 2) := by decide +kernel
theorem dX7_undo_9 : decode cX7_undo 9 = .ok (.ireturn, 1) := by decide +kernel
theorem dX7_undo_10 : decode cX7_undo 10 = .ok (.aload_n 0, 1) := by decide +kernel
theorem dX7_undo_11 : decode cX7_undo 11 = .ok (.dup, 1) := by decide +kernel
theorem dX7_undo_12 : decode cX7_undo 12 = .ok (.getfield 43, 3) := by decide +kernel
theorem dX7_undo_15 : decode cX7_undo 15 = .ok (.iconst 1, 1) := by decide +kernel
theorem dX7_undo_16 : decode cX7_undo 16 = .ok (.isub, 1) := by decide +kernel
theorem dX7_undo_17 : decode cX7_undo 17 = .ok (.putfield 43, 3) := by decide +kernel
theorem dX7_undo_20 : decode cX7_undo 20 = .ok (.iconst 0, 1) := by decide +kernel
theorem dX7_undo_21 : decode cX7_undo 21 = .ok (.istore_n 1, 1) := by decide +kernel
theorem dX7_undo_22 : decode cX7_undo 22 = .ok (.iload_n 1, 1) := by decide +kernel
theorem dX7_undo_23 : decode cX7_undo 23 = .ok (.sipush 340, 3) := by decide +kernel
theorem dX7_undo_26 : decode cX7_undo 26 = .ok (.if_icmp .ge 30, 3) := by decide +kernel
theorem dX7_undo_29 : decode cX7_undo 29 = .ok (.aload_n 0, 1) := by decide +kernel
theorem dX7_undo_30 : decode cX7_undo 30 = .ok (.getfield 7, 3) := by decide +kernel
theorem dX7_undo_33 : decode cX7_undo 33 = .ok (.iload_n 1, 1) := by decide +kernel
theorem dX7_undo_34 : decode cX7_undo 34 = .ok (.aload_n 0, 1) := by decide +kernel
theorem dX7_undo_35 : decode cX7_undo 35 = .ok (.getfield 13, 3) := by decide +kernel
theorem dX7_undo_38 : decode cX7_undo 38 = .ok (.sipush 340, 3) := by decide +kernel
theorem dX7_undo_41 : decode cX7_undo 41 = .ok (.aload_n 0, 1) := by decide +kernel
theorem dX7_undo_42 : decode cX7_undo 42 = .ok (.getfield 43, 3) := by decide +kernel
theorem dX7_undo_45 : decode cX7_undo 45 = .ok (.imul, 1) := by decide +kernel
theorem dX7_undo_46 : decode cX7_undo 46 = .ok (.iload_n 1, 1) := by decide +kernel
theorem dX7_undo_47 : decode cX7_undo 47 = .ok (.iadd, 1) := by decide +kernel
theorem dX7_undo_48 : decode cX7_undo 48 = .ok (.iaload, 1) := by decide +kernel
theorem dX7_undo_49 : decode cX7_undo 49 = .ok (.iastore, 1) := by decide +kernel
theorem dX7_undo_50 : decode cX7_undo 50 = .ok (.iinc 1 1, 3) := by decide +kernel
theorem dX7_undo_53 : decode cX7_undo 53 = .ok (.goto (-31), 3) := by decide +kernel
theorem dX7_undo_56 : decode cX7_undo 56 = .ok (.aload_n 0, 1) := by decide +kernel
theorem dX7_undo_57 : decode cX7_undo 57 = .ok (.getfield 43, 3) := by decide +kernel
theorem dX7_undo_60 : decode cX7_undo 60 = .ok (.ireturn, 1) := by decide +kernel
theorem dX7_save_0 : decode cX7_save 0 = .ok (.iload_n 1, 1) := by decide +kernel
theorem dX7_save_1 : decode cX7_save 1 = .ok (.i2l, 1) := by decide +kernel
theorem dX7_save_2 : decode cX7_save 2 = .ok (.lconst 0, 1) := by decide +kernel
theorem dX7_save_3 : decode cX7_save 3 = .ok (.lconst 1, 1) := by decide +kernel
theorem dX7_save_4 : decode cX7_save 4 = .ok (.invokestatic 97, 3) := by decide +kernel
theorem dX7_save_7 : decode cX7_save 7 = .ok (.ifCond .ne 6, 3) := by decide +kernel
theorem dX7_save_10 : decode cX7_save 10 = .ok (.bipush (-2), 2) := by decide +kernel
theorem dX7_save_12 : decode cX7_save 12 = .ok (.ireturn, 1) := by decide +kernel
theorem dX7_save_13 : decode cX7_save 13 = .ok (.iconst 0, 1) := by decide +kernel
theorem dX7_save_14 : decode cX7_save 14 = .ok (.istore_n 2, 1) := by decide +kernel
theorem dX7_save_15 : decode cX7_save 15 = .ok (.iload_n 2, 1) := by decide +kernel
theorem dX7_save_16 : decode cX7_save 16 = .ok (.sipush 340, 3) := by decide +kernel
theorem dX7_save_19 : decode cX7_save 19 = .ok (.if_icmp .ge 27, 3) := by decide +kernel
theorem dX7_save_22 : decode cX7_save 22 = .ok (.aload_n 0, 1) := by decide +kernel
theorem dX7_save_23 : decode cX7_save 23 = .ok (.getfield 16, 3) := by decide +kernel
theorem dX7_save_26 : decode cX7_save 26 = .ok (.sipush 340, 3) := by decide +kernel
theorem dX7_save_29 : decode cX7_save 29 = .ok (.iload_n 1, 1) := by decide +kernel
theorem dX7_save_30 : decode cX7_save 30 = .ok (.imul, 1) := by decide +kernel
theorem dX7_save_31 : decode cX7_save 31 = .ok (.iload_n 2, 1) := by decide +kernel
theorem dX7_save_32 : decode cX7_save 32 = .ok (.iadd, 1) := by decide +kernel
theorem dX7_save_33 : decode cX7_save 33 = .ok (.aload_n 0, 1) := by decide +kernel
theorem dX7_save_34 : decode cX7_save 34 = .ok (.getfield 7, 3) := by decide +kernel
theorem dX7_save_37 : decode cX7_save 37 = .ok (.iload_n 2, 1) := by decide +kernel
theorem dX7_save_38 : decode cX7_save 38 = .ok (.iaload, 1) := by decide +kernel
theorem dX7_save_39 : decode cX7_save 39 = .ok (.iastore, 1) := by decide +kernel
theorem dX7_save_40 : decode cX7_save 40 = .ok (.iinc 2 1, 3) := by decide +kernel
theorem dX7_save_43 : decode cX7_save 43 = .ok (.goto (-28), 3) := by decide +kernel
theorem dX7_save_46 : decode cX7_save 46 = .ok (.aload_n 0, 1) := by decide +kernel
theorem dX7_save_47 : decode cX7_save 47 = .ok (.getfield 19, 3) := by decide +kernel
theorem dX7_save_50 : decode cX7_save 50 = .ok (.iload_n 1, 1) := by decide +kernel
theorem dX7_save_51 : decode cX7_save 51 = .ok (.iconst 1, 1) := by decide +kernel
theorem dX7_save_52 : decode cX7_save 52 = .ok (.iastore, 1) := by decide +kernel
theorem dX7_save_53 : decode cX7_save 53 = .ok (.aload_n 0, 1) := by decide +kernel
theorem dX7_save_54 : decode cX7_save 54 = .ok (.getfield 7, 3) := by decide +kernel
theorem dX7_save_57 : decode cX7_save 57 = .ok (.bipush 28, 2) := by decide +kernel
theorem dX7_save_59 : decode cX7_save 59 = .ok (.iaload, 1) := by decide +kernel
theorem dX7_save_60 : decode cX7_save 60 = .ok (.ireturn, 1) := by decide +kernel
theorem dX7_restore_0 : decode cX7_restore 0 = .ok (.iload_n 1, 1) := by decide +kernel
theorem dX7_restore_1 : decode cX7_restore 1 = .ok (.i2l, 1) := by decide +kernel
theorem dX7_restore_2 : decode cX7_restore 2 = .ok (.lconst 0, 1) := by decide +kernel
theorem dX7_restore_3 : decode cX7_restore 3 = .ok (.lconst 1, 1) := by decide +kernel
theorem dX7_restore_4 : decode cX7_restore 4 = .ok (.invokestatic 97, 3) := by decide +kernel
theorem dX7_restore_7 : decode cX7_restore 7 = .ok (.ifCond .ne 6, 3) := by decide +kernel
theorem dX7_restore_10 : decode cX7_restore 10 = .ok (.bipush (-2), 2) := by decide +kernel
theorem dX7_restore_12 : decode cX7_restore 12 = .ok (.ireturn, 1) := by decide +kernel
theorem dX7_restore_13 : decode cX7_restore 13 = .ok (.aload_n 0, 1) := by decide +kernel
theorem dX7_restore_14 : decode cX7_restore 14 = .ok (.getfield 19, 3) := by decide +kernel
theorem dX7_restore_17 : decode cX7_restore 17 = .ok (.iload_n 1, 1) := by decide +kernel
theorem dX7_restore_18 : decode cX7_restore 18 = .ok (.iaload, 1) := by decide +kernel
theorem dX7_restore_19 : decode cX7_restore 19 = .ok (.ifCond .ne 6, 3) := by decide +kernel
theorem dX7_restore_22 : decode cX7_restore 22 = .ok (.bipush (-5), 2) := by decide +kernel
theorem dX7_restore_24 : decode cX7_restore 24 = .ok (.ireturn, 1) := by decide +kernel
theorem dX7_restore_25 : decode cX7_restore 25 = .ok (.aload_n 0, 1) := by decide +kernel
theorem dX7_restore_26 : decode cX7_restore 26 = .ok (.invokevirtual 109, 3) := by decide +kernel
theorem dX7_restore_29 : decode cX7_restore 29 = .ok (.iconst 0, 1) := by decide +kernel
theorem dX7_restore_30 : decode cX7_restore 30 = .ok (.istore_n 2, 1) := by decide +kernel
theorem dX7_restore_31 : decode cX7_restore 31 = .ok (.iload_n 2, 1) := by decide +kernel
theorem dX7_restore_32 : decode cX7_restore 32 = .ok (.sipush 340, 3) := by decide +kernel
theorem dX7_restore_35 : decode cX7_restore 35 = .ok (.if_icmp .ge 27, 3) := by decide +kernel
theorem dX7_restore_38 : decode cX7_restore 38 = .ok (.aload_n 0, 1) := by decide +kernel
theorem dX7_restore_39 : decode cX7_restore 39 = .ok (.getfield 7, 3) := by decide +kernel
theorem dX7_restore_42 : decode cX7_restore 42 = .ok (.iload_n 2, 1) := by decide +kernel
theorem dX7_restore_43 : decode cX7_restore 43 = .ok (.aload_n 0, 1) := by decide +kernel
theorem dX7_restore_44 : decode cX7_restore 44 = .ok (.getfield 16, 3) := by decide +kernel
theorem dX7_restore_47 : decode cX7_restore 47 = .ok (.sipush 340, 3) := by decide +kernel
theorem dX7_restore_50 : decode cX7_restore 50 = .ok (.iload_n 1, 1) := by decide +kernel
theorem dX7_restore_51 : decode cX7_restore 51 = .ok (.imul, 1) := by decide +kernel
theorem dX7_restore_52 : decode cX7_restore 52 = .ok (.iload_n 2, 1) := by decide +kernel
theorem dX7_restore_53 : decode cX7_restore 53 = .ok (.iadd, 1) := by decide +kernel
theorem dX7_restore_54 : decode cX7_restore 54 = .ok (.iaload, 1) := by decide +kernel
theorem dX7_restore_55 : decode cX7_restore 55 = .ok (.iastore, 1) := by decide +kernel
theorem dX7_restore_56 : decode cX7_restore 56 = .ok (.iinc 2 1, 3) := by decide +kernel
theorem dX7_restore_59 : decode cX7_restore 59 = .ok (.goto (-28), 3) := by decide +kernel
theorem dX7_restore_62 : decode cX7_restore 62 = .ok (.aload_n 0, 1) := by decide +kernel
theorem dX7_restore_63 : decode cX7_restore 63 = .ok (.getfield 7, 3) := by decide +kernel
theorem dX7_restore_66 : decode cX7_restore 66 = .ok (.bipush 28, 2) := by decide +kernel
theorem dX7_restore_68 : decode cX7_restore 68 = .ok (.iaload, 1) := by decide +kernel
theorem dX7_restore_69 : decode cX7_restore 69 = .ok (.ireturn, 1) := by decide +kernel
theorem dJ9_max_7cf53_0 : decode cJ9_max_7cf53 0 = .ok (.iload_n 0, 1) := by decide +kernel
theorem dJ9_max_7cf53_1 : decode cJ9_max_7cf53 1 = .ok (.iload_n 1, 1) := by decide +kernel
theorem dJ9_max_7cf53_2 : decode cJ9_max_7cf53 2 = .ok (.if_icmp .lt 7, 3) := by decide +kernel
theorem dJ9_max_7cf53_5 : decode cJ9_max_7cf53 5 = .ok (.iload_n 0, 1) := by decide +kernel
theorem dJ9_max_7cf53_6 : decode cJ9_max_7cf53 6 = .ok (.goto 4, 3) := by decide +kernel
theorem dJ9_max_7cf53_9 : decode cJ9_max_7cf53 9 = .ok (.iload_n 1, 1) := by decide +kernel
theorem dJ9_max_7cf53_10 : decode cJ9_max_7cf53 10 = .ok (.ireturn, 1) := by decide +kernel
theorem dL_law_0 : decode cL_law 0 = .ok (.new 7, 3) := by decide +kernel
theorem dL_law_3 : decode cL_law 3 = .ok (.dup, 1) := by decide +kernel
theorem dL_law_4 : decode cL_law 4 = .ok (.invokespecial 9, 3) := by decide +kernel
theorem dL_law_7 : decode cL_law 7 = .ok (.astore_n 1, 1) := by decide +kernel
theorem dL_law_8 : decode cL_law 8 = .ok (.new 10, 3) := by decide +kernel
theorem dL_law_11 : decode cL_law 11 = .ok (.dup, 1) := by decide +kernel
theorem dL_law_12 : decode cL_law 12 = .ok (.invokespecial 12, 3) := by decide +kernel
theorem dL_law_15 : decode cL_law 15 = .ok (.astore_n 2, 1) := by decide +kernel
theorem dL_law_16 : decode cL_law 16 = .ok (.iconst 0, 1) := by decide +kernel
theorem dL_law_17 : decode cL_law 17 = .ok (.istore_n 3, 1) := by decide +kernel
theorem dL_law_18 : decode cL_law 18 = .ok (.iload_n 3, 1) := by decide +kernel
theorem dL_law_19 : decode cL_law 19 = .ok (.aload_n 0, 1) := by decide +kernel
theorem dL_law_20 : decode cL_law 20 = .ok (.arraylength, 1) := by decide +kernel
theorem dL_law_21 : decode cL_law 21 = .ok (.iconst 3, 1) := by decide +kernel
theorem dL_law_22 : decode cL_law 22 = .ok (.isub, 1) := by decide +kernel
theorem dL_law_23 : decode cL_law 23 = .ok (.if_icmp .gt 554, 3) := by decide +kernel
theorem dL_law_26 : decode cL_law 26 = .ok (.aload_n 0, 1) := by decide +kernel
theorem dL_law_27 : decode cL_law 27 = .ok (.iload_n 3, 1) := by decide +kernel
theorem dL_law_28 : decode cL_law 28 = .ok (.iaload, 1) := by decide +kernel
theorem dL_law_29 : decode cL_law 29 = .ok (.bipush 31, 2) := by decide +kernel
theorem dL_law_31 : decode cL_law 31 = .ok (.iand, 1) := by decide +kernel
theorem dL_law_32 : decode cL_law 32 = .ok (.tableswitch 539 0 18 #[92, 125, 138, 161, 184, 197, 230, 253, 276, 299, 332, 355, 378, 401, 454, 467, 480, 493, 516], 92) := by decide +kernel
theorem dL_law_124 : decode cL_law 124 = .ok (.aload_n 1, 1) := by decide +kernel
theorem dL_law_125 : decode cL_law 125 = .ok (.aload_n 0, 1) := by decide +kernel
theorem dL_law_126 : decode cL_law 126 = .ok (.iload_n 3, 1) := by decide +kernel
theorem dL_law_127 : decode cL_law 127 = .ok (.iconst 1, 1) := by decide +kernel
theorem dL_law_128 : decode cL_law 128 = .ok (.iadd, 1) := by decide +kernel
theorem dL_law_129 : decode cL_law 129 = .ok (.iaload, 1) := by decide +kernel
theorem dL_law_130 : decode cL_law 130 = .ok (.aload_n 0, 1) := by decide +kernel
theorem dL_law_131 : decode cL_law 131 = .ok (.iload_n 3, 1) := by decide +kernel
theorem dL_law_132 : decode cL_law 132 = .ok (.iconst 2, 1) := by decide +kernel
theorem dL_law_133 : decode cL_law 133 = .ok (.iadd, 1) := by decide +kernel
theorem dL_law_134 : decode cL_law 134 = .ok (.iaload, 1) := by decide +kernel
theorem dL_law_135 : decode cL_law 135 = .ok (.invokevirtual 13, 3) := by decide +kernel
theorem dL_law_138 : decode cL_law 138 = .ok (.aload_n 2, 1) := by decide +kernel
theorem dL_law_139 : decode cL_law 139 = .ok (.aload_n 0, 1) := by decide +kernel
theorem dL_law_140 : decode cL_law 140 = .ok (.iload_n 3, 1) := by decide +kernel
theorem dL_law_141 : decode cL_law 141 = .ok (.iconst 1, 1) := by decide +kernel
theorem dL_law_142 : decode cL_law 142 = .ok (.iadd, 1) := by decide +kernel
theorem dL_law_143 : decode cL_law 143 = .ok (.iaload, 1) := by decide +kernel
theorem dL_law_144 : decode cL_law 144 = .ok (.aload_n 0, 1) := by decide +kernel
theorem dL_law_145 : decode cL_law 145 = .ok (.iload_n 3, 1) := by decide +kernel
theorem dL_law_146 : decode cL_law 146 = .ok (.iconst 2, 1) := by decide +kernel
theorem dL_law_147 : decode cL_law 147 = .ok (.iadd, 1) := by decide +kernel
theorem dL_law_148 : decode cL_law 148 = .ok (.iaload, 1) := by decide +kernel
theorem dL_law_149 : decode cL_law 149 = .ok (.invokevirtual 17, 3) := by decide +kernel
theorem dL_law_152 : decode cL_law 152 = .ok (.if_icmp .eq 419, 3) := by decide +kernel
theorem dL_law_155 : decode cL_law 155 = .ok (.iconst 0, 1) := by decide +kernel
theorem dL_law_156 : decode cL_law 156 = .ok (.ireturn, 1) := by decide +kernel
theorem dL_law_157 : decode cL_law 157 = .ok (.aload_n 1, 1) := by decide +kernel
theorem dL_law_158 : decode cL_law 158 = .ok (.invokevirtual 18, 3) := by decide +kernel
theorem dL_law_161 : decode cL_law 161 = .ok (.aload_n 2, 1) := by decide +kernel
theorem dL_law_162 : decode cL_law 162 = .ok (.invokevirtual 22, 3) := by decide +kernel
theorem dL_law_165 : decode cL_law 165 = .ok (.if_icmp .eq 406, 3) := by decide +kernel
theorem dL_law_168 : decode cL_law 168 = .ok (.iconst 0, 1) := by decide +kernel
theorem dL_law_169 : decode cL_law 169 = .ok (.ireturn, 1) := by decide +kernel
theorem dL_law_170 : decode cL_law 170 = .ok (.aload_n 1, 1) := by decide +kernel
theorem dL_law_171 : decode cL_law 171 = .ok (.aload_n 0, 1) := by decide +kernel
theorem dL_law_172 : decode cL_law 172 = .ok (.iload_n 3, 1) := by decide +kernel
theorem dL_law_173 : decode cL_law 173 = .ok (.iconst 1, 1) := by decide +kernel
theorem dL_law_174 : decode cL_law 174 = .ok (.iadd, 1) := by decide +kernel
theorem dL_law_175 : decode cL_law 175 = .ok (.iaload, 1) := by decide +kernel
theorem dL_law_176 : decode cL_law 176 = .ok (.invokevirtual 23, 3) := by decide +kernel
theorem dL_law_179 : decode cL_law 179 = .ok (.aload_n 2, 1) := by decide +kernel
theorem dL_law_180 : decode cL_law 180 = .ok (.aload_n 0, 1) := by decide +kernel
theorem dL_law_181 : decode cL_law 181 = .ok (.iload_n 3, 1) := by decide +kernel
theorem dL_law_182 : decode cL_law 182 = .ok (.iconst 1, 1) := by decide +kernel
theorem dL_law_183 : decode cL_law 183 = .ok (.iadd, 1) := by decide +kernel
theorem dL_law_184 : decode cL_law 184 = .ok (.iaload, 1) := by decide +kernel
theorem dL_law_185 : decode cL_law 185 = .ok (.invokevirtual 27, 3) := by decide +kernel
theorem dL_law_188 : decode cL_law 188 = .ok (.if_icmp .eq 383, 3) := by decide +kernel
theorem dL_law_191 : decode cL_law 191 = .ok (.iconst 0, 1) := by decide +kernel
theorem dL_law_192 : decode cL_law 192 = .ok (.ireturn, 1) := by decide +kernel
theorem dL_law_193 : decode cL_law 193 = .ok (.aload_n 1, 1) := by decide +kernel
theorem dL_law_194 : decode cL_law 194 = .ok (.aload_n 0, 1) := by decide +kernel
theorem dL_law_195 : decode cL_law 195 = .ok (.iload_n 3, 1) := by decide +kernel
theorem dL_law_196 : decode cL_law 196 = .ok (.iconst 1, 1) := by decide +kernel
theorem dL_law_197 : decode cL_law 197 = .ok (.iadd, 1) := by decide +kernel
theorem dL_law_198 : decode cL_law 198 = .ok (.iaload, 1) := by decide +kernel
theorem dL_law_199 : decode cL_law 199 = .ok (.invokevirtual 28, 3) := by decide +kernel
theorem dL_law_202 : decode cL_law 202 = .ok (.aload_n 2, 1) := by decide +kernel
theorem dL_law_203 : decode cL_law 203 = .ok (.aload_n 0, 1) := by decide +kernel
theorem dL_law_204 : decode cL_law 204 = .ok (.iload_n 3, 1) := by decide +kernel
theorem dL_law_205 : decode cL_law 205 = .ok (.iconst 1, 1) := by decide +kernel
theorem dL_law_206 : decode cL_law 206 = .ok (.iadd, 1) := by decide +kernel
theorem dL_law_207 : decode cL_law 207 = .ok (.iaload, 1) := by decide +kernel
theorem dL_law_208 : decode cL_law 208 = .ok (.invokevirtual 31, 3) := by decide +kernel
theorem dL_law_211 : decode cL_law 211 = .ok (.if_icmp .eq 360, 3) := by decide +kernel
theorem dL_law_214 : decode cL_law 214 = .ok (.iconst 0, 1) := by decide +kernel
theorem dL_law_215 : decode cL_law 215 = .ok (.ireturn, 1) := by decide +kernel
theorem dL_law_216 : decode cL_law 216 = .ok (.aload_n 1, 1) := by decide +kernel
theorem dL_law_217 : decode cL_law 217 = .ok (.invokevirtual 32, 3) := by decide +kernel
theorem dL_law_220 : decode cL_law 220 = .ok (.aload_n 2, 1) := by decide +kernel
theorem dL_law_221 : decode cL_law 221 = .ok (.invokevirtual 35, 3) := by decide +kernel
theorem dL_law_224 : decode cL_law 224 = .ok (.if_icmp .eq 347, 3) := by decide +kernel
theorem dL_law_227 : decode cL_law 227 = .ok (.iconst 0, 1) := by decide +kernel
theorem dL_law_228 : decode cL_law 228 = .ok (.ireturn, 1) := by decide +kernel
theorem dL_law_229 : decode cL_law 229 = .ok (.aload_n 1, 1) := by decide +kernel
theorem dL_law_230 : decode cL_law 230 = .ok (.aload_n 0, 1) := by decide +kernel
theorem dL_law_231 : decode cL_law 231 = .ok (.iload_n 3, 1) := by decide +kernel
theorem dL_law_232 : decode cL_law 232 = .ok (.iconst 1, 1) := by decide +kernel
theorem dL_law_233 : decode cL_law 233 = .ok (.iadd, 1) := by decide +kernel
theorem dL_law_234 : decode cL_law 234 = .ok (.iaload, 1) := by decide +kernel
theorem dL_law_235 : decode cL_law 235 = .ok (.aload_n 0, 1) := by decide +kernel
theorem dL_law_236 : decode cL_law 236 = .ok (.iload_n 3, 1) := by decide +kernel
theorem dL_law_237 : decode cL_law 237 = .ok (.iconst 2, 1) := by decide +kernel
theorem dL_law_238 : decode cL_law 238 = .ok (.iadd, 1) := by decide +kernel
theorem dL_law_239 : decode cL_law 239 = .ok (.iaload, 1) := by decide +kernel
theorem dL_law_240 : decode cL_law 240 = .ok (.invokevirtual 36, 3) := by decide +kernel
theorem dL_law_243 : decode cL_law 243 = .ok (.aload_n 2, 1) := by decide +kernel
theorem dL_law_244 : decode cL_law 244 = .ok (.aload_n 0, 1) := by decide +kernel
theorem dL_law_245 : decode cL_law 245 = .ok (.iload_n 3, 1) := by decide +kernel
theorem dL_law_246 : decode cL_law 246 = .ok (.iconst 1, 1) := by decide +kernel
theorem dL_law_247 : decode cL_law 247 = .ok (.iadd, 1) := by decide +kernel
theorem dL_law_248 : decode cL_law 248 = .ok (.iaload, 1) := by decide +kernel
theorem dL_law_249 : decode cL_law 249 = .ok (.aload_n 0, 1) := by decide +kernel
theorem dL_law_250 : decode cL_law 250 = .ok (.iload_n 3, 1) := by decide +kernel
theorem dL_law_251 : decode cL_law 251 = .ok (.iconst 2, 1) := by decide +kernel
theorem dL_law_252 : decode cL_law 252 = .ok (.iadd, 1) := by decide +kernel
theorem dL_law_253 : decode cL_law 253 = .ok (.iaload, 1) := by decide +kernel
theorem dL_law_254 : decode cL_law 254 = .ok (.invokevirtual 39, 3) := by decide +kernel
theorem dL_law_257 : decode cL_law 257 = .ok (.if_icmp .eq 314, 3) := by decide +kernel
theorem dL_law_260 : decode cL_law 260 = .ok (.iconst 0, 1) := by decide +kernel
theorem dL_law_261 : decode cL_law 261 = .ok (.ireturn, 1) := by decide +kernel
theorem dL_law_262 : decode cL_law 262 = .ok (.aload_n 1, 1) := by decide +kernel
theorem dL_law_263 : decode cL_law 263 = .ok (.aload_n 0, 1) := by decide +kernel
theorem dL_law_264 : decode cL_law 264 = .ok (.iload_n 3, 1) := by decide +kernel
theorem dL_law_265 : decode cL_law 265 = .ok (.iconst 1, 1) := by decide +kernel
theorem dL_law_266 : decode cL_law 266 = .ok (.iadd, 1) := by decide +kernel
theorem dL_law_267 : decode cL_law 267 = .ok (.iaload, 1) := by decide +kernel
theorem dL_law_268 : decode cL_law 268 = .ok (.invokevirtual 40, 3) := by decide +kernel
theorem dL_law_271 : decode cL_law 271 = .ok (.aload_n 2, 1) := by decide +kernel
theorem dL_law_272 : decode cL_law 272 = .ok (.aload_n 0, 1) := by decide +kernel
theorem dL_law_273 : decode cL_law 273 = .ok (.iload_n 3, 1) := by decide +kernel
theorem dL_law_274 : decode cL_law 274 = .ok (.iconst 1, 1) := by decide +kernel
theorem dL_law_275 : decode cL_law 275 = .ok (.iadd, 1) := by decide +kernel
theorem dL_law_276 : decode cL_law 276 = .ok (.iaload, 1) := by decide +kernel
theorem dL_law_277 : decode cL_law 277 = .ok (.invokevirtual 43, 3) := by decide +kernel
theorem dL_law_280 : decode cL_law 280 = .ok (.if_icmp .eq 291, 3) := by decide +kernel
theorem dL_law_283 : decode cL_law 283 = .ok (.iconst 0, 1) := by decide +kernel
theorem dL_law_284 : decode cL_law 284 = .ok (.ireturn, 1) := by decide +kernel
theorem dL_law_285 : decode cL_law 285 = .ok (.aload_n 1, 1) := by decide +kernel
theorem dL_law_286 : decode cL_law 286 = .ok (.aload_n 0, 1) := by decide +kernel
theorem dL_law_287 : decode cL_law 287 = .ok (.iload_n 3, 1) := by decide +kernel
theorem dL_law_288 : decode cL_law 288 = .ok (.iconst 1, 1) := by decide +kernel
theorem dL_law_289 : decode cL_law 289 = .ok (.iadd, 1) := by decide +kernel
theorem dL_law_290 : decode cL_law 290 = .ok (.iaload, 1) := by decide +kernel
theorem dL_law_291 : decode cL_law 291 = .ok (.invokevirtual 44, 3) := by decide +kernel
theorem dL_law_294 : decode cL_law 294 = .ok (.aload_n 2, 1) := by decide +kernel
theorem dL_law_295 : decode cL_law 295 = .ok (.aload_n 0, 1) := by decide +kernel
theorem dL_law_296 : decode cL_law 296 = .ok (.iload_n 3, 1) := by decide +kernel
theorem dL_law_297 : decode cL_law 297 = .ok (.iconst 1, 1) := by decide +kernel
theorem dL_law_298 : decode cL_law 298 = .ok (.iadd, 1) := by decide +kernel
theorem dL_law_299 : decode cL_law 299 = .ok (.iaload, 1) := by decide +kernel
theorem dL_law_300 : decode cL_law 300 = .ok (.invokevirtual 47, 3) := by decide +kernel
theorem dL_law_303 : decode cL_law 303 = .ok (.if_icmp .eq 268, 3) := by decide +kernel
theorem dL_law_306 : decode cL_law 306 = .ok (.iconst 0, 1) := by decide +kernel
theorem dL_law_307 : decode cL_law 307 = .ok (.ireturn, 1) := by decide +kernel
theorem dL_law_308 : decode cL_law 308 = .ok (.aload_n 1, 1) := by decide +kernel
theorem dL_law_309 : decode cL_law 309 = .ok (.aload_n 0, 1) := by decide +kernel
theorem dL_law_310 : decode cL_law 310 = .ok (.iload_n 3, 1) := by decide +kernel
theorem dL_law_311 : decode cL_law 311 = .ok (.iconst 1, 1) := by decide +kernel
theorem dL_law_312 : decode cL_law 312 = .ok (.iadd, 1) := by decide +kernel
theorem dL_law_313 : decode cL_law 313 = .ok (.iaload, 1) := by decide +kernel
theorem dL_law_314 : decode cL_law 314 = .ok (.invokevirtual 48, 3) := by decide +kernel
theorem dL_law_317 : decode cL_law 317 = .ok (.aload_n 2, 1) := by decide +kernel
theorem dL_law_318 : decode cL_law 318 = .ok (.aload_n 0, 1) := by decide +kernel
theorem dL_law_319 : decode cL_law 319 = .ok (.iload_n 3, 1) := by decide +kernel
theorem dL_law_320 : decode cL_law 320 = .ok (.iconst 1, 1) := by decide +kernel
theorem dL_law_321 : decode cL_law 321 = .ok (.iadd, 1) := by decide +kernel
theorem dL_law_322 : decode cL_law 322 = .ok (.iaload, 1) := by decide +kernel
theorem dL_law_323 : decode cL_law 323 = .ok (.invokevirtual 51, 3) := by decide +kernel
theorem dL_law_326 : decode cL_law 326 = .ok (.if_icmp .eq 245, 3) := by decide +kernel
theorem dL_law_329 : decode cL_law 329 = .ok (.iconst 0, 1) := by decide +kernel
theorem dL_law_330 : decode cL_law 330 = .ok (.ireturn, 1) := by decide +kernel
theorem dL_law_331 : decode cL_law 331 = .ok (.aload_n 1, 1) := by decide +kernel
theorem dL_law_332 : decode cL_law 332 = .ok (.aload_n 0, 1) := by decide +kernel
theorem dL_law_333 : decode cL_law 333 = .ok (.iload_n 3, 1) := by decide +kernel
theorem dL_law_334 : decode cL_law 334 = .ok (.iconst 1, 1) := by decide +kernel
theorem dL_law_335 : decode cL_law 335 = .ok (.iadd, 1) := by decide +kernel
theorem dL_law_336 : decode cL_law 336 = .ok (.iaload, 1) := by decide +kernel
theorem dL_law_337 : decode cL_law 337 = .ok (.aload_n 0, 1) := by decide +kernel
theorem dL_law_338 : decode cL_law 338 = .ok (.iload_n 3, 1) := by decide +kernel
theorem dL_law_339 : decode cL_law 339 = .ok (.iconst 2, 1) := by decide +kernel
theorem dL_law_340 : decode cL_law 340 = .ok (.iadd, 1) := by decide +kernel
theorem dL_law_341 : decode cL_law 341 = .ok (.iaload, 1) := by decide +kernel
theorem dL_law_342 : decode cL_law 342 = .ok (.invokevirtual 52, 3) := by decide +kernel
theorem dL_law_345 : decode cL_law 345 = .ok (.aload_n 2, 1) := by decide +kernel
theorem dL_law_346 : decode cL_law 346 = .ok (.aload_n 0, 1) := by decide +kernel
theorem dL_law_347 : decode cL_law 347 = .ok (.iload_n 3, 1) := by decide +kernel
theorem dL_law_348 : decode cL_law 348 = .ok (.iconst 1, 1) := by decide +kernel
theorem dL_law_349 : decode cL_law 349 = .ok (.iadd, 1) := by decide +kernel
theorem dL_law_350 : decode cL_law 350 = .ok (.iaload, 1) := by decide +kernel
theorem dL_law_351 : decode cL_law 351 = .ok (.aload_n 0, 1) := by decide +kernel
theorem dL_law_352 : decode cL_law 352 = .ok (.iload_n 3, 1) := by decide +kernel
theorem dL_law_353 : decode cL_law 353 = .ok (.iconst 2, 1) := by decide +kernel
theorem dL_law_354 : decode cL_law 354 = .ok (.iadd, 1) := by decide +kernel
theorem dL_law_355 : decode cL_law 355 = .ok (.iaload, 1) := by decide +kernel
theorem dL_law_356 : decode cL_law 356 = .ok (.invokevirtual 55, 3) := by decide +kernel
theorem dL_law_359 : decode cL_law 359 = .ok (.if_icmp .eq 212, 3) := by decide +kernel
theorem dL_law_362 : decode cL_law 362 = .ok (.iconst 0, 1) := by decide +kernel
theorem dL_law_363 : decode cL_law 363 = .ok (.ireturn, 1) := by decide +kernel
theorem dL_law_364 : decode cL_law 364 = .ok (.aload_n 1, 1) := by decide +kernel
theorem dL_law_365 : decode cL_law 365 = .ok (.aload_n 0, 1) := by decide +kernel
theorem dL_law_366 : decode cL_law 366 = .ok (.iload_n 3, 1) := by decide +kernel
theorem dL_law_367 : decode cL_law 367 = .ok (.iconst 1, 1) := by decide +kernel
theorem dL_law_368 : decode cL_law 368 = .ok (.iadd, 1) := by decide +kernel
theorem dL_law_369 : decode cL_law 369 = .ok (.iaload, 1) := by decide +kernel
theorem dL_law_370 : decode cL_law 370 = .ok (.invokevirtual 56, 3) := by decide +kernel
theorem dL_law_373 : decode cL_law 373 = .ok (.aload_n 2, 1) := by decide +kernel
theorem dL_law_374 : decode cL_law 374 = .ok (.aload_n 0, 1) := by decide +kernel
theorem dL_law_375 : decode cL_law 375 = .ok (.iload_n 3, 1) := by decide +kernel
theorem dL_law_376 : decode cL_law 376 = .ok (.iconst 1, 1) := by decide +kernel
theorem dL_law_377 : decode cL_law 377 = .ok (.iadd, 1) := by decide +kernel
theorem dL_law_378 : decode cL_law 378 = .ok (.iaload, 1) := by decide +kernel
theorem dL_law_379 : decode cL_law 379 = .ok (.invokevirtual 59, 3) := by decide +kernel
theorem dL_law_382 : decode cL_law 382 = .ok (.if_icmp .eq 189, 3) := by decide +kernel
theorem dL_law_385 : decode cL_law 385 = .ok (.iconst 0, 1) := by decide +kernel
theorem dL_law_386 : decode cL_law 386 = .ok (.ireturn, 1) := by decide +kernel
theorem dL_law_387 : decode cL_law 387 = .ok (.aload_n 1, 1) := by decide +kernel
theorem dL_law_388 : decode cL_law 388 = .ok (.aload_n 0, 1) := by decide +kernel
theorem dL_law_389 : decode cL_law 389 = .ok (.iload_n 3, 1) := by decide +kernel
theorem dL_law_390 : decode cL_law 390 = .ok (.iconst 1, 1) := by decide +kernel
theorem dL_law_391 : decode cL_law 391 = .ok (.iadd, 1) := by decide +kernel
theorem dL_law_392 : decode cL_law 392 = .ok (.iaload, 1) := by decide +kernel
theorem dL_law_393 : decode cL_law 393 = .ok (.invokevirtual 60, 3) := by decide +kernel
theorem dL_law_396 : decode cL_law 396 = .ok (.aload_n 2, 1) := by decide +kernel
theorem dL_law_397 : decode cL_law 397 = .ok (.aload_n 0, 1) := by decide +kernel
theorem dL_law_398 : decode cL_law 398 = .ok (.iload_n 3, 1) := by decide +kernel
theorem dL_law_399 : decode cL_law 399 = .ok (.iconst 1, 1) := by decide +kernel
theorem dL_law_400 : decode cL_law 400 = .ok (.iadd, 1) := by decide +kernel
theorem dL_law_401 : decode cL_law 401 = .ok (.iaload, 1) := by decide +kernel
theorem dL_law_402 : decode cL_law 402 = .ok (.invokevirtual 63, 3) := by decide +kernel
theorem dL_law_405 : decode cL_law 405 = .ok (.if_icmp .eq 166, 3) := by decide +kernel
theorem dL_law_408 : decode cL_law 408 = .ok (.iconst 0, 1) := by decide +kernel
theorem dL_law_409 : decode cL_law 409 = .ok (.ireturn, 1) := by decide +kernel
theorem dL_law_410 : decode cL_law 410 = .ok (.aload_n 1, 1) := by decide +kernel
theorem dL_law_411 : decode cL_law 411 = .ok (.aload_n 0, 1) := by decide +kernel
theorem dL_law_412 : decode cL_law 412 = .ok (.iload_n 3, 1) := by decide +kernel
theorem dL_law_413 : decode cL_law 413 = .ok (.iconst 1, 1) := by decide +kernel
theorem dL_law_414 : decode cL_law 414 = .ok (.iadd, 1) := by decide +kernel
theorem dL_law_415 : decode cL_law 415 = .ok (.iaload, 1) := by decide +kernel
theorem dL_law_416 : decode cL_law 416 = .ok (.invokevirtual 64, 3) := by decide +kernel
theorem dL_law_419 : decode cL_law 419 = .ok (.aload_n 2, 1) := by decide +kernel
theorem dL_law_420 : decode cL_law 420 = .ok (.aload_n 0, 1) := by decide +kernel
theorem dL_law_421 : decode cL_law 421 = .ok (.iload_n 3, 1) := by decide +kernel
theorem dL_law_422 : decode cL_law 422 = .ok (.iconst 1, 1) := by decide +kernel
theorem dL_law_423 : decode cL_law 423 = .ok (.iadd, 1) := by decide +kernel
theorem dL_law_424 : decode cL_law 424 = .ok (.iaload, 1) := by decide +kernel
theorem dL_law_425 : decode cL_law 425 = .ok (.invokevirtual 67, 3) := by decide +kernel
theorem dL_law_428 : decode cL_law 428 = .ok (.if_icmp .eq 143, 3) := by decide +kernel
theorem dL_law_431 : decode cL_law 431 = .ok (.iconst 0, 1) := by decide +kernel
theorem dL_law_432 : decode cL_law 432 = .ok (.ireturn, 1) := by decide +kernel
theorem dL_law_433 : decode cL_law 433 = .ok (.aload_n 1, 1) := by decide +kernel
theorem dL_law_434 : decode cL_law 434 = .ok (.aload_n 0, 1) := by decide +kernel
theorem dL_law_435 : decode cL_law 435 = .ok (.iload_n 3, 1) := by decide +kernel
theorem dL_law_436 : decode cL_law 436 = .ok (.iconst 1, 1) := by decide +kernel
theorem dL_law_437 : decode cL_law 437 = .ok (.iadd, 1) := by decide +kernel
theorem dL_law_438 : decode cL_law 438 = .ok (.iaload, 1) := by decide +kernel
theorem dL_law_439 : decode cL_law 439 = .ok (.i2l, 1) := by decide +kernel
theorem dL_law_440 : decode cL_law 440 = .ok (.bipush 32, 2) := by decide +kernel
theorem dL_law_442 : decode cL_law 442 = .ok (.lshl, 1) := by decide +kernel
theorem dL_law_443 : decode cL_law 443 = .ok (.aload_n 0, 1) := by decide +kernel
theorem dL_law_444 : decode cL_law 444 = .ok (.iload_n 3, 1) := by decide +kernel
theorem dL_law_445 : decode cL_law 445 = .ok (.iconst 2, 1) := by decide +kernel
theorem dL_law_446 : decode cL_law 446 = .ok (.iadd, 1) := by decide +kernel
theorem dL_law_447 : decode cL_law 447 = .ok (.iaload, 1) := by decide +kernel
theorem dL_law_448 : decode cL_law 448 = .ok (.i2l, 1) := by decide +kernel
theorem dL_law_449 : decode cL_law 449 = .ok (.ldc2_w 68, 3) := by decide +kernel
theorem dL_law_452 : decode cL_law 452 = .ok (.land, 1) := by decide +kernel
theorem dL_law_453 : decode cL_law 453 = .ok (.lor, 1) := by decide +kernel
theorem dL_law_454 : decode cL_law 454 = .ok (.invokevirtual 70, 3) := by decide +kernel
theorem dL_law_457 : decode cL_law 457 = .ok (.aload_n 2, 1) := by decide +kernel
theorem dL_law_458 : decode cL_law 458 = .ok (.aload_n 0, 1) := by decide +kernel
theorem dL_law_459 : decode cL_law 459 = .ok (.iload_n 3, 1) := by decide +kernel
theorem dL_law_460 : decode cL_law 460 = .ok (.iconst 1, 1) := by decide +kernel
theorem dL_law_461 : decode cL_law 461 = .ok (.iadd, 1) := by decide +kernel
theorem dL_law_462 : decode cL_law 462 = .ok (.iaload, 1) := by decide +kernel
theorem dL_law_463 : decode cL_law 463 = .ok (.i2l, 1) := by decide +kernel
theorem dL_law_464 : decode cL_law 464 = .ok (.bipush 32, 2) := by decide +kernel
theorem dL_law_466 : decode cL_law 466 = .ok (.lshl, 1) := by decide +kernel
theorem dL_law_467 : decode cL_law 467 = .ok (.aload_n 0, 1) := by decide +kernel
theorem dL_law_468 : decode cL_law 468 = .ok (.iload_n 3, 1) := by decide +kernel
theorem dL_law_469 : decode cL_law 469 = .ok (.iconst 2, 1) := by decide +kernel
theorem dL_law_470 : decode cL_law 470 = .ok (.iadd, 1) := by decide +kernel
theorem dL_law_471 : decode cL_law 471 = .ok (.iaload, 1) := by decide +kernel
theorem dL_law_472 : decode cL_law 472 = .ok (.i2l, 1) := by decide +kernel
theorem dL_law_473 : decode cL_law 473 = .ok (.ldc2_w 68, 3) := by decide +kernel
theorem dL_law_476 : decode cL_law 476 = .ok (.land, 1) := by decide +kernel
theorem dL_law_477 : decode cL_law 477 = .ok (.lor, 1) := by decide +kernel
theorem dL_law_478 : decode cL_law 478 = .ok (.invokevirtual 74, 3) := by decide +kernel
theorem dL_law_481 : decode cL_law 481 = .ok (.if_icmp .eq 90, 3) := by decide +kernel
theorem dL_law_484 : decode cL_law 484 = .ok (.iconst 0, 1) := by decide +kernel
theorem dL_law_485 : decode cL_law 485 = .ok (.ireturn, 1) := by decide +kernel
theorem dL_law_486 : decode cL_law 486 = .ok (.aload_n 1, 1) := by decide +kernel
theorem dL_law_487 : decode cL_law 487 = .ok (.invokevirtual 75, 3) := by decide +kernel
theorem dL_law_490 : decode cL_law 490 = .ok (.aload_n 2, 1) := by decide +kernel
theorem dL_law_491 : decode cL_law 491 = .ok (.invokevirtual 78, 3) := by decide +kernel
theorem dL_law_494 : decode cL_law 494 = .ok (.if_icmp .eq 77, 3) := by decide +kernel
theorem dL_law_497 : decode cL_law 497 = .ok (.iconst 0, 1) := by decide +kernel
theorem dL_law_498 : decode cL_law 498 = .ok (.ireturn, 1) := by decide +kernel
theorem dL_law_499 : decode cL_law 499 = .ok (.aload_n 1, 1) := by decide +kernel
theorem dL_law_500 : decode cL_law 500 = .ok (.invokevirtual 79, 3) := by decide +kernel
theorem dL_law_503 : decode cL_law 503 = .ok (.aload_n 2, 1) := by decide +kernel
theorem dL_law_504 : decode cL_law 504 = .ok (.invokevirtual 82, 3) := by decide +kernel
theorem dL_law_507 : decode cL_law 507 = .ok (.if_icmp .eq 64, 3) := by decide +kernel
theorem dL_law_510 : decode cL_law 510 = .ok (.iconst 0, 1) := by decide +kernel
theorem dL_law_511 : decode cL_law 511 = .ok (.ireturn, 1) := by decide +kernel
theorem dL_law_512 : decode cL_law 512 = .ok (.aload_n 1, 1) := by decide +kernel
theorem dL_law_513 : decode cL_law 513 = .ok (.invokevirtual 83, 3) := by decide +kernel
theorem dL_law_516 : decode cL_law 516 = .ok (.aload_n 2, 1) := by decide +kernel
theorem dL_law_517 : decode cL_law 517 = .ok (.invokevirtual 86, 3) := by decide +kernel
theorem dL_law_520 : decode cL_law 520 = .ok (.if_icmp .eq 51, 3) := by decide +kernel
theorem dL_law_523 : decode cL_law 523 = .ok (.iconst 0, 1) := by decide +kernel
theorem dL_law_524 : decode cL_law 524 = .ok (.ireturn, 1) := by decide +kernel
theorem dL_law_525 : decode cL_law 525 = .ok (.aload_n 1, 1) := by decide +kernel
theorem dL_law_526 : decode cL_law 526 = .ok (.aload_n 0, 1) := by decide +kernel
theorem dL_law_527 : decode cL_law 527 = .ok (.iload_n 3, 1) := by decide +kernel
theorem dL_law_528 : decode cL_law 528 = .ok (.iconst 1, 1) := by decide +kernel
theorem dL_law_529 : decode cL_law 529 = .ok (.iadd, 1) := by decide +kernel
theorem dL_law_530 : decode cL_law 530 = .ok (.iaload, 1) := by decide +kernel
theorem dL_law_531 : decode cL_law 531 = .ok (.invokevirtual 87, 3) := by decide +kernel
theorem dL_law_534 : decode cL_law 534 = .ok (.aload_n 2, 1) := by decide +kernel
theorem dL_law_535 : decode cL_law 535 = .ok (.aload_n 0, 1) := by decide +kernel
theorem dL_law_536 : decode cL_law 536 = .ok (.iload_n 3, 1) := by decide +kernel
theorem dL_law_537 : decode cL_law 537 = .ok (.iconst 1, 1) := by decide +kernel
theorem dL_law_538 : decode cL_law 538 = .ok (.iadd, 1) := by decide +kernel
theorem dL_law_539 : decode cL_law 539 = .ok (.iaload, 1) := by decide +kernel
theorem dL_law_540 : decode cL_law 540 = .ok (.invokevirtual 90, 3) := by decide +kernel
theorem dL_law_543 : decode cL_law 543 = .ok (.if_icmp .eq 28, 3) := by decide +kernel
theorem dL_law_546 : decode cL_law 546 = .ok (.iconst 0, 1) := by decide +kernel
theorem dL_law_547 : decode cL_law 547 = .ok (.ireturn, 1) := by decide +kernel
theorem dL_law_548 : decode cL_law 548 = .ok (.aload_n 1, 1) := by decide +kernel
theorem dL_law_549 : decode cL_law 549 = .ok (.aload_n 0, 1) := by decide +kernel
theorem dL_law_550 : decode cL_law 550 = .ok (.iload_n 3, 1) := by decide +kernel
theorem dL_law_551 : decode cL_law 551 = .ok (.iconst 1, 1) := by decide +kernel
theorem dL_law_552 : decode cL_law 552 = .ok (.iadd, 1) := by decide +kernel
theorem dL_law_553 : decode cL_law 553 = .ok (.iaload, 1) := by decide +kernel
theorem dL_law_554 : decode cL_law 554 = .ok (.invokevirtual 91, 3) := by decide +kernel
theorem dL_law_557 : decode cL_law 557 = .ok (.aload_n 2, 1) := by decide +kernel
theorem dL_law_558 : decode cL_law 558 = .ok (.aload_n 0, 1) := by decide +kernel
theorem dL_law_559 : decode cL_law 559 = .ok (.iload_n 3, 1) := by decide +kernel
theorem dL_law_560 : decode cL_law 560 = .ok (.iconst 1, 1) := by decide +kernel
theorem dL_law_561 : decode cL_law 561 = .ok (.iadd, 1) := by decide +kernel
theorem dL_law_562 : decode cL_law 562 = .ok (.iaload, 1) := by decide +kernel
theorem dL_law_563 : decode cL_law 563 = .ok (.invokevirtual 94, 3) := by decide +kernel
theorem dL_law_566 : decode cL_law 566 = .ok (.if_icmp .eq 5, 3) := by decide +kernel
theorem dL_law_569 : decode cL_law 569 = .ok (.iconst 0, 1) := by decide +kernel
theorem dL_law_570 : decode cL_law 570 = .ok (.ireturn, 1) := by decide +kernel
theorem dL_law_571 : decode cL_law 571 = .ok (.iinc 3 3, 3) := by decide +kernel
theorem dL_law_574 : decode cL_law 574 = .ok (.goto (-556), 3) := by decide +kernel
theorem dL_law_577 : decode cL_law 577 = .ok (.iconst 1, 1) := by decide +kernel
theorem dL_law_578 : decode cL_law 578 = .ok (.ireturn, 1) := by decide +kernel
abbrev vwCl : List vw_C := [(RX0, TX0, 3), (RX1, TX1, 3), (RX2, TX2, 3), (RX3, TX3, 6), (RX4, TX4, 5), (RX5, TX5, 4), (RX6, TX6, 6), (RX7, TX7, 13)]
end
section
/-- the words that a callee keeps: every method here needs these, its own code first -/
def gtbl : List Cond := lw_tbl.filter goodWord
theorem m0 : (Cond.selects RX3 yX3_startGame yX3_startGame) ∈ gtbl := List.mem_filter.mpr ⟨List.mem_of_getElem? (i := 0) (by decide +kernel), by decide +kernel⟩
theorem m1 : (Cond.selects RX6 yX6_errorOfMove yX6_errorOfMove) ∈ gtbl := List.mem_filter.mpr ⟨List.mem_of_getElem? (i := 1) (by decide +kernel), by decide +kernel⟩
theorem m2 : (Cond.selects RX3 yX3_sowLap yX3_sowLap) ∈ gtbl := List.mem_filter.mpr ⟨List.mem_of_getElem? (i := 2) (by decide +kernel), by decide +kernel⟩
theorem m3 : (Cond.selects RX3 yX3_sowHand yX3_sowHand) ∈ gtbl := List.mem_filter.mpr ⟨List.mem_of_getElem? (i := 3) (by decide +kernel), by decide +kernel⟩
theorem m4 : (Cond.selects RX3 yX3_captureAcross yX3_captureAcross) ∈ gtbl := List.mem_filter.mpr ⟨List.mem_of_getElem? (i := 4) (by decide +kernel), by decide +kernel⟩
theorem m5 : (Cond.selects RX3 yX3_giveTurnTo yX3_giveTurnTo) ∈ gtbl := List.mem_filter.mpr ⟨List.mem_of_getElem? (i := 5) (by decide +kernel), by decide +kernel⟩
theorem m6 : (Cond.selects RX3 yX3_isDecided yX3_isDecided) ∈ gtbl := List.mem_filter.mpr ⟨List.mem_of_getElem? (i := 6) (by decide +kernel), by decide +kernel⟩
theorem m7 : (Cond.selects RX1 yX1_valueBehind yX1_valueBehind) ∈ gtbl := List.mem_filter.mpr ⟨List.mem_of_getElem? (i := 7) (by decide +kernel), by decide +kernel⟩
theorem m8 : (Cond.selects RX2 yX2_digitFits yX2_digitFits) ∈ gtbl := List.mem_filter.mpr ⟨List.mem_of_getElem? (i := 8) (by decide +kernel), by decide +kernel⟩
theorem m9 : (Cond.selects RX7 yX7_anew yX7_anew) ∈ gtbl := List.mem_filter.mpr ⟨List.mem_of_getElem? (i := 9) (by decide +kernel), by decide +kernel⟩
theorem m10 : (Cond.selects RX7 yX7_empties yX7_empties) ∈ gtbl := List.mem_filter.mpr ⟨List.mem_of_getElem? (i := 10) (by decide +kernel), by decide +kernel⟩
theorem m11 : (Cond.selects RX7 yX7_record yX7_record) ∈ gtbl := List.mem_filter.mpr ⟨List.mem_of_getElem? (i := 11) (by decide +kernel), by decide +kernel⟩
theorem m12 : (Cond.selects RX7 yX7_makes yX7_makes) ∈ gtbl := List.mem_filter.mpr ⟨List.mem_of_getElem? (i := 12) (by decide +kernel), by decide +kernel⟩
theorem m13 : (Cond.selects RX7 yX7_copy yX7_copy) ∈ gtbl := List.mem_filter.mpr ⟨List.mem_of_getElem? (i := 13) (by decide +kernel), by decide +kernel⟩
theorem m14 : (Cond.selects RX7 yX7_bestOf yX7_bestOf) ∈ gtbl := List.mem_filter.mpr ⟨List.mem_of_getElem? (i := 14) (by decide +kernel), by decide +kernel⟩
theorem m15 : (Cond.selects RX7 yX7_worthOf yX7_worthOf) ∈ gtbl := List.mem_filter.mpr ⟨List.mem_of_getElem? (i := 15) (by decide +kernel), by decide +kernel⟩
theorem m16 : (Cond.selects RX7 yX7_ahead yX7_ahead) ∈ gtbl := List.mem_filter.mpr ⟨List.mem_of_getElem? (i := 16) (by decide +kernel), by decide +kernel⟩
theorem m17 : (Cond.selects RX7 yX7_faultOf yX7_faultOf) ∈ gtbl := List.mem_filter.mpr ⟨List.mem_of_getElem? (i := 17) (by decide +kernel), by decide +kernel⟩
theorem m18 : (Cond.selects RX7 yX7_readsNumber yX7_readsNumber) ∈ gtbl := List.mem_filter.mpr ⟨List.mem_of_getElem? (i := 18) (by decide +kernel), by decide +kernel⟩
theorem m19 : (Cond.selects RX7 yX7_isDigit yX7_isDigit) ∈ gtbl := List.mem_filter.mpr ⟨List.mem_of_getElem? (i := 19) (by decide +kernel), by decide +kernel⟩
theorem m20 : (Cond.selects RX7 yX7_takes yX7_takes) ∈ gtbl := List.mem_filter.mpr ⟨List.mem_of_getElem? (i := 20) (by decide +kernel), by decide +kernel⟩
theorem m21 : (Cond.selects RX7 yX7_winner yX7_winner) ∈ gtbl := List.mem_filter.mpr ⟨List.mem_of_getElem? (i := 21) (by decide +kernel), by decide +kernel⟩
theorem m22 : (Cond.selects RX7 yX7_hostiles yX7_hostiles) ∈ gtbl := List.mem_filter.mpr ⟨List.mem_of_getElem? (i := 22) (by decide +kernel), by decide +kernel⟩
theorem m23 : (Cond.initialized RL) ∈ gtbl := List.mem_filter.mpr ⟨List.mem_of_getElem? (i := 23) (by decide +kernel), by decide +kernel⟩
theorem m24 : (Cond.initialized RX6) ∈ gtbl := List.mem_filter.mpr ⟨List.mem_of_getElem? (i := 24) (by decide +kernel), by decide +kernel⟩
theorem m25 : (Cond.initialized RX5) ∈ gtbl := List.mem_filter.mpr ⟨List.mem_of_getElem? (i := 25) (by decide +kernel), by decide +kernel⟩
theorem m26 : (Cond.initialized RX3) ∈ gtbl := List.mem_filter.mpr ⟨List.mem_of_getElem? (i := 26) (by decide +kernel), by decide +kernel⟩
theorem m27 : (Cond.initialized RX4) ∈ gtbl := List.mem_filter.mpr ⟨List.mem_of_getElem? (i := 27) (by decide +kernel), by decide +kernel⟩
theorem m28 : (Cond.initialized RX0) ∈ gtbl := List.mem_filter.mpr ⟨List.mem_of_getElem? (i := 28) (by decide +kernel), by decide +kernel⟩
theorem m29 : (Cond.initialized RX2) ∈ gtbl := List.mem_filter.mpr ⟨List.mem_of_getElem? (i := 29) (by decide +kernel), by decide +kernel⟩
theorem m30 : (Cond.initialized RX1) ∈ gtbl := List.mem_filter.mpr ⟨List.mem_of_getElem? (i := 30) (by decide +kernel), by decide +kernel⟩
theorem m31 : (Cond.initialized RX7) ∈ gtbl := List.mem_filter.mpr ⟨List.mem_of_getElem? (i := 31) (by decide +kernel), by decide +kernel⟩
theorem m32 : (Cond.initialized "java/lang/System") ∈ gtbl := List.mem_filter.mpr ⟨List.mem_of_getElem? (i := 32) (by decide +kernel), by decide +kernel⟩
theorem m33 : (Cond.initialized "java/lang/Math") ∈ gtbl := List.mem_filter.mpr ⟨List.mem_of_getElem? (i := 33) (by decide +kernel), by decide +kernel⟩
theorem m34 : (Cond.classLink RL 7 RX6) ∈ gtbl := List.mem_filter.mpr ⟨List.mem_of_getElem? (i := 34) (by decide +kernel), by decide +kernel⟩
theorem m35 : (Cond.instantiable RX6 6) ∈ gtbl := List.mem_filter.mpr ⟨List.mem_of_getElem? (i := 35) (by decide +kernel), by decide +kernel⟩
theorem m36 : (Cond.methodLink RL 9 yX6_init) ∈ gtbl := List.mem_filter.mpr ⟨List.mem_of_getElem? (i := 36) (by decide +kernel), by decide +kernel⟩
theorem m37 : (Cond.instanceMethod yX6_init) ∈ gtbl := List.mem_filter.mpr ⟨List.mem_of_getElem? (i := 37) (by decide +kernel), by decide +kernel⟩
theorem m38 : (Cond.code yX6_init cX6_init 2 none) ∈ gtbl := List.mem_filter.mpr ⟨List.mem_of_getElem? (i := 38) (by decide +kernel), by decide +kernel⟩
theorem m39 : (Cond.methodLink RX6 3 objectInit) ∈ gtbl := List.mem_filter.mpr ⟨List.mem_of_getElem? (i := 39) (by decide +kernel), by decide +kernel⟩
theorem m40 : (Cond.instanceMethod objectInit) ∈ gtbl := List.mem_filter.mpr ⟨List.mem_of_getElem? (i := 40) (by decide +kernel), by decide +kernel⟩
theorem m41 : (Cond.code objectInit object_method_1_code 1 none) ∈ gtbl := List.mem_filter.mpr ⟨List.mem_of_getElem? (i := 41) (by decide +kernel), by decide +kernel⟩
theorem m42 : (Cond.classLink RX6 9 RX5) ∈ gtbl := List.mem_filter.mpr ⟨List.mem_of_getElem? (i := 42) (by decide +kernel), by decide +kernel⟩
theorem m43 : (Cond.instantiable RX5 4) ∈ gtbl := List.mem_filter.mpr ⟨List.mem_of_getElem? (i := 43) (by decide +kernel), by decide +kernel⟩
theorem m45 : (Cond.instanceMethod yX5_init) ∈ gtbl := List.mem_filter.mpr ⟨List.mem_of_getElem? (i := 45) (by decide +kernel), by decide +kernel⟩
theorem m46 : (Cond.code yX5_init cX5_init 1 none) ∈ gtbl := List.mem_filter.mpr ⟨List.mem_of_getElem? (i := 46) (by decide +kernel), by decide +kernel⟩
theorem m47 : (Cond.methodLink RX5 3 objectInit) ∈ gtbl := List.mem_filter.mpr ⟨List.mem_of_getElem? (i := 47) (by decide +kernel), by decide +kernel⟩
theorem m48 : (Cond.classLink RX5 9 RX3) ∈ gtbl := List.mem_filter.mpr ⟨List.mem_of_getElem? (i := 48) (by decide +kernel), by decide +kernel⟩
theorem m49 : (Cond.instantiable RX3 6) ∈ gtbl := List.mem_filter.mpr ⟨List.mem_of_getElem? (i := 49) (by decide +kernel), by decide +kernel⟩
theorem m51 : (Cond.instanceMethod yX3_init) ∈ gtbl := List.mem_filter.mpr ⟨List.mem_of_getElem? (i := 51) (by decide +kernel), by decide +kernel⟩
theorem m52 : (Cond.code yX3_init cX3_init 1 none) ∈ gtbl := List.mem_filter.mpr ⟨List.mem_of_getElem? (i := 52) (by decide +kernel), by decide +kernel⟩
theorem m53 : (Cond.methodLink RX3 3 objectInit) ∈ gtbl := List.mem_filter.mpr ⟨List.mem_of_getElem? (i := 53) (by decide +kernel), by decide +kernel⟩
theorem m54 : (Cond.fieldLink RX3 9 "HostileHouses$Position" "seeds" "[I") ∈ gtbl := List.mem_filter.mpr ⟨List.mem_of_getElem? (i := 54) (by decide +kernel), by decide +kernel⟩
theorem m55 : (Cond.fieldLink RX6 114 "HostileHouses$Position" "seeds" "[I") ∈ gtbl := List.mem_filter.mpr ⟨List.mem_of_getElem? (i := 55) (by decide +kernel), by decide +kernel⟩
theorem m56 : (Cond.fieldLink RX3 15 "HostileHouses$Position" "visits" "[I") ∈ gtbl := List.mem_filter.mpr ⟨List.mem_of_getElem? (i := 56) (by decide +kernel), by decide +kernel⟩
theorem m57 : (Cond.fieldLink RX6 117 "HostileHouses$Position" "visits" "[I") ∈ gtbl := List.mem_filter.mpr ⟨List.mem_of_getElem? (i := 57) (by decide +kernel), by decide +kernel⟩
theorem m58 : (Cond.fieldLink RX3 18 "HostileHouses$Position" "stores" "[I") ∈ gtbl := List.mem_filter.mpr ⟨List.mem_of_getElem? (i := 58) (by decide +kernel), by decide +kernel⟩
theorem m59 : (Cond.fieldLink RX6 134 "HostileHouses$Position" "stores" "[I") ∈ gtbl := List.mem_filter.mpr ⟨List.mem_of_getElem? (i := 59) (by decide +kernel), by decide +kernel⟩
theorem m60 : (Cond.fieldLink RX3 27 "HostileHouses$Position" "player" "I") ∈ gtbl := List.mem_filter.mpr ⟨List.mem_of_getElem? (i := 60) (by decide +kernel), by decide +kernel⟩
theorem m61 : (Cond.fieldLink RX1 63 "HostileHouses$Position" "player" "I") ∈ gtbl := List.mem_filter.mpr ⟨List.mem_of_getElem? (i := 61) (by decide +kernel), by decide +kernel⟩
theorem m62 : (Cond.fieldLink RX6 124 "HostileHouses$Position" "player" "I") ∈ gtbl := List.mem_filter.mpr ⟨List.mem_of_getElem? (i := 62) (by decide +kernel), by decide +kernel⟩
theorem m63 : (Cond.fieldLink RX1 29 "HostileHouses$Position" "over" "Z") ∈ gtbl := List.mem_filter.mpr ⟨List.mem_of_getElem? (i := 63) (by decide +kernel), by decide +kernel⟩
theorem m64 : (Cond.fieldLink RX3 31 "HostileHouses$Position" "over" "Z") ∈ gtbl := List.mem_filter.mpr ⟨List.mem_of_getElem? (i := 64) (by decide +kernel), by decide +kernel⟩
theorem m65 : (Cond.fieldLink RX6 127 "HostileHouses$Position" "over" "Z") ∈ gtbl := List.mem_filter.mpr ⟨List.mem_of_getElem? (i := 65) (by decide +kernel), by decide +kernel⟩
theorem m66 : (Cond.fieldLink RX3 35 "HostileHouses$Position" "moves" "I") ∈ gtbl := List.mem_filter.mpr ⟨List.mem_of_getElem? (i := 66) (by decide +kernel), by decide +kernel⟩
theorem m67 : (Cond.fieldLink RX5 53 "HostileHouses$Position" "moves" "I") ∈ gtbl := List.mem_filter.mpr ⟨List.mem_of_getElem? (i := 67) (by decide +kernel), by decide +kernel⟩
theorem m68 : (Cond.fieldLink RX6 69 "HostileHouses$Position" "moves" "I") ∈ gtbl := List.mem_filter.mpr ⟨List.mem_of_getElem? (i := 68) (by decide +kernel), by decide +kernel⟩
theorem m82 : (Cond.arrayClass Jvm.ClassFile.FieldType.int) ∈ gtbl := List.mem_filter.mpr ⟨List.mem_of_getElem? (i := 82) (by decide +kernel), by decide +kernel⟩
theorem m85 : (Cond.methodLink RX5 22 ⟨"[I", "clone", "()Ljava/lang/Object;"⟩) ∈ gtbl := List.mem_filter.mpr ⟨List.mem_of_getElem? (i := 85) (by decide +kernel), by decide +kernel⟩
theorem m86 : (Cond.sameMethod "[I" "java/lang/Object" "clone" "()Ljava/lang/Object;") ∈ gtbl := List.mem_filter.mpr ⟨List.mem_of_getElem? (i := 86) (by decide +kernel), by decide +kernel⟩
theorem m87 : (Cond.native ⟨"java/lang/Object", "clone", "()Ljava/lang/Object;"⟩) ∈ gtbl := List.mem_filter.mpr ⟨List.mem_of_getElem? (i := 87) (by decide +kernel), by decide +kernel⟩
theorem m88 : (Cond.instanceMethod ⟨"java/lang/Object", "clone", "()Ljava/lang/Object;"⟩) ∈ gtbl := List.mem_filter.mpr ⟨List.mem_of_getElem? (i := 88) (by decide +kernel), by decide +kernel⟩
theorem m89 : (Cond.selects "[I" ⟨"[I", "clone", "()Ljava/lang/Object;"⟩ ⟨"java/lang/Object", "clone", "()Ljava/lang/Object;"⟩) ∈ gtbl := List.mem_filter.mpr ⟨List.mem_of_getElem? (i := 89) (by decide +kernel), by decide +kernel⟩
theorem m91 : (Cond.classLink RX5 23 "[I") ∈ gtbl := List.mem_filter.mpr ⟨List.mem_of_getElem? (i := 91) (by decide +kernel), by decide +kernel⟩
theorem m92 : (Cond.classLink RX5 30 RX4) ∈ gtbl := List.mem_filter.mpr ⟨List.mem_of_getElem? (i := 92) (by decide +kernel), by decide +kernel⟩
theorem m93 : (Cond.instantiable RX4 5) ∈ gtbl := List.mem_filter.mpr ⟨List.mem_of_getElem? (i := 93) (by decide +kernel), by decide +kernel⟩
theorem m95 : (Cond.instanceMethod yX4_init) ∈ gtbl := List.mem_filter.mpr ⟨List.mem_of_getElem? (i := 95) (by decide +kernel), by decide +kernel⟩
theorem m96 : (Cond.code yX4_init cX4_init 1 none) ∈ gtbl := List.mem_filter.mpr ⟨List.mem_of_getElem? (i := 96) (by decide +kernel), by decide +kernel⟩
theorem m97 : (Cond.methodLink RX4 1 objectInit) ∈ gtbl := List.mem_filter.mpr ⟨List.mem_of_getElem? (i := 97) (by decide +kernel), by decide +kernel⟩
theorem m98 : (Cond.fieldLink RX4 7 "HostileHouses$Report" "from" "I") ∈ gtbl := List.mem_filter.mpr ⟨List.mem_of_getElem? (i := 98) (by decide +kernel), by decide +kernel⟩
theorem m99 : (Cond.fieldLink RX6 144 "HostileHouses$Report" "from" "I") ∈ gtbl := List.mem_filter.mpr ⟨List.mem_of_getElem? (i := 99) (by decide +kernel), by decide +kernel⟩
theorem m100 : (Cond.fieldLink RX4 13 "HostileHouses$Report" "laps" "I") ∈ gtbl := List.mem_filter.mpr ⟨List.mem_of_getElem? (i := 100) (by decide +kernel), by decide +kernel⟩
theorem m101 : (Cond.fieldLink RX6 84 "HostileHouses$Report" "laps" "I") ∈ gtbl := List.mem_filter.mpr ⟨List.mem_of_getElem? (i := 101) (by decide +kernel), by decide +kernel⟩
theorem m102 : (Cond.fieldLink RX3 72 "HostileHouses$Report" "laps" "I") ∈ gtbl := List.mem_filter.mpr ⟨List.mem_of_getElem? (i := 102) (by decide +kernel), by decide +kernel⟩
theorem m103 : (Cond.fieldLink RX4 16 "HostileHouses$Report" "lastHouse" "I") ∈ gtbl := List.mem_filter.mpr ⟨List.mem_of_getElem? (i := 103) (by decide +kernel), by decide +kernel⟩
theorem m104 : (Cond.fieldLink RX6 147 "HostileHouses$Report" "lastHouse" "I") ∈ gtbl := List.mem_filter.mpr ⟨List.mem_of_getElem? (i := 104) (by decide +kernel), by decide +kernel⟩
theorem m105 : (Cond.fieldLink RX3 61 "HostileHouses$Report" "lastHouse" "I") ∈ gtbl := List.mem_filter.mpr ⟨List.mem_of_getElem? (i := 105) (by decide +kernel), by decide +kernel⟩
theorem m106 : (Cond.fieldLink RX4 19 "HostileHouses$Report" "captured" "I") ∈ gtbl := List.mem_filter.mpr ⟨List.mem_of_getElem? (i := 106) (by decide +kernel), by decide +kernel⟩
theorem m107 : (Cond.fieldLink RX6 150 "HostileHouses$Report" "captured" "I") ∈ gtbl := List.mem_filter.mpr ⟨List.mem_of_getElem? (i := 107) (by decide +kernel), by decide +kernel⟩
theorem m108 : (Cond.fieldLink RX3 85 "HostileHouses$Report" "captured" "I") ∈ gtbl := List.mem_filter.mpr ⟨List.mem_of_getElem? (i := 108) (by decide +kernel), by decide +kernel⟩
theorem m109 : (Cond.fieldLink RX4 22 "HostileHouses$Report" "tolls" "I") ∈ gtbl := List.mem_filter.mpr ⟨List.mem_of_getElem? (i := 109) (by decide +kernel), by decide +kernel⟩
theorem m110 : (Cond.fieldLink RX6 153 "HostileHouses$Report" "tolls" "I") ∈ gtbl := List.mem_filter.mpr ⟨List.mem_of_getElem? (i := 110) (by decide +kernel), by decide +kernel⟩
theorem m111 : (Cond.fieldLink RX3 82 "HostileHouses$Report" "tolls" "I") ∈ gtbl := List.mem_filter.mpr ⟨List.mem_of_getElem? (i := 111) (by decide +kernel), by decide +kernel⟩
theorem m123 : (Cond.fieldLink RX5 12 "HostileHouses$State" "position" "LHostileHouses$Position;") ∈ gtbl := List.mem_filter.mpr ⟨List.mem_of_getElem? (i := 123) (by decide +kernel), by decide +kernel⟩
theorem m124 : (Cond.fieldLink RX6 45 "HostileHouses$State" "position" "LHostileHouses$Position;") ∈ gtbl := List.mem_filter.mpr ⟨List.mem_of_getElem? (i := 124) (by decide +kernel), by decide +kernel⟩
theorem m125 : (Cond.fieldLink RX5 27 "HostileHouses$State" "settings" "[I") ∈ gtbl := List.mem_filter.mpr ⟨List.mem_of_getElem? (i := 125) (by decide +kernel), by decide +kernel⟩
theorem m126 : (Cond.fieldLink RX6 49 "HostileHouses$State" "settings" "[I") ∈ gtbl := List.mem_filter.mpr ⟨List.mem_of_getElem? (i := 126) (by decide +kernel), by decide +kernel⟩
theorem m127 : (Cond.fieldLink RX5 33 "HostileHouses$State" "latest" "LHostileHouses$Report;") ∈ gtbl := List.mem_filter.mpr ⟨List.mem_of_getElem? (i := 127) (by decide +kernel), by decide +kernel⟩
theorem m128 : (Cond.fieldLink RX6 80 "HostileHouses$State" "latest" "LHostileHouses$Report;") ∈ gtbl := List.mem_filter.mpr ⟨List.mem_of_getElem? (i := 128) (by decide +kernel), by decide +kernel⟩
theorem m129 : (Cond.fieldLink RX5 37 "HostileHouses$State" "record" "[I") ∈ gtbl := List.mem_filter.mpr ⟨List.mem_of_getElem? (i := 129) (by decide +kernel), by decide +kernel⟩
theorem m130 : (Cond.fieldLink RX6 156 "HostileHouses$State" "record" "[I") ∈ gtbl := List.mem_filter.mpr ⟨List.mem_of_getElem? (i := 130) (by decide +kernel), by decide +kernel⟩
theorem m140 : (Cond.classLink RX6 16 RX0) ∈ gtbl := List.mem_filter.mpr ⟨List.mem_of_getElem? (i := 140) (by decide +kernel), by decide +kernel⟩
theorem m141 : (Cond.instantiable RX0 3) ∈ gtbl := List.mem_filter.mpr ⟨List.mem_of_getElem? (i := 141) (by decide +kernel), by decide +kernel⟩
theorem m142 : (Cond.methodLink RX6 18 yX0_init) ∈ gtbl := List.mem_filter.mpr ⟨List.mem_of_getElem? (i := 142) (by decide +kernel), by decide +kernel⟩
theorem m143 : (Cond.instanceMethod yX0_init) ∈ gtbl := List.mem_filter.mpr ⟨List.mem_of_getElem? (i := 143) (by decide +kernel), by decide +kernel⟩
theorem m144 : (Cond.code yX0_init cX0_init 2 none) ∈ gtbl := List.mem_filter.mpr ⟨List.mem_of_getElem? (i := 144) (by decide +kernel), by decide +kernel⟩
theorem m145 : (Cond.methodLink RX0 3 objectInit) ∈ gtbl := List.mem_filter.mpr ⟨List.mem_of_getElem? (i := 145) (by decide +kernel), by decide +kernel⟩
theorem m146 : (Cond.classLink RX0 9 RX5) ∈ gtbl := List.mem_filter.mpr ⟨List.mem_of_getElem? (i := 146) (by decide +kernel), by decide +kernel⟩
theorem m149 : (Cond.fieldLink RX0 11 "HostileHouses$History" "states" "[LHostileHouses$State;") ∈ gtbl := List.mem_filter.mpr ⟨List.mem_of_getElem? (i := 149) (by decide +kernel), by decide +kernel⟩
theorem m150 : (Cond.fieldLink RX0 18 "HostileHouses$History" "oldest" "I") ∈ gtbl := List.mem_filter.mpr ⟨List.mem_of_getElem? (i := 150) (by decide +kernel), by decide +kernel⟩
theorem m151 : (Cond.fieldLink RX0 22 "HostileHouses$History" "size" "I") ∈ gtbl := List.mem_filter.mpr ⟨List.mem_of_getElem? (i := 151) (by decide +kernel), by decide +kernel⟩
theorem m152 : (Cond.fieldLink RX6 141 "HostileHouses$History" "size" "I") ∈ gtbl := List.mem_filter.mpr ⟨List.mem_of_getElem? (i := 152) (by decide +kernel), by decide +kernel⟩
theorem m160 : (Cond.classLink RX6 31 RX2) ∈ gtbl := List.mem_filter.mpr ⟨List.mem_of_getElem? (i := 160) (by decide +kernel), by decide +kernel⟩
theorem m161 : (Cond.instantiable RX2 3) ∈ gtbl := List.mem_filter.mpr ⟨List.mem_of_getElem? (i := 161) (by decide +kernel), by decide +kernel⟩
theorem m163 : (Cond.instanceMethod yX2_init) ∈ gtbl := List.mem_filter.mpr ⟨List.mem_of_getElem? (i := 163) (by decide +kernel), by decide +kernel⟩
theorem m164 : (Cond.code yX2_init cX2_init 1 none) ∈ gtbl := List.mem_filter.mpr ⟨List.mem_of_getElem? (i := 164) (by decide +kernel), by decide +kernel⟩
theorem m165 : (Cond.methodLink RX2 3 objectInit) ∈ gtbl := List.mem_filter.mpr ⟨List.mem_of_getElem? (i := 165) (by decide +kernel), by decide +kernel⟩
theorem m166 : (Cond.fieldLink RX2 9 "HostileHouses$Pad" "text" "[C") ∈ gtbl := List.mem_filter.mpr ⟨List.mem_of_getElem? (i := 166) (by decide +kernel), by decide +kernel⟩
theorem m167 : (Cond.fieldLink RX2 15 "HostileHouses$Pad" "numbers" "[I") ∈ gtbl := List.mem_filter.mpr ⟨List.mem_of_getElem? (i := 167) (by decide +kernel), by decide +kernel⟩
theorem m168 : (Cond.fieldLink RX6 97 "HostileHouses$Pad" "numbers" "[I") ∈ gtbl := List.mem_filter.mpr ⟨List.mem_of_getElem? (i := 168) (by decide +kernel), by decide +kernel⟩
theorem m169 : (Cond.fieldLink RX2 25 "HostileHouses$Pad" "length" "I") ∈ gtbl := List.mem_filter.mpr ⟨List.mem_of_getElem? (i := 169) (by decide +kernel), by decide +kernel⟩
theorem m170 : (Cond.fieldLink RX6 104 "HostileHouses$Pad" "length" "I") ∈ gtbl := List.mem_filter.mpr ⟨List.mem_of_getElem? (i := 170) (by decide +kernel), by decide +kernel⟩
theorem m178 : (Cond.arrayClass Jvm.ClassFile.FieldType.boolean) ∈ gtbl := List.mem_filter.mpr ⟨List.mem_of_getElem? (i := 178) (by decide +kernel), by decide +kernel⟩
theorem m179 : (Cond.arrayClass Jvm.ClassFile.FieldType.char) ∈ gtbl := List.mem_filter.mpr ⟨List.mem_of_getElem? (i := 179) (by decide +kernel), by decide +kernel⟩
theorem m180 : (Cond.classLink RX6 38 RX1) ∈ gtbl := List.mem_filter.mpr ⟨List.mem_of_getElem? (i := 180) (by decide +kernel), by decide +kernel⟩
theorem m181 : (Cond.instantiable RX1 3) ∈ gtbl := List.mem_filter.mpr ⟨List.mem_of_getElem? (i := 181) (by decide +kernel), by decide +kernel⟩
theorem m182 : (Cond.methodLink RX6 40 yX1_init) ∈ gtbl := List.mem_filter.mpr ⟨List.mem_of_getElem? (i := 182) (by decide +kernel), by decide +kernel⟩
theorem m183 : (Cond.instanceMethod yX1_init) ∈ gtbl := List.mem_filter.mpr ⟨List.mem_of_getElem? (i := 183) (by decide +kernel), by decide +kernel⟩
theorem m184 : (Cond.code yX1_init cX1_init 2 none) ∈ gtbl := List.mem_filter.mpr ⟨List.mem_of_getElem? (i := 184) (by decide +kernel), by decide +kernel⟩
theorem m185 : (Cond.methodLink RX1 3 objectInit) ∈ gtbl := List.mem_filter.mpr ⟨List.mem_of_getElem? (i := 185) (by decide +kernel), by decide +kernel⟩
theorem m186 : (Cond.classLink RX1 9 RX3) ∈ gtbl := List.mem_filter.mpr ⟨List.mem_of_getElem? (i := 186) (by decide +kernel), by decide +kernel⟩
theorem m188 : (Cond.classLink RX1 18 RX4) ∈ gtbl := List.mem_filter.mpr ⟨List.mem_of_getElem? (i := 188) (by decide +kernel), by decide +kernel⟩
theorem m191 : (Cond.fieldLink RX1 12 "HostileHouses$Lookahead" "trial" "LHostileHouses$Position;") ∈ gtbl := List.mem_filter.mpr ⟨List.mem_of_getElem? (i := 191) (by decide +kernel), by decide +kernel⟩
theorem m192 : (Cond.fieldLink RX6 159 "HostileHouses$Lookahead" "trial" "LHostileHouses$Position;") ∈ gtbl := List.mem_filter.mpr ⟨List.mem_of_getElem? (i := 192) (by decide +kernel), by decide +kernel⟩
theorem m193 : (Cond.fieldLink RX1 21 "HostileHouses$Lookahead" "report" "LHostileHouses$Report;") ∈ gtbl := List.mem_filter.mpr ⟨List.mem_of_getElem? (i := 193) (by decide +kernel), by decide +kernel⟩
theorem m194 : (Cond.fieldLink RX6 162 "HostileHouses$Lookahead" "report" "LHostileHouses$Report;") ∈ gtbl := List.mem_filter.mpr ⟨List.mem_of_getElem? (i := 194) (by decide +kernel), by decide +kernel⟩
theorem m195 : (Cond.fieldLink RX1 25 "HostileHouses$Lookahead" "behind" "[LHostileHouses$Position;") ∈ gtbl := List.mem_filter.mpr ⟨List.mem_of_getElem? (i := 195) (by decide +kernel), by decide +kernel⟩
theorem m203 : (Cond.methodLink RX6 53 yX3_fill) ∈ gtbl := List.mem_filter.mpr ⟨List.mem_of_getElem? (i := 203) (by decide +kernel), by decide +kernel⟩
theorem m204 : (Cond.instanceMethod yX3_fill) ∈ gtbl := List.mem_filter.mpr ⟨List.mem_of_getElem? (i := 204) (by decide +kernel), by decide +kernel⟩
theorem m205 : (Cond.selects RX3 yX3_fill yX3_fill) ∈ gtbl := List.mem_filter.mpr ⟨List.mem_of_getElem? (i := 205) (by decide +kernel), by decide +kernel⟩
theorem m206 : (Cond.code yX3_fill cX3_fill 3 none) ∈ gtbl := List.mem_filter.mpr ⟨List.mem_of_getElem? (i := 206) (by decide +kernel), by decide +kernel⟩
theorem m207 : (Cond.methodLink RX3 38 yX3_startGame) ∈ gtbl := List.mem_filter.mpr ⟨List.mem_of_getElem? (i := 207) (by decide +kernel), by decide +kernel⟩
theorem m209 : (Cond.instanceMethod yX3_startGame) ∈ gtbl := List.mem_filter.mpr ⟨List.mem_of_getElem? (i := 209) (by decide +kernel), by decide +kernel⟩
theorem m210 : (Cond.code yX3_startGame cX3_startGame 2 none) ∈ gtbl := List.mem_filter.mpr ⟨List.mem_of_getElem? (i := 210) (by decide +kernel), by decide +kernel⟩
theorem m211 : (Cond.fieldLink RX6 12 "HostileHouses" "now" "LHostileHouses$State;") ∈ gtbl := List.mem_filter.mpr ⟨List.mem_of_getElem? (i := 211) (by decide +kernel), by decide +kernel⟩
theorem m212 : (Cond.fieldLink RX6 19 "HostileHouses" "history" "LHostileHouses$History;") ∈ gtbl := List.mem_filter.mpr ⟨List.mem_of_getElem? (i := 212) (by decide +kernel), by decide +kernel⟩
theorem m213 : (Cond.fieldLink RX6 23 "HostileHouses" "slots" "[LHostileHouses$State;") ∈ gtbl := List.mem_filter.mpr ⟨List.mem_of_getElem? (i := 213) (by decide +kernel), by decide +kernel⟩
theorem m214 : (Cond.fieldLink RX6 27 "HostileHouses" "saved" "[Z") ∈ gtbl := List.mem_filter.mpr ⟨List.mem_of_getElem? (i := 214) (by decide +kernel), by decide +kernel⟩
theorem m215 : (Cond.fieldLink RX6 34 "HostileHouses" "pad" "LHostileHouses$Pad;") ∈ gtbl := List.mem_filter.mpr ⟨List.mem_of_getElem? (i := 215) (by decide +kernel), by decide +kernel⟩
theorem m216 : (Cond.fieldLink RX6 41 "HostileHouses" "lookahead" "LHostileHouses$Lookahead;") ∈ gtbl := List.mem_filter.mpr ⟨List.mem_of_getElem? (i := 216) (by decide +kernel), by decide +kernel⟩
theorem m230 : (Cond.methodLink RL 13 yX6_set) ∈ gtbl := List.mem_filter.mpr ⟨List.mem_of_getElem? (i := 230) (by decide +kernel), by decide +kernel⟩
theorem m231 : (Cond.instanceMethod yX6_set) ∈ gtbl := List.mem_filter.mpr ⟨List.mem_of_getElem? (i := 231) (by decide +kernel), by decide +kernel⟩
theorem m232 : (Cond.selects RX6 yX6_set yX6_set) ∈ gtbl := List.mem_filter.mpr ⟨List.mem_of_getElem? (i := 232) (by decide +kernel), by decide +kernel⟩
theorem m233 : (Cond.code yX6_set cX6_set 4 (some .int)) ∈ gtbl := List.mem_filter.mpr ⟨List.mem_of_getElem? (i := 233) (by decide +kernel), by decide +kernel⟩
theorem m234 : (Cond.fieldLink RX6 59 "HostileHouses" "LOWEST_VALUES" "[I") ∈ gtbl := List.mem_filter.mpr ⟨List.mem_of_getElem? (i := 234) (by decide +kernel), by decide +kernel⟩
theorem m236 : (Cond.fieldLink RX6 62 "HostileHouses" "HIGHEST_VALUES" "[I") ∈ gtbl := List.mem_filter.mpr ⟨List.mem_of_getElem? (i := 236) (by decide +kernel), by decide +kernel⟩
theorem m238 : (Cond.methodLink RX6 65 yX0_remember) ∈ gtbl := List.mem_filter.mpr ⟨List.mem_of_getElem? (i := 238) (by decide +kernel), by decide +kernel⟩
theorem m239 : (Cond.instanceMethod yX0_remember) ∈ gtbl := List.mem_filter.mpr ⟨List.mem_of_getElem? (i := 239) (by decide +kernel), by decide +kernel⟩
theorem m240 : (Cond.selects RX0 yX0_remember yX0_remember) ∈ gtbl := List.mem_filter.mpr ⟨List.mem_of_getElem? (i := 240) (by decide +kernel), by decide +kernel⟩
theorem m241 : (Cond.code yX0_remember cX0_remember 2 none) ∈ gtbl := List.mem_filter.mpr ⟨List.mem_of_getElem? (i := 241) (by decide +kernel), by decide +kernel⟩
theorem m242 : (Cond.methodLink RX0 25 yX5_copyFrom) ∈ gtbl := List.mem_filter.mpr ⟨List.mem_of_getElem? (i := 242) (by decide +kernel), by decide +kernel⟩
theorem m243 : (Cond.instanceMethod yX5_copyFrom) ∈ gtbl := List.mem_filter.mpr ⟨List.mem_of_getElem? (i := 243) (by decide +kernel), by decide +kernel⟩
theorem m244 : (Cond.selects RX5 yX5_copyFrom yX5_copyFrom) ∈ gtbl := List.mem_filter.mpr ⟨List.mem_of_getElem? (i := 244) (by decide +kernel), by decide +kernel⟩
theorem m245 : (Cond.code yX5_copyFrom cX5_copyFrom 2 none) ∈ gtbl := List.mem_filter.mpr ⟨List.mem_of_getElem? (i := 245) (by decide +kernel), by decide +kernel⟩
theorem m246 : (Cond.methodLink RX5 40 yX3_copyFrom) ∈ gtbl := List.mem_filter.mpr ⟨List.mem_of_getElem? (i := 246) (by decide +kernel), by decide +kernel⟩
theorem m247 : (Cond.instanceMethod yX3_copyFrom) ∈ gtbl := List.mem_filter.mpr ⟨List.mem_of_getElem? (i := 247) (by decide +kernel), by decide +kernel⟩
theorem m248 : (Cond.selects RX3 yX3_copyFrom yX3_copyFrom) ∈ gtbl := List.mem_filter.mpr ⟨List.mem_of_getElem? (i := 248) (by decide +kernel), by decide +kernel⟩
theorem m249 : (Cond.code yX3_copyFrom cX3_copyFrom 2 none) ∈ gtbl := List.mem_filter.mpr ⟨List.mem_of_getElem? (i := 249) (by decide +kernel), by decide +kernel⟩
theorem m250 : (Cond.methodLink RX3 21 ⟨"java/lang/System", "arraycopy", "(Ljava/lang/Object;ILjava/lang/Object;II)V"⟩) ∈ gtbl := List.mem_filter.mpr ⟨List.mem_of_getElem? (i := 250) (by decide +kernel), by decide +kernel⟩
theorem m251 : (Cond.static ⟨"java/lang/System", "arraycopy", "(Ljava/lang/Object;ILjava/lang/Object;II)V"⟩) ∈ gtbl := List.mem_filter.mpr ⟨List.mem_of_getElem? (i := 251) (by decide +kernel), by decide +kernel⟩
theorem m252 : (Cond.native ⟨"java/lang/System", "arraycopy", "(Ljava/lang/Object;ILjava/lang/Object;II)V"⟩) ∈ gtbl := List.mem_filter.mpr ⟨List.mem_of_getElem? (i := 252) (by decide +kernel), by decide +kernel⟩
theorem m253 : (Cond.methodLink RX5 44 ⟨"java/lang/System", "arraycopy", "(Ljava/lang/Object;ILjava/lang/Object;II)V"⟩) ∈ gtbl := List.mem_filter.mpr ⟨List.mem_of_getElem? (i := 253) (by decide +kernel), by decide +kernel⟩
theorem m254 : (Cond.methodLink RX5 50 yX4_copyFrom) ∈ gtbl := List.mem_filter.mpr ⟨List.mem_of_getElem? (i := 254) (by decide +kernel), by decide +kernel⟩
theorem m255 : (Cond.instanceMethod yX4_copyFrom) ∈ gtbl := List.mem_filter.mpr ⟨List.mem_of_getElem? (i := 255) (by decide +kernel), by decide +kernel⟩
theorem m256 : (Cond.selects RX4 yX4_copyFrom yX4_copyFrom) ∈ gtbl := List.mem_filter.mpr ⟨List.mem_of_getElem? (i := 256) (by decide +kernel), by decide +kernel⟩
theorem m257 : (Cond.code yX4_copyFrom cX4_copyFrom 2 none) ∈ gtbl := List.mem_filter.mpr ⟨List.mem_of_getElem? (i := 257) (by decide +kernel), by decide +kernel⟩
theorem m258 : (Cond.methodLink RL 18 yX6_begin) ∈ gtbl := List.mem_filter.mpr ⟨List.mem_of_getElem? (i := 258) (by decide +kernel), by decide +kernel⟩
theorem m259 : (Cond.instanceMethod yX6_begin) ∈ gtbl := List.mem_filter.mpr ⟨List.mem_of_getElem? (i := 259) (by decide +kernel), by decide +kernel⟩
theorem m260 : (Cond.selects RX6 yX6_begin yX6_begin) ∈ gtbl := List.mem_filter.mpr ⟨List.mem_of_getElem? (i := 260) (by decide +kernel), by decide +kernel⟩
theorem m261 : (Cond.code yX6_begin cX6_begin 2 (some .int)) ∈ gtbl := List.mem_filter.mpr ⟨List.mem_of_getElem? (i := 261) (by decide +kernel), by decide +kernel⟩
theorem m262 : (Cond.methodLink RL 23 yX6_move) ∈ gtbl := List.mem_filter.mpr ⟨List.mem_of_getElem? (i := 262) (by decide +kernel), by decide +kernel⟩
theorem m263 : (Cond.instanceMethod yX6_move) ∈ gtbl := List.mem_filter.mpr ⟨List.mem_of_getElem? (i := 263) (by decide +kernel), by decide +kernel⟩
theorem m264 : (Cond.selects RX6 yX6_move yX6_move) ∈ gtbl := List.mem_filter.mpr ⟨List.mem_of_getElem? (i := 264) (by decide +kernel), by decide +kernel⟩
theorem m265 : (Cond.code yX6_move cX6_move 3 (some .int)) ∈ gtbl := List.mem_filter.mpr ⟨List.mem_of_getElem? (i := 265) (by decide +kernel), by decide +kernel⟩
theorem m266 : (Cond.methodLink RX6 73 yX6_errorOfMove) ∈ gtbl := List.mem_filter.mpr ⟨List.mem_of_getElem? (i := 266) (by decide +kernel), by decide +kernel⟩
theorem m268 : (Cond.instanceMethod yX6_errorOfMove) ∈ gtbl := List.mem_filter.mpr ⟨List.mem_of_getElem? (i := 268) (by decide +kernel), by decide +kernel⟩
theorem m269 : (Cond.code yX6_errorOfMove cX6_errorOfMove 2 (some .int)) ∈ gtbl := List.mem_filter.mpr ⟨List.mem_of_getElem? (i := 269) (by decide +kernel), by decide +kernel⟩
theorem m270 : (Cond.methodLink RX6 110 yX6_isHouse) ∈ gtbl := List.mem_filter.mpr ⟨List.mem_of_getElem? (i := 270) (by decide +kernel), by decide +kernel⟩
theorem m271 : (Cond.static yX6_isHouse) ∈ gtbl := List.mem_filter.mpr ⟨List.mem_of_getElem? (i := 271) (by decide +kernel), by decide +kernel⟩
theorem m272 : (Cond.code yX6_isHouse cX6_isHouse 1 (some .boolean)) ∈ gtbl := List.mem_filter.mpr ⟨List.mem_of_getElem? (i := 272) (by decide +kernel), by decide +kernel⟩
theorem m273 : (Cond.methodLink RX6 198 yX3_canMoveFrom) ∈ gtbl := List.mem_filter.mpr ⟨List.mem_of_getElem? (i := 273) (by decide +kernel), by decide +kernel⟩
theorem m274 : (Cond.instanceMethod yX3_canMoveFrom) ∈ gtbl := List.mem_filter.mpr ⟨List.mem_of_getElem? (i := 274) (by decide +kernel), by decide +kernel⟩
theorem m275 : (Cond.selects RX3 yX3_canMoveFrom yX3_canMoveFrom) ∈ gtbl := List.mem_filter.mpr ⟨List.mem_of_getElem? (i := 275) (by decide +kernel), by decide +kernel⟩
theorem m276 : (Cond.code yX3_canMoveFrom cX3_canMoveFrom 2 (some .boolean)) ∈ gtbl := List.mem_filter.mpr ⟨List.mem_of_getElem? (i := 276) (by decide +kernel), by decide +kernel⟩
theorem m277 : (Cond.methodLink RX3 49 yX3_ownerOf) ∈ gtbl := List.mem_filter.mpr ⟨List.mem_of_getElem? (i := 277) (by decide +kernel), by decide +kernel⟩
theorem m278 : (Cond.static yX3_ownerOf) ∈ gtbl := List.mem_filter.mpr ⟨List.mem_of_getElem? (i := 278) (by decide +kernel), by decide +kernel⟩
theorem m279 : (Cond.code yX3_ownerOf cX3_ownerOf 1 (some .int)) ∈ gtbl := List.mem_filter.mpr ⟨List.mem_of_getElem? (i := 279) (by decide +kernel), by decide +kernel⟩
theorem m280 : (Cond.methodLink RX6 77 yX5_makeMove) ∈ gtbl := List.mem_filter.mpr ⟨List.mem_of_getElem? (i := 280) (by decide +kernel), by decide +kernel⟩
theorem m281 : (Cond.instanceMethod yX5_makeMove) ∈ gtbl := List.mem_filter.mpr ⟨List.mem_of_getElem? (i := 281) (by decide +kernel), by decide +kernel⟩
theorem m282 : (Cond.selects RX5 yX5_makeMove yX5_makeMove) ∈ gtbl := List.mem_filter.mpr ⟨List.mem_of_getElem? (i := 282) (by decide +kernel), by decide +kernel⟩
theorem m283 : (Cond.code yX5_makeMove cX5_makeMove 3 none) ∈ gtbl := List.mem_filter.mpr ⟨List.mem_of_getElem? (i := 283) (by decide +kernel), by decide +kernel⟩
theorem m284 : (Cond.methodLink RX5 57 yX3_makeMove) ∈ gtbl := List.mem_filter.mpr ⟨List.mem_of_getElem? (i := 284) (by decide +kernel), by decide +kernel⟩
theorem m285 : (Cond.instanceMethod yX3_makeMove) ∈ gtbl := List.mem_filter.mpr ⟨List.mem_of_getElem? (i := 285) (by decide +kernel), by decide +kernel⟩
theorem m286 : (Cond.selects RX3 yX3_makeMove yX3_makeMove) ∈ gtbl := List.mem_filter.mpr ⟨List.mem_of_getElem? (i := 286) (by decide +kernel), by decide +kernel⟩
theorem m287 : (Cond.code yX3_makeMove cX3_makeMove 6 none) ∈ gtbl := List.mem_filter.mpr ⟨List.mem_of_getElem? (i := 287) (by decide +kernel), by decide +kernel⟩
theorem m288 : (Cond.methodLink RX3 56 yX4_clear) ∈ gtbl := List.mem_filter.mpr ⟨List.mem_of_getElem? (i := 288) (by decide +kernel), by decide +kernel⟩
theorem m289 : (Cond.instanceMethod yX4_clear) ∈ gtbl := List.mem_filter.mpr ⟨List.mem_of_getElem? (i := 289) (by decide +kernel), by decide +kernel⟩
theorem m290 : (Cond.selects RX4 yX4_clear yX4_clear) ∈ gtbl := List.mem_filter.mpr ⟨List.mem_of_getElem? (i := 290) (by decide +kernel), by decide +kernel⟩
theorem m291 : (Cond.code yX4_clear cX4_clear 2 none) ∈ gtbl := List.mem_filter.mpr ⟨List.mem_of_getElem? (i := 291) (by decide +kernel), by decide +kernel⟩
theorem m292 : (Cond.methodLink RX3 64 yX3_sowLap) ∈ gtbl := List.mem_filter.mpr ⟨List.mem_of_getElem? (i := 292) (by decide +kernel), by decide +kernel⟩
theorem m294 : (Cond.instanceMethod yX3_sowLap) ∈ gtbl := List.mem_filter.mpr ⟨List.mem_of_getElem? (i := 294) (by decide +kernel), by decide +kernel⟩
theorem m295 : (Cond.code yX3_sowLap cX3_sowLap 7 (some .boolean)) ∈ gtbl := List.mem_filter.mpr ⟨List.mem_of_getElem? (i := 295) (by decide +kernel), by decide +kernel⟩
theorem m296 : (Cond.methodLink RX3 68 yX3_sowHand) ∈ gtbl := List.mem_filter.mpr ⟨List.mem_of_getElem? (i := 296) (by decide +kernel), by decide +kernel⟩
theorem m298 : (Cond.instanceMethod yX3_sowHand) ∈ gtbl := List.mem_filter.mpr ⟨List.mem_of_getElem? (i := 298) (by decide +kernel), by decide +kernel⟩
theorem m299 : (Cond.code yX3_sowHand cX3_sowHand 7 (some .int)) ∈ gtbl := List.mem_filter.mpr ⟨List.mem_of_getElem? (i := 299) (by decide +kernel), by decide +kernel⟩
theorem m300 : (Cond.methodLink RX3 79 yX3_houseBehind) ∈ gtbl := List.mem_filter.mpr ⟨List.mem_of_getElem? (i := 300) (by decide +kernel), by decide +kernel⟩
theorem m301 : (Cond.static yX3_houseBehind) ∈ gtbl := List.mem_filter.mpr ⟨List.mem_of_getElem? (i := 301) (by decide +kernel), by decide +kernel⟩
theorem m302 : (Cond.code yX3_houseBehind cX3_houseBehind 1 (some .int)) ∈ gtbl := List.mem_filter.mpr ⟨List.mem_of_getElem? (i := 302) (by decide +kernel), by decide +kernel⟩
theorem m303 : (Cond.methodLink RX3 45 yX3_isHostile) ∈ gtbl := List.mem_filter.mpr ⟨List.mem_of_getElem? (i := 303) (by decide +kernel), by decide +kernel⟩
theorem m304 : (Cond.instanceMethod yX3_isHostile) ∈ gtbl := List.mem_filter.mpr ⟨List.mem_of_getElem? (i := 304) (by decide +kernel), by decide +kernel⟩
theorem m305 : (Cond.selects RX3 yX3_isHostile yX3_isHostile) ∈ gtbl := List.mem_filter.mpr ⟨List.mem_of_getElem? (i := 305) (by decide +kernel), by decide +kernel⟩
theorem m306 : (Cond.code yX3_isHostile cX3_isHostile 3 (some .boolean)) ∈ gtbl := List.mem_filter.mpr ⟨List.mem_of_getElem? (i := 306) (by decide +kernel), by decide +kernel⟩
theorem m307 : (Cond.methodLink RX3 75 yX3_captureAcross) ∈ gtbl := List.mem_filter.mpr ⟨List.mem_of_getElem? (i := 307) (by decide +kernel), by decide +kernel⟩
theorem m309 : (Cond.instanceMethod yX3_captureAcross) ∈ gtbl := List.mem_filter.mpr ⟨List.mem_of_getElem? (i := 309) (by decide +kernel), by decide +kernel⟩
theorem m310 : (Cond.code yX3_captureAcross cX3_captureAcross 5 none) ∈ gtbl := List.mem_filter.mpr ⟨List.mem_of_getElem? (i := 310) (by decide +kernel), by decide +kernel⟩
theorem m311 : (Cond.methodLink RX3 41 yX3_giveTurnTo) ∈ gtbl := List.mem_filter.mpr ⟨List.mem_of_getElem? (i := 311) (by decide +kernel), by decide +kernel⟩
theorem m313 : (Cond.instanceMethod yX3_giveTurnTo) ∈ gtbl := List.mem_filter.mpr ⟨List.mem_of_getElem? (i := 313) (by decide +kernel), by decide +kernel⟩
theorem m314 : (Cond.code yX3_giveTurnTo cX3_giveTurnTo 3 none) ∈ gtbl := List.mem_filter.mpr ⟨List.mem_of_getElem? (i := 314) (by decide +kernel), by decide +kernel⟩
theorem m315 : (Cond.methodLink RX3 88 yX3_isDecided) ∈ gtbl := List.mem_filter.mpr ⟨List.mem_of_getElem? (i := 315) (by decide +kernel), by decide +kernel⟩
theorem m317 : (Cond.instanceMethod yX3_isDecided) ∈ gtbl := List.mem_filter.mpr ⟨List.mem_of_getElem? (i := 317) (by decide +kernel), by decide +kernel⟩
theorem m318 : (Cond.code yX3_isDecided cX3_isDecided 3 (some .boolean)) ∈ gtbl := List.mem_filter.mpr ⟨List.mem_of_getElem? (i := 318) (by decide +kernel), by decide +kernel⟩
theorem m319 : (Cond.methodLink RX3 53 yX3_seedsInHousesOf) ∈ gtbl := List.mem_filter.mpr ⟨List.mem_of_getElem? (i := 319) (by decide +kernel), by decide +kernel⟩
theorem m320 : (Cond.instanceMethod yX3_seedsInHousesOf) ∈ gtbl := List.mem_filter.mpr ⟨List.mem_of_getElem? (i := 320) (by decide +kernel), by decide +kernel⟩
theorem m321 : (Cond.selects RX3 yX3_seedsInHousesOf yX3_seedsInHousesOf) ∈ gtbl := List.mem_filter.mpr ⟨List.mem_of_getElem? (i := 321) (by decide +kernel), by decide +kernel⟩
theorem m322 : (Cond.code yX3_seedsInHousesOf cX3_seedsInHousesOf 4 (some .int)) ∈ gtbl := List.mem_filter.mpr ⟨List.mem_of_getElem? (i := 322) (by decide +kernel), by decide +kernel⟩
theorem m323 : (Cond.methodLink RL 28 yX6_play) ∈ gtbl := List.mem_filter.mpr ⟨List.mem_of_getElem? (i := 323) (by decide +kernel), by decide +kernel⟩
theorem m324 : (Cond.instanceMethod yX6_play) ∈ gtbl := List.mem_filter.mpr ⟨List.mem_of_getElem? (i := 324) (by decide +kernel), by decide +kernel⟩
theorem m325 : (Cond.selects RX6 yX6_play yX6_play) ∈ gtbl := List.mem_filter.mpr ⟨List.mem_of_getElem? (i := 325) (by decide +kernel), by decide +kernel⟩
theorem m326 : (Cond.code yX6_play cX6_play 3 (some .int)) ∈ gtbl := List.mem_filter.mpr ⟨List.mem_of_getElem? (i := 326) (by decide +kernel), by decide +kernel⟩
theorem m327 : (Cond.methodLink RX6 89 yX1_bestHouse) ∈ gtbl := List.mem_filter.mpr ⟨List.mem_of_getElem? (i := 327) (by decide +kernel), by decide +kernel⟩
theorem m328 : (Cond.instanceMethod yX1_bestHouse) ∈ gtbl := List.mem_filter.mpr ⟨List.mem_of_getElem? (i := 328) (by decide +kernel), by decide +kernel⟩
theorem m329 : (Cond.selects RX1 yX1_bestHouse yX1_bestHouse) ∈ gtbl := List.mem_filter.mpr ⟨List.mem_of_getElem? (i := 329) (by decide +kernel), by decide +kernel⟩
theorem m330 : (Cond.code yX1_bestHouse cX1_bestHouse 8 (some .int)) ∈ gtbl := List.mem_filter.mpr ⟨List.mem_of_getElem? (i := 330) (by decide +kernel), by decide +kernel⟩
theorem m331 : (Cond.methodLink RX1 37 yX3_canMoveFrom) ∈ gtbl := List.mem_filter.mpr ⟨List.mem_of_getElem? (i := 331) (by decide +kernel), by decide +kernel⟩
theorem m332 : (Cond.methodLink RX1 41 yX1_valueBehind) ∈ gtbl := List.mem_filter.mpr ⟨List.mem_of_getElem? (i := 332) (by decide +kernel), by decide +kernel⟩
theorem m334 : (Cond.instanceMethod yX1_valueBehind) ∈ gtbl := List.mem_filter.mpr ⟨List.mem_of_getElem? (i := 334) (by decide +kernel), by decide +kernel⟩
theorem m335 : (Cond.code yX1_valueBehind cX1_valueBehind 7 (some .int)) ∈ gtbl := List.mem_filter.mpr ⟨List.mem_of_getElem? (i := 335) (by decide +kernel), by decide +kernel⟩
theorem m336 : (Cond.methodLink RX1 33 yX3_lead) ∈ gtbl := List.mem_filter.mpr ⟨List.mem_of_getElem? (i := 336) (by decide +kernel), by decide +kernel⟩
theorem m337 : (Cond.instanceMethod yX3_lead) ∈ gtbl := List.mem_filter.mpr ⟨List.mem_of_getElem? (i := 337) (by decide +kernel), by decide +kernel⟩
theorem m338 : (Cond.selects RX3 yX3_lead yX3_lead) ∈ gtbl := List.mem_filter.mpr ⟨List.mem_of_getElem? (i := 338) (by decide +kernel), by decide +kernel⟩
theorem m339 : (Cond.code yX3_lead cX3_lead 1 (some .int)) ∈ gtbl := List.mem_filter.mpr ⟨List.mem_of_getElem? (i := 339) (by decide +kernel), by decide +kernel⟩
theorem m340 : (Cond.methodLink RX1 51 yX3_copyFrom) ∈ gtbl := List.mem_filter.mpr ⟨List.mem_of_getElem? (i := 340) (by decide +kernel), by decide +kernel⟩
theorem m341 : (Cond.methodLink RX1 55 yX3_makeMove) ∈ gtbl := List.mem_filter.mpr ⟨List.mem_of_getElem? (i := 341) (by decide +kernel), by decide +kernel⟩
theorem m342 : (Cond.methodLink RX1 59 yX1_valueOf) ∈ gtbl := List.mem_filter.mpr ⟨List.mem_of_getElem? (i := 342) (by decide +kernel), by decide +kernel⟩
theorem m343 : (Cond.instanceMethod yX1_valueOf) ∈ gtbl := List.mem_filter.mpr ⟨List.mem_of_getElem? (i := 343) (by decide +kernel), by decide +kernel⟩
theorem m344 : (Cond.selects RX1 yX1_valueOf yX1_valueOf) ∈ gtbl := List.mem_filter.mpr ⟨List.mem_of_getElem? (i := 344) (by decide +kernel), by decide +kernel⟩
theorem m345 : (Cond.code yX1_valueOf cX1_valueOf 6 (some .int)) ∈ gtbl := List.mem_filter.mpr ⟨List.mem_of_getElem? (i := 345) (by decide +kernel), by decide +kernel⟩
theorem m346 : (Cond.methodLink RX1 45 ⟨"java/lang/Math", "max", "(II)I"⟩) ∈ gtbl := List.mem_filter.mpr ⟨List.mem_of_getElem? (i := 346) (by decide +kernel), by decide +kernel⟩
theorem m347 : (Cond.static ⟨"java/lang/Math", "max", "(II)I"⟩) ∈ gtbl := List.mem_filter.mpr ⟨List.mem_of_getElem? (i := 347) (by decide +kernel), by decide +kernel⟩
theorem m348 : (Cond.code ⟨"java/lang/Math", "max", "(II)I"⟩ prog_11_method_65_code 2 (some .int)) ∈ gtbl := List.mem_filter.mpr ⟨List.mem_of_getElem? (i := 348) (by decide +kernel), by decide +kernel⟩
theorem m349 : (Cond.methodLink RL 32 yX6_read) ∈ gtbl := List.mem_filter.mpr ⟨List.mem_of_getElem? (i := 349) (by decide +kernel), by decide +kernel⟩
theorem m350 : (Cond.instanceMethod yX6_read) ∈ gtbl := List.mem_filter.mpr ⟨List.mem_of_getElem? (i := 350) (by decide +kernel), by decide +kernel⟩
theorem m351 : (Cond.selects RX6 yX6_read yX6_read) ∈ gtbl := List.mem_filter.mpr ⟨List.mem_of_getElem? (i := 351) (by decide +kernel), by decide +kernel⟩
theorem m352 : (Cond.code yX6_read cX6_read 1 (some .int)) ∈ gtbl := List.mem_filter.mpr ⟨List.mem_of_getElem? (i := 352) (by decide +kernel), by decide +kernel⟩
theorem m353 : (Cond.methodLink RX6 93 yX2_scan) ∈ gtbl := List.mem_filter.mpr ⟨List.mem_of_getElem? (i := 353) (by decide +kernel), by decide +kernel⟩
theorem m354 : (Cond.instanceMethod yX2_scan) ∈ gtbl := List.mem_filter.mpr ⟨List.mem_of_getElem? (i := 354) (by decide +kernel), by decide +kernel⟩
theorem m355 : (Cond.selects RX2 yX2_scan yX2_scan) ∈ gtbl := List.mem_filter.mpr ⟨List.mem_of_getElem? (i := 355) (by decide +kernel), by decide +kernel⟩
theorem m356 : (Cond.code yX2_scan cX2_scan 6 (some .int)) ∈ gtbl := List.mem_filter.mpr ⟨List.mem_of_getElem? (i := 356) (by decide +kernel), by decide +kernel⟩
theorem m357 : (Cond.methodLink RX2 29 yX2_digitFits) ∈ gtbl := List.mem_filter.mpr ⟨List.mem_of_getElem? (i := 357) (by decide +kernel), by decide +kernel⟩
theorem m359 : (Cond.instanceMethod yX2_digitFits) ∈ gtbl := List.mem_filter.mpr ⟨List.mem_of_getElem? (i := 359) (by decide +kernel), by decide +kernel⟩
theorem m360 : (Cond.code yX2_digitFits cX2_digitFits 5 (some .boolean)) ∈ gtbl := List.mem_filter.mpr ⟨List.mem_of_getElem? (i := 360) (by decide +kernel), by decide +kernel⟩
theorem m361 : (Cond.methodLink RX2 33 yX2_signBehind) ∈ gtbl := List.mem_filter.mpr ⟨List.mem_of_getElem? (i := 361) (by decide +kernel), by decide +kernel⟩
theorem m362 : (Cond.static yX2_signBehind) ∈ gtbl := List.mem_filter.mpr ⟨List.mem_of_getElem? (i := 362) (by decide +kernel), by decide +kernel⟩
theorem m363 : (Cond.code yX2_signBehind cX2_signBehind 1 (some .char)) ∈ gtbl := List.mem_filter.mpr ⟨List.mem_of_getElem? (i := 363) (by decide +kernel), by decide +kernel⟩
theorem m364 : (Cond.methodLink RX6 100 yX3_fillFrom) ∈ gtbl := List.mem_filter.mpr ⟨List.mem_of_getElem? (i := 364) (by decide +kernel), by decide +kernel⟩
theorem m365 : (Cond.instanceMethod yX3_fillFrom) ∈ gtbl := List.mem_filter.mpr ⟨List.mem_of_getElem? (i := 365) (by decide +kernel), by decide +kernel⟩
theorem m366 : (Cond.selects RX3 yX3_fillFrom yX3_fillFrom) ∈ gtbl := List.mem_filter.mpr ⟨List.mem_of_getElem? (i := 366) (by decide +kernel), by decide +kernel⟩
theorem m367 : (Cond.code yX3_fillFrom cX3_fillFrom 3 none) ∈ gtbl := List.mem_filter.mpr ⟨List.mem_of_getElem? (i := 367) (by decide +kernel), by decide +kernel⟩
theorem m368 : (Cond.methodLink RX6 107 yX3_allSeeds) ∈ gtbl := List.mem_filter.mpr ⟨List.mem_of_getElem? (i := 368) (by decide +kernel), by decide +kernel⟩
theorem m369 : (Cond.instanceMethod yX3_allSeeds) ∈ gtbl := List.mem_filter.mpr ⟨List.mem_of_getElem? (i := 369) (by decide +kernel), by decide +kernel⟩
theorem m370 : (Cond.selects RX3 yX3_allSeeds yX3_allSeeds) ∈ gtbl := List.mem_filter.mpr ⟨List.mem_of_getElem? (i := 370) (by decide +kernel), by decide +kernel⟩
theorem m371 : (Cond.code yX3_allSeeds cX3_allSeeds 1 (some .int)) ∈ gtbl := List.mem_filter.mpr ⟨List.mem_of_getElem? (i := 371) (by decide +kernel), by decide +kernel⟩
theorem m372 : (Cond.methodLink RL 36 yX6_house) ∈ gtbl := List.mem_filter.mpr ⟨List.mem_of_getElem? (i := 372) (by decide +kernel), by decide +kernel⟩
theorem m373 : (Cond.instanceMethod yX6_house) ∈ gtbl := List.mem_filter.mpr ⟨List.mem_of_getElem? (i := 373) (by decide +kernel), by decide +kernel⟩
theorem m374 : (Cond.selects RX6 yX6_house yX6_house) ∈ gtbl := List.mem_filter.mpr ⟨List.mem_of_getElem? (i := 374) (by decide +kernel), by decide +kernel⟩
theorem m375 : (Cond.code yX6_house cX6_house 3 (some .int)) ∈ gtbl := List.mem_filter.mpr ⟨List.mem_of_getElem? (i := 375) (by decide +kernel), by decide +kernel⟩
theorem m376 : (Cond.methodLink RX6 120 yX3_isHostile) ∈ gtbl := List.mem_filter.mpr ⟨List.mem_of_getElem? (i := 376) (by decide +kernel), by decide +kernel⟩
theorem m377 : (Cond.methodLink RL 40 yX6_count) ∈ gtbl := List.mem_filter.mpr ⟨List.mem_of_getElem? (i := 377) (by decide +kernel), by decide +kernel⟩
theorem m378 : (Cond.instanceMethod yX6_count) ∈ gtbl := List.mem_filter.mpr ⟨List.mem_of_getElem? (i := 378) (by decide +kernel), by decide +kernel⟩
theorem m379 : (Cond.selects RX6 yX6_count yX6_count) ∈ gtbl := List.mem_filter.mpr ⟨List.mem_of_getElem? (i := 379) (by decide +kernel), by decide +kernel⟩
theorem m380 : (Cond.code yX6_count cX6_count 3 (some .int)) ∈ gtbl := List.mem_filter.mpr ⟨List.mem_of_getElem? (i := 380) (by decide +kernel), by decide +kernel⟩
theorem m381 : (Cond.methodLink RX6 131 yX3_winner) ∈ gtbl := List.mem_filter.mpr ⟨List.mem_of_getElem? (i := 381) (by decide +kernel), by decide +kernel⟩
theorem m382 : (Cond.instanceMethod yX3_winner) ∈ gtbl := List.mem_filter.mpr ⟨List.mem_of_getElem? (i := 382) (by decide +kernel), by decide +kernel⟩
theorem m383 : (Cond.selects RX3 yX3_winner yX3_winner) ∈ gtbl := List.mem_filter.mpr ⟨List.mem_of_getElem? (i := 383) (by decide +kernel), by decide +kernel⟩
theorem m384 : (Cond.code yX3_winner cX3_winner 1 (some .int)) ∈ gtbl := List.mem_filter.mpr ⟨List.mem_of_getElem? (i := 384) (by decide +kernel), by decide +kernel⟩
theorem m385 : (Cond.methodLink RX6 137 yX3_hostileHouses) ∈ gtbl := List.mem_filter.mpr ⟨List.mem_of_getElem? (i := 385) (by decide +kernel), by decide +kernel⟩
theorem m386 : (Cond.instanceMethod yX3_hostileHouses) ∈ gtbl := List.mem_filter.mpr ⟨List.mem_of_getElem? (i := 386) (by decide +kernel), by decide +kernel⟩
theorem m387 : (Cond.selects RX3 yX3_hostileHouses yX3_hostileHouses) ∈ gtbl := List.mem_filter.mpr ⟨List.mem_of_getElem? (i := 387) (by decide +kernel), by decide +kernel⟩
theorem m388 : (Cond.code yX3_hostileHouses cX3_hostileHouses 4 (some .int)) ∈ gtbl := List.mem_filter.mpr ⟨List.mem_of_getElem? (i := 388) (by decide +kernel), by decide +kernel⟩
theorem m389 : (Cond.methodLink RL 44 yX6_last) ∈ gtbl := List.mem_filter.mpr ⟨List.mem_of_getElem? (i := 389) (by decide +kernel), by decide +kernel⟩
theorem m390 : (Cond.instanceMethod yX6_last) ∈ gtbl := List.mem_filter.mpr ⟨List.mem_of_getElem? (i := 390) (by decide +kernel), by decide +kernel⟩
theorem m391 : (Cond.selects RX6 yX6_last yX6_last) ∈ gtbl := List.mem_filter.mpr ⟨List.mem_of_getElem? (i := 391) (by decide +kernel), by decide +kernel⟩
theorem m392 : (Cond.code yX6_last cX6_last 2 (some .int)) ∈ gtbl := List.mem_filter.mpr ⟨List.mem_of_getElem? (i := 392) (by decide +kernel), by decide +kernel⟩
theorem m393 : (Cond.methodLink RL 48 yX6_moved) ∈ gtbl := List.mem_filter.mpr ⟨List.mem_of_getElem? (i := 393) (by decide +kernel), by decide +kernel⟩
theorem m394 : (Cond.instanceMethod yX6_moved) ∈ gtbl := List.mem_filter.mpr ⟨List.mem_of_getElem? (i := 394) (by decide +kernel), by decide +kernel⟩
theorem m395 : (Cond.selects RX6 yX6_moved yX6_moved) ∈ gtbl := List.mem_filter.mpr ⟨List.mem_of_getElem? (i := 395) (by decide +kernel), by decide +kernel⟩
theorem m396 : (Cond.code yX6_moved cX6_moved 2 (some .int)) ∈ gtbl := List.mem_filter.mpr ⟨List.mem_of_getElem? (i := 396) (by decide +kernel), by decide +kernel⟩
theorem m397 : (Cond.methodLink RL 52 yX6_ifMove) ∈ gtbl := List.mem_filter.mpr ⟨List.mem_of_getElem? (i := 397) (by decide +kernel), by decide +kernel⟩
theorem m398 : (Cond.instanceMethod yX6_ifMove) ∈ gtbl := List.mem_filter.mpr ⟨List.mem_of_getElem? (i := 398) (by decide +kernel), by decide +kernel⟩
theorem m399 : (Cond.selects RX6 yX6_ifMove yX6_ifMove) ∈ gtbl := List.mem_filter.mpr ⟨List.mem_of_getElem? (i := 399) (by decide +kernel), by decide +kernel⟩
theorem m400 : (Cond.code yX6_ifMove cX6_ifMove 6 (some .int)) ∈ gtbl := List.mem_filter.mpr ⟨List.mem_of_getElem? (i := 400) (by decide +kernel), by decide +kernel⟩
theorem m401 : (Cond.methodLink RX6 165 yX3_copyFrom) ∈ gtbl := List.mem_filter.mpr ⟨List.mem_of_getElem? (i := 401) (by decide +kernel), by decide +kernel⟩
theorem m402 : (Cond.methodLink RX6 169 yX3_makeMove) ∈ gtbl := List.mem_filter.mpr ⟨List.mem_of_getElem? (i := 402) (by decide +kernel), by decide +kernel⟩
theorem m403 : (Cond.methodLink RX6 172 yX6_storeGain) ∈ gtbl := List.mem_filter.mpr ⟨List.mem_of_getElem? (i := 403) (by decide +kernel), by decide +kernel⟩
theorem m404 : (Cond.static yX6_storeGain) ∈ gtbl := List.mem_filter.mpr ⟨List.mem_of_getElem? (i := 404) (by decide +kernel), by decide +kernel⟩
theorem m405 : (Cond.code yX6_storeGain cX6_storeGain 2 (some .int)) ∈ gtbl := List.mem_filter.mpr ⟨List.mem_of_getElem? (i := 405) (by decide +kernel), by decide +kernel⟩
theorem m406 : (Cond.methodLink RL 56 yX6_worth) ∈ gtbl := List.mem_filter.mpr ⟨List.mem_of_getElem? (i := 406) (by decide +kernel), by decide +kernel⟩
theorem m407 : (Cond.instanceMethod yX6_worth) ∈ gtbl := List.mem_filter.mpr ⟨List.mem_of_getElem? (i := 407) (by decide +kernel), by decide +kernel⟩
theorem m408 : (Cond.selects RX6 yX6_worth yX6_worth) ∈ gtbl := List.mem_filter.mpr ⟨List.mem_of_getElem? (i := 408) (by decide +kernel), by decide +kernel⟩
theorem m409 : (Cond.code yX6_worth cX6_worth 2 (some .int)) ∈ gtbl := List.mem_filter.mpr ⟨List.mem_of_getElem? (i := 409) (by decide +kernel), by decide +kernel⟩
theorem m410 : (Cond.methodLink RX6 176 yX1_valueOf) ∈ gtbl := List.mem_filter.mpr ⟨List.mem_of_getElem? (i := 410) (by decide +kernel), by decide +kernel⟩
theorem m411 : (Cond.methodLink RL 60 yX6_best) ∈ gtbl := List.mem_filter.mpr ⟨List.mem_of_getElem? (i := 411) (by decide +kernel), by decide +kernel⟩
theorem m412 : (Cond.instanceMethod yX6_best) ∈ gtbl := List.mem_filter.mpr ⟨List.mem_of_getElem? (i := 412) (by decide +kernel), by decide +kernel⟩
theorem m413 : (Cond.selects RX6 yX6_best yX6_best) ∈ gtbl := List.mem_filter.mpr ⟨List.mem_of_getElem? (i := 413) (by decide +kernel), by decide +kernel⟩
theorem m414 : (Cond.code yX6_best cX6_best 2 (some .int)) ∈ gtbl := List.mem_filter.mpr ⟨List.mem_of_getElem? (i := 414) (by decide +kernel), by decide +kernel⟩
theorem m415 : (Cond.methodLink RL 64 yX6_movesLeft) ∈ gtbl := List.mem_filter.mpr ⟨List.mem_of_getElem? (i := 415) (by decide +kernel), by decide +kernel⟩
theorem m416 : (Cond.instanceMethod yX6_movesLeft) ∈ gtbl := List.mem_filter.mpr ⟨List.mem_of_getElem? (i := 416) (by decide +kernel), by decide +kernel⟩
theorem m417 : (Cond.selects RX6 yX6_movesLeft yX6_movesLeft) ∈ gtbl := List.mem_filter.mpr ⟨List.mem_of_getElem? (i := 417) (by decide +kernel), by decide +kernel⟩
theorem m418 : (Cond.code yX6_movesLeft cX6_movesLeft 2 (some .int)) ∈ gtbl := List.mem_filter.mpr ⟨List.mem_of_getElem? (i := 418) (by decide +kernel), by decide +kernel⟩
theorem m419 : (Cond.methodLink RX6 179 yX1_movesToTheEnd) ∈ gtbl := List.mem_filter.mpr ⟨List.mem_of_getElem? (i := 419) (by decide +kernel), by decide +kernel⟩
theorem m420 : (Cond.instanceMethod yX1_movesToTheEnd) ∈ gtbl := List.mem_filter.mpr ⟨List.mem_of_getElem? (i := 420) (by decide +kernel), by decide +kernel⟩
theorem m421 : (Cond.selects RX1 yX1_movesToTheEnd yX1_movesToTheEnd) ∈ gtbl := List.mem_filter.mpr ⟨List.mem_of_getElem? (i := 421) (by decide +kernel), by decide +kernel⟩
theorem m422 : (Cond.code yX1_movesToTheEnd cX1_movesToTheEnd 6 (some .int)) ∈ gtbl := List.mem_filter.mpr ⟨List.mem_of_getElem? (i := 422) (by decide +kernel), by decide +kernel⟩
theorem m423 : (Cond.methodLink RX1 67 yX1_bestHouse) ∈ gtbl := List.mem_filter.mpr ⟨List.mem_of_getElem? (i := 423) (by decide +kernel), by decide +kernel⟩
theorem m424 : (Cond.methodLink RL 70 yX6_put) ∈ gtbl := List.mem_filter.mpr ⟨List.mem_of_getElem? (i := 424) (by decide +kernel), by decide +kernel⟩
theorem m425 : (Cond.instanceMethod yX6_put) ∈ gtbl := List.mem_filter.mpr ⟨List.mem_of_getElem? (i := 425) (by decide +kernel), by decide +kernel⟩
theorem m426 : (Cond.selects RX6 yX6_put yX6_put) ∈ gtbl := List.mem_filter.mpr ⟨List.mem_of_getElem? (i := 426) (by decide +kernel), by decide +kernel⟩
theorem m427 : (Cond.code yX6_put cX6_put 4 (some .int)) ∈ gtbl := List.mem_filter.mpr ⟨List.mem_of_getElem? (i := 427) (by decide +kernel), by decide +kernel⟩
theorem m428 : (Cond.methodLink RX6 182 yX2_charactersIn) ∈ gtbl := List.mem_filter.mpr ⟨List.mem_of_getElem? (i := 428) (by decide +kernel), by decide +kernel⟩
theorem m429 : (Cond.static yX2_charactersIn) ∈ gtbl := List.mem_filter.mpr ⟨List.mem_of_getElem? (i := 429) (by decide +kernel), by decide +kernel⟩
theorem m430 : (Cond.code yX2_charactersIn cX2_charactersIn 7 (some .int)) ∈ gtbl := List.mem_filter.mpr ⟨List.mem_of_getElem? (i := 430) (by decide +kernel), by decide +kernel⟩
theorem m431 : (Cond.constantLong RX2 19 (255)) ∈ gtbl := List.mem_filter.mpr ⟨List.mem_of_getElem? (i := 431) (by decide +kernel), by decide +kernel⟩
theorem m432 : (Cond.constantLong RX2 21 (33)) ∈ gtbl := List.mem_filter.mpr ⟨List.mem_of_getElem? (i := 432) (by decide +kernel), by decide +kernel⟩
theorem m433 : (Cond.constantLong RX2 23 (126)) ∈ gtbl := List.mem_filter.mpr ⟨List.mem_of_getElem? (i := 433) (by decide +kernel), by decide +kernel⟩
theorem m434 : (Cond.methodLink RX6 186 yX2_append) ∈ gtbl := List.mem_filter.mpr ⟨List.mem_of_getElem? (i := 434) (by decide +kernel), by decide +kernel⟩
theorem m435 : (Cond.instanceMethod yX2_append) ∈ gtbl := List.mem_filter.mpr ⟨List.mem_of_getElem? (i := 435) (by decide +kernel), by decide +kernel⟩
theorem m436 : (Cond.selects RX2 yX2_append yX2_append) ∈ gtbl := List.mem_filter.mpr ⟨List.mem_of_getElem? (i := 436) (by decide +kernel), by decide +kernel⟩
theorem m437 : (Cond.code yX2_append cX2_append 5 none) ∈ gtbl := List.mem_filter.mpr ⟨List.mem_of_getElem? (i := 437) (by decide +kernel), by decide +kernel⟩
theorem m438 : (Cond.methodLink RL 75 yX6_wipe) ∈ gtbl := List.mem_filter.mpr ⟨List.mem_of_getElem? (i := 438) (by decide +kernel), by decide +kernel⟩
theorem m439 : (Cond.instanceMethod yX6_wipe) ∈ gtbl := List.mem_filter.mpr ⟨List.mem_of_getElem? (i := 439) (by decide +kernel), by decide +kernel⟩
theorem m440 : (Cond.selects RX6 yX6_wipe yX6_wipe) ∈ gtbl := List.mem_filter.mpr ⟨List.mem_of_getElem? (i := 440) (by decide +kernel), by decide +kernel⟩
theorem m441 : (Cond.code yX6_wipe cX6_wipe 2 (some .int)) ∈ gtbl := List.mem_filter.mpr ⟨List.mem_of_getElem? (i := 441) (by decide +kernel), by decide +kernel⟩
theorem m442 : (Cond.methodLink RL 79 yX6_fault) ∈ gtbl := List.mem_filter.mpr ⟨List.mem_of_getElem? (i := 442) (by decide +kernel), by decide +kernel⟩
theorem m443 : (Cond.instanceMethod yX6_fault) ∈ gtbl := List.mem_filter.mpr ⟨List.mem_of_getElem? (i := 443) (by decide +kernel), by decide +kernel⟩
theorem m444 : (Cond.selects RX6 yX6_fault yX6_fault) ∈ gtbl := List.mem_filter.mpr ⟨List.mem_of_getElem? (i := 444) (by decide +kernel), by decide +kernel⟩
theorem m445 : (Cond.code yX6_fault cX6_fault 1 (some .int)) ∈ gtbl := List.mem_filter.mpr ⟨List.mem_of_getElem? (i := 445) (by decide +kernel), by decide +kernel⟩
theorem m446 : (Cond.methodLink RL 83 yX6_undo) ∈ gtbl := List.mem_filter.mpr ⟨List.mem_of_getElem? (i := 446) (by decide +kernel), by decide +kernel⟩
theorem m447 : (Cond.instanceMethod yX6_undo) ∈ gtbl := List.mem_filter.mpr ⟨List.mem_of_getElem? (i := 447) (by decide +kernel), by decide +kernel⟩
theorem m448 : (Cond.selects RX6 yX6_undo yX6_undo) ∈ gtbl := List.mem_filter.mpr ⟨List.mem_of_getElem? (i := 448) (by decide +kernel), by decide +kernel⟩
theorem m449 : (Cond.code yX6_undo cX6_undo 1 (some .int)) ∈ gtbl := List.mem_filter.mpr ⟨List.mem_of_getElem? (i := 449) (by decide +kernel), by decide +kernel⟩
theorem m450 : (Cond.methodLink RX6 190 yX0_takeBack) ∈ gtbl := List.mem_filter.mpr ⟨List.mem_of_getElem? (i := 450) (by decide +kernel), by decide +kernel⟩
theorem m451 : (Cond.instanceMethod yX0_takeBack) ∈ gtbl := List.mem_filter.mpr ⟨List.mem_of_getElem? (i := 451) (by decide +kernel), by decide +kernel⟩
theorem m452 : (Cond.selects RX0 yX0_takeBack yX0_takeBack) ∈ gtbl := List.mem_filter.mpr ⟨List.mem_of_getElem? (i := 452) (by decide +kernel), by decide +kernel⟩
theorem m453 : (Cond.code yX0_takeBack cX0_takeBack 2 none) ∈ gtbl := List.mem_filter.mpr ⟨List.mem_of_getElem? (i := 453) (by decide +kernel), by decide +kernel⟩
theorem m454 : (Cond.methodLink RL 87 yX6_save) ∈ gtbl := List.mem_filter.mpr ⟨List.mem_of_getElem? (i := 454) (by decide +kernel), by decide +kernel⟩
theorem m455 : (Cond.instanceMethod yX6_save) ∈ gtbl := List.mem_filter.mpr ⟨List.mem_of_getElem? (i := 455) (by decide +kernel), by decide +kernel⟩
theorem m456 : (Cond.selects RX6 yX6_save yX6_save) ∈ gtbl := List.mem_filter.mpr ⟨List.mem_of_getElem? (i := 456) (by decide +kernel), by decide +kernel⟩
theorem m457 : (Cond.code yX6_save cX6_save 2 (some .int)) ∈ gtbl := List.mem_filter.mpr ⟨List.mem_of_getElem? (i := 457) (by decide +kernel), by decide +kernel⟩
theorem m458 : (Cond.methodLink RX6 193 yX6_isSlot) ∈ gtbl := List.mem_filter.mpr ⟨List.mem_of_getElem? (i := 458) (by decide +kernel), by decide +kernel⟩
theorem m459 : (Cond.static yX6_isSlot) ∈ gtbl := List.mem_filter.mpr ⟨List.mem_of_getElem? (i := 459) (by decide +kernel), by decide +kernel⟩
theorem m460 : (Cond.code yX6_isSlot cX6_isSlot 1 (some .boolean)) ∈ gtbl := List.mem_filter.mpr ⟨List.mem_of_getElem? (i := 460) (by decide +kernel), by decide +kernel⟩
theorem m461 : (Cond.methodLink RX6 196 yX5_copyFrom) ∈ gtbl := List.mem_filter.mpr ⟨List.mem_of_getElem? (i := 461) (by decide +kernel), by decide +kernel⟩
theorem m462 : (Cond.methodLink RL 91 yX6_restore) ∈ gtbl := List.mem_filter.mpr ⟨List.mem_of_getElem? (i := 462) (by decide +kernel), by decide +kernel⟩
theorem m463 : (Cond.instanceMethod yX6_restore) ∈ gtbl := List.mem_filter.mpr ⟨List.mem_of_getElem? (i := 463) (by decide +kernel), by decide +kernel⟩
theorem m464 : (Cond.selects RX6 yX6_restore yX6_restore) ∈ gtbl := List.mem_filter.mpr ⟨List.mem_of_getElem? (i := 464) (by decide +kernel), by decide +kernel⟩
theorem m465 : (Cond.code yX6_restore cX6_restore 2 (some .int)) ∈ gtbl := List.mem_filter.mpr ⟨List.mem_of_getElem? (i := 465) (by decide +kernel), by decide +kernel⟩
theorem m466 : (Cond.classLink RL 10 RX7) ∈ gtbl := List.mem_filter.mpr ⟨List.mem_of_getElem? (i := 466) (by decide +kernel), by decide +kernel⟩
theorem m467 : (Cond.instantiable RX7 13) ∈ gtbl := List.mem_filter.mpr ⟨List.mem_of_getElem? (i := 467) (by decide +kernel), by decide +kernel⟩
theorem m468 : (Cond.methodLink RL 12 yX7_init) ∈ gtbl := List.mem_filter.mpr ⟨List.mem_of_getElem? (i := 468) (by decide +kernel), by decide +kernel⟩
theorem m469 : (Cond.instanceMethod yX7_init) ∈ gtbl := List.mem_filter.mpr ⟨List.mem_of_getElem? (i := 469) (by decide +kernel), by decide +kernel⟩
theorem m470 : (Cond.code yX7_init cX7_init 1 none) ∈ gtbl := List.mem_filter.mpr ⟨List.mem_of_getElem? (i := 470) (by decide +kernel), by decide +kernel⟩
theorem m471 : (Cond.methodLink RX7 1 objectInit) ∈ gtbl := List.mem_filter.mpr ⟨List.mem_of_getElem? (i := 471) (by decide +kernel), by decide +kernel⟩
theorem m472 : (Cond.methodLink RX7 40 yX7_anew) ∈ gtbl := List.mem_filter.mpr ⟨List.mem_of_getElem? (i := 472) (by decide +kernel), by decide +kernel⟩
theorem m474 : (Cond.instanceMethod yX7_anew) ∈ gtbl := List.mem_filter.mpr ⟨List.mem_of_getElem? (i := 474) (by decide +kernel), by decide +kernel⟩
theorem m475 : (Cond.code yX7_anew cX7_anew 2 none) ∈ gtbl := List.mem_filter.mpr ⟨List.mem_of_getElem? (i := 475) (by decide +kernel), by decide +kernel⟩
theorem m476 : (Cond.methodLink RX7 47 yX7_empties) ∈ gtbl := List.mem_filter.mpr ⟨List.mem_of_getElem? (i := 476) (by decide +kernel), by decide +kernel⟩
theorem m478 : (Cond.instanceMethod yX7_empties) ∈ gtbl := List.mem_filter.mpr ⟨List.mem_of_getElem? (i := 478) (by decide +kernel), by decide +kernel⟩
theorem m479 : (Cond.code yX7_empties cX7_empties 2 none) ∈ gtbl := List.mem_filter.mpr ⟨List.mem_of_getElem? (i := 479) (by decide +kernel), by decide +kernel⟩
theorem m480 : (Cond.fieldLink RX7 7 "HostileHousesModel" "all" "[I") ∈ gtbl := List.mem_filter.mpr ⟨List.mem_of_getElem? (i := 480) (by decide +kernel), by decide +kernel⟩
theorem m481 : (Cond.fieldLink RX7 13 "HostileHousesModel" "history" "[I") ∈ gtbl := List.mem_filter.mpr ⟨List.mem_of_getElem? (i := 481) (by decide +kernel), by decide +kernel⟩
theorem m482 : (Cond.fieldLink RX7 43 "HostileHousesModel" "historyLong" "I") ∈ gtbl := List.mem_filter.mpr ⟨List.mem_of_getElem? (i := 482) (by decide +kernel), by decide +kernel⟩
theorem m483 : (Cond.fieldLink RX7 16 "HostileHousesModel" "slots" "[I") ∈ gtbl := List.mem_filter.mpr ⟨List.mem_of_getElem? (i := 483) (by decide +kernel), by decide +kernel⟩
theorem m484 : (Cond.fieldLink RX7 19 "HostileHousesModel" "isSaved" "[I") ∈ gtbl := List.mem_filter.mpr ⟨List.mem_of_getElem? (i := 484) (by decide +kernel), by decide +kernel⟩
theorem m485 : (Cond.fieldLink RX7 22 "HostileHousesModel" "tree" "[I") ∈ gtbl := List.mem_filter.mpr ⟨List.mem_of_getElem? (i := 485) (by decide +kernel), by decide +kernel⟩
theorem m486 : (Cond.fieldLink RX7 25 "HostileHousesModel" "tried" "[I") ∈ gtbl := List.mem_filter.mpr ⟨List.mem_of_getElem? (i := 486) (by decide +kernel), by decide +kernel⟩
theorem m487 : (Cond.fieldLink RX7 28 "HostileHousesModel" "most" "[I") ∈ gtbl := List.mem_filter.mpr ⟨List.mem_of_getElem? (i := 487) (by decide +kernel), by decide +kernel⟩
theorem m488 : (Cond.fieldLink RX7 31 "HostileHousesModel" "bestHouse" "[I") ∈ gtbl := List.mem_filter.mpr ⟨List.mem_of_getElem? (i := 488) (by decide +kernel), by decide +kernel⟩
theorem m489 : (Cond.fieldLink RX7 34 "HostileHousesModel" "pad" "[I") ∈ gtbl := List.mem_filter.mpr ⟨List.mem_of_getElem? (i := 489) (by decide +kernel), by decide +kernel⟩
theorem m490 : (Cond.fieldLink RX7 130 "HostileHousesModel" "padLong" "I") ∈ gtbl := List.mem_filter.mpr ⟨List.mem_of_getElem? (i := 490) (by decide +kernel), by decide +kernel⟩
theorem m491 : (Cond.fieldLink RX7 127 "HostileHousesModel" "spot" "I") ∈ gtbl := List.mem_filter.mpr ⟨List.mem_of_getElem? (i := 491) (by decide +kernel), by decide +kernel⟩
theorem m492 : (Cond.fieldLink RX7 37 "HostileHousesModel" "read" "[I") ∈ gtbl := List.mem_filter.mpr ⟨List.mem_of_getElem? (i := 492) (by decide +kernel), by decide +kernel⟩
theorem m520 : (Cond.methodLink RL 17 yX7_set) ∈ gtbl := List.mem_filter.mpr ⟨List.mem_of_getElem? (i := 520) (by decide +kernel), by decide +kernel⟩
theorem m521 : (Cond.instanceMethod yX7_set) ∈ gtbl := List.mem_filter.mpr ⟨List.mem_of_getElem? (i := 521) (by decide +kernel), by decide +kernel⟩
theorem m522 : (Cond.selects RX7 yX7_set yX7_set) ∈ gtbl := List.mem_filter.mpr ⟨List.mem_of_getElem? (i := 522) (by decide +kernel), by decide +kernel⟩
theorem m523 : (Cond.code yX7_set cX7_set 4 (some .int)) ∈ gtbl := List.mem_filter.mpr ⟨List.mem_of_getElem? (i := 523) (by decide +kernel), by decide +kernel⟩
theorem m524 : (Cond.methodLink RX7 105 yX7_isSetting) ∈ gtbl := List.mem_filter.mpr ⟨List.mem_of_getElem? (i := 524) (by decide +kernel), by decide +kernel⟩
theorem m525 : (Cond.static yX7_isSetting) ∈ gtbl := List.mem_filter.mpr ⟨List.mem_of_getElem? (i := 525) (by decide +kernel), by decide +kernel⟩
theorem m526 : (Cond.code yX7_isSetting cX7_isSetting 2 (some .boolean)) ∈ gtbl := List.mem_filter.mpr ⟨List.mem_of_getElem? (i := 526) (by decide +kernel), by decide +kernel⟩
theorem m527 : (Cond.constantLong RX7 95 (9)) ∈ gtbl := List.mem_filter.mpr ⟨List.mem_of_getElem? (i := 527) (by decide +kernel), by decide +kernel⟩
theorem m528 : (Cond.methodLink RX7 97 yX7_in) ∈ gtbl := List.mem_filter.mpr ⟨List.mem_of_getElem? (i := 528) (by decide +kernel), by decide +kernel⟩
theorem m529 : (Cond.static yX7_in) ∈ gtbl := List.mem_filter.mpr ⟨List.mem_of_getElem? (i := 529) (by decide +kernel), by decide +kernel⟩
theorem m530 : (Cond.code yX7_in cX7_in 6 (some .boolean)) ∈ gtbl := List.mem_filter.mpr ⟨List.mem_of_getElem? (i := 530) (by decide +kernel), by decide +kernel⟩
theorem m531 : (Cond.constantLong RX7 101 (20)) ∈ gtbl := List.mem_filter.mpr ⟨List.mem_of_getElem? (i := 531) (by decide +kernel), by decide +kernel⟩
theorem m532 : (Cond.constantLong RX7 103 (3)) ∈ gtbl := List.mem_filter.mpr ⟨List.mem_of_getElem? (i := 532) (by decide +kernel), by decide +kernel⟩
theorem m533 : (Cond.methodLink RX7 109 yX7_record) ∈ gtbl := List.mem_filter.mpr ⟨List.mem_of_getElem? (i := 533) (by decide +kernel), by decide +kernel⟩
theorem m535 : (Cond.instanceMethod yX7_record) ∈ gtbl := List.mem_filter.mpr ⟨List.mem_of_getElem? (i := 535) (by decide +kernel), by decide +kernel⟩
theorem m536 : (Cond.code yX7_record cX7_record 2 none) ∈ gtbl := List.mem_filter.mpr ⟨List.mem_of_getElem? (i := 536) (by decide +kernel), by decide +kernel⟩
theorem m537 : (Cond.methodLink RL 22 yX7_begin) ∈ gtbl := List.mem_filter.mpr ⟨List.mem_of_getElem? (i := 537) (by decide +kernel), by decide +kernel⟩
theorem m538 : (Cond.instanceMethod yX7_begin) ∈ gtbl := List.mem_filter.mpr ⟨List.mem_of_getElem? (i := 538) (by decide +kernel), by decide +kernel⟩
theorem m539 : (Cond.selects RX7 yX7_begin yX7_begin) ∈ gtbl := List.mem_filter.mpr ⟨List.mem_of_getElem? (i := 539) (by decide +kernel), by decide +kernel⟩
theorem m540 : (Cond.code yX7_begin cX7_begin 2 (some .int)) ∈ gtbl := List.mem_filter.mpr ⟨List.mem_of_getElem? (i := 540) (by decide +kernel), by decide +kernel⟩
theorem m541 : (Cond.methodLink RL 27 yX7_move) ∈ gtbl := List.mem_filter.mpr ⟨List.mem_of_getElem? (i := 541) (by decide +kernel), by decide +kernel⟩
theorem m542 : (Cond.instanceMethod yX7_move) ∈ gtbl := List.mem_filter.mpr ⟨List.mem_of_getElem? (i := 542) (by decide +kernel), by decide +kernel⟩
theorem m543 : (Cond.selects RX7 yX7_move yX7_move) ∈ gtbl := List.mem_filter.mpr ⟨List.mem_of_getElem? (i := 543) (by decide +kernel), by decide +kernel⟩
theorem m544 : (Cond.code yX7_move cX7_move 2 (some .int)) ∈ gtbl := List.mem_filter.mpr ⟨List.mem_of_getElem? (i := 544) (by decide +kernel), by decide +kernel⟩
theorem m545 : (Cond.methodLink RX7 114 yX7_isHouse) ∈ gtbl := List.mem_filter.mpr ⟨List.mem_of_getElem? (i := 545) (by decide +kernel), by decide +kernel⟩
theorem m546 : (Cond.static yX7_isHouse) ∈ gtbl := List.mem_filter.mpr ⟨List.mem_of_getElem? (i := 546) (by decide +kernel), by decide +kernel⟩
theorem m547 : (Cond.code yX7_isHouse cX7_isHouse 1 (some .boolean)) ∈ gtbl := List.mem_filter.mpr ⟨List.mem_of_getElem? (i := 547) (by decide +kernel), by decide +kernel⟩
theorem m548 : (Cond.constantLong RX7 112 (11)) ∈ gtbl := List.mem_filter.mpr ⟨List.mem_of_getElem? (i := 548) (by decide +kernel), by decide +kernel⟩
theorem m549 : (Cond.methodLink RX7 78 yX7_canMove) ∈ gtbl := List.mem_filter.mpr ⟨List.mem_of_getElem? (i := 549) (by decide +kernel), by decide +kernel⟩
theorem m550 : (Cond.static yX7_canMove) ∈ gtbl := List.mem_filter.mpr ⟨List.mem_of_getElem? (i := 550) (by decide +kernel), by decide +kernel⟩
theorem m551 : (Cond.code yX7_canMove cX7_canMove 3 (some .boolean)) ∈ gtbl := List.mem_filter.mpr ⟨List.mem_of_getElem? (i := 551) (by decide +kernel), by decide +kernel⟩
theorem m552 : (Cond.methodLink RX7 58 yX7_owner) ∈ gtbl := List.mem_filter.mpr ⟨List.mem_of_getElem? (i := 552) (by decide +kernel), by decide +kernel⟩
theorem m553 : (Cond.static yX7_owner) ∈ gtbl := List.mem_filter.mpr ⟨List.mem_of_getElem? (i := 553) (by decide +kernel), by decide +kernel⟩
theorem m554 : (Cond.code yX7_owner cX7_owner 1 (some .int)) ∈ gtbl := List.mem_filter.mpr ⟨List.mem_of_getElem? (i := 554) (by decide +kernel), by decide +kernel⟩
theorem m555 : (Cond.methodLink RX7 118 yX7_makes) ∈ gtbl := List.mem_filter.mpr ⟨List.mem_of_getElem? (i := 555) (by decide +kernel), by decide +kernel⟩
theorem m557 : (Cond.instanceMethod yX7_makes) ∈ gtbl := List.mem_filter.mpr ⟨List.mem_of_getElem? (i := 557) (by decide +kernel), by decide +kernel⟩
theorem m558 : (Cond.code yX7_makes cX7_makes 2 none) ∈ gtbl := List.mem_filter.mpr ⟨List.mem_of_getElem? (i := 558) (by decide +kernel), by decide +kernel⟩
theorem m559 : (Cond.methodLink RX7 85 yX7_moves) ∈ gtbl := List.mem_filter.mpr ⟨List.mem_of_getElem? (i := 559) (by decide +kernel), by decide +kernel⟩
theorem m560 : (Cond.static yX7_moves) ∈ gtbl := List.mem_filter.mpr ⟨List.mem_of_getElem? (i := 560) (by decide +kernel), by decide +kernel⟩
theorem m561 : (Cond.code yX7_moves cX7_moves 8 none) ∈ gtbl := List.mem_filter.mpr ⟨List.mem_of_getElem? (i := 561) (by decide +kernel), by decide +kernel⟩
theorem m562 : (Cond.methodLink RX7 66 yX7_sows) ∈ gtbl := List.mem_filter.mpr ⟨List.mem_of_getElem? (i := 562) (by decide +kernel), by decide +kernel⟩
theorem m563 : (Cond.static yX7_sows) ∈ gtbl := List.mem_filter.mpr ⟨List.mem_of_getElem? (i := 563) (by decide +kernel), by decide +kernel⟩
theorem m564 : (Cond.code yX7_sows cX7_sows 7 (some .int)) ∈ gtbl := List.mem_filter.mpr ⟨List.mem_of_getElem? (i := 564) (by decide +kernel), by decide +kernel⟩
theorem m565 : (Cond.methodLink RX7 62 yX7_isHostile) ∈ gtbl := List.mem_filter.mpr ⟨List.mem_of_getElem? (i := 565) (by decide +kernel), by decide +kernel⟩
theorem m566 : (Cond.static yX7_isHostile) ∈ gtbl := List.mem_filter.mpr ⟨List.mem_of_getElem? (i := 566) (by decide +kernel), by decide +kernel⟩
theorem m567 : (Cond.code yX7_isHostile cX7_isHostile 3 (some .boolean)) ∈ gtbl := List.mem_filter.mpr ⟨List.mem_of_getElem? (i := 567) (by decide +kernel), by decide +kernel⟩
theorem m568 : (Cond.methodLink RX7 70 yX7_captures) ∈ gtbl := List.mem_filter.mpr ⟨List.mem_of_getElem? (i := 568) (by decide +kernel), by decide +kernel⟩
theorem m569 : (Cond.static yX7_captures) ∈ gtbl := List.mem_filter.mpr ⟨List.mem_of_getElem? (i := 569) (by decide +kernel), by decide +kernel⟩
theorem m570 : (Cond.code yX7_captures cX7_captures 6 none) ∈ gtbl := List.mem_filter.mpr ⟨List.mem_of_getElem? (i := 570) (by decide +kernel), by decide +kernel⟩
theorem m571 : (Cond.methodLink RX7 74 yX7_ends) ∈ gtbl := List.mem_filter.mpr ⟨List.mem_of_getElem? (i := 571) (by decide +kernel), by decide +kernel⟩
theorem m572 : (Cond.static yX7_ends) ∈ gtbl := List.mem_filter.mpr ⟨List.mem_of_getElem? (i := 572) (by decide +kernel), by decide +kernel⟩
theorem m573 : (Cond.code yX7_ends cX7_ends 5 (some .boolean)) ∈ gtbl := List.mem_filter.mpr ⟨List.mem_of_getElem? (i := 573) (by decide +kernel), by decide +kernel⟩
theorem m574 : (Cond.methodLink RX7 50 yX7_total) ∈ gtbl := List.mem_filter.mpr ⟨List.mem_of_getElem? (i := 574) (by decide +kernel), by decide +kernel⟩
theorem m575 : (Cond.static yX7_total) ∈ gtbl := List.mem_filter.mpr ⟨List.mem_of_getElem? (i := 575) (by decide +kernel), by decide +kernel⟩
theorem m576 : (Cond.code yX7_total cX7_total 4 (some .int)) ∈ gtbl := List.mem_filter.mpr ⟨List.mem_of_getElem? (i := 576) (by decide +kernel), by decide +kernel⟩
theorem m577 : (Cond.methodLink RX7 54 yX7_seedsOf) ∈ gtbl := List.mem_filter.mpr ⟨List.mem_of_getElem? (i := 577) (by decide +kernel), by decide +kernel⟩
theorem m578 : (Cond.static yX7_seedsOf) ∈ gtbl := List.mem_filter.mpr ⟨List.mem_of_getElem? (i := 578) (by decide +kernel), by decide +kernel⟩
theorem m579 : (Cond.code yX7_seedsOf cX7_seedsOf 5 (some .int)) ∈ gtbl := List.mem_filter.mpr ⟨List.mem_of_getElem? (i := 579) (by decide +kernel), by decide +kernel⟩
theorem m580 : (Cond.methodLink RL 31 yX7_play) ∈ gtbl := List.mem_filter.mpr ⟨List.mem_of_getElem? (i := 580) (by decide +kernel), by decide +kernel⟩
theorem m581 : (Cond.instanceMethod yX7_play) ∈ gtbl := List.mem_filter.mpr ⟨List.mem_of_getElem? (i := 581) (by decide +kernel), by decide +kernel⟩
theorem m582 : (Cond.selects RX7 yX7_play yX7_play) ∈ gtbl := List.mem_filter.mpr ⟨List.mem_of_getElem? (i := 582) (by decide +kernel), by decide +kernel⟩
theorem m583 : (Cond.code yX7_play cX7_play 3 (some .int)) ∈ gtbl := List.mem_filter.mpr ⟨List.mem_of_getElem? (i := 583) (by decide +kernel), by decide +kernel⟩
theorem m584 : (Cond.constantLong RX7 122 (4)) ∈ gtbl := List.mem_filter.mpr ⟨List.mem_of_getElem? (i := 584) (by decide +kernel), by decide +kernel⟩
theorem m585 : (Cond.methodLink RX7 81 yX7_copy) ∈ gtbl := List.mem_filter.mpr ⟨List.mem_of_getElem? (i := 585) (by decide +kernel), by decide +kernel⟩
theorem m587 : (Cond.instanceMethod yX7_copy) ∈ gtbl := List.mem_filter.mpr ⟨List.mem_of_getElem? (i := 587) (by decide +kernel), by decide +kernel⟩
theorem m588 : (Cond.code yX7_copy cX7_copy 5 none) ∈ gtbl := List.mem_filter.mpr ⟨List.mem_of_getElem? (i := 588) (by decide +kernel), by decide +kernel⟩
theorem m589 : (Cond.methodLink RX7 124 yX7_bestOf) ∈ gtbl := List.mem_filter.mpr ⟨List.mem_of_getElem? (i := 589) (by decide +kernel), by decide +kernel⟩
theorem m591 : (Cond.instanceMethod yX7_bestOf) ∈ gtbl := List.mem_filter.mpr ⟨List.mem_of_getElem? (i := 591) (by decide +kernel), by decide +kernel⟩
theorem m592 : (Cond.code yX7_bestOf cX7_bestOf 4 (some .int)) ∈ gtbl := List.mem_filter.mpr ⟨List.mem_of_getElem? (i := 592) (by decide +kernel), by decide +kernel⟩
theorem m593 : (Cond.methodLink RX7 91 yX7_worthOf) ∈ gtbl := List.mem_filter.mpr ⟨List.mem_of_getElem? (i := 593) (by decide +kernel), by decide +kernel⟩
theorem m595 : (Cond.instanceMethod yX7_worthOf) ∈ gtbl := List.mem_filter.mpr ⟨List.mem_of_getElem? (i := 595) (by decide +kernel), by decide +kernel⟩
theorem m596 : (Cond.code yX7_worthOf cX7_worthOf 10 (some .int)) ∈ gtbl := List.mem_filter.mpr ⟨List.mem_of_getElem? (i := 596) (by decide +kernel), by decide +kernel⟩
theorem m597 : (Cond.methodLink RX7 88 yX7_ahead) ∈ gtbl := List.mem_filter.mpr ⟨List.mem_of_getElem? (i := 597) (by decide +kernel), by decide +kernel⟩
theorem m599 : (Cond.instanceMethod yX7_ahead) ∈ gtbl := List.mem_filter.mpr ⟨List.mem_of_getElem? (i := 599) (by decide +kernel), by decide +kernel⟩
theorem m600 : (Cond.code yX7_ahead cX7_ahead 4 (some .int)) ∈ gtbl := List.mem_filter.mpr ⟨List.mem_of_getElem? (i := 600) (by decide +kernel), by decide +kernel⟩
theorem m601 : (Cond.methodLink RL 35 yX7_read) ∈ gtbl := List.mem_filter.mpr ⟨List.mem_of_getElem? (i := 601) (by decide +kernel), by decide +kernel⟩
theorem m602 : (Cond.instanceMethod yX7_read) ∈ gtbl := List.mem_filter.mpr ⟨List.mem_of_getElem? (i := 602) (by decide +kernel), by decide +kernel⟩
theorem m603 : (Cond.selects RX7 yX7_read yX7_read) ∈ gtbl := List.mem_filter.mpr ⟨List.mem_of_getElem? (i := 603) (by decide +kernel), by decide +kernel⟩
theorem m604 : (Cond.code yX7_read cX7_read 2 (some .int)) ∈ gtbl := List.mem_filter.mpr ⟨List.mem_of_getElem? (i := 604) (by decide +kernel), by decide +kernel⟩
theorem m605 : (Cond.methodLink RX7 149 yX7_faultOf) ∈ gtbl := List.mem_filter.mpr ⟨List.mem_of_getElem? (i := 605) (by decide +kernel), by decide +kernel⟩
theorem m607 : (Cond.instanceMethod yX7_faultOf) ∈ gtbl := List.mem_filter.mpr ⟨List.mem_of_getElem? (i := 607) (by decide +kernel), by decide +kernel⟩
theorem m608 : (Cond.code yX7_faultOf cX7_faultOf 2 (some .int)) ∈ gtbl := List.mem_filter.mpr ⟨List.mem_of_getElem? (i := 608) (by decide +kernel), by decide +kernel⟩
theorem m609 : (Cond.methodLink RX7 141 yX7_readsNumber) ∈ gtbl := List.mem_filter.mpr ⟨List.mem_of_getElem? (i := 609) (by decide +kernel), by decide +kernel⟩
theorem m611 : (Cond.instanceMethod yX7_readsNumber) ∈ gtbl := List.mem_filter.mpr ⟨List.mem_of_getElem? (i := 611) (by decide +kernel), by decide +kernel⟩
theorem m612 : (Cond.code yX7_readsNumber cX7_readsNumber 2 (some .boolean)) ∈ gtbl := List.mem_filter.mpr ⟨List.mem_of_getElem? (i := 612) (by decide +kernel), by decide +kernel⟩
theorem m613 : (Cond.methodLink RX7 137 yX7_isDigit) ∈ gtbl := List.mem_filter.mpr ⟨List.mem_of_getElem? (i := 613) (by decide +kernel), by decide +kernel⟩
theorem m615 : (Cond.instanceMethod yX7_isDigit) ∈ gtbl := List.mem_filter.mpr ⟨List.mem_of_getElem? (i := 615) (by decide +kernel), by decide +kernel⟩
theorem m616 : (Cond.code yX7_isDigit cX7_isDigit 1 (some .boolean)) ∈ gtbl := List.mem_filter.mpr ⟨List.mem_of_getElem? (i := 616) (by decide +kernel), by decide +kernel⟩
theorem m617 : (Cond.constantLong RX7 133 (48)) ∈ gtbl := List.mem_filter.mpr ⟨List.mem_of_getElem? (i := 617) (by decide +kernel), by decide +kernel⟩
theorem m618 : (Cond.constantLong RX7 135 (57)) ∈ gtbl := List.mem_filter.mpr ⟨List.mem_of_getElem? (i := 618) (by decide +kernel), by decide +kernel⟩
theorem m619 : (Cond.methodLink RX7 144 yX7_takes) ∈ gtbl := List.mem_filter.mpr ⟨List.mem_of_getElem? (i := 619) (by decide +kernel), by decide +kernel⟩
theorem m621 : (Cond.instanceMethod yX7_takes) ∈ gtbl := List.mem_filter.mpr ⟨List.mem_of_getElem? (i := 621) (by decide +kernel), by decide +kernel⟩
theorem m622 : (Cond.code yX7_takes cX7_takes 3 (some .boolean)) ∈ gtbl := List.mem_filter.mpr ⟨List.mem_of_getElem? (i := 622) (by decide +kernel), by decide +kernel⟩
theorem m623 : (Cond.constantLong RX7 147 (49)) ∈ gtbl := List.mem_filter.mpr ⟨List.mem_of_getElem? (i := 623) (by decide +kernel), by decide +kernel⟩
theorem m624 : (Cond.methodLink RL 39 yX7_house) ∈ gtbl := List.mem_filter.mpr ⟨List.mem_of_getElem? (i := 624) (by decide +kernel), by decide +kernel⟩
theorem m625 : (Cond.instanceMethod yX7_house) ∈ gtbl := List.mem_filter.mpr ⟨List.mem_of_getElem? (i := 625) (by decide +kernel), by decide +kernel⟩
theorem m626 : (Cond.selects RX7 yX7_house yX7_house) ∈ gtbl := List.mem_filter.mpr ⟨List.mem_of_getElem? (i := 626) (by decide +kernel), by decide +kernel⟩
theorem m627 : (Cond.code yX7_house cX7_house 3 (some .int)) ∈ gtbl := List.mem_filter.mpr ⟨List.mem_of_getElem? (i := 627) (by decide +kernel), by decide +kernel⟩
theorem m628 : (Cond.constantLong RX7 153 (2)) ∈ gtbl := List.mem_filter.mpr ⟨List.mem_of_getElem? (i := 628) (by decide +kernel), by decide +kernel⟩
theorem m629 : (Cond.methodLink RL 43 yX7_count) ∈ gtbl := List.mem_filter.mpr ⟨List.mem_of_getElem? (i := 629) (by decide +kernel), by decide +kernel⟩
theorem m630 : (Cond.instanceMethod yX7_count) ∈ gtbl := List.mem_filter.mpr ⟨List.mem_of_getElem? (i := 630) (by decide +kernel), by decide +kernel⟩
theorem m631 : (Cond.selects RX7 yX7_count yX7_count) ∈ gtbl := List.mem_filter.mpr ⟨List.mem_of_getElem? (i := 631) (by decide +kernel), by decide +kernel⟩
theorem m632 : (Cond.code yX7_count cX7_count 2 (some .int)) ∈ gtbl := List.mem_filter.mpr ⟨List.mem_of_getElem? (i := 632) (by decide +kernel), by decide +kernel⟩
theorem m633 : (Cond.constantLong RX7 155 (7)) ∈ gtbl := List.mem_filter.mpr ⟨List.mem_of_getElem? (i := 633) (by decide +kernel), by decide +kernel⟩
theorem m634 : (Cond.constantLong RX7 157 (10)) ∈ gtbl := List.mem_filter.mpr ⟨List.mem_of_getElem? (i := 634) (by decide +kernel), by decide +kernel⟩
theorem m635 : (Cond.methodLink RX7 159 yX7_winner) ∈ gtbl := List.mem_filter.mpr ⟨List.mem_of_getElem? (i := 635) (by decide +kernel), by decide +kernel⟩
theorem m637 : (Cond.instanceMethod yX7_winner) ∈ gtbl := List.mem_filter.mpr ⟨List.mem_of_getElem? (i := 637) (by decide +kernel), by decide +kernel⟩
theorem m638 : (Cond.code yX7_winner cX7_winner 1 (some .int)) ∈ gtbl := List.mem_filter.mpr ⟨List.mem_of_getElem? (i := 638) (by decide +kernel), by decide +kernel⟩
theorem m639 : (Cond.methodLink RX7 162 yX7_hostiles) ∈ gtbl := List.mem_filter.mpr ⟨List.mem_of_getElem? (i := 639) (by decide +kernel), by decide +kernel⟩
theorem m641 : (Cond.instanceMethod yX7_hostiles) ∈ gtbl := List.mem_filter.mpr ⟨List.mem_of_getElem? (i := 641) (by decide +kernel), by decide +kernel⟩
theorem m642 : (Cond.code yX7_hostiles cX7_hostiles 3 (some .int)) ∈ gtbl := List.mem_filter.mpr ⟨List.mem_of_getElem? (i := 642) (by decide +kernel), by decide +kernel⟩
theorem m643 : (Cond.methodLink RL 47 yX7_last) ∈ gtbl := List.mem_filter.mpr ⟨List.mem_of_getElem? (i := 643) (by decide +kernel), by decide +kernel⟩
theorem m644 : (Cond.instanceMethod yX7_last) ∈ gtbl := List.mem_filter.mpr ⟨List.mem_of_getElem? (i := 644) (by decide +kernel), by decide +kernel⟩
theorem m645 : (Cond.selects RX7 yX7_last yX7_last) ∈ gtbl := List.mem_filter.mpr ⟨List.mem_of_getElem? (i := 645) (by decide +kernel), by decide +kernel⟩
theorem m646 : (Cond.code yX7_last cX7_last 2 (some .int)) ∈ gtbl := List.mem_filter.mpr ⟨List.mem_of_getElem? (i := 646) (by decide +kernel), by decide +kernel⟩
theorem m647 : (Cond.methodLink RL 51 yX7_moved) ∈ gtbl := List.mem_filter.mpr ⟨List.mem_of_getElem? (i := 647) (by decide +kernel), by decide +kernel⟩
theorem m648 : (Cond.instanceMethod yX7_moved) ∈ gtbl := List.mem_filter.mpr ⟨List.mem_of_getElem? (i := 648) (by decide +kernel), by decide +kernel⟩
theorem m649 : (Cond.selects RX7 yX7_moved yX7_moved) ∈ gtbl := List.mem_filter.mpr ⟨List.mem_of_getElem? (i := 649) (by decide +kernel), by decide +kernel⟩
theorem m650 : (Cond.code yX7_moved cX7_moved 2 (some .int)) ∈ gtbl := List.mem_filter.mpr ⟨List.mem_of_getElem? (i := 650) (by decide +kernel), by decide +kernel⟩
theorem m651 : (Cond.methodLink RL 55 yX7_ifMove) ∈ gtbl := List.mem_filter.mpr ⟨List.mem_of_getElem? (i := 651) (by decide +kernel), by decide +kernel⟩
theorem m652 : (Cond.instanceMethod yX7_ifMove) ∈ gtbl := List.mem_filter.mpr ⟨List.mem_of_getElem? (i := 652) (by decide +kernel), by decide +kernel⟩
theorem m653 : (Cond.selects RX7 yX7_ifMove yX7_ifMove) ∈ gtbl := List.mem_filter.mpr ⟨List.mem_of_getElem? (i := 653) (by decide +kernel), by decide +kernel⟩
theorem m654 : (Cond.code yX7_ifMove cX7_ifMove 4 (some .int)) ∈ gtbl := List.mem_filter.mpr ⟨List.mem_of_getElem? (i := 654) (by decide +kernel), by decide +kernel⟩
theorem m655 : (Cond.constantLong RX7 165 (6)) ∈ gtbl := List.mem_filter.mpr ⟨List.mem_of_getElem? (i := 655) (by decide +kernel), by decide +kernel⟩
theorem m656 : (Cond.methodLink RL 59 yX7_worth) ∈ gtbl := List.mem_filter.mpr ⟨List.mem_of_getElem? (i := 656) (by decide +kernel), by decide +kernel⟩
theorem m657 : (Cond.instanceMethod yX7_worth) ∈ gtbl := List.mem_filter.mpr ⟨List.mem_of_getElem? (i := 657) (by decide +kernel), by decide +kernel⟩
theorem m658 : (Cond.selects RX7 yX7_worth yX7_worth) ∈ gtbl := List.mem_filter.mpr ⟨List.mem_of_getElem? (i := 658) (by decide +kernel), by decide +kernel⟩
theorem m659 : (Cond.code yX7_worth cX7_worth 2 (some .int)) ∈ gtbl := List.mem_filter.mpr ⟨List.mem_of_getElem? (i := 659) (by decide +kernel), by decide +kernel⟩
theorem m660 : (Cond.methodLink RL 63 yX7_best) ∈ gtbl := List.mem_filter.mpr ⟨List.mem_of_getElem? (i := 660) (by decide +kernel), by decide +kernel⟩
theorem m661 : (Cond.instanceMethod yX7_best) ∈ gtbl := List.mem_filter.mpr ⟨List.mem_of_getElem? (i := 661) (by decide +kernel), by decide +kernel⟩
theorem m662 : (Cond.selects RX7 yX7_best yX7_best) ∈ gtbl := List.mem_filter.mpr ⟨List.mem_of_getElem? (i := 662) (by decide +kernel), by decide +kernel⟩
theorem m663 : (Cond.code yX7_best cX7_best 2 (some .int)) ∈ gtbl := List.mem_filter.mpr ⟨List.mem_of_getElem? (i := 663) (by decide +kernel), by decide +kernel⟩
theorem m664 : (Cond.methodLink RL 67 yX7_movesLeft) ∈ gtbl := List.mem_filter.mpr ⟨List.mem_of_getElem? (i := 664) (by decide +kernel), by decide +kernel⟩
theorem m665 : (Cond.instanceMethod yX7_movesLeft) ∈ gtbl := List.mem_filter.mpr ⟨List.mem_of_getElem? (i := 665) (by decide +kernel), by decide +kernel⟩
theorem m666 : (Cond.selects RX7 yX7_movesLeft yX7_movesLeft) ∈ gtbl := List.mem_filter.mpr ⟨List.mem_of_getElem? (i := 666) (by decide +kernel), by decide +kernel⟩
theorem m667 : (Cond.code yX7_movesLeft cX7_movesLeft 3 (some .int)) ∈ gtbl := List.mem_filter.mpr ⟨List.mem_of_getElem? (i := 667) (by decide +kernel), by decide +kernel⟩
theorem m668 : (Cond.methodLink RL 74 yX7_put) ∈ gtbl := List.mem_filter.mpr ⟨List.mem_of_getElem? (i := 668) (by decide +kernel), by decide +kernel⟩
theorem m669 : (Cond.instanceMethod yX7_put) ∈ gtbl := List.mem_filter.mpr ⟨List.mem_of_getElem? (i := 669) (by decide +kernel), by decide +kernel⟩
theorem m670 : (Cond.selects RX7 yX7_put yX7_put) ∈ gtbl := List.mem_filter.mpr ⟨List.mem_of_getElem? (i := 670) (by decide +kernel), by decide +kernel⟩
theorem m671 : (Cond.code yX7_put cX7_put 8 (some .int)) ∈ gtbl := List.mem_filter.mpr ⟨List.mem_of_getElem? (i := 671) (by decide +kernel), by decide +kernel⟩
theorem m672 : (Cond.constantLong RX7 167 (255)) ∈ gtbl := List.mem_filter.mpr ⟨List.mem_of_getElem? (i := 672) (by decide +kernel), by decide +kernel⟩
theorem m673 : (Cond.constantLong RX7 169 (33)) ∈ gtbl := List.mem_filter.mpr ⟨List.mem_of_getElem? (i := 673) (by decide +kernel), by decide +kernel⟩
theorem m674 : (Cond.constantLong RX7 171 (126)) ∈ gtbl := List.mem_filter.mpr ⟨List.mem_of_getElem? (i := 674) (by decide +kernel), by decide +kernel⟩
theorem m675 : (Cond.methodLink RL 78 yX7_wipe) ∈ gtbl := List.mem_filter.mpr ⟨List.mem_of_getElem? (i := 675) (by decide +kernel), by decide +kernel⟩
theorem m676 : (Cond.instanceMethod yX7_wipe) ∈ gtbl := List.mem_filter.mpr ⟨List.mem_of_getElem? (i := 676) (by decide +kernel), by decide +kernel⟩
theorem m677 : (Cond.selects RX7 yX7_wipe yX7_wipe) ∈ gtbl := List.mem_filter.mpr ⟨List.mem_of_getElem? (i := 677) (by decide +kernel), by decide +kernel⟩
theorem m678 : (Cond.code yX7_wipe cX7_wipe 2 (some .int)) ∈ gtbl := List.mem_filter.mpr ⟨List.mem_of_getElem? (i := 678) (by decide +kernel), by decide +kernel⟩
theorem m679 : (Cond.methodLink RL 82 yX7_fault) ∈ gtbl := List.mem_filter.mpr ⟨List.mem_of_getElem? (i := 679) (by decide +kernel), by decide +kernel⟩
theorem m680 : (Cond.instanceMethod yX7_fault) ∈ gtbl := List.mem_filter.mpr ⟨List.mem_of_getElem? (i := 680) (by decide +kernel), by decide +kernel⟩
theorem m681 : (Cond.selects RX7 yX7_fault yX7_fault) ∈ gtbl := List.mem_filter.mpr ⟨List.mem_of_getElem? (i := 681) (by decide +kernel), by decide +kernel⟩
theorem m682 : (Cond.code yX7_fault cX7_fault 1 (some .int)) ∈ gtbl := List.mem_filter.mpr ⟨List.mem_of_getElem? (i := 682) (by decide +kernel), by decide +kernel⟩
theorem m683 : (Cond.methodLink RL 86 yX7_undo) ∈ gtbl := List.mem_filter.mpr ⟨List.mem_of_getElem? (i := 683) (by decide +kernel), by decide +kernel⟩
theorem m684 : (Cond.instanceMethod yX7_undo) ∈ gtbl := List.mem_filter.mpr ⟨List.mem_of_getElem? (i := 684) (by decide +kernel), by decide +kernel⟩
theorem m685 : (Cond.selects RX7 yX7_undo yX7_undo) ∈ gtbl := List.mem_filter.mpr ⟨List.mem_of_getElem? (i := 685) (by decide +kernel), by decide +kernel⟩
theorem m686 : (Cond.code yX7_undo cX7_undo 2 (some .int)) ∈ gtbl := List.mem_filter.mpr ⟨List.mem_of_getElem? (i := 686) (by decide +kernel), by decide +kernel⟩
theorem m687 : (Cond.methodLink RL 90 yX7_save) ∈ gtbl := List.mem_filter.mpr ⟨List.mem_of_getElem? (i := 687) (by decide +kernel), by decide +kernel⟩
theorem m688 : (Cond.instanceMethod yX7_save) ∈ gtbl := List.mem_filter.mpr ⟨List.mem_of_getElem? (i := 688) (by decide +kernel), by decide +kernel⟩
theorem m689 : (Cond.selects RX7 yX7_save yX7_save) ∈ gtbl := List.mem_filter.mpr ⟨List.mem_of_getElem? (i := 689) (by decide +kernel), by decide +kernel⟩
theorem m690 : (Cond.code yX7_save cX7_save 3 (some .int)) ∈ gtbl := List.mem_filter.mpr ⟨List.mem_of_getElem? (i := 690) (by decide +kernel), by decide +kernel⟩
theorem m691 : (Cond.methodLink RL 94 yX7_restore) ∈ gtbl := List.mem_filter.mpr ⟨List.mem_of_getElem? (i := 691) (by decide +kernel), by decide +kernel⟩
theorem m692 : (Cond.instanceMethod yX7_restore) ∈ gtbl := List.mem_filter.mpr ⟨List.mem_of_getElem? (i := 692) (by decide +kernel), by decide +kernel⟩
theorem m693 : (Cond.selects RX7 yX7_restore yX7_restore) ∈ gtbl := List.mem_filter.mpr ⟨List.mem_of_getElem? (i := 693) (by decide +kernel), by decide +kernel⟩
theorem m694 : (Cond.code yX7_restore cX7_restore 3 (some .int)) ∈ gtbl := List.mem_filter.mpr ⟨List.mem_of_getElem? (i := 694) (by decide +kernel), by decide +kernel⟩
theorem m695 : (Cond.constantLong RL 68 (4294967295)) ∈ gtbl := List.mem_filter.mpr ⟨List.mem_of_getElem? (i := 695) (by decide +kernel), by decide +kernel⟩
theorem gX0 : ∀ w ∈ u_ws RX0 TX0 3, w ∈ gtbl := by decide +kernel
theorem gX1 : ∀ w ∈ u_ws RX1 TX1 3, w ∈ gtbl := by decide +kernel
theorem gX2 : ∀ w ∈ u_ws RX2 TX2 3, w ∈ gtbl := by decide +kernel
theorem gX3 : ∀ w ∈ u_ws RX3 TX3 6, w ∈ gtbl := by decide +kernel
theorem gX4 : ∀ w ∈ u_ws RX4 TX4 5, w ∈ gtbl := by decide +kernel
theorem gX5 : ∀ w ∈ u_ws RX5 TX5 4, w ∈ gtbl := by decide +kernel
theorem gX6 : ∀ w ∈ u_ws RX6 TX6 6, w ∈ gtbl := by decide +kernel
theorem gX7 : ∀ w ∈ u_ws RX7 TX7 13, w ∈ gtbl := by decide +kernel
end
section
-- the ways of walking: a world with its tables in one hypothesis; a contract of three kinds; calls and ends as one row each
def wtys (T : Nat → ClassId) : List (ClassId × FieldType) := [(T 0, .int), (T 1, .char), (T 2, .boolean), (T 3, .object RX3), (T 4, .object RX5)]
def Wd (D : va_G) (T : Nat → ClassId) (A : Nat → Prop) (s : State) (ws : va_W) (H : Heap) (locs : List Loc) : Prop :=
  va_K D vwCl (wtys T) s ∧ va_P D vwCl ws H ∧ va_D A ws ∧ va_S A s.heap H locs ∧ ∀ q, s.heap.size ≤ q → A q
theorem Wd.is {D : va_G} {T : Nat → ClassId} {A : Nat → Prop} {s : State} {ws ws' : va_W} {H : Heap} {locs : List Loc} (h : Wd D T A s ws H locs) (e : ws = ws') : Wd D T A s ws' H locs := e ▸ h
/-- a part of the world, or another order: each place at most once -/
theorem Wd.ord {D : va_G} {T : Nat → ClassId} {A : Nat → Prop} {s : State} {ws ws' : va_W} {H : Heap} {locs : List Loc} (h : Wd D T A s ws H locs) (is : List Nat) (hn : va_nd is = true) (hs : is.map (fun i => ws[i]?) = ws'.map some) : Wd D T A s ws' H locs := by
  refine ⟨h.1, ?_, h.2.2.1.sub is hn hs, h.2.2.2⟩
  refine h.2.1.sub is ?_
  have e : ∀ (l : List Nat) (w : va_W), l.map (fun i => ws[i]?) = w.map some → l.filterMap (fun i => ws[i]?) = w := by
    intro l
    induction l with
    | nil => intro w hw; cases w with | nil => rfl | cons a t => cases hw
    | cons i l ih =>
      intro w hw
      cases w with
      | nil => cases hw
      | cons a t =>
        rw [List.map_cons, List.map_cons, List.cons.injEq] at hw
        rw [List.filterMap_cons, hw.1]
        exact congrArg (a :: ·) (ih t hw.2)
  exact e is ws' hs
theorem cell_congr {cA : ClassId} {n : Nat} {f g : Nat → Int32} (h : ∀ j, j < n → f j = g j) : vp_cell cA (n, .inl f) = vp_cell cA (n, .inl g) := by
  rw [vp_cell_i, vp_cell_i]
  unfold arrV
  congr 1
  apply Array.ext_getElem?
  intro i
  rcases Nat.lt_or_ge i n with hi | hi
  · have h1 := arrV_read cA (fun j => Value.int (f j)) hi
    have h2 := arrV_read cA (fun j => Value.int (g j)) hi
    unfold arrV at h1 h2
    rw [h1, h2, h i hi]
  · rw [Array.getElem?_eq_none (by rw [Array.size_ofFn]; exact hi), Array.getElem?_eq_none (by rw [Array.size_ofFn]; exact hi)]
/-- an array told by another function that agrees in its places -/
theorem Wd.arr {D : va_G} {T : Nat → ClassId} {A : Nat → Prop} {s : State} {ws ws' : va_W} {H : Heap} {locs : List Loc} (h : Wd D T A s ws H locs) (q0 : Nat) {a n : Nat} {cA : ClassId} {f : Nat → Int32} (g : Nat → Int32) (he : ws[q0]? = some (a, .inl (cA, n, .inl f))) (hf : ∀ j, j < n → f j = g j) (hw : ws.set q0 (a, .inl (cA, n, .inl g)) = ws') : Wd D T A s ws' H locs := by
  subst hw
  refine ⟨h.1, h.2.1.set (H1 := H) h.2.2.1 he ?_ (fun _ _ => rfl), h.2.2.1.set he, h.2.2.2⟩
  show H[a]? = some (vp_cell cA (n, .inl g))
  rw [← cell_congr hf]
  exact h.2.1 q0 _ he
section LIB
variable {p : Program} {l : Launch} {e : Env} {R : Room} {s : State} {m : MethodId} {args : Array Value} {below : List Frame} {meth : Method} {c : Code} {H : Heap} {locs : List Loc} {cells slots : Nat} {Q : State → Prop} {cc : ByteArray} {nL : Nat} {own : String} {D : va_G} {T : Nat → ClassId} {A : Nat → Prop} {ws ws' : va_W} {a : Nat} {pc : Nat} {ls : Array Slot} {rest : List Value} {fs : List Value} {v : Value}
theorem ald (F : CallFix p m c cc nL s args gtbl own) (hW : Wd D T A s ws H locs) (q0 : Nat) {n : Nat} {f : Nat → Int32} (he : ws[q0]? = some (a, .inl (T 0, n, .inl f))) {i x : Int32} (k : Nat) (hi : i = nI k) (hk : k < n) (hn : n < 2 ^ 31) (hv : f k = x) (hdg : decode cc pc = .ok (.iaload, 1))
    (kk : W p l e R s m args below meth c H locs cells slots Q (F0 m (pc + 1) ls (.int x :: rest))) : W p l e R s m args below meth c H locs cells slots Q (F0 m pc ls (.int i :: .ref a :: rest)) := by
  subst hi; subst hv
  refine va_iald F.1 F.2.1 hW.1 hW.2.1 q0 0 he rfl (vp_in_nI hk hn) hdg ?_
  rw [nI_clamp (Nat.lt_trans hk hn)]
  exact kk
theorem zald (F : CallFix p m c cc nL s args gtbl own) (hW : Wd D T A s ws H locs) (q0 : Nat) {n : Nat} {f : Nat → Int32} (he : ws[q0]? = some (a, .inl (T 2, n, .inl f))) {i x : Int32} (k : Nat) (hi : i = nI k) (hk : k < n) (hn : n < 2 ^ 31) (hv : f k = x) (hdg : decode cc pc = .ok (.baload, 1))
    (kk : W p l e R s m args below meth c H locs cells slots Q (F0 m (pc + 1) ls (.int x :: rest))) : W p l e R s m args below meth c H locs cells slots Q (F0 m pc ls (.int i :: .ref a :: rest)) := by
  subst hi; subst hv
  refine va_zald F.1 F.2.1 hW.1 hW.2.1 q0 2 he rfl (vp_in_nI hk hn) hdg ?_
  rw [nI_clamp (Nat.lt_trans hk hn)]
  exact kk
theorem cald (F : CallFix p m c cc nL s args gtbl own) (hW : Wd D T A s ws H locs) (q0 : Nat) {n : Nat} {f : Nat → Int32} (he : ws[q0]? = some (a, .inl (T 1, n, .inl f))) {i x : Int32} (k : Nat) (hi : i = nI k) (hk : k < n) (hn : n < 2 ^ 31) (hv : f k = x) (hdg : decode cc pc = .ok (.caload, 1))
    (kk : W p l e R s m args below meth c H locs cells slots Q (F0 m (pc + 1) ls (.int x :: rest))) : W p l e R s m args below meth c H locs cells slots Q (F0 m pc ls (.int i :: .ref a :: rest)) := by
  subst hi; subst hv
  refine va_cald F.1 F.2.1 hW.1 hW.2.1 q0 1 he rfl (vp_in_nI hk hn) hdg ?_
  rw [nI_clamp (Nat.lt_trans hk hn)]
  exact kk
theorem aald (F : CallFix p m c cc nL s args gtbl own) (hW : Wd D T A s ws H locs) (q0 t0 : Nat) {n : Nat} {cA : ClassId} {C : String} {f : Nat → Option Nat} (he : ws[q0]? = some (a, .inl (cA, n, .inr (.inr (.inr (.inr f)))))) (ht : (wtys T)[t0]? = some (cA, .object C)) {i : Int32} {r : Nat} (k : Nat) (hi : i = nI k) (hk : k < n) (hn : n < 2 ^ 31) (hv : f k = some r) (hdg : decode cc pc = .ok (.aaload, 1))
    (kk : W p l e R s m args below meth c H locs cells slots Q (F0 m (pc + 1) ls (.ref r :: rest))) : W p l e R s m args below meth c H locs cells slots Q (F0 m pc ls (.int i :: .ref a :: rest)) := by
  subst hi
  refine va_aldq F.1 F.2.1 hW.1 hW.2.1 q0 t0 he ht (vp_in_nI hk hn) hdg ?_
  rw [nI_clamp (Nat.lt_trans hk hn), hv]
  exact kk
theorem ast (F : CallFix p m c cc nL s args gtbl own) (hW : Wd D T A s ws H locs) (q0 : Nat) {n : Nat} {f : Nat → Int32} (f' : Nat → Int32) (he : ws[q0]? = some (a, .inl (T 0, n, .inl f))) {i x : Int32} (k : Nat) (hi : i = nI k) (hk : k < n) (hn : n < 2 ^ 31) (hf : ∀ j, j < n → upd f k x j = f' j) (hw : ws.set q0 (a, .inl (T 0, n, .inl f')) = ws') (hdg : decode cc pc = .ok (.iastore, 1))
    (kk : ∀ (H1 : Heap) (locs1 : List Loc), Wd D T A s ws' H1 locs1 → W p l e R s m args below meth c H1 locs1 cells slots Q (F0 m (pc + 1) ls rest)) : W p l e R s m args below meth c H locs cells slots Q (F0 m pc ls (.int x :: .int i :: .ref a :: rest)) := by
  subst hi
  refine va_iast F.1 F.2.1 hW.1 hW.2.1 hW.2.2.1 hW.2.2.2.1 q0 0 he rfl (vp_in_nI hk hn) hdg (fun H1 locs1 hP hD hS => ?_)
  rw [nI_clamp (Nat.lt_trans hk hn)] at hP hD
  have hl := (List.getElem?_eq_some_iff.mp he).1
  have h1 : Wd D T A s (ws.set q0 (a, .inl (T 0, n, .inl (upd f k x)))) H1 locs1 := ⟨hW.1, hP, hD, hS, hW.2.2.2.2⟩
  exact kk H1 locs1 (h1.arr q0 f' (List.getElem?_set_self hl) hf (by rw [List.set_set]; exact hw))
theorem zast (F : CallFix p m c cc nL s args gtbl own) (hW : Wd D T A s ws H locs) (q0 : Nat) {n : Nat} {f : Nat → Int32} (f' : Nat → Int32) (he : ws[q0]? = some (a, .inl (T 2, n, .inl f))) {i x : Int32} (k : Nat) (hi : i = nI k) (hk : k < n) (hn : n < 2 ^ 31) (hx : vp_nar .boolean x = x) (hf : ∀ j, j < n → upd f k x j = f' j) (hw : ws.set q0 (a, .inl (T 2, n, .inl f')) = ws') (hdg : decode cc pc = .ok (.bastore, 1))
    (kk : ∀ (H1 : Heap) (locs1 : List Loc), Wd D T A s ws' H1 locs1 → W p l e R s m args below meth c H1 locs1 cells slots Q (F0 m (pc + 1) ls rest)) : W p l e R s m args below meth c H locs cells slots Q (F0 m pc ls (.int x :: .int i :: .ref a :: rest)) := by
  subst hi
  refine va_zast F.1 F.2.1 hW.1 hW.2.1 hW.2.2.1 hW.2.2.2.1 q0 2 he rfl (vp_in_nI hk hn) hdg (fun H1 locs1 hP hD hS => ?_)
  rw [nI_clamp (Nat.lt_trans hk hn), hx] at hP hD
  have hl := (List.getElem?_eq_some_iff.mp he).1
  have h1 : Wd D T A s (ws.set q0 (a, .inl (T 2, n, .inl (upd f k x)))) H1 locs1 := ⟨hW.1, hP, hD, hS, hW.2.2.2.2⟩
  exact kk H1 locs1 (h1.arr q0 f' (List.getElem?_set_self hl) hf (by rw [List.set_set]; exact hw))
theorem cast_ (F : CallFix p m c cc nL s args gtbl own) (hW : Wd D T A s ws H locs) (q0 : Nat) {n : Nat} {f : Nat → Int32} (f' : Nat → Int32) (he : ws[q0]? = some (a, .inl (T 1, n, .inl f))) {i x : Int32} (k : Nat) (hi : i = nI k) (hk : k < n) (hn : n < 2 ^ 31) (hx : vp_nar .char x = x) (hf : ∀ j, j < n → upd f k x j = f' j) (hw : ws.set q0 (a, .inl (T 1, n, .inl f')) = ws') (hdg : decode cc pc = .ok (.castore, 1))
    (kk : ∀ (H1 : Heap) (locs1 : List Loc), Wd D T A s ws' H1 locs1 → W p l e R s m args below meth c H1 locs1 cells slots Q (F0 m (pc + 1) ls rest)) : W p l e R s m args below meth c H locs cells slots Q (F0 m pc ls (.int x :: .int i :: .ref a :: rest)) := by
  subst hi
  refine va_cast F.1 F.2.1 hW.1 hW.2.1 hW.2.2.1 hW.2.2.2.1 q0 1 he rfl (vp_in_nI hk hn) hdg (fun H1 locs1 hP hD hS => ?_)
  rw [nI_clamp (Nat.lt_trans hk hn), hx] at hP hD
  have hl := (List.getElem?_eq_some_iff.mp he).1
  have h1 : Wd D T A s (ws.set q0 (a, .inl (T 1, n, .inl (upd f k x)))) H1 locs1 := ⟨hW.1, hP, hD, hS, hW.2.2.2.2⟩
  exact kk H1 locs1 (h1.arr q0 f' (List.getElem?_set_self hl) hf (by rw [List.set_set]; exact hw))
-- arithmetic with the answer named
theorem iaddE (hexec : p.tables.exec = Jvm.exec) (hb : c.code = cc) {x y z : Int32} (hdg : decode cc pc = .ok (.iadd, 1)) (hz : x + y = z) (kk : W p l e R s m args below meth c H locs cells slots Q (F0 m (pc + 1) ls (.int z :: rest))) : W p l e R s m args below meth c H locs cells slots Q (F0 m pc ls (.int y :: .int x :: rest)) := by
  subst hz; exact lv_iadd hexec hb hdg kk
theorem isubE (hexec : p.tables.exec = Jvm.exec) (hb : c.code = cc) {x y z : Int32} (hdg : decode cc pc = .ok (.isub, 1)) (hz : x - y = z) (kk : W p l e R s m args below meth c H locs cells slots Q (F0 m (pc + 1) ls (.int z :: rest))) : W p l e R s m args below meth c H locs cells slots Q (F0 m pc ls (.int y :: .int x :: rest)) := by
  subst hz; exact lv_isub hexec hb hdg kk
theorem imulE (hexec : p.tables.exec = Jvm.exec) (hb : c.code = cc) {x y z : Int32} (hdg : decode cc pc = .ok (.imul, 1)) (hz : x * y = z) (kk : W p l e R s m args below meth c H locs cells slots Q (F0 m (pc + 1) ls (.int z :: rest))) : W p l e R s m args below meth c H locs cells slots Q (F0 m pc ls (.int y :: .int x :: rest)) := by
  subst hz; exact lv_imul hexec hb hdg kk
end LIB
-- contracts
def gR (lev mc ms : Nat) : Room := { frames := lev, cells := mc, slots := ms, locals := 32 * lev }
def Cr (D : va_G) (T : Nat → ClassId) (av : List Value) (wc : va_W) : Array Value → State → Prop := va_Pc av (fun U => va_K D vwCl (wtys T) U ∧ va_P D vwCl wc U.heap ∧ va_D (fun _ => True) wc)
def Cp (D : va_G) (T : Nat → ClassId) (av : List Value) (wc : va_W) (sz : Nat) : Array Value → State → Prop := va_Pc av (fun U => U.heap.size = sz ∧ va_K D vwCl (wtys T) U ∧ va_P D vwCl wc U.heap ∧ va_D (fun _ => True) wc)
def Bp {S : Type} (D : va_G) (T : Nat → ClassId) (w1 : S → va_W) (A : Nat → Prop) (u : S) (t : State) : Prop := va_K D vwCl (wtys T) t ∧ va_P D vwCl (w1 u) t.heap ∧ va_D A (w1 u)
/-- a method that reads alone, and answers an int (or a boolean, or a char) -/
def KR (l : Launch) (D : va_G) (T : Nat → ClassId) (y : MethodName) (cy : ByteArray) (mL : Nat) (ret : Option FieldType) (lev : Nat) (av : List Value) (wc : va_W) (post : Int32 → Prop) : Prop :=
  Met l y (.code y cy mL ret :: gtbl) (gR lev 0 0) (Cr D T av wc) (vp_Si post) 0 0 (fun _ => False)
/-- a method that writes in its world, and answers an int -/
def KI {S : Type} (l : Launch) (D : va_G) (T : Nat → ClassId) (y : MethodName) (cy : ByteArray) (mL : Nat) (ret : Option FieldType) (lev : Nat) (av : List Value) (wc : va_W) (post : Int32 → S → Prop) (w1 : S → va_W) : Prop :=
  ∀ sz : Nat, Met l y (.code y cy mL ret :: gtbl) (gR lev 0 0) (Cp D T av wc sz) (va_Qi post (Bp D T w1 (va_A wc sz)) (va_A wc sz)) 0 0 (va_A wc sz)
/-- a method that writes in its world, and answers nothing -/
def KV {S : Type} (l : Launch) (D : va_G) (T : Nat → ClassId) (y : MethodName) (cy : ByteArray) (mL : Nat) (lev : Nat) (av : List Value) (wc : va_W) (post : S → Prop) (w1 : S → va_W) : Prop :=
  ∀ sz : Nat, Met l y (.code y cy mL none :: gtbl) (gR lev 0 0) (Cp D T av wc sz) (va_Qv post (Bp D T w1 (va_A wc sz)) (va_A wc sz)) 0 0 (va_A wc sz)
theorem hts_of {y : MethodName} {cy : ByteArray} {mL : Nat} {ret : Option FieldType} {args : Array Value} {s : State} (h : (allAtoms (Cond.code y cy mL ret :: gtbl)).before args s = true) : ∀ w ∈ gtbl, w.before args s = true := fun w hw => atoms_spec h w (List.mem_cons_of_mem _ hw)
theorem KR.of {l : Launch} {D : va_G} {T : Nat → ClassId} {y : MethodName} {cy : ByteArray} {mL : Nat} {ret : Option FieldType} {lev : Nat} {av : List Value} {wc : va_W} {post : Int32 → Prop} (hy : plainName y.cls = true) (hlen : (lg_sl av).length ≤ mL)
    (body : ∀ (p : Program) (e : Env) (s : State) (m : MethodId) (below : List Frame) (meth : Method) (c : Code), CallFix p m c cy mL s av.toArray gtbl y.cls → meth.sig.returnType = ret → meth.locks = false → Wd D T (fun _ => True) s wc s.heap [] → ∀ ls : Array Slot, lv_has ls mL (lv_args 0 av) → W p l e (gR lev 0 0) s m av.toArray below meth c s.heap [] 0 0 (MQ below (vp_Si post) av.toArray s 0 0 (fun _ => False)) (F0 m 0 ls [])) : KR l D T y cy mL ret lev av wc post := by
  refine Met.ofW (cc := cy) (maxL := mL) (ret := ret) hy rfl ?_
  intro p e s m args below meth c s₁ B hml hv
  obtain ⟨rfl, hK, hP, hD⟩ := hv
  have hl := lv_entry av (n := mL) hlen
  rw [lg_entry_eq]
  exact body p e s m below meth c ⟨B.exec, B.bytes, hml, findClass_of_methodNamed B.named, hts_of B.pre⟩ B.returns B.notSynchronized ⟨hK, hP, hD, va_S.rf, fun _ _ => trivial⟩ _ hl
theorem KI.of {S : Type} {l : Launch} {D : va_G} {T : Nat → ClassId} {y : MethodName} {cy : ByteArray} {mL : Nat} {ret : Option FieldType} {lev : Nat} {av : List Value} {wc : va_W} {post : Int32 → S → Prop} {w1 : S → va_W} (hy : plainName y.cls = true) (hlen : (lg_sl av).length ≤ mL)
    (body : ∀ (p : Program) (e : Env) (s : State) (m : MethodId) (below : List Frame) (meth : Method) (c : Code) (A : Nat → Prop), CallFix p m c cy mL s av.toArray gtbl y.cls → meth.sig.returnType = ret → meth.locks = false → Wd D T A s wc s.heap [] → ∀ ls : Array Slot, lv_has ls mL (lv_args 0 av) → W p l e (gR lev 0 0) s m av.toArray below meth c s.heap [] 0 0 (MQ below (va_Qi post (Bp D T w1 A) A) av.toArray s 0 0 A) (F0 m 0 ls [])) : KI l D T y cy mL ret lev av wc post w1 := by
  intro sz
  refine Met.ofW (cc := cy) (maxL := mL) (ret := ret) hy rfl ?_
  intro p e s m args below meth c s₁ B hml hv
  obtain ⟨rfl, rfl, hK, hP, hD⟩ := hv
  have hl := lv_entry av (n := mL) hlen
  rw [lg_entry_eq]
  exact body p e s m below meth c _ ⟨B.exec, B.bytes, hml, findClass_of_methodNamed B.named, hts_of B.pre⟩ B.returns B.notSynchronized ⟨hK, hP, hD.self, va_S.rf, fun _ h => Or.inr h⟩ _ hl
theorem KV.of {S : Type} {l : Launch} {D : va_G} {T : Nat → ClassId} {y : MethodName} {cy : ByteArray} {mL : Nat} {lev : Nat} {av : List Value} {wc : va_W} {post : S → Prop} {w1 : S → va_W} (hy : plainName y.cls = true) (hlen : (lg_sl av).length ≤ mL)
    (body : ∀ (p : Program) (e : Env) (s : State) (m : MethodId) (below : List Frame) (meth : Method) (c : Code) (A : Nat → Prop), CallFix p m c cy mL s av.toArray gtbl y.cls → meth.sig.returnType = none → meth.locks = false → Wd D T A s wc s.heap [] → ∀ ls : Array Slot, lv_has ls mL (lv_args 0 av) → W p l e (gR lev 0 0) s m av.toArray below meth c s.heap [] 0 0 (MQ below (va_Qv post (Bp D T w1 A) A) av.toArray s 0 0 A) (F0 m 0 ls [])) : KV l D T y cy mL lev av wc post w1 := by
  intro sz
  refine Met.ofW (cc := cy) (maxL := mL) (ret := none) hy rfl ?_
  intro p e s m args below meth c s₁ B hml hv
  obtain ⟨rfl, rfl, hK, hP, hD⟩ := hv
  have hl := lv_entry av (n := mL) hlen
  rw [lg_entry_eq]
  exact body p e s m below meth c _ ⟨B.exec, B.bytes, hml, findClass_of_methodNamed B.named, hts_of B.pre⟩ B.returns B.notSynchronized ⟨hK, hP, hD.self, va_S.rf, fun _ h => Or.inr h⟩ _ hl
section RET
variable {p : Program} {l : Launch} {e : Env} {R : Room} {s : State} {m : MethodId} {args : Array Value} {below : List Frame} {meth : Method} {c : Code} {H : Heap} {locs : List Loc} {cells slots : Nat} {Q : State → Prop} {cc : ByteArray} {nL : Nat} {own : String} {D : va_G} {T : Nat → ClassId} {A : Nat → Prop} {ws ws' : va_W} {a : Nat} {pc : Nat} {ls : Array Slot} {rest : List Value} {fs : List Value} {v : Int32}
theorem retR {post : Int32 → Prop} {ty : FieldType} (F : CallFix p m c cc nL s args gtbl own) (hr : meth.sig.returnType = some ty) (hlk : meth.locks = false) (hn : narrow ty (.int v) = .int v) (hp : post v) (hdg : decode cc pc = .ok (.ireturn, 1)) : W p l e R s m args below meth c s.heap [] 0 0 (MQ below (vp_Si post) args s 0 0 (fun _ => False)) (F0 m pc ls [.int v]) :=
  W.zret F.1 F.2.1 hr hn (fun t ht _ => ⟨v, rfl, hp, ht⟩) (fun _ h => by cases h) hdg hlk
theorem retI {S : Type} {post : Int32 → S → Prop} {w1 : S → va_W} {ty : FieldType} (F : CallFix p m c cc nL s args gtbl own) (hr : meth.sig.returnType = some ty) (hlk : meth.locks = false) (hn : narrow ty (.int v) = .int v) (hW : Wd D T A s ws H locs) (u : S) (hp : post v u) (hw : ws = w1 u) (hdg : decode cc pc = .ok (.ireturn, 1)) : W p l e R s m args below meth c H locs 0 0 (MQ below (va_Qi post (Bp D T w1 A) A) args s 0 0 A) (F0 m pc ls [.int v]) := by
  subst hw
  exact W.zret F.1 F.2.1 hr hn (fun t ht hWm => ⟨⟨v, u, rfl, hp, va_K.moved hWm.alike hW.1, by rw [ht]; exact hW.2.1, hW.2.2.1⟩, hW.2.2.2.1.F ht⟩) hW.2.2.2.1.2.2 hdg hlk
theorem retV {S : Type} {post : S → Prop} {w1 : S → va_W} (F : CallFix p m c cc nL s args gtbl own) (hr : meth.sig.returnType = none) (hlk : meth.locks = false) (hW : Wd D T A s ws H locs) (u : S) (hp : post u) (hw : ws = w1 u) (hdg : decode cc pc = .ok (.return_, 1)) : W p l e R s m args below meth c H locs 0 0 (MQ below (va_Qv post (Bp D T w1 A) A) args s 0 0 A) (F0 m pc ls []) := by
  subst hw
  exact W.vret F.1 F.2.1 hr (fun t ht hWm => ⟨⟨u, rfl, hp, va_K.moved hWm.alike hW.1, by rw [ht]; exact hW.2.1, hW.2.2.1⟩, hW.2.2.2.1.F ht⟩) hW.2.2.2.1.2.2 hdg hlk
end RET
-- calls
def CalV (own : String) (idx : Nat) (C : String) (y : MethodName) (cy : ByteArray) (mL : Nat) (ret : Option FieldType) (n : Nat) : Prop :=
  (Cond.methodLink own idx y ∈ gtbl ∧ Cond.instanceMethod y ∈ gtbl ∧ Cond.selects C y y ∈ gtbl ∧ Cond.initialized C ∈ gtbl ∧ Cond.code y cy mL ret ∈ gtbl) ∧ (y.cls = C ∧ y.cls ≠ "java/lang/invoke/MethodHandle" ∧ y.cls ≠ "java/lang/invoke/VarHandle" ∧ (parseMethodDescriptor y.desc).map (fun d => d.parameters.length) = some n)
def CalS (own : String) (idx : Nat) (y : MethodName) (cy : ByteArray) (mL : Nat) (ret : Option FieldType) (n : Nat) : Prop :=
  (Cond.methodLink own idx y ∈ gtbl ∧ Cond.static y ∈ gtbl ∧ Cond.initialized y.cls ∈ gtbl ∧ Cond.code y cy mL ret ∈ gtbl) ∧ (y.cls ≠ "java/lang/invoke/MethodHandle" ∧ y.cls ≠ "java/lang/invoke/VarHandle" ∧ (parseMethodDescriptor y.desc).map (fun d => d.parameters.length) = some n)
theorem good_g : ∀ w ∈ gtbl, (w.onTables && w.keeps) = true ∨ ∃ ty, w = .arrayClass ty := fun _ h => good_of_word (List.mem_filter.mp h).2
theorem goodV {own : String} {idx : Nat} {C : String} {y : MethodName} {cy : ByteArray} {mL n : Nat} {ret : Option FieldType} (h : CalV own idx C y cy mL ret n) : GoodIn gtbl (wsV own idx C y (Cond.code y cy mL ret :: gtbl)) := by
  obtain ⟨⟨h1, h2, h3, h4, h5⟩, -⟩ := h
  have k : ∀ w ∈ wsV own idx C y (Cond.code y cy mL ret :: gtbl), w ∈ gtbl := by
    intro w hw
    simp only [wsV, List.cons_append, List.nil_append, List.mem_cons] at hw
    rcases hw with rfl | rfl | rfl | rfl | rfl | hw
    · exact h1
    · exact h2
    · exact h3
    · exact h4
    · exact h5
    · exact hw
  exact fun w hw => ⟨k w hw, good_g w (k w hw)⟩
theorem goodS {own : String} {idx : Nat} {y : MethodName} {cy : ByteArray} {mL n : Nat} {ret : Option FieldType} (h : CalS own idx y cy mL ret n) : GoodIn gtbl (va_wsS own idx y (Cond.code y cy mL ret :: gtbl)) := by
  obtain ⟨⟨h1, h2, h4, h5⟩, -⟩ := h
  have k : ∀ w ∈ va_wsS own idx y (Cond.code y cy mL ret :: gtbl), w ∈ gtbl := by
    intro w hw
    simp only [va_wsS, List.cons_append, List.nil_append, List.mem_cons] at hw
    rcases hw with rfl | rfl | rfl | rfl | hw
    · exact h1
    · exact h2
    · exact h4
    · exact h5
    · exact hw
  exact fun w hw => ⟨k w hw, good_g w (k w hw)⟩
section CALLS
variable {p : Program} {l : Launch} {e : Env} {R : Room} {s : State} {m : MethodId} {args : Array Value} {below : List Frame} {meth : Method} {c : Code} {H : Heap} {locs : List Loc} {cells slots : Nat} {Q : State → Prop} {cc : ByteArray} {nL : Nat} {own : String} {D : va_G} {T : Nat → ClassId} {A : Nat → Prop} {ws wc wr : va_W} {b : Nat} {pc : Nat} {ls : Array Slot} {As rest st : List Value} {lv : List (Nat × Value)}
  {C : String} {y : MethodName} {cy : ByteArray} {mL n idx lev : Nat} {ret : Option FieldType}
theorem blindR (av : List Value) : FrameBlind (Cr D T av wc) := fun a U g mk q => ⟨q.1, va_K.moved (u := U) (U := U.calling g mk a) (Vm.Alike.refl U.vm) q.2.1, q.2.2.1, q.2.2.2⟩
theorem blindP (av : List Value) (sz : Nat) : FrameBlind (Cp D T av wc sz) := fun a U g mk q => ⟨q.1, q.2.1, va_K.moved (u := U) (U := U.calling g mk a) (Vm.Alike.refl U.vm) q.2.2.1, q.2.2.2.1, q.2.2.2.2⟩
theorem csi {post : Int32 → Prop} {a : Array Value} {st0 : List Value} (hr : va_Run p l e R s m args below meth c H locs cells slots 0 0 (F0 m pc ls st0) rest (vp_Si post a) (fun _ => False))
    (kk : ∀ r : Int32, post r → W p l e R s m args below meth c H locs cells slots Q (F0 m (pc + 3) ls (.int r :: rest))) : W p l e R s m args below meth c H locs cells slots Q (F0 m pc ls st0) := by
  intro T hT X
  obtain ⟨v, st₀, t, T', L, h0, X', hL, e1, e2, ⟨r, hv, hp, hh⟩, st⟩ := hr T hT X
  cases hv
  have hL0 : L = [] := List.eq_nil_iff_forall_not_mem.mpr (fun q h => hL q h)
  subst hL0
  obtain ⟨t2, a1, b1⟩ := kk r hp T' (by rw [e1, hh, h0]) (by simpa using X')
  exact ⟨t2, st t2 a1, b1⟩
theorem Wd.cut (hW : Wd D T A s ws H locs) (is : List Nat) (hn : va_nd is = true) (hC : is.map (fun i => ws[i]?) = wc.map some) : va_P D vwCl wc H ∧ va_D (fun _ => True) wc :=
  ⟨(hW.ord is hn hC).2.1, (hW.ord is hn hC).2.2.1.weaken (fun _ _ _ _ => trivial)⟩
/-- a call of a method that reads alone -/
theorem cRV {post : Int32 → Prop} (F : CallFix p m c cc nL s args gtbl own) (hW : Wd D T A s ws H locs) (hl : lv_has ls nL lv) (cw : CalV own idx C y cy mL ret n) (hM : KR l D T y cy mL ret lev (.ref b :: As) wc post) (is : List Nat) (hn : va_nd is = true) (hC : is.map (fun i => ws[i]?) = wc.map some) (qr ci : Nat) {fs : List Value} {r0 : vw_C} (hrc : wc[qr]? = some (b, .inr (ci, fs))) (hci : vwCl[ci]? = some r0) (hcn : r0.1 = C)
    (hst : st = As.reverse ++ .ref b :: rest) (hlen : As.length = n) (hroom : (rest.map fun v => v.category).sum ≤ 8) (hR : lev + 1 ≤ R.frames ∧ 8 + (mL + 11) + 32 * lev ≤ R.locals) (hcs : cells ≤ R.cells ∧ slots ≤ R.slots) (hdg : decode cc pc = .ok (.invokevirtual idx, 3))
    (kk : ∀ r : Int32, post r → W p l e R s m args below meth c H locs cells slots Q (F0 m (pc + 3) ls (.int r :: rest))) : W p l e R s m args below meth c H locs cells slots Q (F0 m pc ls st) := by
  obtain ⟨hP, hD⟩ := hW.cut is hn hC
  subst hst; subst hcn
  refine csi (va_runV (As := As) (rest := rest) F hM (cwV n F.2.2.2.2 (goodV cw) rfl rfl rfl cw.2 hR) ⟨blindR _, va_recv hW.1 hP hci hrc, fun U hU hWm => ⟨rfl, va_K.moved hWm.alike hW.1, by rw [hU]; exact hP, hD⟩⟩ rfl hlen hl.1 rfl (lv_room hroom) hdg hcs) kk
theorem cRS {post : Int32 → Prop} (F : CallFix p m c cc nL s args gtbl own) (hW : Wd D T A s ws H locs) (hl : lv_has ls nL lv) (cw : CalS own idx y cy mL ret n) (hM : KR l D T y cy mL ret lev As wc post) (is : List Nat) (hn : va_nd is = true) (hC : is.map (fun i => ws[i]?) = wc.map some)
    (hst : st = As.reverse ++ rest) (hlen : As.length = n) (hroom : (rest.map fun v => v.category).sum ≤ 8) (hR : lev + 1 ≤ R.frames ∧ 8 + (mL + 11) + 32 * lev ≤ R.locals) (hcs : cells ≤ R.cells ∧ slots ≤ R.slots) (hdg : decode cc pc = .ok (.invokestatic idx, 3))
    (kk : ∀ r : Int32, post r → W p l e R s m args below meth c H locs cells slots Q (F0 m (pc + 3) ls (.int r :: rest))) : W p l e R s m args below meth c H locs cells slots Q (F0 m pc ls st) := by
  obtain ⟨hP, hD⟩ := hW.cut is hn hC
  subst hst
  refine csi (va_runS (As := As) (rest := rest) F hM (va_cwS n F.2.2.2.2 (goodS cw) rfl rfl rfl cw.2 hR) ⟨blindR _, fun U hU hWm => ⟨rfl, va_K.moved hWm.alike hW.1, by rw [hU]; exact hP, hD⟩⟩ rfl hlen hl.1 rfl (lv_room hroom) hdg hcs) kk
theorem Wd.join {S : Type} {w1 : S → va_W} {u : S} {t : State} {H1 : Heap} {locs1 : List Loc} (hW : Wd D T A s ws H locs) (isC isR : List Nat) (hnd : va_nd isR = true) (hC : isC.map (fun i => ws[i]?) = wc.map some) (hR : isR.map (fun i => ws[i]?) = wr.map some) (hdis : ∀ i ∈ isR, i ∉ isC)
    (ht : t.heap = H1) (hB : Bp D T w1 (va_A wc H.size) u t) (hk : ∀ q : Nat, q < H.size → ¬ va_A wc H.size q → H1[q]? = H[q]?) (hS : va_S A s.heap H1 locs1) : Wd D T A s (wr ++ w1 u) H1 locs1 := by
  obtain ⟨-, hP1, hD1⟩ := hB
  rw [ht] at hP1
  have hF := va_free (wc := wc) hW.2.2.1 hW.2.2.2.1 hW.2.2.2.2 isC hC
  obtain ⟨a1, a2⟩ := va_join hW.2.1 hW.2.2.1 isC isR hC hR hnd hdis hk hF hP1 hD1
  exact ⟨hW.1, a1, a2, hS, hW.2.2.2.2⟩
/-- a call of a method that writes in a part of the world, and answers an int -/
theorem cIV {S : Type} {post : Int32 → S → Prop} {w1 : S → va_W} (F : CallFix p m c cc nL s args gtbl own) (hW : Wd D T A s ws H locs) (hl : lv_has ls nL lv) (cw : CalV own idx C y cy mL ret n) (hM : KI l D T y cy mL ret lev (.ref b :: As) wc post w1) (is isR : List Nat) (hn : va_nd is = true) (hC : is.map (fun i => ws[i]?) = wc.map some) (hnR : va_nd isR = true) (hCR : isR.map (fun i => ws[i]?) = wr.map some) (hdis : ∀ i ∈ isR, i ∉ is) (qr ci : Nat) {fs : List Value} {r0 : vw_C} (hrc : wc[qr]? = some (b, .inr (ci, fs))) (hci : vwCl[ci]? = some r0) (hcn : r0.1 = C)
    (hst : st = As.reverse ++ .ref b :: rest) (hlen : As.length = n) (hroom : (rest.map fun v => v.category).sum ≤ 8) (hR : lev + 1 ≤ R.frames ∧ 8 + (mL + 11) + 32 * lev ≤ R.locals) (hcs : cells ≤ R.cells ∧ slots ≤ R.slots) (hdg : decode cc pc = .ok (.invokevirtual idx, 3))
    (kk : ∀ (r : Int32) (u : S) (H1 : Heap) (locs1 : List Loc), post r u → Wd D T A s (wr ++ w1 u) H1 locs1 → W p l e R s m args below meth c H1 locs1 cells slots Q (F0 m (pc + 3) ls (.int r :: rest))) : W p l e R s m args below meth c H locs cells slots Q (F0 m pc ls st) := by
  obtain ⟨hP, hD⟩ := hW.cut is hn hC
  subst hst; subst hcn
  have hFc := va_free (wc := wc) hW.2.2.1 hW.2.2.2.1 hW.2.2.2.2 is hC
  refine va_calli (va_runV (As := As) (rest := rest) F (hM H.size) (cwV n F.2.2.2.2 (goodV cw) rfl rfl rfl cw.2 hR) ⟨blindP _ _, va_recv hW.1 hP hci hrc, fun U hU hWm => ⟨rfl, by rw [hU], va_K.moved hWm.alike hW.1, by rw [hU]; exact hP, hD⟩⟩ rfl hlen hl.1 rfl (lv_room hroom) hdg hcs) hW.2.2.2.1 (fun q _ h => hFc q h) hFc (fun r u t H1 locs1 ht hvm hp hB hz hk hS => ?_)
  exact kk r u H1 locs1 hp (hW.join is isR hnR hC hCR hdis ht hB hk hS)
theorem cVV {S : Type} {post : S → Prop} {w1 : S → va_W} (F : CallFix p m c cc nL s args gtbl own) (hW : Wd D T A s ws H locs) (hl : lv_has ls nL lv) (cw : CalV own idx C y cy mL none n) (hM : KV l D T y cy mL lev (.ref b :: As) wc post w1) (is isR : List Nat) (hn : va_nd is = true) (hC : is.map (fun i => ws[i]?) = wc.map some) (hnR : va_nd isR = true) (hCR : isR.map (fun i => ws[i]?) = wr.map some) (hdis : ∀ i ∈ isR, i ∉ is) (qr ci : Nat) {fs : List Value} {r0 : vw_C} (hrc : wc[qr]? = some (b, .inr (ci, fs))) (hci : vwCl[ci]? = some r0) (hcn : r0.1 = C)
    (hst : st = As.reverse ++ .ref b :: rest) (hlen : As.length = n) (hroom : (rest.map fun v => v.category).sum ≤ 8) (hR : lev + 1 ≤ R.frames ∧ 8 + (mL + 11) + 32 * lev ≤ R.locals) (hcs : cells ≤ R.cells ∧ slots ≤ R.slots) (hdg : decode cc pc = .ok (.invokevirtual idx, 3))
    (kk : ∀ (u : S) (H1 : Heap) (locs1 : List Loc), post u → Wd D T A s (wr ++ w1 u) H1 locs1 → W p l e R s m args below meth c H1 locs1 cells slots Q (F0 m (pc + 3) ls rest)) : W p l e R s m args below meth c H locs cells slots Q (F0 m pc ls st) := by
  obtain ⟨hP, hD⟩ := hW.cut is hn hC
  subst hst; subst hcn
  have hFc := va_free (wc := wc) hW.2.2.1 hW.2.2.2.1 hW.2.2.2.2 is hC
  refine va_callv (va_runV (As := As) (rest := rest) F (hM H.size) (cwV n F.2.2.2.2 (goodV cw) rfl rfl rfl cw.2 hR) ⟨blindP _ _, va_recv hW.1 hP hci hrc, fun U hU hWm => ⟨rfl, by rw [hU], va_K.moved hWm.alike hW.1, by rw [hU]; exact hP, hD⟩⟩ rfl hlen hl.1 rfl (lv_room hroom) hdg hcs) hW.2.2.2.1 (fun q _ h => hFc q h) hFc (fun u t H1 locs1 ht hvm hp hB hz hk hS => ?_)
  exact kk u H1 locs1 hp (hW.join is isR hnR hC hCR hdis ht hB hk hS)
theorem cIS {S : Type} {post : Int32 → S → Prop} {w1 : S → va_W} (F : CallFix p m c cc nL s args gtbl own) (hW : Wd D T A s ws H locs) (hl : lv_has ls nL lv) (cw : CalS own idx y cy mL ret n) (hM : KI l D T y cy mL ret lev As wc post w1) (is isR : List Nat) (hn : va_nd is = true) (hC : is.map (fun i => ws[i]?) = wc.map some) (hnR : va_nd isR = true) (hCR : isR.map (fun i => ws[i]?) = wr.map some) (hdis : ∀ i ∈ isR, i ∉ is)
    (hst : st = As.reverse ++ rest) (hlen : As.length = n) (hroom : (rest.map fun v => v.category).sum ≤ 8) (hR : lev + 1 ≤ R.frames ∧ 8 + (mL + 11) + 32 * lev ≤ R.locals) (hcs : cells ≤ R.cells ∧ slots ≤ R.slots) (hdg : decode cc pc = .ok (.invokestatic idx, 3))
    (kk : ∀ (r : Int32) (u : S) (H1 : Heap) (locs1 : List Loc), post r u → Wd D T A s (wr ++ w1 u) H1 locs1 → W p l e R s m args below meth c H1 locs1 cells slots Q (F0 m (pc + 3) ls (.int r :: rest))) : W p l e R s m args below meth c H locs cells slots Q (F0 m pc ls st) := by
  obtain ⟨hP, hD⟩ := hW.cut is hn hC
  subst hst
  have hFc := va_free (wc := wc) hW.2.2.1 hW.2.2.2.1 hW.2.2.2.2 is hC
  refine va_calli (va_runS (As := As) (rest := rest) F (hM H.size) (va_cwS n F.2.2.2.2 (goodS cw) rfl rfl rfl cw.2 hR) ⟨blindP _ _, fun U hU hWm => ⟨rfl, by rw [hU], va_K.moved hWm.alike hW.1, by rw [hU]; exact hP, hD⟩⟩ rfl hlen hl.1 rfl (lv_room hroom) hdg hcs) hW.2.2.2.1 (fun q _ h => hFc q h) hFc (fun r u t H1 locs1 ht hvm hp hB hz hk hS => ?_)
  exact kk r u H1 locs1 hp (hW.join is isR hnR hC hCR hdis ht hB hk hS)
theorem cVS {S : Type} {post : S → Prop} {w1 : S → va_W} (F : CallFix p m c cc nL s args gtbl own) (hW : Wd D T A s ws H locs) (hl : lv_has ls nL lv) (cw : CalS own idx y cy mL none n) (hM : KV l D T y cy mL lev As wc post w1) (is isR : List Nat) (hn : va_nd is = true) (hC : is.map (fun i => ws[i]?) = wc.map some) (hnR : va_nd isR = true) (hCR : isR.map (fun i => ws[i]?) = wr.map some) (hdis : ∀ i ∈ isR, i ∉ is)
    (hst : st = As.reverse ++ rest) (hlen : As.length = n) (hroom : (rest.map fun v => v.category).sum ≤ 8) (hR : lev + 1 ≤ R.frames ∧ 8 + (mL + 11) + 32 * lev ≤ R.locals) (hcs : cells ≤ R.cells ∧ slots ≤ R.slots) (hdg : decode cc pc = .ok (.invokestatic idx, 3))
    (kk : ∀ (u : S) (H1 : Heap) (locs1 : List Loc), post u → Wd D T A s (wr ++ w1 u) H1 locs1 → W p l e R s m args below meth c H1 locs1 cells slots Q (F0 m (pc + 3) ls rest)) : W p l e R s m args below meth c H locs cells slots Q (F0 m pc ls st) := by
  obtain ⟨hP, hD⟩ := hW.cut is hn hC
  subst hst
  have hFc := va_free (wc := wc) hW.2.2.1 hW.2.2.2.1 hW.2.2.2.2 is hC
  refine va_callv (va_runS (As := As) (rest := rest) F (hM H.size) (va_cwS n F.2.2.2.2 (goodS cw) rfl rfl rfl cw.2 hR) ⟨blindP _ _, fun U hU hWm => ⟨rfl, by rw [hU], va_K.moved hWm.alike hW.1, by rw [hU]; exact hP, hD⟩⟩ rfl hlen hl.1 rfl (lv_room hroom) hdg hcs) hW.2.2.2.1 (fun q _ h => hFc q h) hFc (fun u t H1 locs1 ht hvm hp hB hz hk hS => ?_)
  exact kk u H1 locs1 hp (hW.join is isR hnR hC hCR hdis ht hB hk hS)
end CALLS
end
section
section FLD
variable {p : Program} {l : Launch} {e : Env} {R : Room} {s : State} {m : MethodId} {args : Array Value} {below : List Frame} {meth : Method} {c : Code} {H : Heap} {locs : List Loc} {cells slots : Nat} {Q : State → Prop} {cc : ByteArray} {nL : Nat} {D : va_G} {T : Nat → ClassId} {A : Nat → Prop} {ws ws' : va_W} {a : Nat} {pc : Nat} {ls : Array Slot} {rest : List Value} {fs : List Value} {v : Value}
theorem gf54 (F : CallFix p m c cc nL s args gtbl RX3) (hW : Wd D T A s ws H locs) (q0 : Nat) (he : ws[q0]? = some (a, .inr (3, fs))) (hv : fs[0]? = some v) (hdg : decode cc pc = .ok (.getfield 9, 3)) (kk : W p l e R s m args below meth c H locs cells slots Q (F0 m (pc + 3) ls (v :: rest))) : W p l e R s m args below meth c H locs cells slots Q (F0 m pc ls (.ref a :: rest)) :=
  va_get F.1 F.2.1 F.2.2.2.2 gX3 F.2.2.2.1 hW.1 hW.2.1 q0 he rfl 0 (by decide) (F.2.2.2.2 _ m54) (fun _ h => h) hv hdg kk
theorem gf55 (F : CallFix p m c cc nL s args gtbl RX6) (hW : Wd D T A s ws H locs) (q0 : Nat) (he : ws[q0]? = some (a, .inr (3, fs))) (hv : fs[0]? = some v) (hdg : decode cc pc = .ok (.getfield 114, 3)) (kk : W p l e R s m args below meth c H locs cells slots Q (F0 m (pc + 3) ls (v :: rest))) : W p l e R s m args below meth c H locs cells slots Q (F0 m pc ls (.ref a :: rest)) :=
  va_get F.1 F.2.1 F.2.2.2.2 gX3 F.2.2.2.1 hW.1 hW.2.1 q0 he rfl 0 (by decide) (F.2.2.2.2 _ m55) (fun _ h => h) hv hdg kk
theorem gf56 (F : CallFix p m c cc nL s args gtbl RX3) (hW : Wd D T A s ws H locs) (q0 : Nat) (he : ws[q0]? = some (a, .inr (3, fs))) (hv : fs[1]? = some v) (hdg : decode cc pc = .ok (.getfield 15, 3)) (kk : W p l e R s m args below meth c H locs cells slots Q (F0 m (pc + 3) ls (v :: rest))) : W p l e R s m args below meth c H locs cells slots Q (F0 m pc ls (.ref a :: rest)) :=
  va_get F.1 F.2.1 F.2.2.2.2 gX3 F.2.2.2.1 hW.1 hW.2.1 q0 he rfl 1 (by decide) (F.2.2.2.2 _ m56) (fun _ h => h) hv hdg kk
theorem gf57 (F : CallFix p m c cc nL s args gtbl RX6) (hW : Wd D T A s ws H locs) (q0 : Nat) (he : ws[q0]? = some (a, .inr (3, fs))) (hv : fs[1]? = some v) (hdg : decode cc pc = .ok (.getfield 117, 3)) (kk : W p l e R s m args below meth c H locs cells slots Q (F0 m (pc + 3) ls (v :: rest))) : W p l e R s m args below meth c H locs cells slots Q (F0 m pc ls (.ref a :: rest)) :=
  va_get F.1 F.2.1 F.2.2.2.2 gX3 F.2.2.2.1 hW.1 hW.2.1 q0 he rfl 1 (by decide) (F.2.2.2.2 _ m57) (fun _ h => h) hv hdg kk
theorem gf58 (F : CallFix p m c cc nL s args gtbl RX3) (hW : Wd D T A s ws H locs) (q0 : Nat) (he : ws[q0]? = some (a, .inr (3, fs))) (hv : fs[2]? = some v) (hdg : decode cc pc = .ok (.getfield 18, 3)) (kk : W p l e R s m args below meth c H locs cells slots Q (F0 m (pc + 3) ls (v :: rest))) : W p l e R s m args below meth c H locs cells slots Q (F0 m pc ls (.ref a :: rest)) :=
  va_get F.1 F.2.1 F.2.2.2.2 gX3 F.2.2.2.1 hW.1 hW.2.1 q0 he rfl 2 (by decide) (F.2.2.2.2 _ m58) (fun _ h => h) hv hdg kk
theorem gf59 (F : CallFix p m c cc nL s args gtbl RX6) (hW : Wd D T A s ws H locs) (q0 : Nat) (he : ws[q0]? = some (a, .inr (3, fs))) (hv : fs[2]? = some v) (hdg : decode cc pc = .ok (.getfield 134, 3)) (kk : W p l e R s m args below meth c H locs cells slots Q (F0 m (pc + 3) ls (v :: rest))) : W p l e R s m args below meth c H locs cells slots Q (F0 m pc ls (.ref a :: rest)) :=
  va_get F.1 F.2.1 F.2.2.2.2 gX3 F.2.2.2.1 hW.1 hW.2.1 q0 he rfl 2 (by decide) (F.2.2.2.2 _ m59) (fun _ h => h) hv hdg kk
theorem gf60 (F : CallFix p m c cc nL s args gtbl RX3) (hW : Wd D T A s ws H locs) (q0 : Nat) (he : ws[q0]? = some (a, .inr (3, fs))) (hv : fs[3]? = some v) (hdg : decode cc pc = .ok (.getfield 27, 3)) (kk : W p l e R s m args below meth c H locs cells slots Q (F0 m (pc + 3) ls (v :: rest))) : W p l e R s m args below meth c H locs cells slots Q (F0 m pc ls (.ref a :: rest)) :=
  va_get F.1 F.2.1 F.2.2.2.2 gX3 F.2.2.2.1 hW.1 hW.2.1 q0 he rfl 3 (by decide) (F.2.2.2.2 _ m60) (fun _ h => h) hv hdg kk
theorem pf60 (F : CallFix p m c cc nL s args gtbl RX3) (hW : Wd D T A s ws H locs) (q0 : Nat) (he : ws[q0]? = some (a, .inr (3, fs))) {x : Int32} (hl : Nat.blt 3 fs.length = true) (hw : ws.set q0 (a, .inr (3, fs.set 3 (.int x))) = ws') (hdg : decode cc pc = .ok (.putfield 27, 3)) (kk : ∀ (H1 : Heap) (locs1 : List Loc), Wd D T A s ws' H1 locs1 → W p l e R s m args below meth c H1 locs1 cells slots Q (F0 m (pc + 3) ls rest)) : W p l e R s m args below meth c H locs cells slots Q (F0 m pc ls (.int x :: .ref a :: rest)) :=
  va_put F.1 F.2.1 F.2.2.2.2 gX3 tyX3 tyX3_ok nmX3 F.2.2.2.1 hW.1 hW.2.1 hW.2.2.1 hW.2.2.2.1 q0 he rfl 3 (by decide) (F.2.2.2.2 _ m60) (fun _ h => h) rfl (ty := .int) (by decide +kernel) rfl rfl (Nat.le_of_ble_eq_true hl) hdg (fun H1 locs1 hP hD hS => kk H1 locs1 (hw ▸ ⟨hW.1, hP, hD, hS, hW.2.2.2.2⟩))
theorem gf61 (F : CallFix p m c cc nL s args gtbl RX1) (hW : Wd D T A s ws H locs) (q0 : Nat) (he : ws[q0]? = some (a, .inr (3, fs))) (hv : fs[3]? = some v) (hdg : decode cc pc = .ok (.getfield 63, 3)) (kk : W p l e R s m args below meth c H locs cells slots Q (F0 m (pc + 3) ls (v :: rest))) : W p l e R s m args below meth c H locs cells slots Q (F0 m pc ls (.ref a :: rest)) :=
  va_get F.1 F.2.1 F.2.2.2.2 gX3 F.2.2.2.1 hW.1 hW.2.1 q0 he rfl 3 (by decide) (F.2.2.2.2 _ m61) (fun _ h => h) hv hdg kk
theorem pf61 (F : CallFix p m c cc nL s args gtbl RX1) (hW : Wd D T A s ws H locs) (q0 : Nat) (he : ws[q0]? = some (a, .inr (3, fs))) {x : Int32} (hl : Nat.blt 3 fs.length = true) (hw : ws.set q0 (a, .inr (3, fs.set 3 (.int x))) = ws') (hdg : decode cc pc = .ok (.putfield 63, 3)) (kk : ∀ (H1 : Heap) (locs1 : List Loc), Wd D T A s ws' H1 locs1 → W p l e R s m args below meth c H1 locs1 cells slots Q (F0 m (pc + 3) ls rest)) : W p l e R s m args below meth c H locs cells slots Q (F0 m pc ls (.int x :: .ref a :: rest)) :=
  va_put F.1 F.2.1 F.2.2.2.2 gX3 tyX3 tyX3_ok nmX3 F.2.2.2.1 hW.1 hW.2.1 hW.2.2.1 hW.2.2.2.1 q0 he rfl 3 (by decide) (F.2.2.2.2 _ m61) (fun _ h => h) rfl (ty := .int) (by decide +kernel) rfl rfl (Nat.le_of_ble_eq_true hl) hdg (fun H1 locs1 hP hD hS => kk H1 locs1 (hw ▸ ⟨hW.1, hP, hD, hS, hW.2.2.2.2⟩))
theorem gf62 (F : CallFix p m c cc nL s args gtbl RX6) (hW : Wd D T A s ws H locs) (q0 : Nat) (he : ws[q0]? = some (a, .inr (3, fs))) (hv : fs[3]? = some v) (hdg : decode cc pc = .ok (.getfield 124, 3)) (kk : W p l e R s m args below meth c H locs cells slots Q (F0 m (pc + 3) ls (v :: rest))) : W p l e R s m args below meth c H locs cells slots Q (F0 m pc ls (.ref a :: rest)) :=
  va_get F.1 F.2.1 F.2.2.2.2 gX3 F.2.2.2.1 hW.1 hW.2.1 q0 he rfl 3 (by decide) (F.2.2.2.2 _ m62) (fun _ h => h) hv hdg kk
theorem pf62 (F : CallFix p m c cc nL s args gtbl RX6) (hW : Wd D T A s ws H locs) (q0 : Nat) (he : ws[q0]? = some (a, .inr (3, fs))) {x : Int32} (hl : Nat.blt 3 fs.length = true) (hw : ws.set q0 (a, .inr (3, fs.set 3 (.int x))) = ws') (hdg : decode cc pc = .ok (.putfield 124, 3)) (kk : ∀ (H1 : Heap) (locs1 : List Loc), Wd D T A s ws' H1 locs1 → W p l e R s m args below meth c H1 locs1 cells slots Q (F0 m (pc + 3) ls rest)) : W p l e R s m args below meth c H locs cells slots Q (F0 m pc ls (.int x :: .ref a :: rest)) :=
  va_put F.1 F.2.1 F.2.2.2.2 gX3 tyX3 tyX3_ok nmX3 F.2.2.2.1 hW.1 hW.2.1 hW.2.2.1 hW.2.2.2.1 q0 he rfl 3 (by decide) (F.2.2.2.2 _ m62) (fun _ h => h) rfl (ty := .int) (by decide +kernel) rfl rfl (Nat.le_of_ble_eq_true hl) hdg (fun H1 locs1 hP hD hS => kk H1 locs1 (hw ▸ ⟨hW.1, hP, hD, hS, hW.2.2.2.2⟩))
theorem gf63 (F : CallFix p m c cc nL s args gtbl RX1) (hW : Wd D T A s ws H locs) (q0 : Nat) (he : ws[q0]? = some (a, .inr (3, fs))) (hv : fs[4]? = some v) (hdg : decode cc pc = .ok (.getfield 29, 3)) (kk : W p l e R s m args below meth c H locs cells slots Q (F0 m (pc + 3) ls (v :: rest))) : W p l e R s m args below meth c H locs cells slots Q (F0 m pc ls (.ref a :: rest)) :=
  va_get F.1 F.2.1 F.2.2.2.2 gX3 F.2.2.2.1 hW.1 hW.2.1 q0 he rfl 4 (by decide) (F.2.2.2.2 _ m63) (fun _ h => h) hv hdg kk
theorem pf63 (F : CallFix p m c cc nL s args gtbl RX1) (hW : Wd D T A s ws H locs) (q0 : Nat) (he : ws[q0]? = some (a, .inr (3, fs))) {x : Int32} (hx : narrow .boolean (.int x) = .int x) (hfit : fits .boolean (.int x) = true) (hl : Nat.blt 4 fs.length = true) (hw : ws.set q0 (a, .inr (3, fs.set 4 (.int x))) = ws') (hdg : decode cc pc = .ok (.putfield 29, 3)) (kk : ∀ (H1 : Heap) (locs1 : List Loc), Wd D T A s ws' H1 locs1 → W p l e R s m args below meth c H1 locs1 cells slots Q (F0 m (pc + 3) ls rest)) : W p l e R s m args below meth c H locs cells slots Q (F0 m pc ls (.int x :: .ref a :: rest)) :=
  va_put F.1 F.2.1 F.2.2.2.2 gX3 tyX3 tyX3_ok nmX3 F.2.2.2.1 hW.1 hW.2.1 hW.2.2.1 hW.2.2.2.1 q0 he rfl 4 (by decide) (F.2.2.2.2 _ m63) (fun _ h => h) rfl (ty := .boolean) (by decide +kernel) hx hfit (Nat.le_of_ble_eq_true hl) hdg (fun H1 locs1 hP hD hS => kk H1 locs1 (hw ▸ ⟨hW.1, hP, hD, hS, hW.2.2.2.2⟩))
theorem gf64 (F : CallFix p m c cc nL s args gtbl RX3) (hW : Wd D T A s ws H locs) (q0 : Nat) (he : ws[q0]? = some (a, .inr (3, fs))) (hv : fs[4]? = some v) (hdg : decode cc pc = .ok (.getfield 31, 3)) (kk : W p l e R s m args below meth c H locs cells slots Q (F0 m (pc + 3) ls (v :: rest))) : W p l e R s m args below meth c H locs cells slots Q (F0 m pc ls (.ref a :: rest)) :=
  va_get F.1 F.2.1 F.2.2.2.2 gX3 F.2.2.2.1 hW.1 hW.2.1 q0 he rfl 4 (by decide) (F.2.2.2.2 _ m64) (fun _ h => h) hv hdg kk
theorem pf64 (F : CallFix p m c cc nL s args gtbl RX3) (hW : Wd D T A s ws H locs) (q0 : Nat) (he : ws[q0]? = some (a, .inr (3, fs))) {x : Int32} (hx : narrow .boolean (.int x) = .int x) (hfit : fits .boolean (.int x) = true) (hl : Nat.blt 4 fs.length = true) (hw : ws.set q0 (a, .inr (3, fs.set 4 (.int x))) = ws') (hdg : decode cc pc = .ok (.putfield 31, 3)) (kk : ∀ (H1 : Heap) (locs1 : List Loc), Wd D T A s ws' H1 locs1 → W p l e R s m args below meth c H1 locs1 cells slots Q (F0 m (pc + 3) ls rest)) : W p l e R s m args below meth c H locs cells slots Q (F0 m pc ls (.int x :: .ref a :: rest)) :=
  va_put F.1 F.2.1 F.2.2.2.2 gX3 tyX3 tyX3_ok nmX3 F.2.2.2.1 hW.1 hW.2.1 hW.2.2.1 hW.2.2.2.1 q0 he rfl 4 (by decide) (F.2.2.2.2 _ m64) (fun _ h => h) rfl (ty := .boolean) (by decide +kernel) hx hfit (Nat.le_of_ble_eq_true hl) hdg (fun H1 locs1 hP hD hS => kk H1 locs1 (hw ▸ ⟨hW.1, hP, hD, hS, hW.2.2.2.2⟩))
theorem gf65 (F : CallFix p m c cc nL s args gtbl RX6) (hW : Wd D T A s ws H locs) (q0 : Nat) (he : ws[q0]? = some (a, .inr (3, fs))) (hv : fs[4]? = some v) (hdg : decode cc pc = .ok (.getfield 127, 3)) (kk : W p l e R s m args below meth c H locs cells slots Q (F0 m (pc + 3) ls (v :: rest))) : W p l e R s m args below meth c H locs cells slots Q (F0 m pc ls (.ref a :: rest)) :=
  va_get F.1 F.2.1 F.2.2.2.2 gX3 F.2.2.2.1 hW.1 hW.2.1 q0 he rfl 4 (by decide) (F.2.2.2.2 _ m65) (fun _ h => h) hv hdg kk
theorem pf65 (F : CallFix p m c cc nL s args gtbl RX6) (hW : Wd D T A s ws H locs) (q0 : Nat) (he : ws[q0]? = some (a, .inr (3, fs))) {x : Int32} (hx : narrow .boolean (.int x) = .int x) (hfit : fits .boolean (.int x) = true) (hl : Nat.blt 4 fs.length = true) (hw : ws.set q0 (a, .inr (3, fs.set 4 (.int x))) = ws') (hdg : decode cc pc = .ok (.putfield 127, 3)) (kk : ∀ (H1 : Heap) (locs1 : List Loc), Wd D T A s ws' H1 locs1 → W p l e R s m args below meth c H1 locs1 cells slots Q (F0 m (pc + 3) ls rest)) : W p l e R s m args below meth c H locs cells slots Q (F0 m pc ls (.int x :: .ref a :: rest)) :=
  va_put F.1 F.2.1 F.2.2.2.2 gX3 tyX3 tyX3_ok nmX3 F.2.2.2.1 hW.1 hW.2.1 hW.2.2.1 hW.2.2.2.1 q0 he rfl 4 (by decide) (F.2.2.2.2 _ m65) (fun _ h => h) rfl (ty := .boolean) (by decide +kernel) hx hfit (Nat.le_of_ble_eq_true hl) hdg (fun H1 locs1 hP hD hS => kk H1 locs1 (hw ▸ ⟨hW.1, hP, hD, hS, hW.2.2.2.2⟩))
theorem gf66 (F : CallFix p m c cc nL s args gtbl RX3) (hW : Wd D T A s ws H locs) (q0 : Nat) (he : ws[q0]? = some (a, .inr (3, fs))) (hv : fs[5]? = some v) (hdg : decode cc pc = .ok (.getfield 35, 3)) (kk : W p l e R s m args below meth c H locs cells slots Q (F0 m (pc + 3) ls (v :: rest))) : W p l e R s m args below meth c H locs cells slots Q (F0 m pc ls (.ref a :: rest)) :=
  va_get F.1 F.2.1 F.2.2.2.2 gX3 F.2.2.2.1 hW.1 hW.2.1 q0 he rfl 5 (by decide) (F.2.2.2.2 _ m66) (fun _ h => h) hv hdg kk
theorem pf66 (F : CallFix p m c cc nL s args gtbl RX3) (hW : Wd D T A s ws H locs) (q0 : Nat) (he : ws[q0]? = some (a, .inr (3, fs))) {x : Int32} (hl : Nat.blt 5 fs.length = true) (hw : ws.set q0 (a, .inr (3, fs.set 5 (.int x))) = ws') (hdg : decode cc pc = .ok (.putfield 35, 3)) (kk : ∀ (H1 : Heap) (locs1 : List Loc), Wd D T A s ws' H1 locs1 → W p l e R s m args below meth c H1 locs1 cells slots Q (F0 m (pc + 3) ls rest)) : W p l e R s m args below meth c H locs cells slots Q (F0 m pc ls (.int x :: .ref a :: rest)) :=
  va_put F.1 F.2.1 F.2.2.2.2 gX3 tyX3 tyX3_ok nmX3 F.2.2.2.1 hW.1 hW.2.1 hW.2.2.1 hW.2.2.2.1 q0 he rfl 5 (by decide) (F.2.2.2.2 _ m66) (fun _ h => h) rfl (ty := .int) (by decide +kernel) rfl rfl (Nat.le_of_ble_eq_true hl) hdg (fun H1 locs1 hP hD hS => kk H1 locs1 (hw ▸ ⟨hW.1, hP, hD, hS, hW.2.2.2.2⟩))
theorem gf67 (F : CallFix p m c cc nL s args gtbl RX5) (hW : Wd D T A s ws H locs) (q0 : Nat) (he : ws[q0]? = some (a, .inr (3, fs))) (hv : fs[5]? = some v) (hdg : decode cc pc = .ok (.getfield 53, 3)) (kk : W p l e R s m args below meth c H locs cells slots Q (F0 m (pc + 3) ls (v :: rest))) : W p l e R s m args below meth c H locs cells slots Q (F0 m pc ls (.ref a :: rest)) :=
  va_get F.1 F.2.1 F.2.2.2.2 gX3 F.2.2.2.1 hW.1 hW.2.1 q0 he rfl 5 (by decide) (F.2.2.2.2 _ m67) (fun _ h => h) hv hdg kk
theorem pf67 (F : CallFix p m c cc nL s args gtbl RX5) (hW : Wd D T A s ws H locs) (q0 : Nat) (he : ws[q0]? = some (a, .inr (3, fs))) {x : Int32} (hl : Nat.blt 5 fs.length = true) (hw : ws.set q0 (a, .inr (3, fs.set 5 (.int x))) = ws') (hdg : decode cc pc = .ok (.putfield 53, 3)) (kk : ∀ (H1 : Heap) (locs1 : List Loc), Wd D T A s ws' H1 locs1 → W p l e R s m args below meth c H1 locs1 cells slots Q (F0 m (pc + 3) ls rest)) : W p l e R s m args below meth c H locs cells slots Q (F0 m pc ls (.int x :: .ref a :: rest)) :=
  va_put F.1 F.2.1 F.2.2.2.2 gX3 tyX3 tyX3_ok nmX3 F.2.2.2.1 hW.1 hW.2.1 hW.2.2.1 hW.2.2.2.1 q0 he rfl 5 (by decide) (F.2.2.2.2 _ m67) (fun _ h => h) rfl (ty := .int) (by decide +kernel) rfl rfl (Nat.le_of_ble_eq_true hl) hdg (fun H1 locs1 hP hD hS => kk H1 locs1 (hw ▸ ⟨hW.1, hP, hD, hS, hW.2.2.2.2⟩))
theorem gf68 (F : CallFix p m c cc nL s args gtbl RX6) (hW : Wd D T A s ws H locs) (q0 : Nat) (he : ws[q0]? = some (a, .inr (3, fs))) (hv : fs[5]? = some v) (hdg : decode cc pc = .ok (.getfield 69, 3)) (kk : W p l e R s m args below meth c H locs cells slots Q (F0 m (pc + 3) ls (v :: rest))) : W p l e R s m args below meth c H locs cells slots Q (F0 m pc ls (.ref a :: rest)) :=
  va_get F.1 F.2.1 F.2.2.2.2 gX3 F.2.2.2.1 hW.1 hW.2.1 q0 he rfl 5 (by decide) (F.2.2.2.2 _ m68) (fun _ h => h) hv hdg kk
theorem pf68 (F : CallFix p m c cc nL s args gtbl RX6) (hW : Wd D T A s ws H locs) (q0 : Nat) (he : ws[q0]? = some (a, .inr (3, fs))) {x : Int32} (hl : Nat.blt 5 fs.length = true) (hw : ws.set q0 (a, .inr (3, fs.set 5 (.int x))) = ws') (hdg : decode cc pc = .ok (.putfield 69, 3)) (kk : ∀ (H1 : Heap) (locs1 : List Loc), Wd D T A s ws' H1 locs1 → W p l e R s m args below meth c H1 locs1 cells slots Q (F0 m (pc + 3) ls rest)) : W p l e R s m args below meth c H locs cells slots Q (F0 m pc ls (.int x :: .ref a :: rest)) :=
  va_put F.1 F.2.1 F.2.2.2.2 gX3 tyX3 tyX3_ok nmX3 F.2.2.2.1 hW.1 hW.2.1 hW.2.2.1 hW.2.2.2.1 q0 he rfl 5 (by decide) (F.2.2.2.2 _ m68) (fun _ h => h) rfl (ty := .int) (by decide +kernel) rfl rfl (Nat.le_of_ble_eq_true hl) hdg (fun H1 locs1 hP hD hS => kk H1 locs1 (hw ▸ ⟨hW.1, hP, hD, hS, hW.2.2.2.2⟩))
theorem gf98 (F : CallFix p m c cc nL s args gtbl RX4) (hW : Wd D T A s ws H locs) (q0 : Nat) (he : ws[q0]? = some (a, .inr (4, fs))) (hv : fs[0]? = some v) (hdg : decode cc pc = .ok (.getfield 7, 3)) (kk : W p l e R s m args below meth c H locs cells slots Q (F0 m (pc + 3) ls (v :: rest))) : W p l e R s m args below meth c H locs cells slots Q (F0 m pc ls (.ref a :: rest)) :=
  va_get F.1 F.2.1 F.2.2.2.2 gX4 F.2.2.2.1 hW.1 hW.2.1 q0 he rfl 0 (by decide) (F.2.2.2.2 _ m98) (fun _ h => h) hv hdg kk
theorem pf98 (F : CallFix p m c cc nL s args gtbl RX4) (hW : Wd D T A s ws H locs) (q0 : Nat) (he : ws[q0]? = some (a, .inr (4, fs))) {x : Int32} (hl : Nat.blt 0 fs.length = true) (hw : ws.set q0 (a, .inr (4, fs.set 0 (.int x))) = ws') (hdg : decode cc pc = .ok (.putfield 7, 3)) (kk : ∀ (H1 : Heap) (locs1 : List Loc), Wd D T A s ws' H1 locs1 → W p l e R s m args below meth c H1 locs1 cells slots Q (F0 m (pc + 3) ls rest)) : W p l e R s m args below meth c H locs cells slots Q (F0 m pc ls (.int x :: .ref a :: rest)) :=
  va_put F.1 F.2.1 F.2.2.2.2 gX4 tyX4 tyX4_ok nmX4 F.2.2.2.1 hW.1 hW.2.1 hW.2.2.1 hW.2.2.2.1 q0 he rfl 0 (by decide) (F.2.2.2.2 _ m98) (fun _ h => h) rfl (ty := .int) (by decide +kernel) rfl rfl (Nat.le_of_ble_eq_true hl) hdg (fun H1 locs1 hP hD hS => kk H1 locs1 (hw ▸ ⟨hW.1, hP, hD, hS, hW.2.2.2.2⟩))
theorem gf99 (F : CallFix p m c cc nL s args gtbl RX6) (hW : Wd D T A s ws H locs) (q0 : Nat) (he : ws[q0]? = some (a, .inr (4, fs))) (hv : fs[0]? = some v) (hdg : decode cc pc = .ok (.getfield 144, 3)) (kk : W p l e R s m args below meth c H locs cells slots Q (F0 m (pc + 3) ls (v :: rest))) : W p l e R s m args below meth c H locs cells slots Q (F0 m pc ls (.ref a :: rest)) :=
  va_get F.1 F.2.1 F.2.2.2.2 gX4 F.2.2.2.1 hW.1 hW.2.1 q0 he rfl 0 (by decide) (F.2.2.2.2 _ m99) (fun _ h => h) hv hdg kk
theorem pf99 (F : CallFix p m c cc nL s args gtbl RX6) (hW : Wd D T A s ws H locs) (q0 : Nat) (he : ws[q0]? = some (a, .inr (4, fs))) {x : Int32} (hl : Nat.blt 0 fs.length = true) (hw : ws.set q0 (a, .inr (4, fs.set 0 (.int x))) = ws') (hdg : decode cc pc = .ok (.putfield 144, 3)) (kk : ∀ (H1 : Heap) (locs1 : List Loc), Wd D T A s ws' H1 locs1 → W p l e R s m args below meth c H1 locs1 cells slots Q (F0 m (pc + 3) ls rest)) : W p l e R s m args below meth c H locs cells slots Q (F0 m pc ls (.int x :: .ref a :: rest)) :=
  va_put F.1 F.2.1 F.2.2.2.2 gX4 tyX4 tyX4_ok nmX4 F.2.2.2.1 hW.1 hW.2.1 hW.2.2.1 hW.2.2.2.1 q0 he rfl 0 (by decide) (F.2.2.2.2 _ m99) (fun _ h => h) rfl (ty := .int) (by decide +kernel) rfl rfl (Nat.le_of_ble_eq_true hl) hdg (fun H1 locs1 hP hD hS => kk H1 locs1 (hw ▸ ⟨hW.1, hP, hD, hS, hW.2.2.2.2⟩))
theorem gf100 (F : CallFix p m c cc nL s args gtbl RX4) (hW : Wd D T A s ws H locs) (q0 : Nat) (he : ws[q0]? = some (a, .inr (4, fs))) (hv : fs[1]? = some v) (hdg : decode cc pc = .ok (.getfield 13, 3)) (kk : W p l e R s m args below meth c H locs cells slots Q (F0 m (pc + 3) ls (v :: rest))) : W p l e R s m args below meth c H locs cells slots Q (F0 m pc ls (.ref a :: rest)) :=
  va_get F.1 F.2.1 F.2.2.2.2 gX4 F.2.2.2.1 hW.1 hW.2.1 q0 he rfl 1 (by decide) (F.2.2.2.2 _ m100) (fun _ h => h) hv hdg kk
theorem pf100 (F : CallFix p m c cc nL s args gtbl RX4) (hW : Wd D T A s ws H locs) (q0 : Nat) (he : ws[q0]? = some (a, .inr (4, fs))) {x : Int32} (hl : Nat.blt 1 fs.length = true) (hw : ws.set q0 (a, .inr (4, fs.set 1 (.int x))) = ws') (hdg : decode cc pc = .ok (.putfield 13, 3)) (kk : ∀ (H1 : Heap) (locs1 : List Loc), Wd D T A s ws' H1 locs1 → W p l e R s m args below meth c H1 locs1 cells slots Q (F0 m (pc + 3) ls rest)) : W p l e R s m args below meth c H locs cells slots Q (F0 m pc ls (.int x :: .ref a :: rest)) :=
  va_put F.1 F.2.1 F.2.2.2.2 gX4 tyX4 tyX4_ok nmX4 F.2.2.2.1 hW.1 hW.2.1 hW.2.2.1 hW.2.2.2.1 q0 he rfl 1 (by decide) (F.2.2.2.2 _ m100) (fun _ h => h) rfl (ty := .int) (by decide +kernel) rfl rfl (Nat.le_of_ble_eq_true hl) hdg (fun H1 locs1 hP hD hS => kk H1 locs1 (hw ▸ ⟨hW.1, hP, hD, hS, hW.2.2.2.2⟩))
theorem gf101 (F : CallFix p m c cc nL s args gtbl RX6) (hW : Wd D T A s ws H locs) (q0 : Nat) (he : ws[q0]? = some (a, .inr (4, fs))) (hv : fs[1]? = some v) (hdg : decode cc pc = .ok (.getfield 84, 3)) (kk : W p l e R s m args below meth c H locs cells slots Q (F0 m (pc + 3) ls (v :: rest))) : W p l e R s m args below meth c H locs cells slots Q (F0 m pc ls (.ref a :: rest)) :=
  va_get F.1 F.2.1 F.2.2.2.2 gX4 F.2.2.2.1 hW.1 hW.2.1 q0 he rfl 1 (by decide) (F.2.2.2.2 _ m101) (fun _ h => h) hv hdg kk
theorem pf101 (F : CallFix p m c cc nL s args gtbl RX6) (hW : Wd D T A s ws H locs) (q0 : Nat) (he : ws[q0]? = some (a, .inr (4, fs))) {x : Int32} (hl : Nat.blt 1 fs.length = true) (hw : ws.set q0 (a, .inr (4, fs.set 1 (.int x))) = ws') (hdg : decode cc pc = .ok (.putfield 84, 3)) (kk : ∀ (H1 : Heap) (locs1 : List Loc), Wd D T A s ws' H1 locs1 → W p l e R s m args below meth c H1 locs1 cells slots Q (F0 m (pc + 3) ls rest)) : W p l e R s m args below meth c H locs cells slots Q (F0 m pc ls (.int x :: .ref a :: rest)) :=
  va_put F.1 F.2.1 F.2.2.2.2 gX4 tyX4 tyX4_ok nmX4 F.2.2.2.1 hW.1 hW.2.1 hW.2.2.1 hW.2.2.2.1 q0 he rfl 1 (by decide) (F.2.2.2.2 _ m101) (fun _ h => h) rfl (ty := .int) (by decide +kernel) rfl rfl (Nat.le_of_ble_eq_true hl) hdg (fun H1 locs1 hP hD hS => kk H1 locs1 (hw ▸ ⟨hW.1, hP, hD, hS, hW.2.2.2.2⟩))
theorem gf102 (F : CallFix p m c cc nL s args gtbl RX3) (hW : Wd D T A s ws H locs) (q0 : Nat) (he : ws[q0]? = some (a, .inr (4, fs))) (hv : fs[1]? = some v) (hdg : decode cc pc = .ok (.getfield 72, 3)) (kk : W p l e R s m args below meth c H locs cells slots Q (F0 m (pc + 3) ls (v :: rest))) : W p l e R s m args below meth c H locs cells slots Q (F0 m pc ls (.ref a :: rest)) :=
  va_get F.1 F.2.1 F.2.2.2.2 gX4 F.2.2.2.1 hW.1 hW.2.1 q0 he rfl 1 (by decide) (F.2.2.2.2 _ m102) (fun _ h => h) hv hdg kk
theorem pf102 (F : CallFix p m c cc nL s args gtbl RX3) (hW : Wd D T A s ws H locs) (q0 : Nat) (he : ws[q0]? = some (a, .inr (4, fs))) {x : Int32} (hl : Nat.blt 1 fs.length = true) (hw : ws.set q0 (a, .inr (4, fs.set 1 (.int x))) = ws') (hdg : decode cc pc = .ok (.putfield 72, 3)) (kk : ∀ (H1 : Heap) (locs1 : List Loc), Wd D T A s ws' H1 locs1 → W p l e R s m args below meth c H1 locs1 cells slots Q (F0 m (pc + 3) ls rest)) : W p l e R s m args below meth c H locs cells slots Q (F0 m pc ls (.int x :: .ref a :: rest)) :=
  va_put F.1 F.2.1 F.2.2.2.2 gX4 tyX4 tyX4_ok nmX4 F.2.2.2.1 hW.1 hW.2.1 hW.2.2.1 hW.2.2.2.1 q0 he rfl 1 (by decide) (F.2.2.2.2 _ m102) (fun _ h => h) rfl (ty := .int) (by decide +kernel) rfl rfl (Nat.le_of_ble_eq_true hl) hdg (fun H1 locs1 hP hD hS => kk H1 locs1 (hw ▸ ⟨hW.1, hP, hD, hS, hW.2.2.2.2⟩))
theorem gf103 (F : CallFix p m c cc nL s args gtbl RX4) (hW : Wd D T A s ws H locs) (q0 : Nat) (he : ws[q0]? = some (a, .inr (4, fs))) (hv : fs[2]? = some v) (hdg : decode cc pc = .ok (.getfield 16, 3)) (kk : W p l e R s m args below meth c H locs cells slots Q (F0 m (pc + 3) ls (v :: rest))) : W p l e R s m args below meth c H locs cells slots Q (F0 m pc ls (.ref a :: rest)) :=
  va_get F.1 F.2.1 F.2.2.2.2 gX4 F.2.2.2.1 hW.1 hW.2.1 q0 he rfl 2 (by decide) (F.2.2.2.2 _ m103) (fun _ h => h) hv hdg kk
theorem pf103 (F : CallFix p m c cc nL s args gtbl RX4) (hW : Wd D T A s ws H locs) (q0 : Nat) (he : ws[q0]? = some (a, .inr (4, fs))) {x : Int32} (hl : Nat.blt 2 fs.length = true) (hw : ws.set q0 (a, .inr (4, fs.set 2 (.int x))) = ws') (hdg : decode cc pc = .ok (.putfield 16, 3)) (kk : ∀ (H1 : Heap) (locs1 : List Loc), Wd D T A s ws' H1 locs1 → W p l e R s m args below meth c H1 locs1 cells slots Q (F0 m (pc + 3) ls rest)) : W p l e R s m args below meth c H locs cells slots Q (F0 m pc ls (.int x :: .ref a :: rest)) :=
  va_put F.1 F.2.1 F.2.2.2.2 gX4 tyX4 tyX4_ok nmX4 F.2.2.2.1 hW.1 hW.2.1 hW.2.2.1 hW.2.2.2.1 q0 he rfl 2 (by decide) (F.2.2.2.2 _ m103) (fun _ h => h) rfl (ty := .int) (by decide +kernel) rfl rfl (Nat.le_of_ble_eq_true hl) hdg (fun H1 locs1 hP hD hS => kk H1 locs1 (hw ▸ ⟨hW.1, hP, hD, hS, hW.2.2.2.2⟩))
theorem gf104 (F : CallFix p m c cc nL s args gtbl RX6) (hW : Wd D T A s ws H locs) (q0 : Nat) (he : ws[q0]? = some (a, .inr (4, fs))) (hv : fs[2]? = some v) (hdg : decode cc pc = .ok (.getfield 147, 3)) (kk : W p l e R s m args below meth c H locs cells slots Q (F0 m (pc + 3) ls (v :: rest))) : W p l e R s m args below meth c H locs cells slots Q (F0 m pc ls (.ref a :: rest)) :=
  va_get F.1 F.2.1 F.2.2.2.2 gX4 F.2.2.2.1 hW.1 hW.2.1 q0 he rfl 2 (by decide) (F.2.2.2.2 _ m104) (fun _ h => h) hv hdg kk
theorem pf104 (F : CallFix p m c cc nL s args gtbl RX6) (hW : Wd D T A s ws H locs) (q0 : Nat) (he : ws[q0]? = some (a, .inr (4, fs))) {x : Int32} (hl : Nat.blt 2 fs.length = true) (hw : ws.set q0 (a, .inr (4, fs.set 2 (.int x))) = ws') (hdg : decode cc pc = .ok (.putfield 147, 3)) (kk : ∀ (H1 : Heap) (locs1 : List Loc), Wd D T A s ws' H1 locs1 → W p l e R s m args below meth c H1 locs1 cells slots Q (F0 m (pc + 3) ls rest)) : W p l e R s m args below meth c H locs cells slots Q (F0 m pc ls (.int x :: .ref a :: rest)) :=
  va_put F.1 F.2.1 F.2.2.2.2 gX4 tyX4 tyX4_ok nmX4 F.2.2.2.1 hW.1 hW.2.1 hW.2.2.1 hW.2.2.2.1 q0 he rfl 2 (by decide) (F.2.2.2.2 _ m104) (fun _ h => h) rfl (ty := .int) (by decide +kernel) rfl rfl (Nat.le_of_ble_eq_true hl) hdg (fun H1 locs1 hP hD hS => kk H1 locs1 (hw ▸ ⟨hW.1, hP, hD, hS, hW.2.2.2.2⟩))
theorem gf105 (F : CallFix p m c cc nL s args gtbl RX3) (hW : Wd D T A s ws H locs) (q0 : Nat) (he : ws[q0]? = some (a, .inr (4, fs))) (hv : fs[2]? = some v) (hdg : decode cc pc = .ok (.getfield 61, 3)) (kk : W p l e R s m args below meth c H locs cells slots Q (F0 m (pc + 3) ls (v :: rest))) : W p l e R s m args below meth c H locs cells slots Q (F0 m pc ls (.ref a :: rest)) :=
  va_get F.1 F.2.1 F.2.2.2.2 gX4 F.2.2.2.1 hW.1 hW.2.1 q0 he rfl 2 (by decide) (F.2.2.2.2 _ m105) (fun _ h => h) hv hdg kk
theorem pf105 (F : CallFix p m c cc nL s args gtbl RX3) (hW : Wd D T A s ws H locs) (q0 : Nat) (he : ws[q0]? = some (a, .inr (4, fs))) {x : Int32} (hl : Nat.blt 2 fs.length = true) (hw : ws.set q0 (a, .inr (4, fs.set 2 (.int x))) = ws') (hdg : decode cc pc = .ok (.putfield 61, 3)) (kk : ∀ (H1 : Heap) (locs1 : List Loc), Wd D T A s ws' H1 locs1 → W p l e R s m args below meth c H1 locs1 cells slots Q (F0 m (pc + 3) ls rest)) : W p l e R s m args below meth c H locs cells slots Q (F0 m pc ls (.int x :: .ref a :: rest)) :=
  va_put F.1 F.2.1 F.2.2.2.2 gX4 tyX4 tyX4_ok nmX4 F.2.2.2.1 hW.1 hW.2.1 hW.2.2.1 hW.2.2.2.1 q0 he rfl 2 (by decide) (F.2.2.2.2 _ m105) (fun _ h => h) rfl (ty := .int) (by decide +kernel) rfl rfl (Nat.le_of_ble_eq_true hl) hdg (fun H1 locs1 hP hD hS => kk H1 locs1 (hw ▸ ⟨hW.1, hP, hD, hS, hW.2.2.2.2⟩))
theorem gf106 (F : CallFix p m c cc nL s args gtbl RX4) (hW : Wd D T A s ws H locs) (q0 : Nat) (he : ws[q0]? = some (a, .inr (4, fs))) (hv : fs[3]? = some v) (hdg : decode cc pc = .ok (.getfield 19, 3)) (kk : W p l e R s m args below meth c H locs cells slots Q (F0 m (pc + 3) ls (v :: rest))) : W p l e R s m args below meth c H locs cells slots Q (F0 m pc ls (.ref a :: rest)) :=
  va_get F.1 F.2.1 F.2.2.2.2 gX4 F.2.2.2.1 hW.1 hW.2.1 q0 he rfl 3 (by decide) (F.2.2.2.2 _ m106) (fun _ h => h) hv hdg kk
theorem pf106 (F : CallFix p m c cc nL s args gtbl RX4) (hW : Wd D T A s ws H locs) (q0 : Nat) (he : ws[q0]? = some (a, .inr (4, fs))) {x : Int32} (hl : Nat.blt 3 fs.length = true) (hw : ws.set q0 (a, .inr (4, fs.set 3 (.int x))) = ws') (hdg : decode cc pc = .ok (.putfield 19, 3)) (kk : ∀ (H1 : Heap) (locs1 : List Loc), Wd D T A s ws' H1 locs1 → W p l e R s m args below meth c H1 locs1 cells slots Q (F0 m (pc + 3) ls rest)) : W p l e R s m args below meth c H locs cells slots Q (F0 m pc ls (.int x :: .ref a :: rest)) :=
  va_put F.1 F.2.1 F.2.2.2.2 gX4 tyX4 tyX4_ok nmX4 F.2.2.2.1 hW.1 hW.2.1 hW.2.2.1 hW.2.2.2.1 q0 he rfl 3 (by decide) (F.2.2.2.2 _ m106) (fun _ h => h) rfl (ty := .int) (by decide +kernel) rfl rfl (Nat.le_of_ble_eq_true hl) hdg (fun H1 locs1 hP hD hS => kk H1 locs1 (hw ▸ ⟨hW.1, hP, hD, hS, hW.2.2.2.2⟩))
theorem gf107 (F : CallFix p m c cc nL s args gtbl RX6) (hW : Wd D T A s ws H locs) (q0 : Nat) (he : ws[q0]? = some (a, .inr (4, fs))) (hv : fs[3]? = some v) (hdg : decode cc pc = .ok (.getfield 150, 3)) (kk : W p l e R s m args below meth c H locs cells slots Q (F0 m (pc + 3) ls (v :: rest))) : W p l e R s m args below meth c H locs cells slots Q (F0 m pc ls (.ref a :: rest)) :=
  va_get F.1 F.2.1 F.2.2.2.2 gX4 F.2.2.2.1 hW.1 hW.2.1 q0 he rfl 3 (by decide) (F.2.2.2.2 _ m107) (fun _ h => h) hv hdg kk
theorem pf107 (F : CallFix p m c cc nL s args gtbl RX6) (hW : Wd D T A s ws H locs) (q0 : Nat) (he : ws[q0]? = some (a, .inr (4, fs))) {x : Int32} (hl : Nat.blt 3 fs.length = true) (hw : ws.set q0 (a, .inr (4, fs.set 3 (.int x))) = ws') (hdg : decode cc pc = .ok (.putfield 150, 3)) (kk : ∀ (H1 : Heap) (locs1 : List Loc), Wd D T A s ws' H1 locs1 → W p l e R s m args below meth c H1 locs1 cells slots Q (F0 m (pc + 3) ls rest)) : W p l e R s m args below meth c H locs cells slots Q (F0 m pc ls (.int x :: .ref a :: rest)) :=
  va_put F.1 F.2.1 F.2.2.2.2 gX4 tyX4 tyX4_ok nmX4 F.2.2.2.1 hW.1 hW.2.1 hW.2.2.1 hW.2.2.2.1 q0 he rfl 3 (by decide) (F.2.2.2.2 _ m107) (fun _ h => h) rfl (ty := .int) (by decide +kernel) rfl rfl (Nat.le_of_ble_eq_true hl) hdg (fun H1 locs1 hP hD hS => kk H1 locs1 (hw ▸ ⟨hW.1, hP, hD, hS, hW.2.2.2.2⟩))
theorem gf108 (F : CallFix p m c cc nL s args gtbl RX3) (hW : Wd D T A s ws H locs) (q0 : Nat) (he : ws[q0]? = some (a, .inr (4, fs))) (hv : fs[3]? = some v) (hdg : decode cc pc = .ok (.getfield 85, 3)) (kk : W p l e R s m args below meth c H locs cells slots Q (F0 m (pc + 3) ls (v :: rest))) : W p l e R s m args below meth c H locs cells slots Q (F0 m pc ls (.ref a :: rest)) :=
  va_get F.1 F.2.1 F.2.2.2.2 gX4 F.2.2.2.1 hW.1 hW.2.1 q0 he rfl 3 (by decide) (F.2.2.2.2 _ m108) (fun _ h => h) hv hdg kk
theorem pf108 (F : CallFix p m c cc nL s args gtbl RX3) (hW : Wd D T A s ws H locs) (q0 : Nat) (he : ws[q0]? = some (a, .inr (4, fs))) {x : Int32} (hl : Nat.blt 3 fs.length = true) (hw : ws.set q0 (a, .inr (4, fs.set 3 (.int x))) = ws') (hdg : decode cc pc = .ok (.putfield 85, 3)) (kk : ∀ (H1 : Heap) (locs1 : List Loc), Wd D T A s ws' H1 locs1 → W p l e R s m args below meth c H1 locs1 cells slots Q (F0 m (pc + 3) ls rest)) : W p l e R s m args below meth c H locs cells slots Q (F0 m pc ls (.int x :: .ref a :: rest)) :=
  va_put F.1 F.2.1 F.2.2.2.2 gX4 tyX4 tyX4_ok nmX4 F.2.2.2.1 hW.1 hW.2.1 hW.2.2.1 hW.2.2.2.1 q0 he rfl 3 (by decide) (F.2.2.2.2 _ m108) (fun _ h => h) rfl (ty := .int) (by decide +kernel) rfl rfl (Nat.le_of_ble_eq_true hl) hdg (fun H1 locs1 hP hD hS => kk H1 locs1 (hw ▸ ⟨hW.1, hP, hD, hS, hW.2.2.2.2⟩))
theorem gf109 (F : CallFix p m c cc nL s args gtbl RX4) (hW : Wd D T A s ws H locs) (q0 : Nat) (he : ws[q0]? = some (a, .inr (4, fs))) (hv : fs[4]? = some v) (hdg : decode cc pc = .ok (.getfield 22, 3)) (kk : W p l e R s m args below meth c H locs cells slots Q (F0 m (pc + 3) ls (v :: rest))) : W p l e R s m args below meth c H locs cells slots Q (F0 m pc ls (.ref a :: rest)) :=
  va_get F.1 F.2.1 F.2.2.2.2 gX4 F.2.2.2.1 hW.1 hW.2.1 q0 he rfl 4 (by decide) (F.2.2.2.2 _ m109) (fun _ h => h) hv hdg kk
theorem pf109 (F : CallFix p m c cc nL s args gtbl RX4) (hW : Wd D T A s ws H locs) (q0 : Nat) (he : ws[q0]? = some (a, .inr (4, fs))) {x : Int32} (hl : Nat.blt 4 fs.length = true) (hw : ws.set q0 (a, .inr (4, fs.set 4 (.int x))) = ws') (hdg : decode cc pc = .ok (.putfield 22, 3)) (kk : ∀ (H1 : Heap) (locs1 : List Loc), Wd D T A s ws' H1 locs1 → W p l e R s m args below meth c H1 locs1 cells slots Q (F0 m (pc + 3) ls rest)) : W p l e R s m args below meth c H locs cells slots Q (F0 m pc ls (.int x :: .ref a :: rest)) :=
  va_put F.1 F.2.1 F.2.2.2.2 gX4 tyX4 tyX4_ok nmX4 F.2.2.2.1 hW.1 hW.2.1 hW.2.2.1 hW.2.2.2.1 q0 he rfl 4 (by decide) (F.2.2.2.2 _ m109) (fun _ h => h) rfl (ty := .int) (by decide +kernel) rfl rfl (Nat.le_of_ble_eq_true hl) hdg (fun H1 locs1 hP hD hS => kk H1 locs1 (hw ▸ ⟨hW.1, hP, hD, hS, hW.2.2.2.2⟩))
theorem gf110 (F : CallFix p m c cc nL s args gtbl RX6) (hW : Wd D T A s ws H locs) (q0 : Nat) (he : ws[q0]? = some (a, .inr (4, fs))) (hv : fs[4]? = some v) (hdg : decode cc pc = .ok (.getfield 153, 3)) (kk : W p l e R s m args below meth c H locs cells slots Q (F0 m (pc + 3) ls (v :: rest))) : W p l e R s m args below meth c H locs cells slots Q (F0 m pc ls (.ref a :: rest)) :=
  va_get F.1 F.2.1 F.2.2.2.2 gX4 F.2.2.2.1 hW.1 hW.2.1 q0 he rfl 4 (by decide) (F.2.2.2.2 _ m110) (fun _ h => h) hv hdg kk
theorem pf110 (F : CallFix p m c cc nL s args gtbl RX6) (hW : Wd D T A s ws H locs) (q0 : Nat) (he : ws[q0]? = some (a, .inr (4, fs))) {x : Int32} (hl : Nat.blt 4 fs.length = true) (hw : ws.set q0 (a, .inr (4, fs.set 4 (.int x))) = ws') (hdg : decode cc pc = .ok (.putfield 153, 3)) (kk : ∀ (H1 : Heap) (locs1 : List Loc), Wd D T A s ws' H1 locs1 → W p l e R s m args below meth c H1 locs1 cells slots Q (F0 m (pc + 3) ls rest)) : W p l e R s m args below meth c H locs cells slots Q (F0 m pc ls (.int x :: .ref a :: rest)) :=
  va_put F.1 F.2.1 F.2.2.2.2 gX4 tyX4 tyX4_ok nmX4 F.2.2.2.1 hW.1 hW.2.1 hW.2.2.1 hW.2.2.2.1 q0 he rfl 4 (by decide) (F.2.2.2.2 _ m110) (fun _ h => h) rfl (ty := .int) (by decide +kernel) rfl rfl (Nat.le_of_ble_eq_true hl) hdg (fun H1 locs1 hP hD hS => kk H1 locs1 (hw ▸ ⟨hW.1, hP, hD, hS, hW.2.2.2.2⟩))
theorem gf111 (F : CallFix p m c cc nL s args gtbl RX3) (hW : Wd D T A s ws H locs) (q0 : Nat) (he : ws[q0]? = some (a, .inr (4, fs))) (hv : fs[4]? = some v) (hdg : decode cc pc = .ok (.getfield 82, 3)) (kk : W p l e R s m args below meth c H locs cells slots Q (F0 m (pc + 3) ls (v :: rest))) : W p l e R s m args below meth c H locs cells slots Q (F0 m pc ls (.ref a :: rest)) :=
  va_get F.1 F.2.1 F.2.2.2.2 gX4 F.2.2.2.1 hW.1 hW.2.1 q0 he rfl 4 (by decide) (F.2.2.2.2 _ m111) (fun _ h => h) hv hdg kk
theorem pf111 (F : CallFix p m c cc nL s args gtbl RX3) (hW : Wd D T A s ws H locs) (q0 : Nat) (he : ws[q0]? = some (a, .inr (4, fs))) {x : Int32} (hl : Nat.blt 4 fs.length = true) (hw : ws.set q0 (a, .inr (4, fs.set 4 (.int x))) = ws') (hdg : decode cc pc = .ok (.putfield 82, 3)) (kk : ∀ (H1 : Heap) (locs1 : List Loc), Wd D T A s ws' H1 locs1 → W p l e R s m args below meth c H1 locs1 cells slots Q (F0 m (pc + 3) ls rest)) : W p l e R s m args below meth c H locs cells slots Q (F0 m pc ls (.int x :: .ref a :: rest)) :=
  va_put F.1 F.2.1 F.2.2.2.2 gX4 tyX4 tyX4_ok nmX4 F.2.2.2.1 hW.1 hW.2.1 hW.2.2.1 hW.2.2.2.1 q0 he rfl 4 (by decide) (F.2.2.2.2 _ m111) (fun _ h => h) rfl (ty := .int) (by decide +kernel) rfl rfl (Nat.le_of_ble_eq_true hl) hdg (fun H1 locs1 hP hD hS => kk H1 locs1 (hw ▸ ⟨hW.1, hP, hD, hS, hW.2.2.2.2⟩))
theorem gf123 (F : CallFix p m c cc nL s args gtbl RX5) (hW : Wd D T A s ws H locs) (q0 : Nat) (he : ws[q0]? = some (a, .inr (5, fs))) (hv : fs[0]? = some v) (hdg : decode cc pc = .ok (.getfield 12, 3)) (kk : W p l e R s m args below meth c H locs cells slots Q (F0 m (pc + 3) ls (v :: rest))) : W p l e R s m args below meth c H locs cells slots Q (F0 m pc ls (.ref a :: rest)) :=
  va_get F.1 F.2.1 F.2.2.2.2 gX5 F.2.2.2.1 hW.1 hW.2.1 q0 he rfl 0 (by decide) (F.2.2.2.2 _ m123) (fun _ h => h) hv hdg kk
theorem gf124 (F : CallFix p m c cc nL s args gtbl RX6) (hW : Wd D T A s ws H locs) (q0 : Nat) (he : ws[q0]? = some (a, .inr (5, fs))) (hv : fs[0]? = some v) (hdg : decode cc pc = .ok (.getfield 45, 3)) (kk : W p l e R s m args below meth c H locs cells slots Q (F0 m (pc + 3) ls (v :: rest))) : W p l e R s m args below meth c H locs cells slots Q (F0 m pc ls (.ref a :: rest)) :=
  va_get F.1 F.2.1 F.2.2.2.2 gX5 F.2.2.2.1 hW.1 hW.2.1 q0 he rfl 0 (by decide) (F.2.2.2.2 _ m124) (fun _ h => h) hv hdg kk
theorem gf125 (F : CallFix p m c cc nL s args gtbl RX5) (hW : Wd D T A s ws H locs) (q0 : Nat) (he : ws[q0]? = some (a, .inr (5, fs))) (hv : fs[1]? = some v) (hdg : decode cc pc = .ok (.getfield 27, 3)) (kk : W p l e R s m args below meth c H locs cells slots Q (F0 m (pc + 3) ls (v :: rest))) : W p l e R s m args below meth c H locs cells slots Q (F0 m pc ls (.ref a :: rest)) :=
  va_get F.1 F.2.1 F.2.2.2.2 gX5 F.2.2.2.1 hW.1 hW.2.1 q0 he rfl 1 (by decide) (F.2.2.2.2 _ m125) (fun _ h => h) hv hdg kk
theorem gf126 (F : CallFix p m c cc nL s args gtbl RX6) (hW : Wd D T A s ws H locs) (q0 : Nat) (he : ws[q0]? = some (a, .inr (5, fs))) (hv : fs[1]? = some v) (hdg : decode cc pc = .ok (.getfield 49, 3)) (kk : W p l e R s m args below meth c H locs cells slots Q (F0 m (pc + 3) ls (v :: rest))) : W p l e R s m args below meth c H locs cells slots Q (F0 m pc ls (.ref a :: rest)) :=
  va_get F.1 F.2.1 F.2.2.2.2 gX5 F.2.2.2.1 hW.1 hW.2.1 q0 he rfl 1 (by decide) (F.2.2.2.2 _ m126) (fun _ h => h) hv hdg kk
theorem gf127 (F : CallFix p m c cc nL s args gtbl RX5) (hW : Wd D T A s ws H locs) (q0 : Nat) (he : ws[q0]? = some (a, .inr (5, fs))) (hv : fs[2]? = some v) (hdg : decode cc pc = .ok (.getfield 33, 3)) (kk : W p l e R s m args below meth c H locs cells slots Q (F0 m (pc + 3) ls (v :: rest))) : W p l e R s m args below meth c H locs cells slots Q (F0 m pc ls (.ref a :: rest)) :=
  va_get F.1 F.2.1 F.2.2.2.2 gX5 F.2.2.2.1 hW.1 hW.2.1 q0 he rfl 2 (by decide) (F.2.2.2.2 _ m127) (fun _ h => h) hv hdg kk
theorem gf128 (F : CallFix p m c cc nL s args gtbl RX6) (hW : Wd D T A s ws H locs) (q0 : Nat) (he : ws[q0]? = some (a, .inr (5, fs))) (hv : fs[2]? = some v) (hdg : decode cc pc = .ok (.getfield 80, 3)) (kk : W p l e R s m args below meth c H locs cells slots Q (F0 m (pc + 3) ls (v :: rest))) : W p l e R s m args below meth c H locs cells slots Q (F0 m pc ls (.ref a :: rest)) :=
  va_get F.1 F.2.1 F.2.2.2.2 gX5 F.2.2.2.1 hW.1 hW.2.1 q0 he rfl 2 (by decide) (F.2.2.2.2 _ m128) (fun _ h => h) hv hdg kk
theorem gf129 (F : CallFix p m c cc nL s args gtbl RX5) (hW : Wd D T A s ws H locs) (q0 : Nat) (he : ws[q0]? = some (a, .inr (5, fs))) (hv : fs[3]? = some v) (hdg : decode cc pc = .ok (.getfield 37, 3)) (kk : W p l e R s m args below meth c H locs cells slots Q (F0 m (pc + 3) ls (v :: rest))) : W p l e R s m args below meth c H locs cells slots Q (F0 m pc ls (.ref a :: rest)) :=
  va_get F.1 F.2.1 F.2.2.2.2 gX5 F.2.2.2.1 hW.1 hW.2.1 q0 he rfl 3 (by decide) (F.2.2.2.2 _ m129) (fun _ h => h) hv hdg kk
theorem gf130 (F : CallFix p m c cc nL s args gtbl RX6) (hW : Wd D T A s ws H locs) (q0 : Nat) (he : ws[q0]? = some (a, .inr (5, fs))) (hv : fs[3]? = some v) (hdg : decode cc pc = .ok (.getfield 156, 3)) (kk : W p l e R s m args below meth c H locs cells slots Q (F0 m (pc + 3) ls (v :: rest))) : W p l e R s m args below meth c H locs cells slots Q (F0 m pc ls (.ref a :: rest)) :=
  va_get F.1 F.2.1 F.2.2.2.2 gX5 F.2.2.2.1 hW.1 hW.2.1 q0 he rfl 3 (by decide) (F.2.2.2.2 _ m130) (fun _ h => h) hv hdg kk
theorem gf149 (F : CallFix p m c cc nL s args gtbl RX0) (hW : Wd D T A s ws H locs) (q0 : Nat) (he : ws[q0]? = some (a, .inr (0, fs))) (hv : fs[0]? = some v) (hdg : decode cc pc = .ok (.getfield 11, 3)) (kk : W p l e R s m args below meth c H locs cells slots Q (F0 m (pc + 3) ls (v :: rest))) : W p l e R s m args below meth c H locs cells slots Q (F0 m pc ls (.ref a :: rest)) :=
  va_get F.1 F.2.1 F.2.2.2.2 gX0 F.2.2.2.1 hW.1 hW.2.1 q0 he rfl 0 (by decide) (F.2.2.2.2 _ m149) (fun _ h => h) hv hdg kk
theorem gf150 (F : CallFix p m c cc nL s args gtbl RX0) (hW : Wd D T A s ws H locs) (q0 : Nat) (he : ws[q0]? = some (a, .inr (0, fs))) (hv : fs[1]? = some v) (hdg : decode cc pc = .ok (.getfield 18, 3)) (kk : W p l e R s m args below meth c H locs cells slots Q (F0 m (pc + 3) ls (v :: rest))) : W p l e R s m args below meth c H locs cells slots Q (F0 m pc ls (.ref a :: rest)) :=
  va_get F.1 F.2.1 F.2.2.2.2 gX0 F.2.2.2.1 hW.1 hW.2.1 q0 he rfl 1 (by decide) (F.2.2.2.2 _ m150) (fun _ h => h) hv hdg kk
theorem pf150 (F : CallFix p m c cc nL s args gtbl RX0) (hW : Wd D T A s ws H locs) (q0 : Nat) (he : ws[q0]? = some (a, .inr (0, fs))) {x : Int32} (hl : Nat.blt 1 fs.length = true) (hw : ws.set q0 (a, .inr (0, fs.set 1 (.int x))) = ws') (hdg : decode cc pc = .ok (.putfield 18, 3)) (kk : ∀ (H1 : Heap) (locs1 : List Loc), Wd D T A s ws' H1 locs1 → W p l e R s m args below meth c H1 locs1 cells slots Q (F0 m (pc + 3) ls rest)) : W p l e R s m args below meth c H locs cells slots Q (F0 m pc ls (.int x :: .ref a :: rest)) :=
  va_put F.1 F.2.1 F.2.2.2.2 gX0 tyX0 tyX0_ok nmX0 F.2.2.2.1 hW.1 hW.2.1 hW.2.2.1 hW.2.2.2.1 q0 he rfl 1 (by decide) (F.2.2.2.2 _ m150) (fun _ h => h) rfl (ty := .int) (by decide +kernel) rfl rfl (Nat.le_of_ble_eq_true hl) hdg (fun H1 locs1 hP hD hS => kk H1 locs1 (hw ▸ ⟨hW.1, hP, hD, hS, hW.2.2.2.2⟩))
theorem gf151 (F : CallFix p m c cc nL s args gtbl RX0) (hW : Wd D T A s ws H locs) (q0 : Nat) (he : ws[q0]? = some (a, .inr (0, fs))) (hv : fs[2]? = some v) (hdg : decode cc pc = .ok (.getfield 22, 3)) (kk : W p l e R s m args below meth c H locs cells slots Q (F0 m (pc + 3) ls (v :: rest))) : W p l e R s m args below meth c H locs cells slots Q (F0 m pc ls (.ref a :: rest)) :=
  va_get F.1 F.2.1 F.2.2.2.2 gX0 F.2.2.2.1 hW.1 hW.2.1 q0 he rfl 2 (by decide) (F.2.2.2.2 _ m151) (fun _ h => h) hv hdg kk
theorem pf151 (F : CallFix p m c cc nL s args gtbl RX0) (hW : Wd D T A s ws H locs) (q0 : Nat) (he : ws[q0]? = some (a, .inr (0, fs))) {x : Int32} (hl : Nat.blt 2 fs.length = true) (hw : ws.set q0 (a, .inr (0, fs.set 2 (.int x))) = ws') (hdg : decode cc pc = .ok (.putfield 22, 3)) (kk : ∀ (H1 : Heap) (locs1 : List Loc), Wd D T A s ws' H1 locs1 → W p l e R s m args below meth c H1 locs1 cells slots Q (F0 m (pc + 3) ls rest)) : W p l e R s m args below meth c H locs cells slots Q (F0 m pc ls (.int x :: .ref a :: rest)) :=
  va_put F.1 F.2.1 F.2.2.2.2 gX0 tyX0 tyX0_ok nmX0 F.2.2.2.1 hW.1 hW.2.1 hW.2.2.1 hW.2.2.2.1 q0 he rfl 2 (by decide) (F.2.2.2.2 _ m151) (fun _ h => h) rfl (ty := .int) (by decide +kernel) rfl rfl (Nat.le_of_ble_eq_true hl) hdg (fun H1 locs1 hP hD hS => kk H1 locs1 (hw ▸ ⟨hW.1, hP, hD, hS, hW.2.2.2.2⟩))
theorem gf152 (F : CallFix p m c cc nL s args gtbl RX6) (hW : Wd D T A s ws H locs) (q0 : Nat) (he : ws[q0]? = some (a, .inr (0, fs))) (hv : fs[2]? = some v) (hdg : decode cc pc = .ok (.getfield 141, 3)) (kk : W p l e R s m args below meth c H locs cells slots Q (F0 m (pc + 3) ls (v :: rest))) : W p l e R s m args below meth c H locs cells slots Q (F0 m pc ls (.ref a :: rest)) :=
  va_get F.1 F.2.1 F.2.2.2.2 gX0 F.2.2.2.1 hW.1 hW.2.1 q0 he rfl 2 (by decide) (F.2.2.2.2 _ m152) (fun _ h => h) hv hdg kk
theorem pf152 (F : CallFix p m c cc nL s args gtbl RX6) (hW : Wd D T A s ws H locs) (q0 : Nat) (he : ws[q0]? = some (a, .inr (0, fs))) {x : Int32} (hl : Nat.blt 2 fs.length = true) (hw : ws.set q0 (a, .inr (0, fs.set 2 (.int x))) = ws') (hdg : decode cc pc = .ok (.putfield 141, 3)) (kk : ∀ (H1 : Heap) (locs1 : List Loc), Wd D T A s ws' H1 locs1 → W p l e R s m args below meth c H1 locs1 cells slots Q (F0 m (pc + 3) ls rest)) : W p l e R s m args below meth c H locs cells slots Q (F0 m pc ls (.int x :: .ref a :: rest)) :=
  va_put F.1 F.2.1 F.2.2.2.2 gX0 tyX0 tyX0_ok nmX0 F.2.2.2.1 hW.1 hW.2.1 hW.2.2.1 hW.2.2.2.1 q0 he rfl 2 (by decide) (F.2.2.2.2 _ m152) (fun _ h => h) rfl (ty := .int) (by decide +kernel) rfl rfl (Nat.le_of_ble_eq_true hl) hdg (fun H1 locs1 hP hD hS => kk H1 locs1 (hw ▸ ⟨hW.1, hP, hD, hS, hW.2.2.2.2⟩))
theorem gf166 (F : CallFix p m c cc nL s args gtbl RX2) (hW : Wd D T A s ws H locs) (q0 : Nat) (he : ws[q0]? = some (a, .inr (2, fs))) (hv : fs[0]? = some v) (hdg : decode cc pc = .ok (.getfield 9, 3)) (kk : W p l e R s m args below meth c H locs cells slots Q (F0 m (pc + 3) ls (v :: rest))) : W p l e R s m args below meth c H locs cells slots Q (F0 m pc ls (.ref a :: rest)) :=
  va_get F.1 F.2.1 F.2.2.2.2 gX2 F.2.2.2.1 hW.1 hW.2.1 q0 he rfl 0 (by decide) (F.2.2.2.2 _ m166) (fun _ h => h) hv hdg kk
theorem gf167 (F : CallFix p m c cc nL s args gtbl RX2) (hW : Wd D T A s ws H locs) (q0 : Nat) (he : ws[q0]? = some (a, .inr (2, fs))) (hv : fs[1]? = some v) (hdg : decode cc pc = .ok (.getfield 15, 3)) (kk : W p l e R s m args below meth c H locs cells slots Q (F0 m (pc + 3) ls (v :: rest))) : W p l e R s m args below meth c H locs cells slots Q (F0 m pc ls (.ref a :: rest)) :=
  va_get F.1 F.2.1 F.2.2.2.2 gX2 F.2.2.2.1 hW.1 hW.2.1 q0 he rfl 1 (by decide) (F.2.2.2.2 _ m167) (fun _ h => h) hv hdg kk
theorem gf168 (F : CallFix p m c cc nL s args gtbl RX6) (hW : Wd D T A s ws H locs) (q0 : Nat) (he : ws[q0]? = some (a, .inr (2, fs))) (hv : fs[1]? = some v) (hdg : decode cc pc = .ok (.getfield 97, 3)) (kk : W p l e R s m args below meth c H locs cells slots Q (F0 m (pc + 3) ls (v :: rest))) : W p l e R s m args below meth c H locs cells slots Q (F0 m pc ls (.ref a :: rest)) :=
  va_get F.1 F.2.1 F.2.2.2.2 gX2 F.2.2.2.1 hW.1 hW.2.1 q0 he rfl 1 (by decide) (F.2.2.2.2 _ m168) (fun _ h => h) hv hdg kk
theorem gf169 (F : CallFix p m c cc nL s args gtbl RX2) (hW : Wd D T A s ws H locs) (q0 : Nat) (he : ws[q0]? = some (a, .inr (2, fs))) (hv : fs[2]? = some v) (hdg : decode cc pc = .ok (.getfield 25, 3)) (kk : W p l e R s m args below meth c H locs cells slots Q (F0 m (pc + 3) ls (v :: rest))) : W p l e R s m args below meth c H locs cells slots Q (F0 m pc ls (.ref a :: rest)) :=
  va_get F.1 F.2.1 F.2.2.2.2 gX2 F.2.2.2.1 hW.1 hW.2.1 q0 he rfl 2 (by decide) (F.2.2.2.2 _ m169) (fun _ h => h) hv hdg kk
theorem pf169 (F : CallFix p m c cc nL s args gtbl RX2) (hW : Wd D T A s ws H locs) (q0 : Nat) (he : ws[q0]? = some (a, .inr (2, fs))) {x : Int32} (hl : Nat.blt 2 fs.length = true) (hw : ws.set q0 (a, .inr (2, fs.set 2 (.int x))) = ws') (hdg : decode cc pc = .ok (.putfield 25, 3)) (kk : ∀ (H1 : Heap) (locs1 : List Loc), Wd D T A s ws' H1 locs1 → W p l e R s m args below meth c H1 locs1 cells slots Q (F0 m (pc + 3) ls rest)) : W p l e R s m args below meth c H locs cells slots Q (F0 m pc ls (.int x :: .ref a :: rest)) :=
  va_put F.1 F.2.1 F.2.2.2.2 gX2 tyX2 tyX2_ok nmX2 F.2.2.2.1 hW.1 hW.2.1 hW.2.2.1 hW.2.2.2.1 q0 he rfl 2 (by decide) (F.2.2.2.2 _ m169) (fun _ h => h) rfl (ty := .int) (by decide +kernel) rfl rfl (Nat.le_of_ble_eq_true hl) hdg (fun H1 locs1 hP hD hS => kk H1 locs1 (hw ▸ ⟨hW.1, hP, hD, hS, hW.2.2.2.2⟩))
theorem gf170 (F : CallFix p m c cc nL s args gtbl RX6) (hW : Wd D T A s ws H locs) (q0 : Nat) (he : ws[q0]? = some (a, .inr (2, fs))) (hv : fs[2]? = some v) (hdg : decode cc pc = .ok (.getfield 104, 3)) (kk : W p l e R s m args below meth c H locs cells slots Q (F0 m (pc + 3) ls (v :: rest))) : W p l e R s m args below meth c H locs cells slots Q (F0 m pc ls (.ref a :: rest)) :=
  va_get F.1 F.2.1 F.2.2.2.2 gX2 F.2.2.2.1 hW.1 hW.2.1 q0 he rfl 2 (by decide) (F.2.2.2.2 _ m170) (fun _ h => h) hv hdg kk
theorem pf170 (F : CallFix p m c cc nL s args gtbl RX6) (hW : Wd D T A s ws H locs) (q0 : Nat) (he : ws[q0]? = some (a, .inr (2, fs))) {x : Int32} (hl : Nat.blt 2 fs.length = true) (hw : ws.set q0 (a, .inr (2, fs.set 2 (.int x))) = ws') (hdg : decode cc pc = .ok (.putfield 104, 3)) (kk : ∀ (H1 : Heap) (locs1 : List Loc), Wd D T A s ws' H1 locs1 → W p l e R s m args below meth c H1 locs1 cells slots Q (F0 m (pc + 3) ls rest)) : W p l e R s m args below meth c H locs cells slots Q (F0 m pc ls (.int x :: .ref a :: rest)) :=
  va_put F.1 F.2.1 F.2.2.2.2 gX2 tyX2 tyX2_ok nmX2 F.2.2.2.1 hW.1 hW.2.1 hW.2.2.1 hW.2.2.2.1 q0 he rfl 2 (by decide) (F.2.2.2.2 _ m170) (fun _ h => h) rfl (ty := .int) (by decide +kernel) rfl rfl (Nat.le_of_ble_eq_true hl) hdg (fun H1 locs1 hP hD hS => kk H1 locs1 (hw ▸ ⟨hW.1, hP, hD, hS, hW.2.2.2.2⟩))
theorem gf191 (F : CallFix p m c cc nL s args gtbl RX1) (hW : Wd D T A s ws H locs) (q0 : Nat) (he : ws[q0]? = some (a, .inr (1, fs))) (hv : fs[0]? = some v) (hdg : decode cc pc = .ok (.getfield 12, 3)) (kk : W p l e R s m args below meth c H locs cells slots Q (F0 m (pc + 3) ls (v :: rest))) : W p l e R s m args below meth c H locs cells slots Q (F0 m pc ls (.ref a :: rest)) :=
  va_get F.1 F.2.1 F.2.2.2.2 gX1 F.2.2.2.1 hW.1 hW.2.1 q0 he rfl 0 (by decide) (F.2.2.2.2 _ m191) (fun _ h => h) hv hdg kk
theorem gf192 (F : CallFix p m c cc nL s args gtbl RX6) (hW : Wd D T A s ws H locs) (q0 : Nat) (he : ws[q0]? = some (a, .inr (1, fs))) (hv : fs[0]? = some v) (hdg : decode cc pc = .ok (.getfield 159, 3)) (kk : W p l e R s m args below meth c H locs cells slots Q (F0 m (pc + 3) ls (v :: rest))) : W p l e R s m args below meth c H locs cells slots Q (F0 m pc ls (.ref a :: rest)) :=
  va_get F.1 F.2.1 F.2.2.2.2 gX1 F.2.2.2.1 hW.1 hW.2.1 q0 he rfl 0 (by decide) (F.2.2.2.2 _ m192) (fun _ h => h) hv hdg kk
theorem gf193 (F : CallFix p m c cc nL s args gtbl RX1) (hW : Wd D T A s ws H locs) (q0 : Nat) (he : ws[q0]? = some (a, .inr (1, fs))) (hv : fs[1]? = some v) (hdg : decode cc pc = .ok (.getfield 21, 3)) (kk : W p l e R s m args below meth c H locs cells slots Q (F0 m (pc + 3) ls (v :: rest))) : W p l e R s m args below meth c H locs cells slots Q (F0 m pc ls (.ref a :: rest)) :=
  va_get F.1 F.2.1 F.2.2.2.2 gX1 F.2.2.2.1 hW.1 hW.2.1 q0 he rfl 1 (by decide) (F.2.2.2.2 _ m193) (fun _ h => h) hv hdg kk
theorem gf194 (F : CallFix p m c cc nL s args gtbl RX6) (hW : Wd D T A s ws H locs) (q0 : Nat) (he : ws[q0]? = some (a, .inr (1, fs))) (hv : fs[1]? = some v) (hdg : decode cc pc = .ok (.getfield 162, 3)) (kk : W p l e R s m args below meth c H locs cells slots Q (F0 m (pc + 3) ls (v :: rest))) : W p l e R s m args below meth c H locs cells slots Q (F0 m pc ls (.ref a :: rest)) :=
  va_get F.1 F.2.1 F.2.2.2.2 gX1 F.2.2.2.1 hW.1 hW.2.1 q0 he rfl 1 (by decide) (F.2.2.2.2 _ m194) (fun _ h => h) hv hdg kk
theorem gf195 (F : CallFix p m c cc nL s args gtbl RX1) (hW : Wd D T A s ws H locs) (q0 : Nat) (he : ws[q0]? = some (a, .inr (1, fs))) (hv : fs[2]? = some v) (hdg : decode cc pc = .ok (.getfield 25, 3)) (kk : W p l e R s m args below meth c H locs cells slots Q (F0 m (pc + 3) ls (v :: rest))) : W p l e R s m args below meth c H locs cells slots Q (F0 m pc ls (.ref a :: rest)) :=
  va_get F.1 F.2.1 F.2.2.2.2 gX1 F.2.2.2.1 hW.1 hW.2.1 q0 he rfl 2 (by decide) (F.2.2.2.2 _ m195) (fun _ h => h) hv hdg kk
theorem gf211 (F : CallFix p m c cc nL s args gtbl RX6) (hW : Wd D T A s ws H locs) (q0 : Nat) (he : ws[q0]? = some (a, .inr (6, fs))) (hv : fs[0]? = some v) (hdg : decode cc pc = .ok (.getfield 12, 3)) (kk : W p l e R s m args below meth c H locs cells slots Q (F0 m (pc + 3) ls (v :: rest))) : W p l e R s m args below meth c H locs cells slots Q (F0 m pc ls (.ref a :: rest)) :=
  va_get F.1 F.2.1 F.2.2.2.2 gX6 F.2.2.2.1 hW.1 hW.2.1 q0 he rfl 0 (by decide) (F.2.2.2.2 _ m211) (fun _ h => h) hv hdg kk
theorem gf212 (F : CallFix p m c cc nL s args gtbl RX6) (hW : Wd D T A s ws H locs) (q0 : Nat) (he : ws[q0]? = some (a, .inr (6, fs))) (hv : fs[1]? = some v) (hdg : decode cc pc = .ok (.getfield 19, 3)) (kk : W p l e R s m args below meth c H locs cells slots Q (F0 m (pc + 3) ls (v :: rest))) : W p l e R s m args below meth c H locs cells slots Q (F0 m pc ls (.ref a :: rest)) :=
  va_get F.1 F.2.1 F.2.2.2.2 gX6 F.2.2.2.1 hW.1 hW.2.1 q0 he rfl 1 (by decide) (F.2.2.2.2 _ m212) (fun _ h => h) hv hdg kk
theorem gf213 (F : CallFix p m c cc nL s args gtbl RX6) (hW : Wd D T A s ws H locs) (q0 : Nat) (he : ws[q0]? = some (a, .inr (6, fs))) (hv : fs[2]? = some v) (hdg : decode cc pc = .ok (.getfield 23, 3)) (kk : W p l e R s m args below meth c H locs cells slots Q (F0 m (pc + 3) ls (v :: rest))) : W p l e R s m args below meth c H locs cells slots Q (F0 m pc ls (.ref a :: rest)) :=
  va_get F.1 F.2.1 F.2.2.2.2 gX6 F.2.2.2.1 hW.1 hW.2.1 q0 he rfl 2 (by decide) (F.2.2.2.2 _ m213) (fun _ h => h) hv hdg kk
theorem gf214 (F : CallFix p m c cc nL s args gtbl RX6) (hW : Wd D T A s ws H locs) (q0 : Nat) (he : ws[q0]? = some (a, .inr (6, fs))) (hv : fs[3]? = some v) (hdg : decode cc pc = .ok (.getfield 27, 3)) (kk : W p l e R s m args below meth c H locs cells slots Q (F0 m (pc + 3) ls (v :: rest))) : W p l e R s m args below meth c H locs cells slots Q (F0 m pc ls (.ref a :: rest)) :=
  va_get F.1 F.2.1 F.2.2.2.2 gX6 F.2.2.2.1 hW.1 hW.2.1 q0 he rfl 3 (by decide) (F.2.2.2.2 _ m214) (fun _ h => h) hv hdg kk
theorem gf215 (F : CallFix p m c cc nL s args gtbl RX6) (hW : Wd D T A s ws H locs) (q0 : Nat) (he : ws[q0]? = some (a, .inr (6, fs))) (hv : fs[4]? = some v) (hdg : decode cc pc = .ok (.getfield 34, 3)) (kk : W p l e R s m args below meth c H locs cells slots Q (F0 m (pc + 3) ls (v :: rest))) : W p l e R s m args below meth c H locs cells slots Q (F0 m pc ls (.ref a :: rest)) :=
  va_get F.1 F.2.1 F.2.2.2.2 gX6 F.2.2.2.1 hW.1 hW.2.1 q0 he rfl 4 (by decide) (F.2.2.2.2 _ m215) (fun _ h => h) hv hdg kk
theorem gf216 (F : CallFix p m c cc nL s args gtbl RX6) (hW : Wd D T A s ws H locs) (q0 : Nat) (he : ws[q0]? = some (a, .inr (6, fs))) (hv : fs[5]? = some v) (hdg : decode cc pc = .ok (.getfield 41, 3)) (kk : W p l e R s m args below meth c H locs cells slots Q (F0 m (pc + 3) ls (v :: rest))) : W p l e R s m args below meth c H locs cells slots Q (F0 m pc ls (.ref a :: rest)) :=
  va_get F.1 F.2.1 F.2.2.2.2 gX6 F.2.2.2.1 hW.1 hW.2.1 q0 he rfl 5 (by decide) (F.2.2.2.2 _ m216) (fun _ h => h) hv hdg kk
theorem gf480 (F : CallFix p m c cc nL s args gtbl RX7) (hW : Wd D T A s ws H locs) (q0 : Nat) (he : ws[q0]? = some (a, .inr (7, fs))) (hv : fs[0]? = some v) (hdg : decode cc pc = .ok (.getfield 7, 3)) (kk : W p l e R s m args below meth c H locs cells slots Q (F0 m (pc + 3) ls (v :: rest))) : W p l e R s m args below meth c H locs cells slots Q (F0 m pc ls (.ref a :: rest)) :=
  va_get F.1 F.2.1 F.2.2.2.2 gX7 F.2.2.2.1 hW.1 hW.2.1 q0 he rfl 0 (by decide) (F.2.2.2.2 _ m480) (fun _ h => h) hv hdg kk
theorem gf481 (F : CallFix p m c cc nL s args gtbl RX7) (hW : Wd D T A s ws H locs) (q0 : Nat) (he : ws[q0]? = some (a, .inr (7, fs))) (hv : fs[1]? = some v) (hdg : decode cc pc = .ok (.getfield 13, 3)) (kk : W p l e R s m args below meth c H locs cells slots Q (F0 m (pc + 3) ls (v :: rest))) : W p l e R s m args below meth c H locs cells slots Q (F0 m pc ls (.ref a :: rest)) :=
  va_get F.1 F.2.1 F.2.2.2.2 gX7 F.2.2.2.1 hW.1 hW.2.1 q0 he rfl 1 (by decide) (F.2.2.2.2 _ m481) (fun _ h => h) hv hdg kk
theorem gf482 (F : CallFix p m c cc nL s args gtbl RX7) (hW : Wd D T A s ws H locs) (q0 : Nat) (he : ws[q0]? = some (a, .inr (7, fs))) (hv : fs[2]? = some v) (hdg : decode cc pc = .ok (.getfield 43, 3)) (kk : W p l e R s m args below meth c H locs cells slots Q (F0 m (pc + 3) ls (v :: rest))) : W p l e R s m args below meth c H locs cells slots Q (F0 m pc ls (.ref a :: rest)) :=
  va_get F.1 F.2.1 F.2.2.2.2 gX7 F.2.2.2.1 hW.1 hW.2.1 q0 he rfl 2 (by decide) (F.2.2.2.2 _ m482) (fun _ h => h) hv hdg kk
theorem pf482 (F : CallFix p m c cc nL s args gtbl RX7) (hW : Wd D T A s ws H locs) (q0 : Nat) (he : ws[q0]? = some (a, .inr (7, fs))) {x : Int32} (hl : Nat.blt 2 fs.length = true) (hw : ws.set q0 (a, .inr (7, fs.set 2 (.int x))) = ws') (hdg : decode cc pc = .ok (.putfield 43, 3)) (kk : ∀ (H1 : Heap) (locs1 : List Loc), Wd D T A s ws' H1 locs1 → W p l e R s m args below meth c H1 locs1 cells slots Q (F0 m (pc + 3) ls rest)) : W p l e R s m args below meth c H locs cells slots Q (F0 m pc ls (.int x :: .ref a :: rest)) :=
  va_put F.1 F.2.1 F.2.2.2.2 gX7 tyX7 tyX7_ok nmX7 F.2.2.2.1 hW.1 hW.2.1 hW.2.2.1 hW.2.2.2.1 q0 he rfl 2 (by decide) (F.2.2.2.2 _ m482) (fun _ h => h) rfl (ty := .int) (by decide +kernel) rfl rfl (Nat.le_of_ble_eq_true hl) hdg (fun H1 locs1 hP hD hS => kk H1 locs1 (hw ▸ ⟨hW.1, hP, hD, hS, hW.2.2.2.2⟩))
theorem gf483 (F : CallFix p m c cc nL s args gtbl RX7) (hW : Wd D T A s ws H locs) (q0 : Nat) (he : ws[q0]? = some (a, .inr (7, fs))) (hv : fs[3]? = some v) (hdg : decode cc pc = .ok (.getfield 16, 3)) (kk : W p l e R s m args below meth c H locs cells slots Q (F0 m (pc + 3) ls (v :: rest))) : W p l e R s m args below meth c H locs cells slots Q (F0 m pc ls (.ref a :: rest)) :=
  va_get F.1 F.2.1 F.2.2.2.2 gX7 F.2.2.2.1 hW.1 hW.2.1 q0 he rfl 3 (by decide) (F.2.2.2.2 _ m483) (fun _ h => h) hv hdg kk
theorem gf484 (F : CallFix p m c cc nL s args gtbl RX7) (hW : Wd D T A s ws H locs) (q0 : Nat) (he : ws[q0]? = some (a, .inr (7, fs))) (hv : fs[4]? = some v) (hdg : decode cc pc = .ok (.getfield 19, 3)) (kk : W p l e R s m args below meth c H locs cells slots Q (F0 m (pc + 3) ls (v :: rest))) : W p l e R s m args below meth c H locs cells slots Q (F0 m pc ls (.ref a :: rest)) :=
  va_get F.1 F.2.1 F.2.2.2.2 gX7 F.2.2.2.1 hW.1 hW.2.1 q0 he rfl 4 (by decide) (F.2.2.2.2 _ m484) (fun _ h => h) hv hdg kk
theorem gf485 (F : CallFix p m c cc nL s args gtbl RX7) (hW : Wd D T A s ws H locs) (q0 : Nat) (he : ws[q0]? = some (a, .inr (7, fs))) (hv : fs[5]? = some v) (hdg : decode cc pc = .ok (.getfield 22, 3)) (kk : W p l e R s m args below meth c H locs cells slots Q (F0 m (pc + 3) ls (v :: rest))) : W p l e R s m args below meth c H locs cells slots Q (F0 m pc ls (.ref a :: rest)) :=
  va_get F.1 F.2.1 F.2.2.2.2 gX7 F.2.2.2.1 hW.1 hW.2.1 q0 he rfl 5 (by decide) (F.2.2.2.2 _ m485) (fun _ h => h) hv hdg kk
theorem gf486 (F : CallFix p m c cc nL s args gtbl RX7) (hW : Wd D T A s ws H locs) (q0 : Nat) (he : ws[q0]? = some (a, .inr (7, fs))) (hv : fs[6]? = some v) (hdg : decode cc pc = .ok (.getfield 25, 3)) (kk : W p l e R s m args below meth c H locs cells slots Q (F0 m (pc + 3) ls (v :: rest))) : W p l e R s m args below meth c H locs cells slots Q (F0 m pc ls (.ref a :: rest)) :=
  va_get F.1 F.2.1 F.2.2.2.2 gX7 F.2.2.2.1 hW.1 hW.2.1 q0 he rfl 6 (by decide) (F.2.2.2.2 _ m486) (fun _ h => h) hv hdg kk
theorem gf487 (F : CallFix p m c cc nL s args gtbl RX7) (hW : Wd D T A s ws H locs) (q0 : Nat) (he : ws[q0]? = some (a, .inr (7, fs))) (hv : fs[7]? = some v) (hdg : decode cc pc = .ok (.getfield 28, 3)) (kk : W p l e R s m args below meth c H locs cells slots Q (F0 m (pc + 3) ls (v :: rest))) : W p l e R s m args below meth c H locs cells slots Q (F0 m pc ls (.ref a :: rest)) :=
  va_get F.1 F.2.1 F.2.2.2.2 gX7 F.2.2.2.1 hW.1 hW.2.1 q0 he rfl 7 (by decide) (F.2.2.2.2 _ m487) (fun _ h => h) hv hdg kk
theorem gf488 (F : CallFix p m c cc nL s args gtbl RX7) (hW : Wd D T A s ws H locs) (q0 : Nat) (he : ws[q0]? = some (a, .inr (7, fs))) (hv : fs[8]? = some v) (hdg : decode cc pc = .ok (.getfield 31, 3)) (kk : W p l e R s m args below meth c H locs cells slots Q (F0 m (pc + 3) ls (v :: rest))) : W p l e R s m args below meth c H locs cells slots Q (F0 m pc ls (.ref a :: rest)) :=
  va_get F.1 F.2.1 F.2.2.2.2 gX7 F.2.2.2.1 hW.1 hW.2.1 q0 he rfl 8 (by decide) (F.2.2.2.2 _ m488) (fun _ h => h) hv hdg kk
theorem gf489 (F : CallFix p m c cc nL s args gtbl RX7) (hW : Wd D T A s ws H locs) (q0 : Nat) (he : ws[q0]? = some (a, .inr (7, fs))) (hv : fs[9]? = some v) (hdg : decode cc pc = .ok (.getfield 34, 3)) (kk : W p l e R s m args below meth c H locs cells slots Q (F0 m (pc + 3) ls (v :: rest))) : W p l e R s m args below meth c H locs cells slots Q (F0 m pc ls (.ref a :: rest)) :=
  va_get F.1 F.2.1 F.2.2.2.2 gX7 F.2.2.2.1 hW.1 hW.2.1 q0 he rfl 9 (by decide) (F.2.2.2.2 _ m489) (fun _ h => h) hv hdg kk
theorem gf490 (F : CallFix p m c cc nL s args gtbl RX7) (hW : Wd D T A s ws H locs) (q0 : Nat) (he : ws[q0]? = some (a, .inr (7, fs))) (hv : fs[10]? = some v) (hdg : decode cc pc = .ok (.getfield 130, 3)) (kk : W p l e R s m args below meth c H locs cells slots Q (F0 m (pc + 3) ls (v :: rest))) : W p l e R s m args below meth c H locs cells slots Q (F0 m pc ls (.ref a :: rest)) :=
  va_get F.1 F.2.1 F.2.2.2.2 gX7 F.2.2.2.1 hW.1 hW.2.1 q0 he rfl 10 (by decide) (F.2.2.2.2 _ m490) (fun _ h => h) hv hdg kk
theorem pf490 (F : CallFix p m c cc nL s args gtbl RX7) (hW : Wd D T A s ws H locs) (q0 : Nat) (he : ws[q0]? = some (a, .inr (7, fs))) {x : Int32} (hl : Nat.blt 10 fs.length = true) (hw : ws.set q0 (a, .inr (7, fs.set 10 (.int x))) = ws') (hdg : decode cc pc = .ok (.putfield 130, 3)) (kk : ∀ (H1 : Heap) (locs1 : List Loc), Wd D T A s ws' H1 locs1 → W p l e R s m args below meth c H1 locs1 cells slots Q (F0 m (pc + 3) ls rest)) : W p l e R s m args below meth c H locs cells slots Q (F0 m pc ls (.int x :: .ref a :: rest)) :=
  va_put F.1 F.2.1 F.2.2.2.2 gX7 tyX7 tyX7_ok nmX7 F.2.2.2.1 hW.1 hW.2.1 hW.2.2.1 hW.2.2.2.1 q0 he rfl 10 (by decide) (F.2.2.2.2 _ m490) (fun _ h => h) rfl (ty := .int) (by decide +kernel) rfl rfl (Nat.le_of_ble_eq_true hl) hdg (fun H1 locs1 hP hD hS => kk H1 locs1 (hw ▸ ⟨hW.1, hP, hD, hS, hW.2.2.2.2⟩))
theorem gf491 (F : CallFix p m c cc nL s args gtbl RX7) (hW : Wd D T A s ws H locs) (q0 : Nat) (he : ws[q0]? = some (a, .inr (7, fs))) (hv : fs[11]? = some v) (hdg : decode cc pc = .ok (.getfield 127, 3)) (kk : W p l e R s m args below meth c H locs cells slots Q (F0 m (pc + 3) ls (v :: rest))) : W p l e R s m args below meth c H locs cells slots Q (F0 m pc ls (.ref a :: rest)) :=
  va_get F.1 F.2.1 F.2.2.2.2 gX7 F.2.2.2.1 hW.1 hW.2.1 q0 he rfl 11 (by decide) (F.2.2.2.2 _ m491) (fun _ h => h) hv hdg kk
theorem pf491 (F : CallFix p m c cc nL s args gtbl RX7) (hW : Wd D T A s ws H locs) (q0 : Nat) (he : ws[q0]? = some (a, .inr (7, fs))) {x : Int32} (hl : Nat.blt 11 fs.length = true) (hw : ws.set q0 (a, .inr (7, fs.set 11 (.int x))) = ws') (hdg : decode cc pc = .ok (.putfield 127, 3)) (kk : ∀ (H1 : Heap) (locs1 : List Loc), Wd D T A s ws' H1 locs1 → W p l e R s m args below meth c H1 locs1 cells slots Q (F0 m (pc + 3) ls rest)) : W p l e R s m args below meth c H locs cells slots Q (F0 m pc ls (.int x :: .ref a :: rest)) :=
  va_put F.1 F.2.1 F.2.2.2.2 gX7 tyX7 tyX7_ok nmX7 F.2.2.2.1 hW.1 hW.2.1 hW.2.2.1 hW.2.2.2.1 q0 he rfl 11 (by decide) (F.2.2.2.2 _ m491) (fun _ h => h) rfl (ty := .int) (by decide +kernel) rfl rfl (Nat.le_of_ble_eq_true hl) hdg (fun H1 locs1 hP hD hS => kk H1 locs1 (hw ▸ ⟨hW.1, hP, hD, hS, hW.2.2.2.2⟩))
theorem gf492 (F : CallFix p m c cc nL s args gtbl RX7) (hW : Wd D T A s ws H locs) (q0 : Nat) (he : ws[q0]? = some (a, .inr (7, fs))) (hv : fs[12]? = some v) (hdg : decode cc pc = .ok (.getfield 37, 3)) (kk : W p l e R s m args below meth c H locs cells slots Q (F0 m (pc + 3) ls (v :: rest))) : W p l e R s m args below meth c H locs cells slots Q (F0 m pc ls (.ref a :: rest)) :=
  va_get F.1 F.2.1 F.2.2.2.2 gX7 F.2.2.2.1 hW.1 hW.2.1 q0 he rfl 12 (by decide) (F.2.2.2.2 _ m492) (fun _ h => h) hv hdg kk
end FLD
theorem cs203 : CalV RX6 53 RX3 yX3_fill cX3_fill 3 none 1 := ⟨⟨m203, m204, m205, m26, m206⟩, by decide +kernel⟩
theorem cs207 : CalV RX3 38 RX3 yX3_startGame cX3_startGame 2 none 0 := ⟨⟨m207, m209, m0, m26, m210⟩, by decide +kernel⟩
theorem cs230 : CalV RL 13 RX6 yX6_set cX6_set 4 (some .int) 2 := ⟨⟨m230, m231, m232, m24, m233⟩, by decide +kernel⟩
theorem cs238 : CalV RX6 65 RX0 yX0_remember cX0_remember 2 none 1 := ⟨⟨m238, m239, m240, m28, m241⟩, by decide +kernel⟩
theorem cs242 : CalV RX0 25 RX5 yX5_copyFrom cX5_copyFrom 2 none 1 := ⟨⟨m242, m243, m244, m25, m245⟩, by decide +kernel⟩
theorem cs246 : CalV RX5 40 RX3 yX3_copyFrom cX3_copyFrom 2 none 1 := ⟨⟨m246, m247, m248, m26, m249⟩, by decide +kernel⟩
theorem cs254 : CalV RX5 50 RX4 yX4_copyFrom cX4_copyFrom 2 none 1 := ⟨⟨m254, m255, m256, m27, m257⟩, by decide +kernel⟩
theorem cs258 : CalV RL 18 RX6 yX6_begin cX6_begin 2 (some .int) 0 := ⟨⟨m258, m259, m260, m24, m261⟩, by decide +kernel⟩
theorem cs262 : CalV RL 23 RX6 yX6_move cX6_move 3 (some .int) 1 := ⟨⟨m262, m263, m264, m24, m265⟩, by decide +kernel⟩
theorem cs266 : CalV RX6 73 RX6 yX6_errorOfMove cX6_errorOfMove 2 (some .int) 1 := ⟨⟨m266, m268, m1, m24, m269⟩, by decide +kernel⟩
theorem cs270 : CalS RX6 110 yX6_isHouse cX6_isHouse 1 (some .boolean) 1 := ⟨⟨m270, m271, m24, m272⟩, by decide +kernel⟩
theorem cs273 : CalV RX6 198 RX3 yX3_canMoveFrom cX3_canMoveFrom 2 (some .boolean) 1 := ⟨⟨m273, m274, m275, m26, m276⟩, by decide +kernel⟩
theorem cs277 : CalS RX3 49 yX3_ownerOf cX3_ownerOf 1 (some .int) 1 := ⟨⟨m277, m278, m26, m279⟩, by decide +kernel⟩
theorem cs280 : CalV RX6 77 RX5 yX5_makeMove cX5_makeMove 3 none 1 := ⟨⟨m280, m281, m282, m25, m283⟩, by decide +kernel⟩
theorem cs284 : CalV RX5 57 RX3 yX3_makeMove cX3_makeMove 6 none 3 := ⟨⟨m284, m285, m286, m26, m287⟩, by decide +kernel⟩
theorem cs288 : CalV RX3 56 RX4 yX4_clear cX4_clear 2 none 1 := ⟨⟨m288, m289, m290, m27, m291⟩, by decide +kernel⟩
theorem cs292 : CalV RX3 64 RX3 yX3_sowLap cX3_sowLap 7 (some .boolean) 3 := ⟨⟨m292, m294, m2, m26, m295⟩, by decide +kernel⟩
theorem cs296 : CalV RX3 68 RX3 yX3_sowHand cX3_sowHand 7 (some .int) 3 := ⟨⟨m296, m298, m3, m26, m299⟩, by decide +kernel⟩
theorem cs300 : CalS RX3 79 yX3_houseBehind cX3_houseBehind 1 (some .int) 1 := ⟨⟨m300, m301, m26, m302⟩, by decide +kernel⟩
theorem cs303 : CalV RX3 45 RX3 yX3_isHostile cX3_isHostile 3 (some .boolean) 2 := ⟨⟨m303, m304, m305, m26, m306⟩, by decide +kernel⟩
theorem cs307 : CalV RX3 75 RX3 yX3_captureAcross cX3_captureAcross 5 none 2 := ⟨⟨m307, m309, m4, m26, m310⟩, by decide +kernel⟩
theorem cs311 : CalV RX3 41 RX3 yX3_giveTurnTo cX3_giveTurnTo 3 none 1 := ⟨⟨m311, m313, m5, m26, m314⟩, by decide +kernel⟩
theorem cs315 : CalV RX3 88 RX3 yX3_isDecided cX3_isDecided 3 (some .boolean) 0 := ⟨⟨m315, m317, m6, m26, m318⟩, by decide +kernel⟩
theorem cs319 : CalV RX3 53 RX3 yX3_seedsInHousesOf cX3_seedsInHousesOf 4 (some .int) 1 := ⟨⟨m319, m320, m321, m26, m322⟩, by decide +kernel⟩
theorem cs323 : CalV RL 28 RX6 yX6_play cX6_play 3 (some .int) 1 := ⟨⟨m323, m324, m325, m24, m326⟩, by decide +kernel⟩
theorem cs327 : CalV RX6 89 RX1 yX1_bestHouse cX1_bestHouse 8 (some .int) 3 := ⟨⟨m327, m328, m329, m30, m330⟩, by decide +kernel⟩
theorem cs331 : CalV RX1 37 RX3 yX3_canMoveFrom cX3_canMoveFrom 2 (some .boolean) 1 := ⟨⟨m331, m274, m275, m26, m276⟩, by decide +kernel⟩
theorem cs332 : CalV RX1 41 RX1 yX1_valueBehind cX1_valueBehind 7 (some .int) 4 := ⟨⟨m332, m334, m7, m30, m335⟩, by decide +kernel⟩
theorem cs336 : CalV RX1 33 RX3 yX3_lead cX3_lead 1 (some .int) 0 := ⟨⟨m336, m337, m338, m26, m339⟩, by decide +kernel⟩
theorem cs340 : CalV RX1 51 RX3 yX3_copyFrom cX3_copyFrom 2 none 1 := ⟨⟨m340, m247, m248, m26, m249⟩, by decide +kernel⟩
theorem cs341 : CalV RX1 55 RX3 yX3_makeMove cX3_makeMove 6 none 3 := ⟨⟨m341, m285, m286, m26, m287⟩, by decide +kernel⟩
theorem cs342 : CalV RX1 59 RX1 yX1_valueOf cX1_valueOf 6 (some .int) 3 := ⟨⟨m342, m343, m344, m30, m345⟩, by decide +kernel⟩
theorem cs349 : CalV RL 32 RX6 yX6_read cX6_read 1 (some .int) 0 := ⟨⟨m349, m350, m351, m24, m352⟩, by decide +kernel⟩
theorem cs353 : CalV RX6 93 RX2 yX2_scan cX2_scan 6 (some .int) 0 := ⟨⟨m353, m354, m355, m29, m356⟩, by decide +kernel⟩
theorem cs357 : CalV RX2 29 RX2 yX2_digitFits cX2_digitFits 5 (some .boolean) 3 := ⟨⟨m357, m359, m8, m29, m360⟩, by decide +kernel⟩
theorem cs361 : CalS RX2 33 yX2_signBehind cX2_signBehind 1 (some .char) 1 := ⟨⟨m361, m362, m29, m363⟩, by decide +kernel⟩
theorem cs364 : CalV RX6 100 RX3 yX3_fillFrom cX3_fillFrom 3 none 1 := ⟨⟨m364, m365, m366, m26, m367⟩, by decide +kernel⟩
theorem cs368 : CalV RX6 107 RX3 yX3_allSeeds cX3_allSeeds 1 (some .int) 0 := ⟨⟨m368, m369, m370, m26, m371⟩, by decide +kernel⟩
theorem cs372 : CalV RL 36 RX6 yX6_house cX6_house 3 (some .int) 2 := ⟨⟨m372, m373, m374, m24, m375⟩, by decide +kernel⟩
theorem cs376 : CalV RX6 120 RX3 yX3_isHostile cX3_isHostile 3 (some .boolean) 2 := ⟨⟨m376, m304, m305, m26, m306⟩, by decide +kernel⟩
theorem cs377 : CalV RL 40 RX6 yX6_count cX6_count 3 (some .int) 1 := ⟨⟨m377, m378, m379, m24, m380⟩, by decide +kernel⟩
theorem cs381 : CalV RX6 131 RX3 yX3_winner cX3_winner 1 (some .int) 0 := ⟨⟨m381, m382, m383, m26, m384⟩, by decide +kernel⟩
theorem cs385 : CalV RX6 137 RX3 yX3_hostileHouses cX3_hostileHouses 4 (some .int) 1 := ⟨⟨m385, m386, m387, m26, m388⟩, by decide +kernel⟩
theorem cs389 : CalV RL 44 RX6 yX6_last cX6_last 2 (some .int) 1 := ⟨⟨m389, m390, m391, m24, m392⟩, by decide +kernel⟩
theorem cs393 : CalV RL 48 RX6 yX6_moved cX6_moved 2 (some .int) 1 := ⟨⟨m393, m394, m395, m24, m396⟩, by decide +kernel⟩
theorem cs397 : CalV RL 52 RX6 yX6_ifMove cX6_ifMove 6 (some .int) 2 := ⟨⟨m397, m398, m399, m24, m400⟩, by decide +kernel⟩
theorem cs401 : CalV RX6 165 RX3 yX3_copyFrom cX3_copyFrom 2 none 1 := ⟨⟨m401, m247, m248, m26, m249⟩, by decide +kernel⟩
theorem cs402 : CalV RX6 169 RX3 yX3_makeMove cX3_makeMove 6 none 3 := ⟨⟨m402, m285, m286, m26, m287⟩, by decide +kernel⟩
theorem cs403 : CalS RX6 172 yX6_storeGain cX6_storeGain 2 (some .int) 2 := ⟨⟨m403, m404, m24, m405⟩, by decide +kernel⟩
theorem cs406 : CalV RL 56 RX6 yX6_worth cX6_worth 2 (some .int) 1 := ⟨⟨m406, m407, m408, m24, m409⟩, by decide +kernel⟩
theorem cs410 : CalV RX6 176 RX1 yX1_valueOf cX1_valueOf 6 (some .int) 3 := ⟨⟨m410, m343, m344, m30, m345⟩, by decide +kernel⟩
theorem cs411 : CalV RL 60 RX6 yX6_best cX6_best 2 (some .int) 1 := ⟨⟨m411, m412, m413, m24, m414⟩, by decide +kernel⟩
theorem cs415 : CalV RL 64 RX6 yX6_movesLeft cX6_movesLeft 2 (some .int) 1 := ⟨⟨m415, m416, m417, m24, m418⟩, by decide +kernel⟩
theorem cs419 : CalV RX6 179 RX1 yX1_movesToTheEnd cX1_movesToTheEnd 6 (some .int) 3 := ⟨⟨m419, m420, m421, m30, m422⟩, by decide +kernel⟩
theorem cs423 : CalV RX1 67 RX1 yX1_bestHouse cX1_bestHouse 8 (some .int) 3 := ⟨⟨m423, m328, m329, m30, m330⟩, by decide +kernel⟩
theorem cs424 : CalV RL 70 RX6 yX6_put cX6_put 4 (some .int) 1 := ⟨⟨m424, m425, m426, m24, m427⟩, by decide +kernel⟩
theorem cs428 : CalS RX6 182 yX2_charactersIn cX2_charactersIn 7 (some .int) 1 := ⟨⟨m428, m429, m29, m430⟩, by decide +kernel⟩
theorem cs434 : CalV RX6 186 RX2 yX2_append cX2_append 5 none 2 := ⟨⟨m434, m435, m436, m29, m437⟩, by decide +kernel⟩
theorem cs438 : CalV RL 75 RX6 yX6_wipe cX6_wipe 2 (some .int) 0 := ⟨⟨m438, m439, m440, m24, m441⟩, by decide +kernel⟩
theorem cs442 : CalV RL 79 RX6 yX6_fault cX6_fault 1 (some .int) 0 := ⟨⟨m442, m443, m444, m24, m445⟩, by decide +kernel⟩
theorem cs446 : CalV RL 83 RX6 yX6_undo cX6_undo 1 (some .int) 0 := ⟨⟨m446, m447, m448, m24, m449⟩, by decide +kernel⟩
theorem cs450 : CalV RX6 190 RX0 yX0_takeBack cX0_takeBack 2 none 1 := ⟨⟨m450, m451, m452, m28, m453⟩, by decide +kernel⟩
theorem cs454 : CalV RL 87 RX6 yX6_save cX6_save 2 (some .int) 1 := ⟨⟨m454, m455, m456, m24, m457⟩, by decide +kernel⟩
theorem cs458 : CalS RX6 193 yX6_isSlot cX6_isSlot 1 (some .boolean) 1 := ⟨⟨m458, m459, m24, m460⟩, by decide +kernel⟩
theorem cs461 : CalV RX6 196 RX5 yX5_copyFrom cX5_copyFrom 2 none 1 := ⟨⟨m461, m243, m244, m25, m245⟩, by decide +kernel⟩
theorem cs462 : CalV RL 91 RX6 yX6_restore cX6_restore 2 (some .int) 1 := ⟨⟨m462, m463, m464, m24, m465⟩, by decide +kernel⟩
theorem cs472 : CalV RX7 40 RX7 yX7_anew cX7_anew 2 none 0 := ⟨⟨m472, m474, m9, m31, m475⟩, by decide +kernel⟩
theorem cs476 : CalV RX7 47 RX7 yX7_empties cX7_empties 2 none 0 := ⟨⟨m476, m478, m10, m31, m479⟩, by decide +kernel⟩
theorem cs520 : CalV RL 17 RX7 yX7_set cX7_set 4 (some .int) 2 := ⟨⟨m520, m521, m522, m31, m523⟩, by decide +kernel⟩
theorem cs524 : CalS RX7 105 yX7_isSetting cX7_isSetting 2 (some .boolean) 2 := ⟨⟨m524, m525, m31, m526⟩, by decide +kernel⟩
theorem cs528 : CalS RX7 97 yX7_in cX7_in 6 (some .boolean) 3 := ⟨⟨m528, m529, m31, m530⟩, by decide +kernel⟩
theorem cs533 : CalV RX7 109 RX7 yX7_record cX7_record 2 none 0 := ⟨⟨m533, m535, m11, m31, m536⟩, by decide +kernel⟩
theorem cs537 : CalV RL 22 RX7 yX7_begin cX7_begin 2 (some .int) 0 := ⟨⟨m537, m538, m539, m31, m540⟩, by decide +kernel⟩
theorem cs541 : CalV RL 27 RX7 yX7_move cX7_move 2 (some .int) 1 := ⟨⟨m541, m542, m543, m31, m544⟩, by decide +kernel⟩
theorem cs545 : CalS RX7 114 yX7_isHouse cX7_isHouse 1 (some .boolean) 1 := ⟨⟨m545, m546, m31, m547⟩, by decide +kernel⟩
theorem cs549 : CalS RX7 78 yX7_canMove cX7_canMove 3 (some .boolean) 3 := ⟨⟨m549, m550, m31, m551⟩, by decide +kernel⟩
theorem cs552 : CalS RX7 58 yX7_owner cX7_owner 1 (some .int) 1 := ⟨⟨m552, m553, m31, m554⟩, by decide +kernel⟩
theorem cs555 : CalV RX7 118 RX7 yX7_makes cX7_makes 2 none 1 := ⟨⟨m555, m557, m12, m31, m558⟩, by decide +kernel⟩
theorem cs559 : CalS RX7 85 yX7_moves cX7_moves 8 none 3 := ⟨⟨m559, m560, m31, m561⟩, by decide +kernel⟩
theorem cs562 : CalS RX7 66 yX7_sows cX7_sows 7 (some .int) 4 := ⟨⟨m562, m563, m31, m564⟩, by decide +kernel⟩
theorem cs565 : CalS RX7 62 yX7_isHostile cX7_isHostile 3 (some .boolean) 3 := ⟨⟨m565, m566, m31, m567⟩, by decide +kernel⟩
theorem cs568 : CalS RX7 70 yX7_captures cX7_captures 6 none 4 := ⟨⟨m568, m569, m31, m570⟩, by decide +kernel⟩
theorem cs571 : CalS RX7 74 yX7_ends cX7_ends 5 (some .boolean) 2 := ⟨⟨m571, m572, m31, m573⟩, by decide +kernel⟩
theorem cs574 : CalS RX7 50 yX7_total cX7_total 4 (some .int) 2 := ⟨⟨m574, m575, m31, m576⟩, by decide +kernel⟩
theorem cs577 : CalS RX7 54 yX7_seedsOf cX7_seedsOf 5 (some .int) 3 := ⟨⟨m577, m578, m31, m579⟩, by decide +kernel⟩
theorem cs580 : CalV RL 31 RX7 yX7_play cX7_play 3 (some .int) 1 := ⟨⟨m580, m581, m582, m31, m583⟩, by decide +kernel⟩
theorem cs585 : CalV RX7 81 RX7 yX7_copy cX7_copy 5 none 3 := ⟨⟨m585, m587, m13, m31, m588⟩, by decide +kernel⟩
theorem cs589 : CalV RX7 124 RX7 yX7_bestOf cX7_bestOf 4 (some .int) 2 := ⟨⟨m589, m591, m14, m31, m592⟩, by decide +kernel⟩
theorem cs593 : CalV RX7 91 RX7 yX7_worthOf cX7_worthOf 10 (some .int) 2 := ⟨⟨m593, m595, m15, m31, m596⟩, by decide +kernel⟩
theorem cs597 : CalV RX7 88 RX7 yX7_ahead cX7_ahead 4 (some .int) 1 := ⟨⟨m597, m599, m16, m31, m600⟩, by decide +kernel⟩
theorem cs601 : CalV RL 35 RX7 yX7_read cX7_read 2 (some .int) 0 := ⟨⟨m601, m602, m603, m31, m604⟩, by decide +kernel⟩
theorem cs605 : CalV RX7 149 RX7 yX7_faultOf cX7_faultOf 2 (some .int) 0 := ⟨⟨m605, m607, m17, m31, m608⟩, by decide +kernel⟩
theorem cs609 : CalV RX7 141 RX7 yX7_readsNumber cX7_readsNumber 2 (some .boolean) 1 := ⟨⟨m609, m611, m18, m31, m612⟩, by decide +kernel⟩
theorem cs613 : CalV RX7 137 RX7 yX7_isDigit cX7_isDigit 1 (some .boolean) 0 := ⟨⟨m613, m615, m19, m31, m616⟩, by decide +kernel⟩
theorem cs619 : CalV RX7 144 RX7 yX7_takes cX7_takes 3 (some .boolean) 1 := ⟨⟨m619, m621, m20, m31, m622⟩, by decide +kernel⟩
theorem cs624 : CalV RL 39 RX7 yX7_house cX7_house 3 (some .int) 2 := ⟨⟨m624, m625, m626, m31, m627⟩, by decide +kernel⟩
theorem cs629 : CalV RL 43 RX7 yX7_count cX7_count 2 (some .int) 1 := ⟨⟨m629, m630, m631, m31, m632⟩, by decide +kernel⟩
theorem cs635 : CalV RX7 159 RX7 yX7_winner cX7_winner 1 (some .int) 0 := ⟨⟨m635, m637, m21, m31, m638⟩, by decide +kernel⟩
theorem cs639 : CalV RX7 162 RX7 yX7_hostiles cX7_hostiles 3 (some .int) 0 := ⟨⟨m639, m641, m22, m31, m642⟩, by decide +kernel⟩
theorem cs643 : CalV RL 47 RX7 yX7_last cX7_last 2 (some .int) 1 := ⟨⟨m643, m644, m645, m31, m646⟩, by decide +kernel⟩
theorem cs647 : CalV RL 51 RX7 yX7_moved cX7_moved 2 (some .int) 1 := ⟨⟨m647, m648, m649, m31, m650⟩, by decide +kernel⟩
theorem cs651 : CalV RL 55 RX7 yX7_ifMove cX7_ifMove 4 (some .int) 2 := ⟨⟨m651, m652, m653, m31, m654⟩, by decide +kernel⟩
theorem cs656 : CalV RL 59 RX7 yX7_worth cX7_worth 2 (some .int) 1 := ⟨⟨m656, m657, m658, m31, m659⟩, by decide +kernel⟩
theorem cs660 : CalV RL 63 RX7 yX7_best cX7_best 2 (some .int) 1 := ⟨⟨m660, m661, m662, m31, m663⟩, by decide +kernel⟩
theorem cs664 : CalV RL 67 RX7 yX7_movesLeft cX7_movesLeft 3 (some .int) 1 := ⟨⟨m664, m665, m666, m31, m667⟩, by decide +kernel⟩
theorem cs668 : CalV RL 74 RX7 yX7_put cX7_put 8 (some .int) 1 := ⟨⟨m668, m669, m670, m31, m671⟩, by decide +kernel⟩
theorem cs675 : CalV RL 78 RX7 yX7_wipe cX7_wipe 2 (some .int) 0 := ⟨⟨m675, m676, m677, m31, m678⟩, by decide +kernel⟩
theorem cs679 : CalV RL 82 RX7 yX7_fault cX7_fault 1 (some .int) 0 := ⟨⟨m679, m680, m681, m31, m682⟩, by decide +kernel⟩
theorem cs683 : CalV RL 86 RX7 yX7_undo cX7_undo 2 (some .int) 0 := ⟨⟨m683, m684, m685, m31, m686⟩, by decide +kernel⟩
theorem cs687 : CalV RL 90 RX7 yX7_save cX7_save 3 (some .int) 1 := ⟨⟨m687, m688, m689, m31, m690⟩, by decide +kernel⟩
theorem cs691 : CalV RL 94 RX7 yX7_restore cX7_restore 3 (some .int) 1 := ⟨⟨m691, m692, m693, m31, m694⟩, by decide +kernel⟩
end
section
-- joins and loops; ints told by their whole numbers
section FLOW
variable {p : Program} {l : Launch} {e : Env} {R : Room} {s : State} {m : MethodId} {args : Array Value} {below : List Frame} {meth : Method} {c : Code} {H : Heap} {locs : List Loc} {cells slots : Nat} {Q : State → Prop} {cc : ByteArray} {pc : Nat} {ls : Array Slot} {rest st : List Value}
/-- two ways that meet: what holds where they meet, then the way on from there -/
theorem W.fork {X : Type} (pc2 : Nat) (st2 : X → List Value) (φ : X → Heap → List Loc → Array Slot → Prop) {g : JFrame}
    (h1 : (∀ (x : X) (H2 : Heap) (locs2 : List Loc) (ls2 : Array Slot), φ x H2 locs2 ls2 → W p l e R s m args below meth c H2 locs2 cells slots Q (F0 m pc2 ls2 (st2 x))) → W p l e R s m args below meth c H locs cells slots Q g)
    (h2 : ∀ (x : X) (H2 : Heap) (locs2 : List Loc) (ls2 : Array Slot), φ x H2 locs2 ls2 → W p l e R s m args below meth c H2 locs2 cells slots Q (F0 m pc2 ls2 (st2 x))) : W p l e R s m args below meth c H locs cells slots Q g := h1 h2
/-- a loop: what holds at its head, with a measure that falls -/
theorem W.loop (φ : Nat → Heap → List Loc → Array Slot → Prop)
    (step : ∀ (n : Nat) (H2 : Heap) (locs2 : List Loc) (ls2 : Array Slot), φ n H2 locs2 ls2 → (∀ (n3 : Nat) (H3 : Heap) (locs3 : List Loc) (ls3 : Array Slot), n3 < n → φ n3 H3 locs3 ls3 → W p l e R s m args below meth c H3 locs3 cells slots Q (F0 m pc ls3 st)) → W p l e R s m args below meth c H2 locs2 cells slots Q (F0 m pc ls2 st))
    (n : Nat) (h : φ n H locs ls) : W p l e R s m args below meth c H locs cells slots Q (F0 m pc ls st) := by
  have key : ∀ (k n : Nat) (H2 : Heap) (locs2 : List Loc) (ls2 : Array Slot), n < k → φ n H2 locs2 ls2 → W p l e R s m args below meth c H2 locs2 cells slots Q (F0 m pc ls2 st) := by
    intro k
    induction k with
    | zero => exact fun n _ _ _ h => absurd h (Nat.not_lt_zero n)
    | succ k ih => exact fun n H2 locs2 ls2 hn hp => step n H2 locs2 ls2 hp (fun n3 H3 locs3 ls3 h3 hp3 => ih n3 H3 locs3 ls3 (by omega) hp3)
  exact key (n + 1) n H locs ls (Nat.lt_succ_self n) h
theorem iremE (hexec : p.tables.exec = Jvm.exec) (hb : c.code = cc) {x y z : Int32} (hdg : decode cc pc = .ok (.irem, 1)) (hz : ¬ y = 0 ∧ x - x / y * y = z) (kk : W p l e R s m args below meth c H locs cells slots Q (F0 m (pc + 1) ls (.int z :: rest))) : W p l e R s m args below meth c H locs cells slots Q (F0 m pc ls (.int y :: .int x :: rest)) := by
  obtain ⟨h0, hz⟩ := hz
  subst hz; exact lv_irem hexec hb hdg h0 kk
theorem idivE (hexec : p.tables.exec = Jvm.exec) (hb : c.code = cc) {x y z : Int32} (hdg : decode cc pc = .ok (.idiv, 1)) (hz : ¬ y = 0 ∧ x / y = z) (kk : W p l e R s m args below meth c H locs cells slots Q (F0 m (pc + 1) ls (.int z :: rest))) : W p l e R s m args below meth c H locs cells slots Q (F0 m pc ls (.int y :: .int x :: rest)) := by
  obtain ⟨h0, hz⟩ := hz
  subst hz; exact lv_idiv hexec hb hdg h0 kk
end FLOW
theorem i_lt (a b : Int32) : a < b ↔ a.toInt < b.toInt := Int32.lt_iff_toInt_lt
theorem i_le (a b : Int32) : a ≤ b ↔ a.toInt ≤ b.toInt := Int32.le_iff_toInt_le
theorem i_eq (a b : Int32) : a = b ↔ a.toInt = b.toInt := Int32.toInt_inj.symm
theorem i_rng (x : Int32) : -2147483648 ≤ x.toInt ∧ x.toInt < 2147483648 := by
  have h1 := Int32.le_toInt x
  have h2 := Int32.toInt_lt x
  omega
theorem i_bmod {z : Int} (h1 : -2147483648 ≤ z) (h2 : z < 2147483648) : z.bmod (2 ^ 32) = z := by
  rw [Int.bmod_eq_of_le (by omega) (by omega)]
theorem i_add {x y : Int32} (h1 : -2147483648 ≤ x.toInt + y.toInt) (h2 : x.toInt + y.toInt < 2147483648) : (x + y).toInt = x.toInt + y.toInt := by
  rw [Int32.toInt_add, i_bmod h1 h2]
theorem i_sub {x y : Int32} (h1 : -2147483648 ≤ x.toInt - y.toInt) (h2 : x.toInt - y.toInt < 2147483648) : (x - y).toInt = x.toInt - y.toInt := by
  rw [Int32.toInt_sub, i_bmod h1 h2]
theorem i_neg {x : Int32} (h : x.toInt ≠ -2147483648) : (-x).toInt = -x.toInt := by
  have := i_rng x
  rw [Int32.toInt_neg, i_bmod (by omega) (by omega)]
theorem i_0 : (0 : Int32).toInt = 0 := by decide
theorem i_1 : (1 : Int32).toInt = 1 := by decide
theorem i_nat (x : Int32) (h : 0 ≤ x.toInt) : (x.toNatClampNeg : Int) = x.toInt := by
  show ((x.toInt.toNat : Nat) : Int) = x.toInt
  omega
theorem i_natN (x : Int32) (h : 0 ≤ x.toInt) : x = nI x.toNatClampNeg ∧ x.toNatClampNeg < 2 ^ 31 := by
  have h1 := i_nat x h
  have h2 := i_rng x
  have h3 : x.toNatClampNeg < 2 ^ 31 := by omega
  refine ⟨?_, h3⟩
  rw [i_eq, nI_toInt h3, h1]
theorem z_bool {x : Int32} (h : x = 0 ∨ x = 1) : narrow .boolean (.int x) = .int x ∧ fits .boolean (.int x) = true ∧ vp_nar .boolean x = x := by
  rcases h with rfl | rfl <;> exact ⟨rfl, rfl, rfl⟩
theorem n_le {a b : Nat} (h : nI a ≤ nI b) (ha : a < 2 ^ 31) (hb : b < 2 ^ 31) : a ≤ b := (nI_leI ha hb).mp h
theorem n_nle {a b : Nat} (h : ¬ nI a ≤ nI b) (ha : a < 2 ^ 31) (hb : b < 2 ^ 31) : b < a := Nat.not_le.mp (fun q => h ((nI_leI ha hb).mpr q))
theorem n_lt {a b : Nat} (h : nI a < nI b) (ha : a < 2 ^ 31) (hb : b < 2 ^ 31) : a < b := (nI_ltI ha hb).mp h
theorem n_nlt {a b : Nat} (h : ¬ nI a < nI b) (ha : a < 2 ^ 31) (hb : b < 2 ^ 31) : b ≤ a := Nat.not_lt.mp (fun q => h ((nI_ltI ha hb).mpr q))
theorem n_eq {a b : Nat} (h : nI a = nI b) (ha : a < 2 ^ 31) (hb : b < 2 ^ 31) : a = b := (nI_eq ha hb).mp h
theorem n_ne {a b : Nat} (h : ¬ nI a = nI b) : a ≠ b := fun q => h (by rw [q])
end
section
-- the game as numbers: a position is a row P of 40 numbers, laid as in the reference (seeds 0, visits 12, stores 24, mover 26, over 27, moves 28, last 29, settings 34)
/-- f b + .. + f (b + k - 1), from z on -/
def sm (z : Int32) (f : Nat → Int32) (b : Nat) : Nat → Int32
  | 0 => z
  | k + 1 => sm z f b k + f (b + k)
theorem sm_congr {z : Int32} {f g : Nat → Int32} {b c : Nat} : ∀ {k : Nat}, (∀ j, j < k → f (b + j) = g (c + j)) → sm z f b k = sm z g c k
  | 0, _ => rfl
  | k + 1, h => by rw [sm, sm, sm_congr (fun j hj => h j (by omega)), h k (by omega)]
def own (h : Nat) : Nat := h / 6
/-- the house behind h, without fr -/
def nxt (fr h : Nat) : Nat := if (h + 1) % 12 = fr then (h + 2) % 12 else (h + 1) % 12
def payP (P : Nat → Int32) (h pl : Nat) (hand : Int32) : Nat → Int32 :=
  if own h ≠ pl ∧ P 35 ≤ P (12 + h) ∧ P 37 < hand then upd (upd P (25 - pl) (P (25 - pl) + P 37)) 33 (P 33 + P 37) else P
def payH (P : Nat → Int32) (h pl : Nat) (hand : Int32) : Int32 :=
  if own h ≠ pl ∧ P 35 ≤ P (12 + h) ∧ P 37 < hand then hand - P 37 else hand
def putS (P : Nat → Int32) (h : Nat) : Nat → Int32 := upd P h (P h + 1)
def sowF : Nat → (Nat → Int32) → Nat → Int32 → Nat → Nat → (Nat → Int32) × Nat
  | 0, P, h, _, _, _ => (P, h)
  | n + 1, P, h, hand, fr, pl => if 0 < hand then sowF n (putS (payP P (nxt fr h) pl hand) (nxt fr h)) (nxt fr h) (payH P (nxt fr h) pl hand - 1) fr pl else (P, h)
def sowM (P : Nat → Int32) (fr pl : Nat) : (Nat → Int32) × Nat := sowF (P fr).toNatClampNeg (upd P fr 0) fr (P fr) fr pl
def capM (P : Nat → Int32) (h pl : Nat) : Nat → Int32 :=
  upd (upd (upd (upd (upd P (24 + pl) (P (24 + pl) + (P h + P (11 - h)))) h 0) (11 - h) 0) (12 + (11 - h)) 0) 32 (P h + P (11 - h))
/-- behind the sowing of a lap: it counts, its last house is visited -/
def visM (P : Nat → Int32) (h : Nat) : Nat → Int32 := upd (upd P 30 (P 30 + 1)) (12 + h) (P (12 + h) + 1)
abbrev goesM (P : Nat → Int32) (h : Nat) : Prop := 1 < P h ∧ ¬ P 35 ≤ P (12 + h)
def endM (P : Nat → Int32) (h pl : Nat) : Nat → Int32 :=
  if ¬ 1 < P h ∧ own h = pl ∧ 0 < P (11 - h) then capM (visM P h) h pl else visM P h
def lapsF : Nat → (Nat → Int32) → Nat → Nat → (Nat → Int32) × Nat
  | 0, P, h, _ => (P, h)
  | n + 1, P, h, pl =>
    if (1 < (sowM P h pl).1 (sowM P h pl).2 ∧ ¬ (sowM P h pl).1 35 ≤ (sowM P h pl).1 (12 + (sowM P h pl).2)) ∧ (sowM P h pl).1 30 + 1 ≤ (sowM P h pl).1 36 then lapsF n (visM (sowM P h pl).1 (sowM P h pl).2) (sowM P h pl).2 pl
    else (endM (sowM P h pl).1 (sowM P h pl).2 pl, (sowM P h pl).2)
def clrL (P : Nat → Int32) : Nat → Int32 := fun j => if 29 ≤ j ∧ j < 34 then 0 else P j
def allM (P : Nat → Int32) : Int32 := sm (P 24 + P 25) P 0 12
abbrev overM (P : Nat → Int32) : Prop := sm 0 P 0 6 + sm 0 P 6 6 = 0 ∨ P 28 = 300 ∨ allM P < 2 * P 24 ∨ allM P < 2 * P 25
def endsM (P : Nat → Int32) : Nat → Int32 := fun j => if j < 12 then 0 else if j = 24 then sm (P 24) P 0 6 else if j = 25 then sm (P 25) P 6 6 else if j = 27 then 1 else P j
/-- whose turn it is behind a move of pl -/
def turnM (P : Nat → Int32) (pl : Nat) : Int32 := if 0 < sm 0 P (6 * (1 - pl)) 6 then nI (1 - pl) else nI pl
def finM (P : Nat → Int32) (pl : Nat) : Nat → Int32 :=
  if overM P then upd (endsM P) 26 (nI (1 - pl)) else upd (upd P 27 0) 26 (turnM P pl)
def mvA (P : Nat → Int32) (fr pl : Nat) : (Nat → Int32) × Nat := lapsF 21 (clrL P) fr pl
def mvB (P : Nat → Int32) (fr pl : Nat) : Nat → Int32 := upd (upd (upd (mvA P fr pl).1 29 (nI fr)) 31 (nI (mvA P fr pl).2)) 28 ((mvA P fr pl).1 28 + 1)
def mvM (P : Nat → Int32) (fr : Nat) : Nat → Int32 := finM (mvB P fr (P 26).toNatClampNeg) (P 26).toNatClampNeg
end
section
-- Position: the methods that read alone
theorem own_lt {h : Nat} (hh : h < 12) : own h < 2 := by unfold own; omega
theorem bz {c : Prop} [Decidable c] : (if c then (1 : Int32) else 0) = 0 ↔ ¬ c := by by_cases h : c <;> simp [h]
theorem sm_nI (z : Int32) (f : Nat → Int32) (b k : Nat) : sm z f b k + f (b + k) = sm z f b (k + 1) := rfl
set_option maxHeartbeats 4000000 in
set_option maxRecDepth 100000 in
theorem c_ownerOf (l : Launch) (D : va_G) (T : Nat → ClassId) {h : Nat} (hh : h < 12) : KR l D T yX3_ownerOf cX3_ownerOf 1 (some .int) 0 [.int (nI h)] [] (fun r => r = nI (own h)) := by
  refine KR.of (by decide +kernel) (Nat.le_of_ble_eq_true rfl) (fun p e s m below meth c F hr hlk hW ls hl => ?_)
  have hx := F.1
  have hb := F.2.1
  have hl : lv_has ls 1 [(0, .int (nI h))] := hl
  refine lv_iload_n hx hb dX3_ownerOf_0 rfl (lv_at hl 0 rfl) ?_
  refine lv_bipush (v := nI 6) hx hb dX3_ownerOf_1 (by decide) ?_
  refine lv_icmp_ge (tgt := 10) hx hb dX3_ownerOf_3 (by decide) (fun h3 => ?_) (fun h3 => ?_)
  · have h4 : 6 ≤ h := (nI_leI (by decide) (by omega)).mp h3
    refine lv_iconst (v := nI 1) hx hb dX3_ownerOf_10 (by decide) ?_
    exact retR F hr hlk rfl (by rw [show own h = 1 by unfold own; omega]) dX3_ownerOf_11
  · have h4 : h < 6 := Nat.not_le.mp (fun q => h3 ((nI_leI (by decide) (by omega)).mpr q))
    refine lv_iconst (v := nI 0) hx hb dX3_ownerOf_6 (by decide) ?_
    refine lv_goto (tgt := 11) hx hb dX3_ownerOf_7 (by decide) ?_
    exact retR F hr hlk rfl (by rw [show own h = 0 by unfold own; omega]) dX3_ownerOf_11
set_option maxHeartbeats 4000000 in
set_option maxRecDepth 100000 in
theorem c_houseBehind (l : Launch) (D : va_G) (T : Nat → ClassId) {h : Nat} (hh : h < 12) : KR l D T yX3_houseBehind cX3_houseBehind 1 (some .int) 0 [.int (nI h)] [] (fun r => r = nI ((h + 1) % 12)) := by
  refine KR.of (by decide +kernel) (Nat.le_of_ble_eq_true rfl) (fun p e s m below meth c F hr hlk hW ls hl => ?_)
  have hx := F.1
  have hb := F.2.1
  have hl : lv_has ls 1 [(0, .int (nI h))] := hl
  refine lv_iload_n hx hb dX3_houseBehind_0 rfl (lv_at hl 0 rfl) ?_
  refine lv_bipush (v := nI 11) hx hb dX3_houseBehind_1 (by decide) ?_
  refine lv_icmp_ne (tgt := 10) hx hb dX3_houseBehind_3 (by decide) (fun h3 => ?_) (fun h3 => ?_)
  · have h4 : h ≠ 11 := fun q => h3 (by rw [q])
    refine lv_iload_n hx hb dX3_houseBehind_10 rfl (lv_at hl 0 rfl) ?_
    refine lv_iconst (v := nI 1) hx hb dX3_houseBehind_11 (by decide) ?_
    refine iaddE (z := nI (h + 1)) hx hb dX3_houseBehind_12 (nI_add _ _) ?_
    exact retR F hr hlk rfl (by rw [Nat.mod_eq_of_lt (show h + 1 < 12 by omega)]) dX3_houseBehind_13
  · have h4 : h = 11 := (nI_eq (by omega) (by decide)).mp h3
    refine lv_iconst (v := nI 0) hx hb dX3_houseBehind_6 (by decide) ?_
    refine lv_goto (tgt := 13) hx hb dX3_houseBehind_7 (by decide) ?_
    exact retR F hr hlk rfl (by rw [h4]) dX3_houseBehind_13
set_option maxHeartbeats 4000000 in
set_option maxRecDepth 100000 in
theorem c_isHostile (l : Launch) (D : va_G) (T : Nat → ClassId) (q0 q1 q2 q3 q4 : Nat) (pl ov mv : Int32) (fv E : Nat → Int32) {h : Nat} (hh : h < 12) : KR l D T yX3_isHostile cX3_isHostile 3 (some .boolean) 0 [.ref q0, .int (nI h), .ref q4] [(q0, .inr (3, [.ref q1, .ref q2, .ref q3, .int pl, .int ov, .int mv])), (q2, .inl (T 0, 12, .inl fv)), (q4, .inl (T 0, 4, .inl E))] (fun r => r = if E 1 ≤ fv h then 1 else 0) := by
  refine KR.of (by decide +kernel) (Nat.le_of_ble_eq_true rfl) (fun p e s m below meth c F hr hlk hW ls hl => ?_)
  have hx := F.1
  have hb := F.2.1
  have hl : lv_has ls 3 [(0, .ref q0), (1, .int (nI h)), (2, .ref q4)] := hl
  refine lv_aload_n hx hb dX3_isHostile_0 rfl (lv_at hl 0 rfl) ?_
  refine gf56 F hW 0 rfl rfl dX3_isHostile_1 ?_
  refine lv_iload_n hx hb dX3_isHostile_4 rfl (lv_at hl 1 rfl) ?_
  refine ald F hW 1 rfl (x := fv h) h rfl (by omega) (by decide) rfl dX3_isHostile_5 ?_
  refine lv_aload_n hx hb dX3_isHostile_6 rfl (lv_at hl 2 rfl) ?_
  refine lv_iconst (v := nI 1) hx hb dX3_isHostile_7 (by decide) ?_
  refine ald F hW 2 rfl (x := E 1) 1 rfl (by omega) (by decide) rfl dX3_isHostile_8 ?_
  refine lv_icmp_lt (tgt := 16) hx hb dX3_isHostile_9 (by decide) (fun h9 => ?_) (fun h9 => ?_)
  · refine lv_iconst (v := nI 0) hx hb dX3_isHostile_16 (by decide) ?_
    exact retR F hr hlk rfl (by rw [if_neg (Int32.not_le.mpr h9)]; rfl) dX3_isHostile_17
  · refine lv_iconst (v := nI 1) hx hb dX3_isHostile_12 (by decide) ?_
    refine lv_goto (tgt := 17) hx hb dX3_isHostile_13 (by decide) ?_
    exact retR F hr hlk rfl (by rw [if_pos (Int32.not_lt.mp h9)]; rfl) dX3_isHostile_17
set_option maxHeartbeats 4000000 in
set_option maxRecDepth 100000 in
theorem c_canMoveFrom (l : Launch) (D : va_G) (T : Nat → ClassId) (q0 q1 q2 q3 : Nat) (pl ov mv : Int32) (sd : Nat → Int32) {h : Nat} (hh : h < 12) : KR l D T yX3_canMoveFrom cX3_canMoveFrom 2 (some .boolean) 1 [.ref q0, .int (nI h)] [(q0, .inr (3, [.ref q1, .ref q2, .ref q3, .int pl, .int ov, .int mv])), (q1, .inl (T 0, 12, .inl sd))] (fun r => r = if ov = 0 ∧ nI (own h) = pl ∧ 0 < sd h then 1 else 0) := by
  refine KR.of (by decide +kernel) (Nat.le_of_ble_eq_true rfl) (fun p e s m below meth c F hr hlk hW ls hl => ?_)
  have hx := F.1
  have hb := F.2.1
  have hl : lv_has ls 2 [(0, .ref q0), (1, .int (nI h))] := hl
  refine lv_aload_n hx hb dX3_canMoveFrom_0 rfl (lv_at hl 0 rfl) ?_
  refine gf64 F hW 0 rfl rfl dX3_canMoveFrom_1 ?_
  refine lv_if_ne (tgt := 31) hx hb dX3_canMoveFrom_4 (by decide) (fun h4 => ?_) (fun h4 => ?_)
  · refine lv_iconst (v := nI 0) hx hb dX3_canMoveFrom_31 (by decide) ?_
    exact retR F hr hlk rfl (by rw [if_neg (fun z => h4 z.1)]; rfl) dX3_canMoveFrom_32
  · refine lv_iload_n hx hb dX3_canMoveFrom_7 rfl (lv_at hl 1 rfl) ?_
    refine cRS (As := [.int (nI h)]) (rest := []) F hW hl cs277 (c_ownerOf l D T (h := h) (by omega)) [] rfl rfl rfl rfl (Nat.le_of_ble_eq_true rfl) ⟨Nat.le_of_ble_eq_true rfl, Nat.le_of_ble_eq_true rfl⟩ ⟨Nat.zero_le _, Nat.zero_le _⟩ dX3_canMoveFrom_8 (fun r8 hr8 => ?_)
    subst hr8
    refine lv_aload_n hx hb dX3_canMoveFrom_11 rfl (lv_at hl 0 rfl) ?_
    refine gf60 F hW 0 rfl rfl dX3_canMoveFrom_12 ?_
    refine lv_icmp_ne (tgt := 31) hx hb dX3_canMoveFrom_15 (by decide) (fun h15 => ?_) (fun h15 => ?_)
    · refine lv_iconst (v := nI 0) hx hb dX3_canMoveFrom_31 (by decide) ?_
      exact retR F hr hlk rfl (by rw [if_neg (fun z => h15 z.2.1)]; rfl) dX3_canMoveFrom_32
    · refine lv_aload_n hx hb dX3_canMoveFrom_18 rfl (lv_at hl 0 rfl) ?_
      refine gf54 F hW 0 rfl rfl dX3_canMoveFrom_19 ?_
      refine lv_iload_n hx hb dX3_canMoveFrom_22 rfl (lv_at hl 1 rfl) ?_
      refine ald F hW 1 rfl (x := sd h) h rfl (by omega) (by decide) rfl dX3_canMoveFrom_23 ?_
      refine lv_if_le (tgt := 31) hx hb dX3_canMoveFrom_24 (by decide) (fun h24 => ?_) (fun h24 => ?_)
      · refine lv_iconst (v := nI 0) hx hb dX3_canMoveFrom_31 (by decide) ?_
        exact retR F hr hlk rfl (by rw [if_neg (fun z => Int32.not_lt.mpr h24 z.2.2)]; rfl) dX3_canMoveFrom_32
      · refine lv_iconst (v := nI 1) hx hb dX3_canMoveFrom_27 (by decide) ?_
        refine lv_goto (tgt := 32) hx hb dX3_canMoveFrom_28 (by decide) ?_
        exact retR F hr hlk rfl (by rw [if_pos ⟨h4, h15, Int32.not_le.mp h24⟩]; rfl) dX3_canMoveFrom_32
set_option maxHeartbeats 4000000 in
set_option maxRecDepth 100000 in
theorem c_seedsInHousesOf (l : Launch) (D : va_G) (T : Nat → ClassId) (q0 q1 q2 q3 : Nat) (pl ov mv : Int32) (sd : Nat → Int32) {o : Nat} (ho : o < 2) : KR l D T yX3_seedsInHousesOf cX3_seedsInHousesOf 4 (some .int) 0 [.ref q0, .int (nI o)] [(q0, .inr (3, [.ref q1, .ref q2, .ref q3, .int pl, .int ov, .int mv])), (q1, .inl (T 0, 12, .inl sd))] (fun r => r = sm 0 sd (6 * o) 6) := by
  refine KR.of (by decide +kernel) (Nat.le_of_ble_eq_true rfl) (fun p e s m below meth c F hr hlk hW ls hl => ?_)
  have hx := F.1
  have hb := F.2.1
  have hl : lv_has ls 4 [(0, .ref q0), (1, .int (nI o))] := hl
  refine lv_iconst (v := 0) hx hb dX3_seedsInHousesOf_0 (by decide) ?_
  refine lv_istore_n (lv' := [(2, .int 0), (0, .ref q0), (1, .int (nI o))]) hx hb dX3_seedsInHousesOf_1 rfl hl (by decide) rfl (fun ls hl => ?_)
  refine lv_iload_n hx hb dX3_seedsInHousesOf_2 rfl (lv_at hl 2 rfl) ?_
  refine lv_bipush (v := nI 6) hx hb dX3_seedsInHousesOf_3 (by decide) ?_
  refine imulE (z := nI (6 * o)) hx hb dX3_seedsInHousesOf_5 (by rw [pk_mul, Nat.mul_comm]) ?_
  refine lv_istore_n (lv' := [(3, .int (nI (6 * o))), (2, .int 0), (0, .ref q0), (1, .int (nI o))]) hx hb dX3_seedsInHousesOf_6 rfl hl (by decide) rfl (fun ls hl => ?_)
  refine W.loop (fun n H2 locs2 ls2 => H2 = s.heap ∧ locs2 = [] ∧ ∃ k, k ≤ 6 ∧ n = 6 - k ∧ lv_has ls2 4 [(0, .ref q0), (1, .int (nI o)), (2, .int (sm 0 sd (6 * o) k)), (3, .int (nI (6 * o + k)))]) ?_ 6 ⟨rfl, rfl, 0, by omega, rfl, lv_sub hl [2, 3, 1, 0] rfl⟩
  rintro n H2 locs2 ls ⟨rfl, rfl, k, hk, rfl, hl⟩ ih
  refine lv_iload_n hx hb dX3_seedsInHousesOf_7 rfl (lv_at hl 3 rfl) ?_
  refine lv_iload_n hx hb dX3_seedsInHousesOf_8 rfl (lv_at hl 1 rfl) ?_
  refine lv_iconst (v := nI 1) hx hb dX3_seedsInHousesOf_9 (by decide) ?_
  refine iaddE (z := nI (o + 1)) hx hb dX3_seedsInHousesOf_10 (nI_add _ _) ?_
  refine lv_bipush (v := nI 6) hx hb dX3_seedsInHousesOf_11 (by decide) ?_
  refine imulE (z := nI ((o + 1) * 6)) hx hb dX3_seedsInHousesOf_13 (pk_mul _ _) ?_
  refine lv_icmp_ge (tgt := 32) hx hb dX3_seedsInHousesOf_14 (by decide) (fun h14 => ?_) (fun h14 => ?_)
  · have h5 : k = 6 := by have := (nI_leI (by omega) (by omega)).mp h14; omega
    subst h5
    refine lv_iload_n hx hb dX3_seedsInHousesOf_32 rfl (lv_at hl 2 rfl) ?_
    exact retR F hr hlk rfl rfl dX3_seedsInHousesOf_33
  · have h5 : k < 6 := by have := n_nle h14 (by omega) (by omega); omega
    refine lv_iload_n hx hb dX3_seedsInHousesOf_17 rfl (lv_at hl 2 rfl) ?_
    refine lv_aload_n hx hb dX3_seedsInHousesOf_18 rfl (lv_at hl 0 rfl) ?_
    refine gf54 F hW 0 rfl rfl dX3_seedsInHousesOf_19 ?_
    refine lv_iload_n hx hb dX3_seedsInHousesOf_22 rfl (lv_at hl 3 rfl) ?_
    refine ald F hW 1 rfl (x := sd (6 * o + k)) (6 * o + k) rfl (by omega) (by decide) rfl dX3_seedsInHousesOf_23 ?_
    refine iaddE (z := sm 0 sd (6 * o) (k + 1)) hx hb dX3_seedsInHousesOf_24 rfl ?_
    refine lv_istore_n (lv' := [(2, .int (sm 0 sd (6 * o) (k + 1))), (0, .ref q0), (1, .int (nI o)), (3, .int (nI (6 * o + k)))]) hx hb dX3_seedsInHousesOf_25 rfl hl (by decide) rfl (fun ls hl => ?_)
    refine lv_iinc (v := nI (6 * o + (k + 1))) (lv' := [(3, .int (nI (6 * o + (k + 1)))), (2, .int (sm 0 sd (6 * o) (k + 1))), (0, .ref q0), (1, .int (nI o))]) hx hb dX3_seedsInHousesOf_26 hl (k := 3) rfl (nI_add _ _) (by decide) rfl (fun ls hl => ?_)
    refine lv_goto (tgt := 7) hx hb dX3_seedsInHousesOf_29 (by decide) ?_
    exact ih (6 - (k + 1)) _ _ _ (by omega) ⟨rfl, rfl, k + 1, by omega, rfl, lv_sub hl [2, 3, 1, 0] rfl⟩
set_option maxHeartbeats 4000000 in
set_option maxRecDepth 100000 in
theorem c_allSeeds (l : Launch) (D : va_G) (T : Nat → ClassId) (q0 q1 q2 q3 : Nat) (pl ov mv : Int32) (sd so : Nat → Int32) : KR l D T yX3_allSeeds cX3_allSeeds 1 (some .int) 1 [.ref q0] [(q0, .inr (3, [.ref q1, .ref q2, .ref q3, .int pl, .int ov, .int mv])), (q1, .inl (T 0, 12, .inl sd)), (q3, .inl (T 0, 2, .inl so))] (fun r => r = sm 0 sd 0 6 + sm 0 sd 6 6 + so 0 + so 1) := by
  refine KR.of (by decide +kernel) (Nat.le_of_ble_eq_true rfl) (fun p e s m below meth c F hr hlk hW ls hl => ?_)
  have hx := F.1
  have hb := F.2.1
  have hl : lv_has ls 1 [(0, .ref q0)] := hl
  refine lv_aload_n hx hb dX3_allSeeds_0 rfl (lv_at hl 0 rfl) ?_
  refine lv_iconst (v := nI 0) hx hb dX3_allSeeds_1 (by decide) ?_
  refine cRV (As := [.int (nI 0)]) (rest := []) F hW hl cs319 (c_seedsInHousesOf l D T q0 q1 q2 q3 pl ov mv sd (o := 0) (by omega)) [0, 1] rfl rfl 0 3 rfl rfl rfl rfl rfl (Nat.le_of_ble_eq_true rfl) ⟨Nat.le_of_ble_eq_true rfl, Nat.le_of_ble_eq_true rfl⟩ ⟨Nat.zero_le _, Nat.zero_le _⟩ dX3_allSeeds_2 (fun r2 hr2 => ?_)
  subst hr2
  refine lv_aload_n hx hb dX3_allSeeds_5 rfl (lv_at hl 0 rfl) ?_
  refine lv_iconst (v := nI 1) hx hb dX3_allSeeds_6 (by decide) ?_
  refine cRV (As := [.int (nI 1)]) (rest := [.int (sm 0 sd (6 * 0) 6)]) F hW hl cs319 (c_seedsInHousesOf l D T q0 q1 q2 q3 pl ov mv sd (o := 1) (by omega)) [0, 1] rfl rfl 0 3 rfl rfl rfl rfl rfl (Nat.le_of_ble_eq_true rfl) ⟨Nat.le_of_ble_eq_true rfl, Nat.le_of_ble_eq_true rfl⟩ ⟨Nat.zero_le _, Nat.zero_le _⟩ dX3_allSeeds_7 (fun r7 hr7 => ?_)
  subst hr7
  refine iaddE (z := (sm 0 sd (6 * 0) 6) + (sm 0 sd (6 * 1) 6)) hx hb dX3_allSeeds_10 rfl ?_
  refine lv_aload_n hx hb dX3_allSeeds_11 rfl (lv_at hl 0 rfl) ?_
  refine gf58 F hW 0 rfl rfl dX3_allSeeds_12 ?_
  refine lv_iconst (v := nI 0) hx hb dX3_allSeeds_15 (by decide) ?_
  refine ald F hW 2 rfl (x := so 0) 0 rfl (by omega) (by decide) rfl dX3_allSeeds_16 ?_
  refine iaddE (z := ((sm 0 sd (6 * 0) 6) + (sm 0 sd (6 * 1) 6)) + (so 0)) hx hb dX3_allSeeds_17 rfl ?_
  refine lv_aload_n hx hb dX3_allSeeds_18 rfl (lv_at hl 0 rfl) ?_
  refine gf58 F hW 0 rfl rfl dX3_allSeeds_19 ?_
  refine lv_iconst (v := nI 1) hx hb dX3_allSeeds_22 (by decide) ?_
  refine ald F hW 2 rfl (x := so 1) 1 rfl (by omega) (by decide) rfl dX3_allSeeds_23 ?_
  refine iaddE (z := (((sm 0 sd (6 * 0) 6) + (sm 0 sd (6 * 1) 6)) + (so 0)) + (so 1)) hx hb dX3_allSeeds_24 rfl ?_
  exact retR F hr hlk rfl rfl dX3_allSeeds_25
set_option maxHeartbeats 4000000 in
set_option maxRecDepth 100000 in
theorem c_winner (l : Launch) (D : va_G) (T : Nat → ClassId) (q0 q1 q2 q3 : Nat) (pl ov mv : Int32) (so : Nat → Int32) : KR l D T yX3_winner cX3_winner 1 (some .int) 0 [.ref q0] [(q0, .inr (3, [.ref q1, .ref q2, .ref q3, .int pl, .int ov, .int mv])), (q3, .inl (T 0, 2, .inl so))] (fun r => r = if so 0 = so 1 then 2 else if so 1 < so 0 then 0 else 1) := by
  refine KR.of (by decide +kernel) (Nat.le_of_ble_eq_true rfl) (fun p e s m below meth c F hr hlk hW ls hl => ?_)
  have hx := F.1
  have hb := F.2.1
  have hl : lv_has ls 1 [(0, .ref q0)] := hl
  refine lv_aload_n hx hb dX3_winner_0 rfl (lv_at hl 0 rfl) ?_
  refine gf58 F hW 0 rfl rfl dX3_winner_1 ?_
  refine lv_iconst (v := nI 0) hx hb dX3_winner_4 (by decide) ?_
  refine ald F hW 1 rfl (x := so 0) 0 rfl (by omega) (by decide) rfl dX3_winner_5 ?_
  refine lv_aload_n hx hb dX3_winner_6 rfl (lv_at hl 0 rfl) ?_
  refine gf58 F hW 0 rfl rfl dX3_winner_7 ?_
  refine lv_iconst (v := nI 1) hx hb dX3_winner_10 (by decide) ?_
  refine ald F hW 1 rfl (x := so 1) 1 rfl (by omega) (by decide) rfl dX3_winner_11 ?_
  refine lv_icmp_ne (tgt := 17) hx hb dX3_winner_12 (by decide) (fun h12 => ?_) (fun h12 => ?_)
  · refine lv_aload_n hx hb dX3_winner_17 rfl (lv_at hl 0 rfl) ?_
    refine gf58 F hW 0 rfl rfl dX3_winner_18 ?_
    refine lv_iconst (v := nI 0) hx hb dX3_winner_21 (by decide) ?_
    refine ald F hW 1 rfl (x := so 0) 0 rfl (by omega) (by decide) rfl dX3_winner_22 ?_
    refine lv_aload_n hx hb dX3_winner_23 rfl (lv_at hl 0 rfl) ?_
    refine gf58 F hW 0 rfl rfl dX3_winner_24 ?_
    refine lv_iconst (v := nI 1) hx hb dX3_winner_27 (by decide) ?_
    refine ald F hW 1 rfl (x := so 1) 1 rfl (by omega) (by decide) rfl dX3_winner_28 ?_
    refine lv_icmp_le (tgt := 36) hx hb dX3_winner_29 (by decide) (fun h29 => ?_) (fun h29 => ?_)
    · refine lv_iconst (v := nI 1) hx hb dX3_winner_36 (by decide) ?_
      exact retR F hr hlk rfl (by rw [if_neg h12, if_neg (Int32.not_lt.mpr h29)]; rfl) dX3_winner_37
    · refine lv_iconst (v := nI 0) hx hb dX3_winner_32 (by decide) ?_
      refine lv_goto (tgt := 37) hx hb dX3_winner_33 (by decide) ?_
      exact retR F hr hlk rfl (by rw [if_neg h12, if_pos (Int32.not_le.mp h29)]; rfl) dX3_winner_37
  · refine lv_iconst (v := nI 2) hx hb dX3_winner_15 (by decide) ?_
    exact retR F hr hlk rfl (by rw [if_pos h12]; rfl) dX3_winner_16
set_option maxHeartbeats 4000000 in
set_option maxRecDepth 100000 in
theorem c_lead (l : Launch) (D : va_G) (T : Nat → ClassId) (q0 q1 q2 q3 : Nat) {k : Nat} (hk : k < 2) (ov mv : Int32) (so : Nat → Int32) : KR l D T yX3_lead cX3_lead 1 (some .int) 0 [.ref q0] [(q0, .inr (3, [.ref q1, .ref q2, .ref q3, .int (nI k), .int ov, .int mv])), (q3, .inl (T 0, 2, .inl so))] (fun r => r = so k - so (1 - k)) := by
  refine KR.of (by decide +kernel) (Nat.le_of_ble_eq_true rfl) (fun p e s m below meth c F hr hlk hW ls hl => ?_)
  have hx := F.1
  have hb := F.2.1
  have hl : lv_has ls 1 [(0, .ref q0)] := hl
  refine lv_aload_n hx hb dX3_lead_0 rfl (lv_at hl 0 rfl) ?_
  refine gf58 F hW 0 rfl rfl dX3_lead_1 ?_
  refine lv_aload_n hx hb dX3_lead_4 rfl (lv_at hl 0 rfl) ?_
  refine gf60 F hW 0 rfl rfl dX3_lead_5 ?_
  refine ald F hW 1 rfl (x := so k) k rfl (by omega) (by decide) rfl dX3_lead_8 ?_
  refine lv_aload_n hx hb dX3_lead_9 rfl (lv_at hl 0 rfl) ?_
  refine gf58 F hW 0 rfl rfl dX3_lead_10 ?_
  refine lv_iconst (v := nI 1) hx hb dX3_lead_13 (by decide) ?_
  refine lv_aload_n hx hb dX3_lead_14 rfl (lv_at hl 0 rfl) ?_
  refine gf60 F hW 0 rfl rfl dX3_lead_15 ?_
  refine isubE (z := nI (1 - k)) hx hb dX3_lead_18 (pk_sub (by omega)) ?_
  refine ald F hW 1 rfl (x := so (1 - k)) (1 - k) rfl (by omega) (by decide) rfl dX3_lead_19 ?_
  refine isubE (z := (so k) - (so (1 - k))) hx hb dX3_lead_20 rfl ?_
  exact retR F hr hlk rfl rfl dX3_lead_21
def hosN (fv E : Nat → Int32) : Nat → Int32
  | 0 => 0
  | k + 1 => hosN fv E k + (if E 1 ≤ fv k then 1 else 0)
set_option maxHeartbeats 4000000 in
set_option maxRecDepth 100000 in
theorem c_hostileHouses (l : Launch) (D : va_G) (T : Nat → ClassId) (q0 q1 q2 q3 q4 : Nat) (pl ov mv : Int32) (fv E : Nat → Int32) : KR l D T yX3_hostileHouses cX3_hostileHouses 4 (some .int) 1 [.ref q0, .ref q4] [(q0, .inr (3, [.ref q1, .ref q2, .ref q3, .int pl, .int ov, .int mv])), (q2, .inl (T 0, 12, .inl fv)), (q4, .inl (T 0, 4, .inl E))] (fun r => r = hosN fv E 12) := by
  refine KR.of (by decide +kernel) (Nat.le_of_ble_eq_true rfl) (fun p e s m below meth c F hr hlk hW ls hl => ?_)
  have hx := F.1
  have hb := F.2.1
  have hl : lv_has ls 4 [(0, .ref q0), (1, .ref q4)] := hl
  refine lv_iconst (v := 0) hx hb dX3_hostileHouses_0 (by decide) ?_
  refine lv_istore_n (lv' := [(2, .int 0), (0, .ref q0), (1, .ref q4)]) hx hb dX3_hostileHouses_1 rfl hl (by decide) rfl (fun ls hl => ?_)
  refine lv_iconst (v := nI 0) hx hb dX3_hostileHouses_2 (by decide) ?_
  refine lv_istore_n (lv' := [(3, .int (nI 0)), (2, .int 0), (0, .ref q0), (1, .ref q4)]) hx hb dX3_hostileHouses_3 rfl hl (by decide) rfl (fun ls hl => ?_)
  refine W.loop (fun n H2 locs2 ls2 => H2 = s.heap ∧ locs2 = [] ∧ ∃ k, k ≤ 12 ∧ n = 12 - k ∧ lv_has ls2 4 [(0, .ref q0), (1, .ref q4), (2, .int (hosN fv E k)), (3, .int (nI k))]) ?_ 12 ⟨rfl, rfl, 0, by omega, rfl, lv_sub hl [2, 3, 1, 0] rfl⟩
  rintro n H2 locs2 ls ⟨rfl, rfl, k, hk, rfl, hl⟩ ih
  refine lv_iload_n hx hb dX3_hostileHouses_4 rfl (lv_at hl 3 rfl) ?_
  refine lv_bipush (v := nI 12) hx hb dX3_hostileHouses_5 (by decide) ?_
  refine lv_icmp_ge (tgt := 33) hx hb dX3_hostileHouses_7 (by decide) (fun h7 => ?_) (fun h7 => ?_)
  · have h5 : k = 12 := by have := (nI_leI (by omega) (by omega)).mp h7; omega
    subst h5
    refine lv_iload_n hx hb dX3_hostileHouses_33 rfl (lv_at hl 2 rfl) ?_
    exact retR F hr hlk rfl rfl dX3_hostileHouses_34
  · have h5 : k < 12 := by have := n_nle h7 (by omega) (by omega); omega
    refine lv_iload_n hx hb dX3_hostileHouses_10 rfl (lv_at hl 2 rfl) ?_
    refine lv_aload_n hx hb dX3_hostileHouses_11 rfl (lv_at hl 0 rfl) ?_
    refine lv_iload_n hx hb dX3_hostileHouses_12 rfl (lv_at hl 3 rfl) ?_
    refine lv_aload_n hx hb dX3_hostileHouses_13 rfl (lv_at hl 1 rfl) ?_
    refine cRV (As := [.int (nI k), .ref q4]) (rest := [.int (hosN fv E k)]) F hW hl cs303 (c_isHostile l D T q0 q1 q2 q3 q4 pl ov mv fv E (h := k) (by omega)) [0, 1, 2] rfl rfl 0 3 rfl rfl rfl rfl rfl (Nat.le_of_ble_eq_true rfl) ⟨Nat.le_of_ble_eq_true rfl, Nat.le_of_ble_eq_true rfl⟩ ⟨Nat.zero_le _, Nat.zero_le _⟩ dX3_hostileHouses_14 (fun r14 hr14 => ?_)
    subst hr14
    refine lv_if_eq (tgt := 24) hx hb dX3_hostileHouses_17 (by decide) (fun h17 => ?_) (fun h17 => ?_)
    · refine lv_iconst (v := 0) hx hb dX3_hostileHouses_24 (by decide) ?_
      refine iaddE (z := hosN fv E (k + 1)) hx hb dX3_hostileHouses_25 (by rw [hosN, if_neg (bz.mp h17)]) ?_
      refine lv_istore_n (lv' := [(2, .int (hosN fv E (k + 1))), (0, .ref q0), (1, .ref q4), (3, .int (nI k))]) hx hb dX3_hostileHouses_26 rfl hl (by decide) rfl (fun ls hl => ?_)
      refine lv_iinc (v := nI (k + 1)) (lv' := [(3, .int (nI (k + 1))), (2, .int (hosN fv E (k + 1))), (0, .ref q0), (1, .ref q4)]) hx hb dX3_hostileHouses_27 hl (k := 3) rfl (nI_add _ _) (by decide) rfl (fun ls hl => ?_)
      refine lv_goto (tgt := 4) hx hb dX3_hostileHouses_30 (by decide) ?_
      exact ih (12 - (k + 1)) _ _ _ (by omega) ⟨rfl, rfl, k + 1, by omega, rfl, lv_sub hl [2, 3, 1, 0] rfl⟩
    · refine lv_iconst (v := 1) hx hb dX3_hostileHouses_20 (by decide) ?_
      refine lv_goto (tgt := 25) hx hb dX3_hostileHouses_21 (by decide) ?_
      refine iaddE (z := hosN fv E (k + 1)) hx hb dX3_hostileHouses_25 (by rw [hosN, if_pos (Decidable.not_not.mp (fun q => h17 (bz.mpr q)))]) ?_
      refine lv_istore_n (lv' := [(2, .int (hosN fv E (k + 1))), (0, .ref q0), (1, .ref q4), (3, .int (nI k))]) hx hb dX3_hostileHouses_26 rfl hl (by decide) rfl (fun ls hl => ?_)
      refine lv_iinc (v := nI (k + 1)) (lv' := [(3, .int (nI (k + 1))), (2, .int (hosN fv E (k + 1))), (0, .ref q0), (1, .ref q4)]) hx hb dX3_hostileHouses_27 hl (k := 3) rfl (nI_add _ _) (by decide) rfl (fun ls hl => ?_)
      refine lv_goto (tgt := 4) hx hb dX3_hostileHouses_30 (by decide) ?_
      exact ih (12 - (k + 1)) _ _ _ (by omega) ⟨rfl, rfl, k + 1, by omega, rfl, lv_sub hl [2, 3, 1, 0] rfl⟩
abbrev decC (mv : Int32) (sd so : Nat → Int32) : Prop := sm 0 sd 0 6 + sm 0 sd 6 6 = 0 ∨ 300 ≤ mv ∨ sm 0 sd 0 6 + sm 0 sd 6 6 + so 0 + so 1 < 2 * so 0 ∨ sm 0 sd 0 6 + sm 0 sd 6 6 + so 0 + so 1 < 2 * so 1
set_option maxHeartbeats 4000000 in
set_option maxRecDepth 100000 in
theorem c_isDecided (l : Launch) (D : va_G) (T : Nat → ClassId) (q0 q1 q2 q3 : Nat) (pl ov mv : Int32) (sd so : Nat → Int32) : KR l D T yX3_isDecided cX3_isDecided 3 (some .boolean) 1 [.ref q0] [(q0, .inr (3, [.ref q1, .ref q2, .ref q3, .int pl, .int ov, .int mv])), (q1, .inl (T 0, 12, .inl sd)), (q3, .inl (T 0, 2, .inl so))] (fun r => r = if decC mv sd so then 1 else 0) := by
  refine KR.of (by decide +kernel) (Nat.le_of_ble_eq_true rfl) (fun p e s m below meth c F hr hlk hW ls hl => ?_)
  have hx := F.1
  have hb := F.2.1
  have hl : lv_has ls 3 [(0, .ref q0)] := hl
  refine lv_aload_n hx hb dX3_isDecided_0 rfl (lv_at hl 0 rfl) ?_
  refine lv_iconst (v := nI 0) hx hb dX3_isDecided_1 (by decide) ?_
  refine cRV (As := [.int (nI 0)]) (rest := []) F hW hl cs319 (c_seedsInHousesOf l D T q0 q1 q2 q3 pl ov mv sd (o := 0) (by omega)) [0, 1] rfl rfl 0 3 rfl rfl rfl rfl rfl (Nat.le_of_ble_eq_true rfl) ⟨Nat.le_of_ble_eq_true rfl, Nat.le_of_ble_eq_true rfl⟩ ⟨Nat.zero_le _, Nat.zero_le _⟩ dX3_isDecided_2 (fun r2 hr2 => ?_)
  subst hr2
  refine lv_aload_n hx hb dX3_isDecided_5 rfl (lv_at hl 0 rfl) ?_
  refine lv_iconst (v := nI 1) hx hb dX3_isDecided_6 (by decide) ?_
  refine cRV (As := [.int (nI 1)]) (rest := [.int (sm 0 sd (6 * 0) 6)]) F hW hl cs319 (c_seedsInHousesOf l D T q0 q1 q2 q3 pl ov mv sd (o := 1) (by omega)) [0, 1] rfl rfl 0 3 rfl rfl rfl rfl rfl (Nat.le_of_ble_eq_true rfl) ⟨Nat.le_of_ble_eq_true rfl, Nat.le_of_ble_eq_true rfl⟩ ⟨Nat.zero_le _, Nat.zero_le _⟩ dX3_isDecided_7 (fun r7 hr7 => ?_)
  subst hr7
  refine iaddE (z := (sm 0 sd (6 * 0) 6) + (sm 0 sd (6 * 1) 6)) hx hb dX3_isDecided_10 rfl ?_
  refine lv_istore_n (lv' := [(1, .int ((sm 0 sd (6 * 0) 6) + (sm 0 sd (6 * 1) 6))), (0, .ref q0)]) hx hb dX3_isDecided_11 rfl hl (by decide) rfl (fun ls hl => ?_)
  refine lv_iload_n hx hb dX3_isDecided_12 rfl (lv_at hl 0 rfl) ?_
  refine lv_aload_n hx hb dX3_isDecided_13 rfl (lv_at hl 1 rfl) ?_
  refine gf58 F hW 0 rfl rfl dX3_isDecided_14 ?_
  refine lv_iconst (v := nI 0) hx hb dX3_isDecided_17 (by decide) ?_
  refine ald F hW 2 rfl (x := so 0) 0 rfl (by omega) (by decide) rfl dX3_isDecided_18 ?_
  refine iaddE (z := ((sm 0 sd (6 * 0) 6) + (sm 0 sd (6 * 1) 6)) + (so 0)) hx hb dX3_isDecided_19 rfl ?_
  refine lv_aload_n hx hb dX3_isDecided_20 rfl (lv_at hl 1 rfl) ?_
  refine gf58 F hW 0 rfl rfl dX3_isDecided_21 ?_
  refine lv_iconst (v := nI 1) hx hb dX3_isDecided_24 (by decide) ?_
  refine ald F hW 2 rfl (x := so 1) 1 rfl (by omega) (by decide) rfl dX3_isDecided_25 ?_
  refine iaddE (z := (((sm 0 sd (6 * 0) 6) + (sm 0 sd (6 * 1) 6)) + (so 0)) + (so 1)) hx hb dX3_isDecided_26 rfl ?_
  refine lv_istore_n (lv' := [(2, .int ((((sm 0 sd (6 * 0) 6) + (sm 0 sd (6 * 1) 6)) + (so 0)) + (so 1))), (1, .int ((sm 0 sd (6 * 0) 6) + (sm 0 sd (6 * 1) 6))), (0, .ref q0)]) hx hb dX3_isDecided_27 rfl hl (by decide) rfl (fun ls hl => ?_)
  refine lv_iload_n hx hb dX3_isDecided_28 rfl (lv_at hl 1 rfl) ?_
  refine lv_if_eq (tgt := 66) hx hb dX3_isDecided_29 (by decide) (fun h29 => ?_) (fun h29 => ?_)
  · refine lv_iconst (v := nI 1) hx hb dX3_isDecided_66 (by decide) ?_
    refine lv_goto (tgt := 71) hx hb dX3_isDecided_67 (by decide) ?_
    exact retR F hr hlk rfl (if_pos (show decC mv sd so from Or.inl h29)).symm dX3_isDecided_71
  · refine lv_aload_n hx hb dX3_isDecided_32 rfl (lv_at hl 2 rfl) ?_
    refine gf66 F hW 0 rfl rfl dX3_isDecided_33 ?_
    refine lv_sipush (v := nI 300) hx hb dX3_isDecided_36 (by decide) ?_
    refine lv_icmp_ge (tgt := 66) hx hb dX3_isDecided_39 (by decide) (fun h39 => ?_) (fun h39 => ?_)
    · refine lv_iconst (v := nI 1) hx hb dX3_isDecided_66 (by decide) ?_
      refine lv_goto (tgt := 71) hx hb dX3_isDecided_67 (by decide) ?_
      exact retR F hr hlk rfl (if_pos (show decC mv sd so from Or.inr (Or.inl h39))).symm dX3_isDecided_71
    · refine lv_iconst (v := nI 2) hx hb dX3_isDecided_42 (by decide) ?_
      refine lv_aload_n hx hb dX3_isDecided_43 rfl (lv_at hl 2 rfl) ?_
      refine gf58 F hW 0 rfl rfl dX3_isDecided_44 ?_
      refine lv_iconst (v := nI 0) hx hb dX3_isDecided_47 (by decide) ?_
      refine ald F hW 2 rfl (x := so 0) 0 rfl (by omega) (by decide) rfl dX3_isDecided_48 ?_
      refine imulE (z := (nI 2) * (so 0)) hx hb dX3_isDecided_49 rfl ?_
      refine lv_iload_n hx hb dX3_isDecided_50 rfl (lv_at hl 0 rfl) ?_
      refine lv_icmp_gt (tgt := 66) hx hb dX3_isDecided_51 (by decide) (fun h51 => ?_) (fun h51 => ?_)
      · refine lv_iconst (v := nI 1) hx hb dX3_isDecided_66 (by decide) ?_
        refine lv_goto (tgt := 71) hx hb dX3_isDecided_67 (by decide) ?_
        exact retR F hr hlk rfl (if_pos (show decC mv sd so from Or.inr (Or.inr (Or.inl h51)))).symm dX3_isDecided_71
      · refine lv_iconst (v := nI 2) hx hb dX3_isDecided_54 (by decide) ?_
        refine lv_aload_n hx hb dX3_isDecided_55 rfl (lv_at hl 2 rfl) ?_
        refine gf58 F hW 0 rfl rfl dX3_isDecided_56 ?_
        refine lv_iconst (v := nI 1) hx hb dX3_isDecided_59 (by decide) ?_
        refine ald F hW 2 rfl (x := so 1) 1 rfl (by omega) (by decide) rfl dX3_isDecided_60 ?_
        refine imulE (z := (nI 2) * (so 1)) hx hb dX3_isDecided_61 rfl ?_
        refine lv_iload_n hx hb dX3_isDecided_62 rfl (lv_at hl 0 rfl) ?_
        refine lv_icmp_le (tgt := 70) hx hb dX3_isDecided_63 (by decide) (fun h63 => ?_) (fun h63 => ?_)
        · refine lv_iconst (v := nI 0) hx hb dX3_isDecided_70 (by decide) ?_
          exact retR F hr hlk rfl (by rw [if_neg (fun q => q.elim h29 (fun q => q.elim h39 (fun q => q.elim h51 (Int32.not_lt.mpr h63))))]; rfl) dX3_isDecided_71
        · refine lv_iconst (v := nI 1) hx hb dX3_isDecided_66 (by decide) ?_
          refine lv_goto (tgt := 71) hx hb dX3_isDecided_67 (by decide) ?_
          exact retR F hr hlk rfl (if_pos (show decC mv sd so from Or.inr (Or.inr (Or.inr (Int32.not_le.mp h63))))).symm dX3_isDecided_71
end
section
-- Position: the methods that write; Report
def Agr (P sd vs so : Nat → Int32) : Prop := (∀ j, j < 12 → sd j = P j) ∧ (∀ j, j < 12 → vs j = P (12 + j)) ∧ (∀ j, j < 2 → so j = P (24 + j))
theorem u_s (f : Nat → Int32) (k : Nat) (x : Int32) : upd f k x k = x := by simp [upd]
theorem u_n {f : Nat → Int32} {k j : Nat} {x : Int32} (h : j ≠ k) : upd f k x j = f j := by simp [upd, h]
theorem nxt_lt (fr h : Nat) : nxt fr h < 12 := by unfold nxt; split <;> omega
theorem payP_y {P : Nat → Int32} {h pl : Nat} {hand : Int32} (hc : own h ≠ pl ∧ P 35 ≤ P (12 + h) ∧ P 37 < hand) : payP P h pl hand = upd (upd P (25 - pl) (P (25 - pl) + P 37)) 33 (P 33 + P 37) := if_pos hc
theorem payP_n {P : Nat → Int32} {h pl : Nat} {hand : Int32} (hc : ¬ (own h ≠ pl ∧ P 35 ≤ P (12 + h) ∧ P 37 < hand)) : payP P h pl hand = P := if_neg hc
theorem payH_y {P : Nat → Int32} {h pl : Nat} {hand : Int32} (hc : own h ≠ pl ∧ P 35 ≤ P (12 + h) ∧ P 37 < hand) : payH P h pl hand = hand - P 37 := if_pos hc
theorem payH_n {P : Nat → Int32} {h pl : Nat} {hand : Int32} (hc : ¬ (own h ≠ pl ∧ P 35 ≤ P (12 + h) ∧ P 37 < hand)) : payH P h pl hand = hand := if_neg hc
theorem payP_o (P : Nat → Int32) (h pl : Nat) (hand : Int32) {j : Nat} (hpl : pl < 2) (h1 : j ≠ 24) (h2 : j ≠ 25) (h3 : j ≠ 33) : payP P h pl hand j = P j := by
  unfold payP
  split
  · rw [u_n h3, u_n (by omega)]
  · rfl
theorem putS_o (P : Nat → Int32) {h j : Nat} (hj : j ≠ h) : putS P h j = P j := u_n hj
theorem pay_dec {P : Nat → Int32} {h pl : Nat} {hand : Int32} (h0 : 0 < hand) (ht : 0 ≤ (P 37).toInt) : (payH P h pl hand - 1).toNatClampNeg < hand.toNatClampNeg := by
  have h1 : 0 < hand.toInt := by have := (i_lt _ _).mp h0; rw [i_0] at this; exact this
  have hr := i_rng hand
  have hr2 := i_rng (P 37)
  have e1 := i_1
  have key : ∀ z : Int32, 0 < z.toInt → z.toInt ≤ hand.toInt → (z - 1).toNatClampNeg < hand.toNatClampNeg := by
    intro z h2 h3
    have hs : (z - 1).toInt = z.toInt - 1 := by rw [i_sub (by omega) (by omega), e1]
    have a1 := i_nat (z - 1) (by omega)
    have a2 := i_nat hand (by omega)
    omega
  unfold payH
  split
  · next hc =>
    have h2 := (i_lt _ _).mp hc.2.2
    have hs : (hand - P 37).toInt = hand.toInt - (P 37).toInt := i_sub (by omega) (by omega)
    exact key _ (by omega) (by omega)
  · exact key _ h1 (Int.le_refl _)
theorem pay_so {P : Nat → Int32} {g pl : Nat} {hand : Int32} (hc : own g ≠ pl ∧ P 35 ≤ P (12 + g) ∧ P 37 < hand) (hpl : pl < 2) : ∀ j, j < 2 → upd (fun j => P (24 + j)) (1 - pl) (P (24 + (1 - pl)) + P 37) j = payP P g pl hand (24 + j) := by
  intro j hj
  rw [payP_y hc, u_n (show 24 + j ≠ 33 by omega)]
  by_cases q : j = 1 - pl
  · rw [q, u_s, show 25 - pl = 24 + (1 - pl) by omega, u_s]
  · rw [u_n q, u_n (show 24 + j ≠ 25 - pl by omega)]
theorem sowF_end {n : Nat} {P : Nat → Int32} {h fr pl : Nat} {hand : Int32} (h0 : ¬ 0 < hand) : sowF n P h hand fr pl = (P, h) := by
  cases n with
  | zero => rfl
  | succ n => rw [sowF, if_neg h0]
theorem pos_fuel {n : Nat} {hand : Int32} (h0 : 0 < hand) (hn : hand.toNatClampNeg ≤ n) : ∃ k, n = k + 1 := by
  have h1 : 0 < hand.toInt := by have := (i_lt _ _).mp h0; rw [i_0] at this; exact this
  have a2 := i_nat hand (by omega)
  exact ⟨n - 1, by omega⟩
set_option maxHeartbeats 4000000 in
set_option maxRecDepth 100000 in
theorem c_clear (l : Launch) (D : va_G) (T : Nat → ClassId) (q5 : Nat) (x0 x1 x2 x3 x4 z : Int32) : KV (S := Unit) l D T yX4_clear cX4_clear 2 0 [.ref q5, .int z] [(q5, .inr (4, [.int x0, .int x1, .int x2, .int x3, .int x4]))] (fun _ => True) (fun u => [(q5, .inr (4, [.int z, .int 0, .int z, .int 0, .int 0]))]) := by
  refine KV.of (by decide +kernel) (Nat.le_of_ble_eq_true rfl) (fun p e s m below meth c A F hr hlk hW ls hl => ?_)
  have hx := F.1
  have hb := F.2.1
  have hl : lv_has ls 2 [(0, .ref q5), (1, .int z)] := hl
  refine lv_aload_n hx hb dX4_clear_0 rfl (lv_at hl 0 rfl) ?_
  refine lv_iload_n hx hb dX4_clear_1 rfl (lv_at hl 1 rfl) ?_
  refine pf98 (ws' := [(q5, .inr (4, [.int z, .int x1, .int x2, .int x3, .int x4]))]) F hW 0 rfl rfl rfl dX4_clear_2 (fun H locs hW => ?_)
  refine lv_aload_n hx hb dX4_clear_5 rfl (lv_at hl 0 rfl) ?_
  refine lv_iconst (v := 0) hx hb dX4_clear_6 (by decide) ?_
  refine pf100 (ws' := [(q5, .inr (4, [.int z, .int 0, .int x2, .int x3, .int x4]))]) F hW 0 rfl rfl rfl dX4_clear_7 (fun H locs hW => ?_)
  refine lv_aload_n hx hb dX4_clear_10 rfl (lv_at hl 0 rfl) ?_
  refine lv_iload_n hx hb dX4_clear_11 rfl (lv_at hl 1 rfl) ?_
  refine pf103 (ws' := [(q5, .inr (4, [.int z, .int 0, .int z, .int x3, .int x4]))]) F hW 0 rfl rfl rfl dX4_clear_12 (fun H locs hW => ?_)
  refine lv_aload_n hx hb dX4_clear_15 rfl (lv_at hl 0 rfl) ?_
  refine lv_iconst (v := 0) hx hb dX4_clear_16 (by decide) ?_
  refine pf106 (ws' := [(q5, .inr (4, [.int z, .int 0, .int z, .int 0, .int x4]))]) F hW 0 rfl rfl rfl dX4_clear_17 (fun H locs hW => ?_)
  refine lv_aload_n hx hb dX4_clear_20 rfl (lv_at hl 0 rfl) ?_
  refine lv_iconst (v := 0) hx hb dX4_clear_21 (by decide) ?_
  refine pf109 (ws' := [(q5, .inr (4, [.int z, .int 0, .int z, .int 0, .int 0]))]) F hW 0 rfl rfl rfl dX4_clear_22 (fun H locs hW => ?_)
  exact retV F hr hlk hW () trivial rfl dX4_clear_25
set_option maxHeartbeats 4000000 in
set_option maxRecDepth 100000 in
theorem c_repCopy (l : Launch) (D : va_G) (T : Nat → ClassId) (q5 q6 : Nat) (x0 x1 x2 x3 x4 y0 y1 y2 y3 y4 : Int32) : KV (S := Unit) l D T yX4_copyFrom cX4_copyFrom 2 0 [.ref q5, .ref q6] [(q5, .inr (4, [.int x0, .int x1, .int x2, .int x3, .int x4])), (q6, .inr (4, [.int y0, .int y1, .int y2, .int y3, .int y4]))] (fun _ => True) (fun u => [(q5, .inr (4, [.int y0, .int y1, .int y2, .int y3, .int y4])), (q6, .inr (4, [.int y0, .int y1, .int y2, .int y3, .int y4]))]) := by
  refine KV.of (by decide +kernel) (Nat.le_of_ble_eq_true rfl) (fun p e s m below meth c A F hr hlk hW ls hl => ?_)
  have hx := F.1
  have hb := F.2.1
  have hl : lv_has ls 2 [(0, .ref q5), (1, .ref q6)] := hl
  refine lv_aload_n hx hb dX4_copyFrom_0 rfl (lv_at hl 0 rfl) ?_
  refine lv_aload_n hx hb dX4_copyFrom_1 rfl (lv_at hl 1 rfl) ?_
  refine gf98 F hW 1 rfl rfl dX4_copyFrom_2 ?_
  refine pf98 (ws' := [(q5, .inr (4, [.int y0, .int x1, .int x2, .int x3, .int x4])), (q6, .inr (4, [.int y0, .int y1, .int y2, .int y3, .int y4]))]) F hW 0 rfl rfl rfl dX4_copyFrom_5 (fun H locs hW => ?_)
  refine lv_aload_n hx hb dX4_copyFrom_8 rfl (lv_at hl 0 rfl) ?_
  refine lv_aload_n hx hb dX4_copyFrom_9 rfl (lv_at hl 1 rfl) ?_
  refine gf100 F hW 1 rfl rfl dX4_copyFrom_10 ?_
  refine pf100 (ws' := [(q5, .inr (4, [.int y0, .int y1, .int x2, .int x3, .int x4])), (q6, .inr (4, [.int y0, .int y1, .int y2, .int y3, .int y4]))]) F hW 0 rfl rfl rfl dX4_copyFrom_13 (fun H locs hW => ?_)
  refine lv_aload_n hx hb dX4_copyFrom_16 rfl (lv_at hl 0 rfl) ?_
  refine lv_aload_n hx hb dX4_copyFrom_17 rfl (lv_at hl 1 rfl) ?_
  refine gf103 F hW 1 rfl rfl dX4_copyFrom_18 ?_
  refine pf103 (ws' := [(q5, .inr (4, [.int y0, .int y1, .int y2, .int x3, .int x4])), (q6, .inr (4, [.int y0, .int y1, .int y2, .int y3, .int y4]))]) F hW 0 rfl rfl rfl dX4_copyFrom_21 (fun H locs hW => ?_)
  refine lv_aload_n hx hb dX4_copyFrom_24 rfl (lv_at hl 0 rfl) ?_
  refine lv_aload_n hx hb dX4_copyFrom_25 rfl (lv_at hl 1 rfl) ?_
  refine gf106 F hW 1 rfl rfl dX4_copyFrom_26 ?_
  refine pf106 (ws' := [(q5, .inr (4, [.int y0, .int y1, .int y2, .int y3, .int x4])), (q6, .inr (4, [.int y0, .int y1, .int y2, .int y3, .int y4]))]) F hW 0 rfl rfl rfl dX4_copyFrom_29 (fun H locs hW => ?_)
  refine lv_aload_n hx hb dX4_copyFrom_32 rfl (lv_at hl 0 rfl) ?_
  refine lv_aload_n hx hb dX4_copyFrom_33 rfl (lv_at hl 1 rfl) ?_
  refine gf109 F hW 1 rfl rfl dX4_copyFrom_34 ?_
  refine pf109 (ws' := [(q5, .inr (4, [.int y0, .int y1, .int y2, .int y3, .int y4])), (q6, .inr (4, [.int y0, .int y1, .int y2, .int y3, .int y4]))]) F hW 0 rfl rfl rfl dX4_copyFrom_37 (fun H locs hW => ?_)
  exact retV F hr hlk hW () trivial rfl dX4_copyFrom_40
set_option maxHeartbeats 4000000 in
set_option maxRecDepth 100000 in
theorem c_sowHand (l : Launch) (D : va_G) (T : Nat → ClassId) (q0 q1 q2 q3 q4 q5 : Nat) {pl : Nat} (hpl : pl < 2) (ov mv : Int32) (sd vs so E : Nat → Int32) (x0 x1 x2 x3 : Int32) (P : Nat → Int32) (hA : Agr P sd vs so) (hE : ∀ j, j < 4 → E j = P (34 + j)) {fr : Nat} (hfr : fr < 12) (ht : 0 ≤ (P 37).toInt) : KI (S := Unit) l D T yX3_sowHand cX3_sowHand 7 (some .int) 1 [.ref q0, .int (nI fr), .ref q4, .ref q5] [(q0, .inr (3, [.ref q1, .ref q2, .ref q3, .int (nI pl), .int ov, .int mv])), (q1, .inl (T 0, 12, .inl sd)), (q2, .inl (T 0, 12, .inl vs)), (q3, .inl (T 0, 2, .inl so)), (q4, .inl (T 0, 4, .inl E)), (q5, .inr (4, [.int x0, .int x1, .int x2, .int x3, .int (P 33)]))] (fun r _ => r = nI (sowM P fr pl).2) (fun u => [(q0, .inr (3, [.ref q1, .ref q2, .ref q3, .int (nI pl), .int ov, .int mv])), (q1, .inl (T 0, 12, .inl (fun j => ((sowM P fr pl).1) j))), (q2, .inl (T 0, 12, .inl vs)), (q3, .inl (T 0, 2, .inl (fun j => ((sowM P fr pl).1) (24 + j)))), (q4, .inl (T 0, 4, .inl E)), (q5, .inr (4, [.int x0, .int x1, .int x2, .int x3, .int (((sowM P fr pl).1) 33)]))]) := by
  refine KI.of (by decide +kernel) (Nat.le_of_ble_eq_true rfl) (fun p e s m below meth c A F hr hlk hW ls hl => ?_)
  have hx := F.1
  have hb := F.2.1
  have hl : lv_has ls 7 [(0, .ref q0), (1, .int (nI fr)), (2, .ref q4), (3, .ref q5)] := hl
  refine lv_aload_n hx hb dX3_sowHand_0 rfl (lv_at hl 2 rfl) ?_
  refine lv_iconst (v := nI 3) hx hb dX3_sowHand_1 (by decide) ?_
  refine ald F hW 4 rfl (x := P 37) 3 rfl (by omega) (by decide) (hE 3 (by decide)) dX3_sowHand_2 ?_
  refine lv_istore (lv' := [(4, .int (P 37)), (0, .ref q0), (1, .int (nI fr)), (2, .ref q4), (3, .ref q5)]) hx hb dX3_sowHand_3 hl (by decide) rfl (fun ls hl => ?_)
  refine lv_aload_n hx hb dX3_sowHand_5 rfl (lv_at hl 1 rfl) ?_
  refine gf54 F hW 0 rfl rfl dX3_sowHand_6 ?_
  refine lv_iload_n hx hb dX3_sowHand_9 rfl (lv_at hl 2 rfl) ?_
  refine ald F hW 1 rfl (x := P fr) fr rfl (by omega) (by decide) (hA.1 fr hfr) dX3_sowHand_10 ?_
  refine lv_istore (lv' := [(5, .int (P fr)), (4, .int (P 37)), (0, .ref q0), (1, .int (nI fr)), (2, .ref q4), (3, .ref q5)]) hx hb dX3_sowHand_11 hl (by decide) rfl (fun ls hl => ?_)
  refine lv_aload_n hx hb dX3_sowHand_13 rfl (lv_at hl 2 rfl) ?_
  refine gf54 F hW 0 rfl rfl dX3_sowHand_14 ?_
  refine lv_iload_n hx hb dX3_sowHand_17 rfl (lv_at hl 3 rfl) ?_
  refine lv_iconst (v := 0) hx hb dX3_sowHand_18 (by decide) ?_
  refine ast (ws' := [(q0, .inr (3, [.ref q1, .ref q2, .ref q3, .int (nI pl), .int ov, .int mv])), (q1, .inl (T 0, 12, .inl (fun j => (upd P fr 0) j))), (q2, .inl (T 0, 12, .inl vs)), (q3, .inl (T 0, 2, .inl so)), (q4, .inl (T 0, 4, .inl E)), (q5, .inr (4, [.int x0, .int x1, .int x2, .int x3, .int (P 33)]))]) F hW 1 (fun j => (upd P fr 0) j) rfl fr rfl (by omega) (by decide) (fun j hj => by by_cases q : j = fr <;> simp [upd, q, hA.1 j hj]) rfl dX3_sowHand_19 (fun H locs hW => ?_)
  refine lv_iload_n hx hb dX3_sowHand_20 rfl (lv_at hl 3 rfl) ?_
  refine lv_istore (lv' := [(6, .int (nI fr)), (5, .int (P fr)), (4, .int (P 37)), (0, .ref q0), (1, .int (nI fr)), (2, .ref q4), (3, .ref q5)]) hx hb dX3_sowHand_21 hl (by decide) rfl (fun ls hl => ?_)
  have hW := Wd.arr hW 3 (fun j => (upd P fr 0) (24 + j)) rfl (fun j hj => (hA.2.2 j hj).trans (u_n (by omega)).symm) (ws' := [(q0, .inr (3, [.ref q1, .ref q2, .ref q3, .int (nI pl), .int ov, .int mv])), (q1, .inl (T 0, 12, .inl (fun j => (upd P fr 0) j))), (q2, .inl (T 0, 12, .inl vs)), (q3, .inl (T 0, 2, .inl (fun j => (upd P fr 0) (24 + j)))), (q4, .inl (T 0, 4, .inl E)), (q5, .inr (4, [.int x0, .int x1, .int x2, .int x3, .int (P 33)]))]) rfl
  have e33 : (upd P fr 0) 33 = P 33 := u_n (by omega)
  refine W.loop (fun n H2 locs2 ls2 => ∃ (Pc : Nat → Int32) (h : Nat) (hand : Int32), h < 12 ∧ sowF n Pc h hand fr pl = sowM P fr pl ∧ hand.toNatClampNeg ≤ n ∧ (∀ j, 12 ≤ j → j < 24 → Pc j = P j) ∧ Pc 35 = P 35 ∧ Pc 37 = P 37 ∧ Wd D T A s [(q0, .inr (3, [.ref q1, .ref q2, .ref q3, .int (nI pl), .int ov, .int mv])), (q1, .inl (T 0, 12, .inl (fun j => Pc j))), (q2, .inl (T 0, 12, .inl vs)), (q3, .inl (T 0, 2, .inl (fun j => Pc (24 + j)))), (q4, .inl (T 0, 4, .inl E)), (q5, .inr (4, [.int x0, .int x1, .int x2, .int x3, .int (Pc 33)]))] H2 locs2 ∧ lv_has ls2 7 [(0, .ref q0), (1, .int (nI fr)), (2, .ref q4), (3, .ref q5), (4, .int (P 37)), (5, .int hand), (6, .int (nI h))]) ?_ (P fr).toNatClampNeg ⟨upd P fr 0, fr, P fr, hfr, rfl, Nat.le_refl _, fun j h1 h2 => u_n (by omega), u_n (by omega), u_n (by omega), by rw [e33]; exact hW, lv_sub hl [3, 4, 5, 6, 2, 1, 0] rfl⟩
  rintro n H locs ls ⟨Pc, h, hand, hh, hS, hn, hv, h35, h37, hW, hl⟩ ih
  refine lv_iload hx hb dX3_sowHand_23 (lv_at hl 5 rfl) ?_
  refine lv_if_le (tgt := 128) hx hb dX3_sowHand_25 (by decide) (fun h25 => ?_) (fun h25 => ?_)
  · rw [sowF_end (Int32.not_lt.mpr h25)] at hS
    refine lv_iload hx hb dX3_sowHand_128 (lv_at hl 6 rfl) ?_
    exact retI F hr hlk rfl hW () (by rw [← hS]) (by rw [← hS]) dX3_sowHand_130
  · have h0 : 0 < hand := Int32.not_le.mp h25
    obtain ⟨n, rfl⟩ := pos_fuel h0 hn
    rw [sowF, if_pos h0] at hS
    refine lv_iload hx hb dX3_sowHand_28 (lv_at hl 6 rfl) ?_
    refine cRS (As := [.int (nI h)]) (rest := []) F hW hl cs300 (c_houseBehind l D T (h := h) (by omega)) [] rfl rfl rfl rfl (Nat.le_of_ble_eq_true rfl) ⟨Nat.le_of_ble_eq_true rfl, Nat.le_of_ble_eq_true rfl⟩ ⟨Nat.zero_le _, Nat.zero_le _⟩ dX3_sowHand_30 (fun r30 hr30 => ?_)
    subst hr30
    refine lv_istore (lv' := [(6, .int (nI ((h + 1) % 12))), (0, .ref q0), (1, .int (nI fr)), (2, .ref q4), (3, .ref q5), (4, .int (P 37)), (5, .int hand)]) hx hb dX3_sowHand_33 hl (by decide) rfl (fun ls hl => ?_)
    refine lv_iload hx hb dX3_sowHand_35 (lv_at hl 0 rfl) ?_
    refine lv_iload_n hx hb dX3_sowHand_37 rfl (lv_at hl 2 rfl) ?_
    refine W.fork (X := Unit) 48 (fun _ => []) (fun _ H2 locs2 ls2 => H2 = H ∧ locs2 = locs ∧ lv_has ls2 7 [(0, .ref q0), (1, .int (nI fr)), (2, .ref q4), (3, .ref q5), (4, .int (P 37)), (5, .int hand), (6, .int (nI (nxt fr h)))]) (fun hJ => ?_) ?_
    · refine lv_icmp_ne (tgt := 48) hx hb dX3_sowHand_38 (by decide) (fun h38 => ?_) (fun h38 => ?_)
      · have e1 : (h + 1) % 12 = nxt fr h := by unfold nxt; rw [if_neg (n_ne h38)]
        rw [e1] at hl
        exact hJ () _ _ _ ⟨rfl, rfl, lv_sub hl [1, 2, 3, 4, 5, 6, 0] rfl⟩
      · have e0 := n_eq h38 (by omega) (by omega)
        have e1 : ((h + 1) % 12 + 1) % 12 = nxt fr h := by unfold nxt; rw [if_pos e0]; omega
        refine lv_iload hx hb dX3_sowHand_41 (lv_at hl 0 rfl) ?_
        refine cRS (As := [.int (nI ((h + 1) % 12))]) (rest := []) F hW hl cs300 (c_houseBehind l D T (h := ((h + 1) % 12)) (by omega)) [] rfl rfl rfl rfl (Nat.le_of_ble_eq_true rfl) ⟨Nat.le_of_ble_eq_true rfl, Nat.le_of_ble_eq_true rfl⟩ ⟨Nat.zero_le _, Nat.zero_le _⟩ dX3_sowHand_43 (fun r43 hr43 => ?_)
        subst hr43
        refine lv_istore (lv' := [(6, .int (nI (((h + 1) % 12 + 1) % 12))), (0, .ref q0), (1, .int (nI fr)), (2, .ref q4), (3, .ref q5), (4, .int (P 37)), (5, .int hand)]) hx hb dX3_sowHand_46 hl (by decide) rfl (fun ls hl => ?_)
        rw [e1] at hl
        exact hJ () _ _ _ ⟨rfl, rfl, lv_sub hl [1, 2, 3, 4, 5, 6, 0] rfl⟩
    · rintro - H2 locs2 ls ⟨rfl, rfl, hl⟩
      have hg : nxt fr h < 12 := nxt_lt fr h
      generalize nxt fr h = g at hl hS hg
      have ev : vs g = Pc (12 + g) := (hA.2.1 g hg).trans (hv _ (by omega) (by omega)).symm
      have eE : E 1 = Pc 35 := (hE 1 (by decide)).trans h35.symm
      refine W.fork (X := Unit) 111 (fun _ => []) (fun _ H2 locs2 ls2 => Wd D T A s [(q0, .inr (3, [.ref q1, .ref q2, .ref q3, .int (nI pl), .int ov, .int mv])), (q1, .inl (T 0, 12, .inl (fun j => Pc j))), (q2, .inl (T 0, 12, .inl vs)), (q3, .inl (T 0, 2, .inl (fun j => (payP Pc g pl hand) (24 + j)))), (q4, .inl (T 0, 4, .inl E)), (q5, .inr (4, [.int x0, .int x1, .int x2, .int x3, .int ((payP Pc g pl hand) 33)]))] H2 locs2 ∧ lv_has ls2 7 [(0, .ref q0), (1, .int (nI fr)), (2, .ref q4), (3, .ref q5), (4, .int (P 37)), (5, .int (payH Pc g pl hand)), (6, .int (nI g))]) (fun hJ => ?_) ?_
      · refine lv_iload hx hb dX3_sowHand_48 (lv_at hl 5 rfl) ?_
        refine lv_iload hx hb dX3_sowHand_50 (lv_at hl 4 rfl) ?_
        refine lv_icmp_le (tgt := 111) hx hb dX3_sowHand_52 (by decide) (fun h52 => ?_) (fun h52 => ?_)
        · have hc : ¬ (own g ≠ pl ∧ Pc 35 ≤ Pc (12 + g) ∧ Pc 37 < hand) := fun q => Int32.not_lt.mpr h52 (h37 ▸ q.2.2)
          exact hJ () _ _ _ ⟨by rw [payP_n hc]; exact hW, by rw [payH_n hc]; exact lv_sub hl [0, 1, 2, 3, 4, 5, 6] rfl⟩
        · refine lv_iload hx hb dX3_sowHand_55 (lv_at hl 6 rfl) ?_
          refine cRS (As := [.int (nI g)]) (rest := []) F hW hl cs277 (c_ownerOf l D T (h := g) (by omega)) [] rfl rfl rfl rfl (Nat.le_of_ble_eq_true rfl) ⟨Nat.le_of_ble_eq_true rfl, Nat.le_of_ble_eq_true rfl⟩ ⟨Nat.zero_le _, Nat.zero_le _⟩ dX3_sowHand_57 (fun r57 hr57 => ?_)
          subst hr57
          refine lv_aload_n hx hb dX3_sowHand_60 rfl (lv_at hl 0 rfl) ?_
          refine gf60 F hW 0 rfl rfl dX3_sowHand_61 ?_
          refine lv_icmp_eq (tgt := 111) hx hb dX3_sowHand_64 (by decide) (fun h64 => ?_) (fun h64 => ?_)
          · have hc : ¬ (own g ≠ pl ∧ Pc 35 ≤ Pc (12 + g) ∧ Pc 37 < hand) := fun q => q.1 (n_eq h64 (by have := own_lt hg; omega) (by omega))
            exact hJ () _ _ _ ⟨by rw [payP_n hc]; exact hW, by rw [payH_n hc]; exact lv_sub hl [0, 1, 2, 3, 4, 5, 6] rfl⟩
          · refine lv_aload_n hx hb dX3_sowHand_67 rfl (lv_at hl 0 rfl) ?_
            refine lv_iload hx hb dX3_sowHand_68 (lv_at hl 6 rfl) ?_
            refine lv_aload_n hx hb dX3_sowHand_70 rfl (lv_at hl 2 rfl) ?_
            refine cRV (As := [.int (nI g), .ref q4]) (rest := []) F hW hl cs303 (c_isHostile l D T q0 q1 q2 q3 q4 (nI pl) ov mv vs E (h := g) (by omega)) [0, 2, 4] rfl rfl 0 3 rfl rfl rfl rfl rfl (Nat.le_of_ble_eq_true rfl) ⟨Nat.le_of_ble_eq_true rfl, Nat.le_of_ble_eq_true rfl⟩ ⟨Nat.zero_le _, Nat.zero_le _⟩ dX3_sowHand_71 (fun r71 hr71 => ?_)
            subst hr71
            refine lv_if_eq (tgt := 111) hx hb dX3_sowHand_74 (by decide) (fun h74 => ?_) (fun h74 => ?_)
            · have hc : ¬ (own g ≠ pl ∧ Pc 35 ≤ Pc (12 + g) ∧ Pc 37 < hand) := fun q => bz.mp h74 (by rw [eE, ev]; exact q.2.1)
              exact hJ () _ _ _ ⟨by rw [payP_n hc]; exact hW, by rw [payH_n hc]; exact lv_sub hl [0, 1, 2, 3, 4, 5, 6] rfl⟩
            · have hc : own g ≠ pl ∧ Pc 35 ≤ Pc (12 + g) ∧ Pc 37 < hand := ⟨n_ne h64, by have q := Decidable.not_not.mp (fun q => h74 (bz.mpr q)); rw [eE, ev] at q; exact q, by rw [h37]; exact Int32.not_le.mp h52⟩
              refine lv_iload hx hb dX3_sowHand_77 (lv_at hl 5 rfl) ?_
              refine lv_iload hx hb dX3_sowHand_79 (lv_at hl 4 rfl) ?_
              refine isubE (z := hand - (P 37)) hx hb dX3_sowHand_81 rfl ?_
              refine lv_istore (lv' := [(5, .int (hand - (P 37))), (0, .ref q0), (1, .int (nI fr)), (2, .ref q4), (3, .ref q5), (4, .int (P 37)), (6, .int (nI g))]) hx hb dX3_sowHand_82 hl (by decide) rfl (fun ls hl => ?_)
              refine lv_aload_n hx hb dX3_sowHand_84 rfl (lv_at hl 1 rfl) ?_
              refine gf58 F hW 0 rfl rfl dX3_sowHand_85 ?_
              refine lv_iconst (v := nI 1) hx hb dX3_sowHand_88 (by decide) ?_
              refine lv_aload_n hx hb dX3_sowHand_89 rfl (lv_at hl 1 rfl) ?_
              refine gf60 F hW 0 rfl rfl dX3_sowHand_90 ?_
              refine isubE (z := nI (1 - pl)) hx hb dX3_sowHand_93 (pk_sub (by omega)) ?_
              refine lv_dup2_11 hx hb dX3_sowHand_94 rfl rfl ?_
              refine ald F hW 3 rfl (x := Pc (24 + (1 - pl))) (1 - pl) rfl (by omega) (by decide) rfl dX3_sowHand_95 ?_
              refine lv_iload hx hb dX3_sowHand_96 (lv_at hl 5 rfl) ?_
              refine iaddE (z := Pc (24 + (1 - pl)) + P 37) hx hb dX3_sowHand_98 rfl ?_
              refine ast (ws' := [(q0, .inr (3, [.ref q1, .ref q2, .ref q3, .int (nI pl), .int ov, .int mv])), (q1, .inl (T 0, 12, .inl (fun j => Pc j))), (q2, .inl (T 0, 12, .inl vs)), (q3, .inl (T 0, 2, .inl (fun j => (payP Pc g pl hand) (24 + j)))), (q4, .inl (T 0, 4, .inl E)), (q5, .inr (4, [.int x0, .int x1, .int x2, .int x3, .int (Pc 33)]))]) F hW 3 (fun j => (payP Pc g pl hand) (24 + j)) rfl (1 - pl) rfl (by omega) (by decide) (by rw [← h37]; exact pay_so hc hpl) rfl dX3_sowHand_99 (fun H locs hW => ?_)
              refine lv_aload_n hx hb dX3_sowHand_100 rfl (lv_at hl 4 rfl) ?_
              refine lv_dup hx hb dX3_sowHand_101 rfl ?_
              refine gf111 F hW 5 rfl rfl dX3_sowHand_102 ?_
              refine lv_iload hx hb dX3_sowHand_105 (lv_at hl 5 rfl) ?_
              refine iaddE (z := (Pc 33) + (P 37)) hx hb dX3_sowHand_107 rfl ?_
              refine pf111 (ws' := [(q0, .inr (3, [.ref q1, .ref q2, .ref q3, .int (nI pl), .int ov, .int mv])), (q1, .inl (T 0, 12, .inl (fun j => Pc j))), (q2, .inl (T 0, 12, .inl vs)), (q3, .inl (T 0, 2, .inl (fun j => (payP Pc g pl hand) (24 + j)))), (q4, .inl (T 0, 4, .inl E)), (q5, .inr (4, [.int x0, .int x1, .int x2, .int x3, .int (Pc 33 + P 37)]))]) F hW 5 rfl rfl rfl dX3_sowHand_108 (fun H locs hW => ?_)
              have e3 : (payP Pc g pl hand) 33 = Pc 33 + P 37 := by rw [payP_y hc, u_s, h37]
              have e4 : payH Pc g pl hand = hand - P 37 := by rw [payH_y hc, h37]
              exact hJ () _ _ _ ⟨by rw [e3]; exact hW, by rw [e4]; exact lv_sub hl [1, 2, 3, 4, 5, 0, 6] rfl⟩
      · rintro - H locs ls ⟨hW, hl⟩
        refine lv_aload_n hx hb dX3_sowHand_111 rfl (lv_at hl 0 rfl) ?_
        refine gf54 F hW 0 rfl rfl dX3_sowHand_112 ?_
        refine lv_iload hx hb dX3_sowHand_115 (lv_at hl 6 rfl) ?_
        refine lv_dup2_11 hx hb dX3_sowHand_117 rfl rfl ?_
        refine ald F hW 1 rfl (x := Pc g) g rfl (by omega) (by decide) rfl dX3_sowHand_118 ?_
        refine lv_iconst (v := 1) hx hb dX3_sowHand_119 (by decide) ?_
        refine iaddE (z := (Pc g) + 1) hx hb dX3_sowHand_120 rfl ?_
        refine ast (ws' := [(q0, .inr (3, [.ref q1, .ref q2, .ref q3, .int (nI pl), .int ov, .int mv])), (q1, .inl (T 0, 12, .inl (fun j => (putS (payP Pc g pl hand) g) j))), (q2, .inl (T 0, 12, .inl vs)), (q3, .inl (T 0, 2, .inl (fun j => (payP Pc g pl hand) (24 + j)))), (q4, .inl (T 0, 4, .inl E)), (q5, .inr (4, [.int x0, .int x1, .int x2, .int x3, .int ((payP Pc g pl hand) 33)]))]) F hW 1 (fun j => (putS (payP Pc g pl hand) g) j) rfl g rfl (by omega) (by decide) (fun j hj => by by_cases q : j = g <;> simp [putS, upd, q, payP_o Pc g pl hand hpl (show g ≠ 24 by omega) (show g ≠ 25 by omega) (show g ≠ 33 by omega), payP_o Pc g pl hand hpl (show j ≠ 24 by omega) (show j ≠ 25 by omega) (show j ≠ 33 by omega)]) rfl dX3_sowHand_121 (fun H locs hW => ?_)
        refine lv_iinc (v := (payH Pc g pl hand) - 1) (lv' := [(5, .int ((payH Pc g pl hand) - 1)), (0, .ref q0), (1, .int (nI fr)), (2, .ref q4), (3, .ref q5), (4, .int (P 37)), (6, .int (nI g))]) hx hb dX3_sowHand_122 hl (k := 5) rfl (by rw [Int32.sub_eq_add_neg]; rfl) (by decide) rfl (fun ls hl => ?_)
        refine lv_goto (tgt := 23) hx hb dX3_sowHand_125 (by decide) ?_
        have hW := Wd.arr hW 3 (fun j => (putS (payP Pc g pl hand) g) (24 + j)) rfl (fun j hj => (putS_o _ (by omega)).symm) (ws' := [(q0, .inr (3, [.ref q1, .ref q2, .ref q3, .int (nI pl), .int ov, .int mv])), (q1, .inl (T 0, 12, .inl (fun j => (putS (payP Pc g pl hand) g) j))), (q2, .inl (T 0, 12, .inl vs)), (q3, .inl (T 0, 2, .inl (fun j => (putS (payP Pc g pl hand) g) (24 + j)))), (q4, .inl (T 0, 4, .inl E)), (q5, .inr (4, [.int x0, .int x1, .int x2, .int x3, .int ((payP Pc g pl hand) 33)]))]) rfl
        have e5 : (putS (payP Pc g pl hand) g) 33 = (payP Pc g pl hand) 33 := putS_o _ (by omega)
        exact ih n _ _ _ (Nat.lt_succ_self n) ⟨putS (payP Pc g pl hand) g, g, (payH Pc g pl hand) - 1, hg, hS, by have := pay_dec (P := Pc) (h := g) (pl := pl) h0 (by rw [h37]; exact ht); omega, fun j h1 h2 => (putS_o _ (by omega)).trans ((payP_o Pc g pl hand hpl (by omega) (by omega) (by omega)).trans (hv j h1 h2)), (putS_o _ (by omega)).trans ((payP_o Pc g pl hand hpl (by omega) (by omega) (by omega)).trans h35), (putS_o _ (by omega)).trans ((payP_o Pc g pl hand hpl (by omega) (by omega) (by omega)).trans h37), by rw [e5]; exact hW, lv_sub hl [1, 2, 3, 4, 5, 0, 6] rfl⟩
end
section
-- Position: captures, the end of a move, laps, a whole move
theorem sm_z (z : Int32) (f : Nat → Int32) (b : Nat) : ∀ k, sm z f b k = z + sm 0 f b k
  | 0 => by rw [sm, sm, Int32.add_zero]
  | k + 1 => by rw [sm, sm, sm_z z f b k, Int32.add_assoc]
theorem sm_add (z : Int32) (f : Nat → Int32) (b k : Nat) : ∀ n, sm z f b (k + n) = sm (sm z f b k) f (b + k) n
  | 0 => rfl
  | n + 1 => by rw [← Nat.add_assoc, sm, sm, sm_add z f b k n, Nat.add_assoc]
theorem sm_ext {z : Int32} {f g : Nat → Int32} {b k : Nat} (h : ∀ j, b ≤ j → j < b + k → f j = g j) : sm z f b k = sm z g b k := sm_congr (fun j hj => h (b + j) (by omega) (by omega))
def capC (P : Nat → Int32) (h pl : Nat) : Nat → Int32 := if P (11 - h) = 0 then P else upd (capM P h pl) 32 (P 32 + (P h + P (11 - h)))
theorem cap_s {P sd : Nat → Int32} {h pl : Nat} {z : Int32} (hs : ∀ j, j < 12 → sd j = P j) : ∀ j, j < 12 → upd (upd sd h 0) (11 - h) 0 j = upd (capM P h pl) 32 z j := by
  intro j hj
  rw [u_n (show j ≠ 32 by omega)]
  unfold capM
  rw [u_n (show j ≠ 32 by omega), u_n (show j ≠ 12 + (11 - h) by omega)]
  by_cases q : j = 11 - h
  · rw [q, u_s, u_s]
  · rw [u_n q, u_n q]
    by_cases q2 : j = h
    · rw [q2, u_s, u_s]
    · rw [u_n q2, u_n q2, u_n (show j ≠ 24 + pl by omega), hs j hj]
theorem cap_v {P vs : Nat → Int32} {h pl : Nat} {z : Int32} (hh : h < 12) (hs : ∀ j, j < 12 → vs j = P (12 + j)) : ∀ j, j < 12 → upd vs (11 - h) 0 j = upd (capM P h pl) 32 z (12 + j) := by
  intro j hj
  rw [u_n (show 12 + j ≠ 32 by omega)]
  unfold capM
  rw [u_n (show 12 + j ≠ 32 by omega)]
  by_cases q : j = 11 - h
  · rw [q, u_s, u_s]
  · rw [u_n q, u_n (show 12 + j ≠ 12 + (11 - h) by omega), u_n (show 12 + j ≠ 11 - h by omega), u_n (show 12 + j ≠ h by omega), u_n (show 12 + j ≠ 24 + pl by omega), hs j hj]
theorem cap_o {P so : Nat → Int32} {h pl : Nat} {z c : Int32} (hh : h < 12) (hpl : pl < 2) (hs : ∀ j, j < 2 → so j = P (24 + j)) (hc : c = P h + P (11 - h)) : ∀ j, j < 2 → upd so pl (so pl + c) j = upd (capM P h pl) 32 z (24 + j) := by
  intro j hj
  subst hc
  rw [u_n (show 24 + j ≠ 32 by omega)]
  unfold capM
  rw [u_n (show 24 + j ≠ 32 by omega), u_n (show 24 + j ≠ 12 + (11 - h) by omega), u_n (show 24 + j ≠ 11 - h by omega), u_n (show 24 + j ≠ h by omega)]
  by_cases q : j = pl
  · rw [q, u_s, u_s, hs pl hpl]
  · rw [u_n q, u_n (show 24 + j ≠ 24 + pl by omega), hs j hj]
set_option maxHeartbeats 4000000 in
set_option maxRecDepth 100000 in
theorem c_captureAcross (l : Launch) (D : va_G) (T : Nat → ClassId) (q0 q1 q2 q3 q5 : Nat) {pl : Nat} (hpl : pl < 2) (ov mv : Int32) (sd vs so : Nat → Int32) (x0 x1 x2 x4 : Int32) (P : Nat → Int32) (hA : Agr P sd vs so) {h : Nat} (hh : h < 12) : KV (S := Unit) l D T yX3_captureAcross cX3_captureAcross 5 0 [.ref q0, .int (nI h), .ref q5] [(q0, .inr (3, [.ref q1, .ref q2, .ref q3, .int (nI pl), .int ov, .int mv])), (q1, .inl (T 0, 12, .inl sd)), (q2, .inl (T 0, 12, .inl vs)), (q3, .inl (T 0, 2, .inl so)), (q5, .inr (4, [.int x0, .int x1, .int x2, .int (P 32), .int x4]))] (fun _ => True) (fun u => [(q0, .inr (3, [.ref q1, .ref q2, .ref q3, .int (nI pl), .int ov, .int mv])), (q1, .inl (T 0, 12, .inl (fun j => (capC P h pl) j))), (q2, .inl (T 0, 12, .inl (fun j => (capC P h pl) (12 + j)))), (q3, .inl (T 0, 2, .inl (fun j => (capC P h pl) (24 + j)))), (q5, .inr (4, [.int x0, .int x1, .int x2, .int ((capC P h pl) 32), .int x4]))]) := by
  refine KV.of (by decide +kernel) (Nat.le_of_ble_eq_true rfl) (fun p e s m below meth c A F hr hlk hW ls hl => ?_)
  have hx := F.1
  have hb := F.2.1
  have hl : lv_has ls 5 [(0, .ref q0), (1, .int (nI h)), (2, .ref q5)] := hl
  refine lv_bipush (v := nI 11) hx hb dX3_captureAcross_0 (by decide) ?_
  refine lv_iload_n hx hb dX3_captureAcross_2 rfl (lv_at hl 1 rfl) ?_
  refine isubE (z := nI (11 - h)) hx hb dX3_captureAcross_3 (pk_sub (by omega)) ?_
  refine lv_istore_n (lv' := [(3, .int (nI (11 - h))), (0, .ref q0), (1, .int (nI h)), (2, .ref q5)]) hx hb dX3_captureAcross_4 rfl hl (by decide) rfl (fun ls hl => ?_)
  refine lv_aload_n hx hb dX3_captureAcross_5 rfl (lv_at hl 1 rfl) ?_
  refine gf54 F hW 0 rfl rfl dX3_captureAcross_6 ?_
  refine lv_iload_n hx hb dX3_captureAcross_9 rfl (lv_at hl 0 rfl) ?_
  refine ald F hW 1 rfl (x := sd (11 - h)) (11 - h) rfl (by omega) (by decide) rfl dX3_captureAcross_10 ?_
  refine lv_if_ne (tgt := 15) hx hb dX3_captureAcross_11 (by decide) (fun h11 => ?_) (fun h11 => ?_)
  · have e1 : capC P h pl = upd (capM P h pl) 32 (P 32 + (P h + P (11 - h))) := if_neg (fun q => h11 ((hA.1 _ (by omega)).trans q))
    refine lv_aload_n hx hb dX3_captureAcross_15 rfl (lv_at hl 1 rfl) ?_
    refine gf54 F hW 0 rfl rfl dX3_captureAcross_16 ?_
    refine lv_iload_n hx hb dX3_captureAcross_19 rfl (lv_at hl 2 rfl) ?_
    refine ald F hW 1 rfl (x := sd h) h rfl (by omega) (by decide) rfl dX3_captureAcross_20 ?_
    refine lv_aload_n hx hb dX3_captureAcross_21 rfl (lv_at hl 1 rfl) ?_
    refine gf54 F hW 0 rfl rfl dX3_captureAcross_22 ?_
    refine lv_iload_n hx hb dX3_captureAcross_25 rfl (lv_at hl 0 rfl) ?_
    refine ald F hW 1 rfl (x := sd (11 - h)) (11 - h) rfl (by omega) (by decide) rfl dX3_captureAcross_26 ?_
    refine iaddE (z := P h + P (11 - h)) hx hb dX3_captureAcross_27 (by rw [hA.1 h hh, hA.1 _ (by omega)]) ?_
    refine lv_istore (lv' := [(4, .int (P h + P (11 - h))), (3, .int (nI (11 - h))), (0, .ref q0), (1, .int (nI h)), (2, .ref q5)]) hx hb dX3_captureAcross_28 hl (by decide) rfl (fun ls hl => ?_)
    refine lv_aload_n hx hb dX3_captureAcross_30 rfl (lv_at hl 2 rfl) ?_
    refine gf54 F hW 0 rfl rfl dX3_captureAcross_31 ?_
    refine lv_iload_n hx hb dX3_captureAcross_34 rfl (lv_at hl 3 rfl) ?_
    refine lv_iconst (v := 0) hx hb dX3_captureAcross_35 (by decide) ?_
    refine ast (ws' := [(q0, .inr (3, [.ref q1, .ref q2, .ref q3, .int (nI pl), .int ov, .int mv])), (q1, .inl (T 0, 12, .inl (upd sd h 0))), (q2, .inl (T 0, 12, .inl vs)), (q3, .inl (T 0, 2, .inl so)), (q5, .inr (4, [.int x0, .int x1, .int x2, .int (P 32), .int x4]))]) F hW 1 (upd sd h 0) rfl h rfl (by omega) (by decide) (fun _ _ => rfl) rfl dX3_captureAcross_36 (fun H locs hW => ?_)
    refine lv_aload_n hx hb dX3_captureAcross_37 rfl (lv_at hl 2 rfl) ?_
    refine gf54 F hW 0 rfl rfl dX3_captureAcross_38 ?_
    refine lv_iload_n hx hb dX3_captureAcross_41 rfl (lv_at hl 1 rfl) ?_
    refine lv_iconst (v := 0) hx hb dX3_captureAcross_42 (by decide) ?_
    refine ast (ws' := [(q0, .inr (3, [.ref q1, .ref q2, .ref q3, .int (nI pl), .int ov, .int mv])), (q1, .inl (T 0, 12, .inl (upd (upd sd h 0) (11 - h) 0))), (q2, .inl (T 0, 12, .inl vs)), (q3, .inl (T 0, 2, .inl so)), (q5, .inr (4, [.int x0, .int x1, .int x2, .int (P 32), .int x4]))]) F hW 1 (upd (upd sd h 0) (11 - h) 0) rfl (11 - h) rfl (by omega) (by decide) (fun _ _ => rfl) rfl dX3_captureAcross_43 (fun H locs hW => ?_)
    refine lv_aload_n hx hb dX3_captureAcross_44 rfl (lv_at hl 2 rfl) ?_
    refine gf56 F hW 0 rfl rfl dX3_captureAcross_45 ?_
    refine lv_iload_n hx hb dX3_captureAcross_48 rfl (lv_at hl 1 rfl) ?_
    refine lv_iconst (v := 0) hx hb dX3_captureAcross_49 (by decide) ?_
    refine ast (ws' := [(q0, .inr (3, [.ref q1, .ref q2, .ref q3, .int (nI pl), .int ov, .int mv])), (q1, .inl (T 0, 12, .inl (upd (upd sd h 0) (11 - h) 0))), (q2, .inl (T 0, 12, .inl (upd vs (11 - h) 0))), (q3, .inl (T 0, 2, .inl so)), (q5, .inr (4, [.int x0, .int x1, .int x2, .int (P 32), .int x4]))]) F hW 2 (upd vs (11 - h) 0) rfl (11 - h) rfl (by omega) (by decide) (fun _ _ => rfl) rfl dX3_captureAcross_50 (fun H locs hW => ?_)
    refine lv_aload_n hx hb dX3_captureAcross_51 rfl (lv_at hl 2 rfl) ?_
    refine gf58 F hW 0 rfl rfl dX3_captureAcross_52 ?_
    refine lv_aload_n hx hb dX3_captureAcross_55 rfl (lv_at hl 2 rfl) ?_
    refine gf60 F hW 0 rfl rfl dX3_captureAcross_56 ?_
    refine lv_dup2_11 hx hb dX3_captureAcross_59 rfl rfl ?_
    refine ald F hW 3 rfl (x := so pl) pl rfl (by omega) (by decide) rfl dX3_captureAcross_60 ?_
    refine lv_iload hx hb dX3_captureAcross_61 (lv_at hl 0 rfl) ?_
    refine iaddE (z := (so pl) + (P h + P (11 - h))) hx hb dX3_captureAcross_63 rfl ?_
    refine ast (ws' := [(q0, .inr (3, [.ref q1, .ref q2, .ref q3, .int (nI pl), .int ov, .int mv])), (q1, .inl (T 0, 12, .inl (upd (upd sd h 0) (11 - h) 0))), (q2, .inl (T 0, 12, .inl (upd vs (11 - h) 0))), (q3, .inl (T 0, 2, .inl (upd so pl ((so pl) + (P h + P (11 - h)))))), (q5, .inr (4, [.int x0, .int x1, .int x2, .int (P 32), .int x4]))]) F hW 3 (upd so pl ((so pl) + (P h + P (11 - h)))) rfl pl rfl (by omega) (by decide) (fun _ _ => rfl) rfl dX3_captureAcross_64 (fun H locs hW => ?_)
    refine lv_aload_n hx hb dX3_captureAcross_65 rfl (lv_at hl 4 rfl) ?_
    refine lv_dup hx hb dX3_captureAcross_66 rfl ?_
    refine gf108 F hW 4 rfl rfl dX3_captureAcross_67 ?_
    refine lv_iload hx hb dX3_captureAcross_70 (lv_at hl 0 rfl) ?_
    refine iaddE (z := (P 32) + (P h + P (11 - h))) hx hb dX3_captureAcross_72 rfl ?_
    refine pf108 (ws' := [(q0, .inr (3, [.ref q1, .ref q2, .ref q3, .int (nI pl), .int ov, .int mv])), (q1, .inl (T 0, 12, .inl (upd (upd sd h 0) (11 - h) 0))), (q2, .inl (T 0, 12, .inl (upd vs (11 - h) 0))), (q3, .inl (T 0, 2, .inl (upd so pl ((so pl) + (P h + P (11 - h)))))), (q5, .inr (4, [.int x0, .int x1, .int x2, .int ((P 32) + (P h + P (11 - h))), .int x4]))]) F hW 4 rfl rfl rfl dX3_captureAcross_73 (fun H locs hW => ?_)
    have hW := Wd.arr hW 1 (fun j => (upd (capM P h pl) 32 (P 32 + (P h + P (11 - h)))) j) rfl (cap_s hA.1) (ws' := [(q0, .inr (3, [.ref q1, .ref q2, .ref q3, .int (nI pl), .int ov, .int mv])), (q1, .inl (T 0, 12, .inl (fun j => (upd (capM P h pl) 32 (P 32 + (P h + P (11 - h)))) j))), (q2, .inl (T 0, 12, .inl (upd vs (11 - h) 0))), (q3, .inl (T 0, 2, .inl (upd so pl ((so pl) + (P h + P (11 - h)))))), (q5, .inr (4, [.int x0, .int x1, .int x2, .int ((P 32) + (P h + P (11 - h))), .int x4]))]) rfl
    have hW := Wd.arr hW 2 (fun j => (upd (capM P h pl) 32 (P 32 + (P h + P (11 - h)))) (12 + j)) rfl (cap_v hh hA.2.1) (ws' := [(q0, .inr (3, [.ref q1, .ref q2, .ref q3, .int (nI pl), .int ov, .int mv])), (q1, .inl (T 0, 12, .inl (fun j => (upd (capM P h pl) 32 (P 32 + (P h + P (11 - h)))) j))), (q2, .inl (T 0, 12, .inl (fun j => (upd (capM P h pl) 32 (P 32 + (P h + P (11 - h)))) (12 + j)))), (q3, .inl (T 0, 2, .inl (upd so pl ((so pl) + (P h + P (11 - h)))))), (q5, .inr (4, [.int x0, .int x1, .int x2, .int ((P 32) + (P h + P (11 - h))), .int x4]))]) rfl
    have hW := Wd.arr hW 3 (fun j => (upd (capM P h pl) 32 (P 32 + (P h + P (11 - h)))) (24 + j)) rfl (cap_o hh hpl hA.2.2 rfl) (ws' := [(q0, .inr (3, [.ref q1, .ref q2, .ref q3, .int (nI pl), .int ov, .int mv])), (q1, .inl (T 0, 12, .inl (fun j => (upd (capM P h pl) 32 (P 32 + (P h + P (11 - h)))) j))), (q2, .inl (T 0, 12, .inl (fun j => (upd (capM P h pl) 32 (P 32 + (P h + P (11 - h)))) (12 + j)))), (q3, .inl (T 0, 2, .inl (fun j => (upd (capM P h pl) 32 (P 32 + (P h + P (11 - h)))) (24 + j)))), (q5, .inr (4, [.int x0, .int x1, .int x2, .int ((P 32) + (P h + P (11 - h))), .int x4]))]) rfl
    have e2 : (upd (capM P h pl) 32 (P 32 + (P h + P (11 - h)))) 32 = P 32 + (P h + P (11 - h)) := u_s _ _ _
    exact retV F hr hlk hW () trivial (by rw [e1, e2]) dX3_captureAcross_76
  · have e1 : capC P h pl = P := if_pos ((hA.1 _ (by omega)).symm.trans h11)
    have hW := Wd.arr hW 1 (fun j => P j) rfl (fun j hj => hA.1 j hj) (ws' := [(q0, .inr (3, [.ref q1, .ref q2, .ref q3, .int (nI pl), .int ov, .int mv])), (q1, .inl (T 0, 12, .inl (fun j => P j))), (q2, .inl (T 0, 12, .inl vs)), (q3, .inl (T 0, 2, .inl so)), (q5, .inr (4, [.int x0, .int x1, .int x2, .int (P 32), .int x4]))]) rfl
    have hW := Wd.arr hW 2 (fun j => P (12 + j)) rfl (fun j hj => hA.2.1 j hj) (ws' := [(q0, .inr (3, [.ref q1, .ref q2, .ref q3, .int (nI pl), .int ov, .int mv])), (q1, .inl (T 0, 12, .inl (fun j => P j))), (q2, .inl (T 0, 12, .inl (fun j => P (12 + j)))), (q3, .inl (T 0, 2, .inl so)), (q5, .inr (4, [.int x0, .int x1, .int x2, .int (P 32), .int x4]))]) rfl
    have hW := Wd.arr hW 3 (fun j => P (24 + j)) rfl (fun j hj => hA.2.2 j hj) (ws' := [(q0, .inr (3, [.ref q1, .ref q2, .ref q3, .int (nI pl), .int ov, .int mv])), (q1, .inl (T 0, 12, .inl (fun j => P j))), (q2, .inl (T 0, 12, .inl (fun j => P (12 + j)))), (q3, .inl (T 0, 2, .inl (fun j => P (24 + j)))), (q5, .inr (4, [.int x0, .int x1, .int x2, .int (P 32), .int x4]))]) rfl
    exact retV F hr hlk hW () trivial (by rw [e1]) dX3_captureAcross_14
abbrev decP (P : Nat → Int32) : Prop := decC (P 28) P (fun j => P (24 + j))
def gtM (P : Nat → Int32) (t : Nat) : Nat → Int32 := if decP P then upd (endsM P) 26 (nI t) else upd P 26 (if sm 0 P (6 * t) 6 = 0 then nI (1 - t) else nI t)
theorem gt_y {P : Nat → Int32} {t : Nat} (h : decP P) : gtM P t = upd (endsM P) 26 (nI t) := if_pos h
theorem gt_n {P : Nat → Int32} {t : Nat} (h : ¬ decP P) : gtM P t = upd P 26 (if sm 0 P (6 * t) 6 = 0 then nI (1 - t) else nI t) := if_neg h
theorem decC_congr {mv : Int32} {sd so P : Nat → Int32} (hs : ∀ j, j < 12 → sd j = P j) (ho : ∀ j, j < 2 → so j = P (24 + j)) (hm : mv = P 28) : decC mv sd so ↔ decP P := by
  unfold decP decC
  rw [sm_ext (g := P) (fun j h1 h2 => hs j (by omega)), sm_ext (b := 6) (g := P) (fun j h1 h2 => hs j (by omega)), ho 0 (by decide), ho 1 (by decide), hm]
theorem ends_lo {P : Nat → Int32} {x : Int32} {j : Nat} (hj : j < 12) : upd (endsM P) 26 x j = 0 := by rw [u_n (by omega)]; exact if_pos hj
set_option maxHeartbeats 4000000 in
set_option maxRecDepth 100000 in
theorem c_giveTurnTo (l : Launch) (D : va_G) (T : Nat → ClassId) (q0 q1 q2 q3 : Nat) (px ov mv : Int32) (sd so : Nat → Int32) (P : Nat → Int32) (hs : ∀ j, j < 12 → sd j = P j) (ho : ∀ j, j < 2 → so j = P (24 + j)) (hov : ov = P 27) (hmv : mv = P 28) {t : Nat} (ht : t < 2) : KV (S := Unit) l D T yX3_giveTurnTo cX3_giveTurnTo 3 2 [.ref q0, .int (nI t)] [(q0, .inr (3, [.ref q1, .ref q2, .ref q3, .int px, .int ov, .int mv])), (q1, .inl (T 0, 12, .inl sd)), (q3, .inl (T 0, 2, .inl so))] (fun _ => True) (fun u => [(q0, .inr (3, [.ref q1, .ref q2, .ref q3, .int ((gtM P t) 26), .int ((gtM P t) 27), .int mv])), (q1, .inl (T 0, 12, .inl (fun j => (gtM P t) j))), (q3, .inl (T 0, 2, .inl (fun j => (gtM P t) (24 + j))))]) := by
  refine KV.of (by decide +kernel) (Nat.le_of_ble_eq_true rfl) (fun p e s m below meth c A F hr hlk hW ls hl => ?_)
  have hx := F.1
  have hb := F.2.1
  have hl : lv_has ls 3 [(0, .ref q0), (1, .int (nI t))] := hl
  refine lv_aload_n hx hb dX3_giveTurnTo_0 rfl (lv_at hl 0 rfl) ?_
  refine lv_iload_n hx hb dX3_giveTurnTo_1 rfl (lv_at hl 1 rfl) ?_
  refine pf60 (ws' := [(q0, .inr (3, [.ref q1, .ref q2, .ref q3, .int (nI t), .int ov, .int mv])), (q1, .inl (T 0, 12, .inl sd)), (q3, .inl (T 0, 2, .inl so))]) F hW 0 rfl rfl rfl dX3_giveTurnTo_2 (fun H locs hW => ?_)
  refine lv_aload_n hx hb dX3_giveTurnTo_5 rfl (lv_at hl 0 rfl) ?_
  refine cRV (As := []) (rest := []) F hW hl cs315 (c_isDecided l D T q0 q1 q2 q3 (nI t) ov mv sd so) [0, 1, 2] rfl rfl 0 3 rfl rfl rfl rfl rfl (Nat.le_of_ble_eq_true rfl) ⟨Nat.le_of_ble_eq_true rfl, Nat.le_of_ble_eq_true rfl⟩ ⟨Nat.zero_le _, Nat.zero_le _⟩ dX3_giveTurnTo_6 (fun r6 hr6 => ?_)
  subst hr6
  refine lv_if_eq (tgt := 69) hx hb dX3_giveTurnTo_9 (by decide) (fun h9 => ?_) (fun h9 => ?_)
  · have hd : ¬ decP P := fun q => bz.mp h9 ((decC_congr hs ho hmv).mpr q)
    have e0 : sm 0 sd (6 * t) 6 = sm 0 P (6 * t) 6 := sm_ext (fun j h1 h2 => hs j (by omega))
    refine lv_aload_n hx hb dX3_giveTurnTo_69 rfl (lv_at hl 0 rfl) ?_
    refine lv_iload_n hx hb dX3_giveTurnTo_70 rfl (lv_at hl 1 rfl) ?_
    refine cRV (As := [.int (nI t)]) (rest := []) F hW hl cs319 (c_seedsInHousesOf l D T q0 q1 q2 q3 (nI t) ov mv sd (o := t) (by omega)) [0, 1] rfl rfl 0 3 rfl rfl rfl rfl rfl (Nat.le_of_ble_eq_true rfl) ⟨Nat.le_of_ble_eq_true rfl, Nat.le_of_ble_eq_true rfl⟩ ⟨Nat.zero_le _, Nat.zero_le _⟩ dX3_giveTurnTo_71 (fun r71 hr71 => ?_)
    subst hr71
    refine lv_if_ne (tgt := 84) hx hb dX3_giveTurnTo_74 (by decide) (fun h74 => ?_) (fun h74 => ?_)
    · have hW := Wd.arr hW 1 (fun j => (gtM P t) j) rfl (fun j hj => by rw [gt_n hd, u_n (by omega)]; exact hs j hj) (ws' := [(q0, .inr (3, [.ref q1, .ref q2, .ref q3, .int (nI t), .int ov, .int mv])), (q1, .inl (T 0, 12, .inl (fun j => (gtM P t) j))), (q3, .inl (T 0, 2, .inl so))]) rfl
      have hW := Wd.arr hW 2 (fun j => (gtM P t) (24 + j)) rfl (fun j hj => by rw [gt_n hd, u_n (by omega)]; exact ho j hj) (ws' := [(q0, .inr (3, [.ref q1, .ref q2, .ref q3, .int (nI t), .int ov, .int mv])), (q1, .inl (T 0, 12, .inl (fun j => (gtM P t) j))), (q3, .inl (T 0, 2, .inl (fun j => (gtM P t) (24 + j))))]) rfl
      have e1 : gtM P t 26 = nI t := by rw [gt_n hd, u_s, if_neg (fun q => h74 (e0.trans q))]
      have e2 : gtM P t 27 = ov := by rw [gt_n hd, u_n (by decide), hov]
      exact retV F hr hlk hW () trivial (by rw [e1, e2]) dX3_giveTurnTo_84
    · refine lv_aload_n hx hb dX3_giveTurnTo_77 rfl (lv_at hl 0 rfl) ?_
      refine lv_iconst (v := nI 1) hx hb dX3_giveTurnTo_78 (by decide) ?_
      refine lv_iload_n hx hb dX3_giveTurnTo_79 rfl (lv_at hl 1 rfl) ?_
      refine isubE (z := nI (1 - t)) hx hb dX3_giveTurnTo_80 (pk_sub (by omega)) ?_
      refine pf60 (ws' := [(q0, .inr (3, [.ref q1, .ref q2, .ref q3, .int (nI (1 - t)), .int ov, .int mv])), (q1, .inl (T 0, 12, .inl sd)), (q3, .inl (T 0, 2, .inl so))]) F hW 0 rfl rfl rfl dX3_giveTurnTo_81 (fun H locs hW => ?_)
      have hW := Wd.arr hW 1 (fun j => (gtM P t) j) rfl (fun j hj => by rw [gt_n hd, u_n (by omega)]; exact hs j hj) (ws' := [(q0, .inr (3, [.ref q1, .ref q2, .ref q3, .int (nI (1 - t)), .int ov, .int mv])), (q1, .inl (T 0, 12, .inl (fun j => (gtM P t) j))), (q3, .inl (T 0, 2, .inl so))]) rfl
      have hW := Wd.arr hW 2 (fun j => (gtM P t) (24 + j)) rfl (fun j hj => by rw [gt_n hd, u_n (by omega)]; exact ho j hj) (ws' := [(q0, .inr (3, [.ref q1, .ref q2, .ref q3, .int (nI (1 - t)), .int ov, .int mv])), (q1, .inl (T 0, 12, .inl (fun j => (gtM P t) j))), (q3, .inl (T 0, 2, .inl (fun j => (gtM P t) (24 + j))))]) rfl
      have e1 : gtM P t 26 = nI (1 - t) := by rw [gt_n hd, u_s, if_pos (e0.symm.trans h74)]
      have e2 : gtM P t 27 = ov := by rw [gt_n hd, u_n (by decide), hov]
      exact retV F hr hlk hW () trivial (by rw [e1, e2]) dX3_giveTurnTo_84
  · have hd : decP P := (decC_congr hs ho hmv).mp (Decidable.not_not.mp (fun q => h9 (bz.mpr q)))
    have s0 : sm 0 sd 0 6 = sm 0 P 0 6 := sm_ext (fun j h1 h2 => hs j (by omega))
    have s1 : sm 0 sd 6 6 = sm 0 P 6 6 := sm_ext (fun j h1 h2 => hs j (by omega))
    refine lv_aload_n hx hb dX3_giveTurnTo_12 rfl (lv_at hl 0 rfl) ?_
    refine gf58 F hW 0 rfl rfl dX3_giveTurnTo_13 ?_
    refine lv_iconst (v := nI 0) hx hb dX3_giveTurnTo_16 (by decide) ?_
    refine lv_dup2_11 hx hb dX3_giveTurnTo_17 rfl rfl ?_
    refine ald F hW 2 rfl (x := P 24) 0 rfl (by omega) (by decide) (ho 0 (by decide)) dX3_giveTurnTo_18 ?_
    refine lv_aload_n hx hb dX3_giveTurnTo_19 rfl (lv_at hl 0 rfl) ?_
    refine lv_iconst (v := nI 0) hx hb dX3_giveTurnTo_20 (by decide) ?_
    refine cRV (As := [.int (nI 0)]) (rest := [.int (P 24), .int (nI 0), .ref q3]) F hW hl cs319 (c_seedsInHousesOf l D T q0 q1 q2 q3 (nI t) ov mv sd (o := 0) (by omega)) [0, 1] rfl rfl 0 3 rfl rfl rfl rfl rfl (Nat.le_of_ble_eq_true rfl) ⟨Nat.le_of_ble_eq_true rfl, Nat.le_of_ble_eq_true rfl⟩ ⟨Nat.zero_le _, Nat.zero_le _⟩ dX3_giveTurnTo_21 (fun r21 hr21 => ?_)
    subst hr21
    refine iaddE (z := sm (P 24) P 0 6) hx hb dX3_giveTurnTo_24 (by rw [sm_z (P 24), ← s0]) ?_
    refine ast (ws' := [(q0, .inr (3, [.ref q1, .ref q2, .ref q3, .int (nI t), .int ov, .int mv])), (q1, .inl (T 0, 12, .inl sd)), (q3, .inl (T 0, 2, .inl (upd so 0 (sm (P 24) P 0 6))))]) F hW 2 (upd so 0 (sm (P 24) P 0 6)) rfl 0 rfl (by omega) (by decide) (fun _ _ => rfl) rfl dX3_giveTurnTo_25 (fun H locs hW => ?_)
    refine lv_aload_n hx hb dX3_giveTurnTo_26 rfl (lv_at hl 0 rfl) ?_
    refine gf58 F hW 0 rfl rfl dX3_giveTurnTo_27 ?_
    refine lv_iconst (v := nI 1) hx hb dX3_giveTurnTo_30 (by decide) ?_
    refine lv_dup2_11 hx hb dX3_giveTurnTo_31 rfl rfl ?_
    refine ald F hW 2 rfl (x := P 25) 1 rfl (by omega) (by decide) (by rw [u_n (by decide)]; exact ho 1 (by decide)) dX3_giveTurnTo_32 ?_
    refine lv_aload_n hx hb dX3_giveTurnTo_33 rfl (lv_at hl 0 rfl) ?_
    refine lv_iconst (v := nI 1) hx hb dX3_giveTurnTo_34 (by decide) ?_
    refine cRV (As := [.int (nI 1)]) (rest := [.int (P 25), .int (nI 1), .ref q3]) F hW hl cs319 (c_seedsInHousesOf l D T q0 q1 q2 q3 (nI t) ov mv sd (o := 1) (by omega)) [0, 1] rfl rfl 0 3 rfl rfl rfl rfl rfl (Nat.le_of_ble_eq_true rfl) ⟨Nat.le_of_ble_eq_true rfl, Nat.le_of_ble_eq_true rfl⟩ ⟨Nat.zero_le _, Nat.zero_le _⟩ dX3_giveTurnTo_35 (fun r35 hr35 => ?_)
    subst hr35
    refine iaddE (z := sm (P 25) P 6 6) hx hb dX3_giveTurnTo_38 (by rw [sm_z (P 25), ← s1]) ?_
    refine ast (ws' := [(q0, .inr (3, [.ref q1, .ref q2, .ref q3, .int (nI t), .int ov, .int mv])), (q1, .inl (T 0, 12, .inl sd)), (q3, .inl (T 0, 2, .inl (upd (upd so 0 (sm (P 24) P 0 6)) 1 (sm (P 25) P 6 6))))]) F hW 2 (upd (upd so 0 (sm (P 24) P 0 6)) 1 (sm (P 25) P 6 6)) rfl 1 rfl (by omega) (by decide) (fun _ _ => rfl) rfl dX3_giveTurnTo_39 (fun H locs hW => ?_)
    refine lv_iconst (v := nI 0) hx hb dX3_giveTurnTo_40 (by decide) ?_
    refine lv_istore_n (lv' := [(2, .int (nI 0)), (0, .ref q0), (1, .int (nI t))]) hx hb dX3_giveTurnTo_41 rfl hl (by decide) rfl (fun ls hl => ?_)
    have hW := Wd.arr hW 2 (fun j => (gtM P t) (24 + j)) rfl (fun j hj => by rw [gt_y hd, u_n (show 24 + j ≠ 26 by omega)]; rcases (show j = 0 ∨ j = 1 by omega) with rfl | rfl <;> simp [upd, endsM]) (ws' := [(q0, .inr (3, [.ref q1, .ref q2, .ref q3, .int (nI t), .int ov, .int mv])), (q1, .inl (T 0, 12, .inl sd)), (q3, .inl (T 0, 2, .inl (fun j => (gtM P t) (24 + j))))]) rfl
    have hW := Wd.arr hW 1 (fun j => if j < 0 then 0 else P j) rfl (fun j hj => by rw [if_neg (Nat.not_lt_zero j)]; exact hs j hj) (ws' := [(q0, .inr (3, [.ref q1, .ref q2, .ref q3, .int (nI t), .int ov, .int mv])), (q1, .inl (T 0, 12, .inl (fun j => if j < 0 then 0 else P j))), (q3, .inl (T 0, 2, .inl (fun j => (gtM P t) (24 + j))))]) rfl
    refine W.loop (fun n H2 locs2 ls2 => ∃ k, k ≤ 12 ∧ n = 12 - k ∧ Wd D T A s [(q0, .inr (3, [.ref q1, .ref q2, .ref q3, .int (nI t), .int ov, .int mv])), (q1, .inl (T 0, 12, .inl (fun j => if j < k then 0 else P j))), (q3, .inl (T 0, 2, .inl (fun j => (gtM P t) (24 + j))))] H2 locs2 ∧ lv_has ls2 3 [(0, .ref q0), (1, .int (nI t)), (2, .int (nI k))]) ?_ 12 ⟨0, by omega, rfl, hW, lv_sub hl [1, 2, 0] rfl⟩
    rintro n H locs ls ⟨k, hk, rfl, hW, hl⟩ ih
    refine lv_iload_n hx hb dX3_giveTurnTo_42 rfl (lv_at hl 2 rfl) ?_
    refine lv_bipush (v := nI 12) hx hb dX3_giveTurnTo_43 (by decide) ?_
    refine lv_icmp_ge (tgt := 61) hx hb dX3_giveTurnTo_45 (by decide) (fun h45 => ?_) (fun h45 => ?_)
    · have h5 : k = 12 := by have := n_le h45 (by omega) (by omega); omega
      subst h5
      refine lv_aload_n hx hb dX3_giveTurnTo_61 rfl (lv_at hl 0 rfl) ?_
      refine lv_iconst (v := 1) hx hb dX3_giveTurnTo_62 (by decide) ?_
      refine pf64 (ws' := [(q0, .inr (3, [.ref q1, .ref q2, .ref q3, .int (nI t), .int 1, .int mv])), (q1, .inl (T 0, 12, .inl (fun j => if j < 12 then 0 else P j))), (q3, .inl (T 0, 2, .inl (fun j => (gtM P t) (24 + j))))]) F hW 0 rfl rfl rfl rfl rfl dX3_giveTurnTo_63 (fun H locs hW => ?_)
      refine lv_goto (tgt := 84) hx hb dX3_giveTurnTo_66 (by decide) ?_
      have hW := Wd.arr hW 1 (fun j => (gtM P t) j) rfl (fun j hj => by rw [if_pos hj, gt_y hd, ends_lo hj]) (ws' := [(q0, .inr (3, [.ref q1, .ref q2, .ref q3, .int (nI t), .int 1, .int mv])), (q1, .inl (T 0, 12, .inl (fun j => (gtM P t) j))), (q3, .inl (T 0, 2, .inl (fun j => (gtM P t) (24 + j))))]) rfl
      have e1 : gtM P t 26 = nI t := by rw [gt_y hd, u_s]
      have e2 : gtM P t 27 = 1 := by rw [gt_y hd, u_n (by decide)]; rfl
      exact retV F hr hlk hW () trivial (by rw [e1, e2]) dX3_giveTurnTo_84
    · have h5 : k < 12 := by have := n_nle h45 (by omega) (by omega); omega
      refine lv_aload_n hx hb dX3_giveTurnTo_48 rfl (lv_at hl 0 rfl) ?_
      refine gf54 F hW 0 rfl rfl dX3_giveTurnTo_49 ?_
      refine lv_iload_n hx hb dX3_giveTurnTo_52 rfl (lv_at hl 2 rfl) ?_
      refine lv_iconst (v := 0) hx hb dX3_giveTurnTo_53 (by decide) ?_
      refine ast (ws' := [(q0, .inr (3, [.ref q1, .ref q2, .ref q3, .int (nI t), .int ov, .int mv])), (q1, .inl (T 0, 12, .inl (fun j => if j < k + 1 then 0 else P j))), (q3, .inl (T 0, 2, .inl (fun j => (gtM P t) (24 + j))))]) F hW 1 (fun j => if j < k + 1 then 0 else P j) rfl k rfl (by omega) (by decide) (fun j hj => by by_cases q : j = k <;> simp [upd, q] <;> (split <;> split <;> first | rfl | omega)) rfl dX3_giveTurnTo_54 (fun H locs hW => ?_)
      refine lv_iinc (v := nI (k + 1)) (lv' := [(2, .int (nI (k + 1))), (0, .ref q0), (1, .int (nI t))]) hx hb dX3_giveTurnTo_55 hl (k := 2) rfl (nI_add _ _) (by decide) rfl (fun ls hl => ?_)
      refine lv_goto (tgt := 42) hx hb dX3_giveTurnTo_58 (by decide) ?_
      exact ih (12 - (k + 1)) _ _ _ (by omega) ⟨k + 1, by omega, rfl, hW, lv_sub hl [1, 2, 0] rfl⟩
end
section
-- Position: a lap
theorem sowF_o {fr pl j : Nat} (hpl : pl < 2) (h1 : 12 ≤ j) (h2 : j ≠ 24) (h3 : j ≠ 25) (h4 : j ≠ 33) : ∀ (n : Nat) (P : Nat → Int32) (h : Nat) (hand : Int32), (sowF n P h hand fr pl).1 j = P j
  | 0, _, _, _ => rfl
  | n + 1, P, h, hand => by
    rw [sowF]
    split
    · have hg := nxt_lt fr h
      rw [sowF_o hpl h1 h2 h3 h4 n, putS_o _ (by omega), payP_o _ _ _ _ hpl h2 h3 h4]
    · rfl
theorem sowF_lt {fr pl : Nat} : ∀ (n : Nat) (P : Nat → Int32) (h : Nat) (hand : Int32), h < 12 → (sowF n P h hand fr pl).2 < 12
  | 0, _, _, _, hh => hh
  | n + 1, P, h, hand, hh => by
    rw [sowF]
    split
    · exact sowF_lt n _ _ _ (nxt_lt fr h)
    · exact hh
theorem sowM_o {P : Nat → Int32} {fr pl j : Nat} (hpl : pl < 2) (hfr : fr < 12) (h1 : 12 ≤ j) (h2 : j ≠ 24) (h3 : j ≠ 25) (h4 : j ≠ 33) : (sowM P fr pl).1 j = P j := by
  unfold sowM
  rw [sowF_o hpl h1 h2 h3 h4, u_n (by omega)]
theorem sowM_lt {P : Nat → Int32} {fr pl : Nat} (hfr : fr < 12) : (sowM P fr pl).2 < 12 := sowF_lt _ _ _ _ hfr
theorem capM_30 (P : Nat → Int32) {h pl j : Nat} (hh : h < 12) (hpl : pl < 2) (h1 : 26 ≤ j) (h2 : j ≠ 32) : capM P h pl j = P j := by
  unfold capM
  rw [u_n h2, u_n (by omega), u_n (by omega), u_n (by omega), u_n (by omega)]
theorem endM_hi (P : Nat → Int32) {h pl j : Nat} (hh : h < 12) (hpl : pl < 2) (h1 : 26 ≤ j) (h2 : j ≠ 32) : endM P h pl j = visM P h j := by
  unfold endM
  split
  · exact capM_30 _ hh hpl h1 h2
  · rfl
theorem visM_o (P : Nat → Int32) {h j : Nat} (h1 : j ≠ 30) (h2 : j ≠ 12 + h) : visM P h j = P j := by
  unfold visM
  rw [u_n h2, u_n h1]
theorem visM_30 (P : Nat → Int32) {h : Nat} (hh : h < 12) : visM P h 30 = P 30 + 1 := by
  unfold visM
  rw [u_n (by omega), u_s]
theorem visM_h (P : Nat → Int32) {h : Nat} (hh : h < 12) : visM P h (12 + h) = P (12 + h) + 1 := by
  unfold visM
  rw [u_s]
theorem endM_n {P : Nat → Int32} {h pl : Nat} (hc : ¬ (¬ 1 < P h ∧ own h = pl ∧ 0 < P (11 - h))) : endM P h pl = visM P h := if_neg hc
theorem endM_c {P : Nat → Int32} {h pl : Nat} (hh : h < 12) (h1 : ¬ 1 < P h) (h2 : own h = pl) (h3 : 0 ≤ (P (11 - h)).toInt) (h4 : P 32 = 0) : capC (visM P h) h pl = endM P h pl := by
  have e1 : visM P h (11 - h) = P (11 - h) := visM_o _ (by omega) (by omega)
  have e2 : visM P h 32 = 0 := (visM_o _ (by omega) (by omega)).trans h4
  unfold capC
  rw [e1, e2]
  by_cases q : P (11 - h) = 0
  · rw [if_pos q, endM_n (fun z => by rw [q] at z; exact absurd z.2.2 (by decide))]
  · have q2 : 0 < P (11 - h) := by
      rw [i_lt, i_0]
      have : ¬ (P (11 - h)).toInt = 0 := fun z => q ((i_eq _ _).mpr (z.trans i_0.symm))
      omega
    rw [if_neg q, endM, if_pos ⟨h1, h2, q2⟩, Int32.zero_add]
    funext j
    by_cases z : j = 32
    · rw [z, u_s, capM, u_s, e1]
    · rw [u_n z]
theorem one_lt {x : Int32} (h : 1 ≤ x.toInt) : 1 < x ↔ ¬ x = 1 := by
  have e1 := i_1
  rw [i_lt, i_eq, e1]
  omega
set_option maxHeartbeats 4000000 in
set_option maxRecDepth 100000 in
theorem c_sowLap (l : Launch) (D : va_G) (T : Nat → ClassId) (q0 q1 q2 q3 q4 q5 : Nat) {pl : Nat} (hpl : pl < 2) (ov mv : Int32) (sd vs so E : Nat → Int32) (x0 x2 : Int32) (P : Nat → Int32) (hA : Agr P sd vs so) (hE : ∀ j, j < 4 → E j = P (34 + j)) {fr : Nat} (hfr : fr < 12) (ht : 0 ≤ (P 37).toInt) (hq1 : 1 ≤ ((sowM P fr pl).1 (sowM P fr pl).2).toInt) (hq2 : 0 ≤ ((sowM P fr pl).1 (11 - (sowM P fr pl).2)).toInt) (h32 : P 32 = 0) : KI (S := Unit) l D T yX3_sowLap cX3_sowLap 7 (some .boolean) 2 [.ref q0, .int (nI fr), .ref q4, .ref q5] [(q0, .inr (3, [.ref q1, .ref q2, .ref q3, .int (nI pl), .int ov, .int mv])), (q1, .inl (T 0, 12, .inl sd)), (q2, .inl (T 0, 12, .inl vs)), (q3, .inl (T 0, 2, .inl so)), (q4, .inl (T 0, 4, .inl E)), (q5, .inr (4, [.int x0, .int (P 30), .int x2, .int (P 32), .int (P 33)]))] (fun r _ => r = if goesM (sowM P fr pl).1 (sowM P fr pl).2 then 1 else 0) (fun u => [(q0, .inr (3, [.ref q1, .ref q2, .ref q3, .int (nI pl), .int ov, .int mv])), (q1, .inl (T 0, 12, .inl (fun j => (endM (sowM P fr pl).1 (sowM P fr pl).2 pl) j))), (q2, .inl (T 0, 12, .inl (fun j => (endM (sowM P fr pl).1 (sowM P fr pl).2 pl) (12 + j)))), (q3, .inl (T 0, 2, .inl (fun j => (endM (sowM P fr pl).1 (sowM P fr pl).2 pl) (24 + j)))), (q4, .inl (T 0, 4, .inl E)), (q5, .inr (4, [.int x0, .int ((endM (sowM P fr pl).1 (sowM P fr pl).2 pl) 30), .int (nI ((sowM P fr pl).2)), .int ((endM (sowM P fr pl).1 (sowM P fr pl).2 pl) 32), .int ((endM (sowM P fr pl).1 (sowM P fr pl).2 pl) 33)]))]) := by
  refine KI.of (by decide +kernel) (Nat.le_of_ble_eq_true rfl) (fun p e s m below meth c A F hr hlk hW ls hl => ?_)
  have hx := F.1
  have hb := F.2.1
  have hl : lv_has ls 7 [(0, .ref q0), (1, .int (nI fr)), (2, .ref q4), (3, .ref q5)] := hl
  refine lv_aload_n hx hb dX3_sowLap_0 rfl (lv_at hl 0 rfl) ?_
  refine lv_iload_n hx hb dX3_sowLap_1 rfl (lv_at hl 1 rfl) ?_
  refine lv_aload_n hx hb dX3_sowLap_2 rfl (lv_at hl 2 rfl) ?_
  refine lv_aload_n hx hb dX3_sowLap_3 rfl (lv_at hl 3 rfl) ?_
  refine cIV (As := [.int (nI fr), .ref q4, .ref q5]) (rest := []) (wr := []) F hW hl cs296 (c_sowHand l D T q0 q1 q2 q3 q4 q5 (pl := pl) (by omega) ov mv sd vs so E x0 (P 30) x2 (P 32) P hA hE (fr := fr) (by omega) ht) [0, 1, 2, 3, 4, 5] [] rfl rfl rfl rfl (by decide) 0 3 rfl rfl rfl rfl rfl (Nat.le_of_ble_eq_true rfl) ⟨Nat.le_of_ble_eq_true rfl, Nat.le_of_ble_eq_true rfl⟩ ⟨Nat.zero_le _, Nat.zero_le _⟩ dX3_sowLap_4 (fun r4 u4 H locs hr4 hW => ?_)
  have hW := Wd.ord hW (ws' := [(q0, .inr (3, [.ref q1, .ref q2, .ref q3, .int (nI pl), .int ov, .int mv])), (q1, .inl (T 0, 12, .inl (fun j => ((sowM P fr pl).1) j))), (q2, .inl (T 0, 12, .inl vs)), (q3, .inl (T 0, 2, .inl (fun j => ((sowM P fr pl).1) (24 + j)))), (q4, .inl (T 0, 4, .inl E)), (q5, .inr (4, [.int x0, .int (P 30), .int x2, .int (P 32), .int ((sowM P fr pl).1 33)]))]) [0, 1, 2, 3, 4, 5] rfl rfl
  subst hr4
  have oo : ∀ j, 12 ≤ j → j ≠ 24 → j ≠ 25 → j ≠ 33 → (sowM P fr pl).1 j = P j := fun j a b c d => sowM_o hpl hfr a b c d
  have hh : (sowM P fr pl).2 < 12 := sowM_lt hfr
  generalize (sowM P fr pl).1 = Q at *
  generalize (sowM P fr pl).2 = h at *
  refine lv_istore (lv' := [(4, .int (nI h)), (0, .ref q0), (1, .int (nI fr)), (2, .ref q4), (3, .ref q5)]) hx hb dX3_sowLap_7 hl (by decide) rfl (fun ls hl => ?_)
  refine lv_aload_n hx hb dX3_sowLap_9 rfl (lv_at hl 1 rfl) ?_
  refine gf54 F hW 0 rfl rfl dX3_sowLap_10 ?_
  refine lv_iload hx hb dX3_sowLap_13 (lv_at hl 0 rfl) ?_
  refine ald F hW 1 rfl (x := Q h) h rfl (by omega) (by decide) rfl dX3_sowLap_15 ?_
  refine lv_iconst (v := nI 1) hx hb dX3_sowLap_16 (by decide) ?_
  refine W.fork (X := Unit) 25 (fun _ => [.int (if Q h = 1 then 1 else 0)]) (fun _ H2 locs2 ls2 => H2 = H ∧ locs2 = locs ∧ lv_has ls2 7 [(4, .int (nI h)), (0, .ref q0), (1, .int (nI fr)), (2, .ref q4), (3, .ref q5)]) (fun hJ => ?_) ?_
  · refine lv_icmp_ne (tgt := 24) hx hb dX3_sowLap_17 (by decide) (fun h17 => ?_) (fun h17 => ?_)
    · refine lv_iconst (v := 0) hx hb dX3_sowLap_24 (by decide) ?_
      have e1 : (if Q h = 1 then (1 : Int32) else 0) = 0 := if_neg h17
      rw [e1] at hJ
      exact hJ () _ _ _ ⟨rfl, rfl, hl⟩
    · refine lv_iconst (v := 1) hx hb dX3_sowLap_20 (by decide) ?_
      refine lv_goto (tgt := 25) hx hb dX3_sowLap_21 (by decide) ?_
      have e1 : (if Q h = 1 then (1 : Int32) else 0) = 1 := if_pos h17
      rw [e1] at hJ
      exact hJ () _ _ _ ⟨rfl, rfl, hl⟩
  · rintro - H2 locs2 ls ⟨rfl, rfl, hl⟩
    have ev : vs h = Q (12 + h) := (hA.2.1 h hh).trans (oo _ (by omega) (by omega) (by omega) (by omega)).symm
    have eE : E 1 = Q 35 := (hE 1 (by decide)).trans (oo 35 (by decide) (by decide) (by decide) (by decide)).symm
    have e30 : P 30 = Q 30 := (oo 30 (by decide) (by decide) (by decide) (by decide)).symm
    have e32 : P 32 = Q 32 := (oo 32 (by decide) (by decide) (by decide) (by decide)).symm
    refine lv_istore (lv' := [(5, .int (if Q h = 1 then 1 else 0)), (4, .int (nI h)), (0, .ref q0), (1, .int (nI fr)), (2, .ref q4), (3, .ref q5)]) hx hb dX3_sowLap_25 hl (by decide) rfl (fun ls hl => ?_)
    refine lv_aload_n hx hb dX3_sowLap_27 rfl (lv_at hl 2 rfl) ?_
    refine lv_iload hx hb dX3_sowLap_28 (lv_at hl 1 rfl) ?_
    refine lv_aload_n hx hb dX3_sowLap_30 rfl (lv_at hl 4 rfl) ?_
    refine cRV (As := [.int (nI h), .ref q4]) (rest := []) F hW hl cs303 (c_isHostile l D T q0 q1 q2 q3 q4 (nI pl) ov mv vs E (h := h) (by omega)) [0, 2, 4] rfl rfl 0 3 rfl rfl rfl rfl rfl (Nat.le_of_ble_eq_true rfl) ⟨Nat.le_of_ble_eq_true rfl, Nat.le_of_ble_eq_true rfl⟩ ⟨Nat.zero_le _, Nat.zero_le _⟩ dX3_sowLap_31 (fun r31 hr31 => ?_)
    subst hr31
    refine lv_istore (lv' := [(6, .int (if E 1 ≤ vs h then 1 else 0)), (5, .int (if Q h = 1 then 1 else 0)), (4, .int (nI h)), (0, .ref q0), (1, .int (nI fr)), (2, .ref q4), (3, .ref q5)]) hx hb dX3_sowLap_34 hl (by decide) rfl (fun ls hl => ?_)
    refine lv_aload_n hx hb dX3_sowLap_36 rfl (lv_at hl 3 rfl) ?_
    refine gf56 F hW 0 rfl rfl dX3_sowLap_37 ?_
    refine lv_iload hx hb dX3_sowLap_40 (lv_at hl 2 rfl) ?_
    refine lv_dup2_11 hx hb dX3_sowLap_42 rfl rfl ?_
    refine ald F hW 2 rfl (x := Q (12 + h)) h rfl (by omega) (by decide) ev dX3_sowLap_43 ?_
    refine lv_iconst (v := 1) hx hb dX3_sowLap_44 (by decide) ?_
    refine iaddE (z := (Q (12 + h)) + 1) hx hb dX3_sowLap_45 rfl ?_
    refine ast (ws' := [(q0, .inr (3, [.ref q1, .ref q2, .ref q3, .int (nI pl), .int ov, .int mv])), (q1, .inl (T 0, 12, .inl (fun j => Q j))), (q2, .inl (T 0, 12, .inl (fun j => (visM Q h) (12 + j)))), (q3, .inl (T 0, 2, .inl (fun j => Q (24 + j)))), (q4, .inl (T 0, 4, .inl E)), (q5, .inr (4, [.int x0, .int (P 30), .int x2, .int (P 32), .int (Q 33)]))]) F hW 2 (fun j => (visM Q h) (12 + j)) rfl h rfl (by omega) (by decide) (fun j hj => by by_cases q : j = h; first | (subst q; rw [u_s, visM_h Q hh]) ; rw [u_n q, hA.2.1 j hj, visM_o Q (by omega) (by omega), oo _ (by omega) (by omega) (by omega) (by omega)]) rfl dX3_sowLap_46 (fun H locs hW => ?_)
    refine lv_aload_n hx hb dX3_sowLap_47 rfl (lv_at hl 6 rfl) ?_
    refine lv_dup hx hb dX3_sowLap_48 rfl ?_
    refine gf102 F hW 5 rfl rfl dX3_sowLap_49 ?_
    refine lv_iconst (v := 1) hx hb dX3_sowLap_52 (by decide) ?_
    refine iaddE (z := (visM Q h) 30) hx hb dX3_sowLap_53 (by rw [visM_30 Q hh, e30]) ?_
    refine pf102 (ws' := [(q0, .inr (3, [.ref q1, .ref q2, .ref q3, .int (nI pl), .int ov, .int mv])), (q1, .inl (T 0, 12, .inl (fun j => Q j))), (q2, .inl (T 0, 12, .inl (fun j => (visM Q h) (12 + j)))), (q3, .inl (T 0, 2, .inl (fun j => Q (24 + j)))), (q4, .inl (T 0, 4, .inl E)), (q5, .inr (4, [.int x0, .int ((visM Q h) 30), .int x2, .int (P 32), .int (Q 33)]))]) F hW 5 rfl rfl rfl dX3_sowLap_54 (fun H locs hW => ?_)
    refine lv_aload_n hx hb dX3_sowLap_57 rfl (lv_at hl 6 rfl) ?_
    refine lv_iload hx hb dX3_sowLap_58 (lv_at hl 2 rfl) ?_
    refine pf105 (ws' := [(q0, .inr (3, [.ref q1, .ref q2, .ref q3, .int (nI pl), .int ov, .int mv])), (q1, .inl (T 0, 12, .inl (fun j => Q j))), (q2, .inl (T 0, 12, .inl (fun j => (visM Q h) (12 + j)))), (q3, .inl (T 0, 2, .inl (fun j => Q (24 + j)))), (q4, .inl (T 0, 4, .inl E)), (q5, .inr (4, [.int x0, .int ((visM Q h) 30), .int (nI h), .int (P 32), .int (Q 33)]))]) F hW 5 rfl rfl rfl dX3_sowLap_60 (fun H locs hW => ?_)
    refine lv_iload hx hb dX3_sowLap_63 (lv_at hl 1 rfl) ?_
    have hW := Wd.arr hW 1 (fun j => (visM Q h) j) rfl (fun j hj => (visM_o Q (by omega) (by omega)).symm) (ws' := [(q0, .inr (3, [.ref q1, .ref q2, .ref q3, .int (nI pl), .int ov, .int mv])), (q1, .inl (T 0, 12, .inl (fun j => (visM Q h) j))), (q2, .inl (T 0, 12, .inl (fun j => (visM Q h) (12 + j)))), (q3, .inl (T 0, 2, .inl (fun j => Q (24 + j)))), (q4, .inl (T 0, 4, .inl E)), (q5, .inr (4, [.int x0, .int ((visM Q h) 30), .int (nI h), .int (P 32), .int (Q 33)]))]) rfl
    have hW := Wd.arr hW 3 (fun j => (visM Q h) (24 + j)) rfl (fun j hj => (visM_o Q (by omega) (by omega)).symm) (ws' := [(q0, .inr (3, [.ref q1, .ref q2, .ref q3, .int (nI pl), .int ov, .int mv])), (q1, .inl (T 0, 12, .inl (fun j => (visM Q h) j))), (q2, .inl (T 0, 12, .inl (fun j => (visM Q h) (12 + j)))), (q3, .inl (T 0, 2, .inl (fun j => (visM Q h) (24 + j)))), (q4, .inl (T 0, 4, .inl E)), (q5, .inr (4, [.int x0, .int ((visM Q h) 30), .int (nI h), .int (P 32), .int (Q 33)]))]) rfl
    have v32 : P 32 = (visM Q h) 32 := e32.trans (visM_o Q (by decide) (by omega)).symm
    have v33 : Q 33 = (visM Q h) 33 := (visM_o Q (by decide) (by omega)).symm
    rw [v32, v33] at hW
    refine W.fork (X := Unit) 87 (fun _ => []) (fun _ H2 locs2 ls2 => Wd D T A s [(q0, .inr (3, [.ref q1, .ref q2, .ref q3, .int (nI pl), .int ov, .int mv])), (q1, .inl (T 0, 12, .inl (fun j => (endM Q h pl) j))), (q2, .inl (T 0, 12, .inl (fun j => (endM Q h pl) (12 + j)))), (q3, .inl (T 0, 2, .inl (fun j => (endM Q h pl) (24 + j)))), (q4, .inl (T 0, 4, .inl E)), (q5, .inr (4, [.int x0, .int ((endM Q h pl) 30), .int (nI h), .int ((endM Q h pl) 32), .int ((endM Q h pl) 33)]))] H2 locs2 ∧ lv_has ls2 7 [(6, .int (if E 1 ≤ vs h then 1 else 0)), (5, .int (if Q h = 1 then 1 else 0)), (4, .int (nI h)), (0, .ref q0), (1, .int (nI fr)), (2, .ref q4), (3, .ref q5)]) (fun hJ => ?_) ?_
    · refine lv_if_eq (tgt := 87) hx hb dX3_sowLap_65 (by decide) (fun h65 => ?_) (fun h65 => ?_)
      · have hc : endM Q h pl = visM Q h := endM_n (fun q => q.1 ((one_lt hq1).mpr (bz.mp h65)))
        exact hJ () _ _ _ ⟨by rw [hc]; exact hW, hl⟩
      · have hone : Q h = 1 := Decidable.not_not.mp (fun q => h65 (bz.mpr q))
        refine lv_iload hx hb dX3_sowLap_68 (lv_at hl 2 rfl) ?_
        refine cRS (As := [.int (nI h)]) (rest := []) F hW hl cs277 (c_ownerOf l D T (h := h) (by omega)) [] rfl rfl rfl rfl (Nat.le_of_ble_eq_true rfl) ⟨Nat.le_of_ble_eq_true rfl, Nat.le_of_ble_eq_true rfl⟩ ⟨Nat.zero_le _, Nat.zero_le _⟩ dX3_sowLap_70 (fun r70 hr70 => ?_)
        subst hr70
        refine lv_aload_n hx hb dX3_sowLap_73 rfl (lv_at hl 3 rfl) ?_
        refine gf60 F hW 0 rfl rfl dX3_sowLap_74 ?_
        refine lv_icmp_ne (tgt := 87) hx hb dX3_sowLap_77 (by decide) (fun h77 => ?_) (fun h77 => ?_)
        · have hc : endM Q h pl = visM Q h := endM_n (fun q => n_ne h77 q.2.1)
          exact hJ () _ _ _ ⟨by rw [hc]; exact hW, hl⟩
        · have hown : own h = pl := n_eq h77 (by have := own_lt hh; omega) (by omega)
          refine lv_aload_n hx hb dX3_sowLap_80 rfl (lv_at hl 3 rfl) ?_
          refine lv_iload hx hb dX3_sowLap_81 (lv_at hl 2 rfl) ?_
          refine lv_aload_n hx hb dX3_sowLap_83 rfl (lv_at hl 6 rfl) ?_
          refine cVV (As := [.int (nI h), .ref q5]) (rest := []) (wr := [(q4, .inl (T 0, 4, .inl E))]) F hW hl cs307 (c_captureAcross l D T q0 q1 q2 q3 q5 (pl := pl) (by omega) ov mv (fun j => (visM Q h) j) (fun j => (visM Q h) (12 + j)) (fun j => (visM Q h) (24 + j)) x0 ((visM Q h) 30) (nI h) ((visM Q h) 33) (visM Q h) (by first | exact ⟨fun _ _ => rfl, fun _ _ => rfl, fun _ _ => rfl⟩ | assumption) (h := h) (by omega)) [0, 1, 2, 3, 5] [4] rfl rfl rfl rfl (by decide) 0 3 rfl rfl rfl rfl rfl (Nat.le_of_ble_eq_true rfl) ⟨Nat.le_of_ble_eq_true rfl, Nat.le_of_ble_eq_true rfl⟩ ⟨Nat.zero_le _, Nat.zero_le _⟩ dX3_sowLap_84 (fun u84 H locs hr84 hW => ?_)
          have hW := Wd.ord hW (ws' := [(q0, .inr (3, [.ref q1, .ref q2, .ref q3, .int (nI pl), .int ov, .int mv])), (q1, .inl (T 0, 12, .inl (fun j => (capC (visM Q h) h pl) j))), (q2, .inl (T 0, 12, .inl (fun j => (capC (visM Q h) h pl) (12 + j)))), (q3, .inl (T 0, 2, .inl (fun j => (capC (visM Q h) h pl) (24 + j)))), (q4, .inl (T 0, 4, .inl E)), (q5, .inr (4, [.int x0, .int ((visM Q h) 30), .int (nI h), .int ((capC (visM Q h) h pl) 32), .int ((visM Q h) 33)]))]) [1, 2, 3, 4, 0, 5] rfl rfl
          have hc : capC (visM Q h) h pl = endM Q h pl := endM_c hh (fun q => (one_lt hq1).mp q hone) hown hq2 (e32.symm.trans h32)
          rw [hc] at hW
          have w30 : (visM Q h) 30 = endM Q h pl 30 := (endM_hi Q hh hpl (by decide) (by decide)).symm
          have w33 : (visM Q h) 33 = endM Q h pl 33 := (endM_hi Q hh hpl (by decide) (by decide)).symm
          rw [w30, w33] at hW
          exact hJ () _ _ _ ⟨hW, hl⟩
    · rintro - H locs ls ⟨hW, hl⟩
      refine lv_iload hx hb dX3_sowLap_87 (lv_at hl 1 rfl) ?_
      refine lv_if_ne (tgt := 101) hx hb dX3_sowLap_89 (by decide) (fun h89 => ?_) (fun h89 => ?_)
      · refine lv_iconst (v := 0) hx hb dX3_sowLap_101 (by decide) ?_
        exact retI F hr hlk rfl hW () ((if_neg (fun q => h89 (if_neg ((one_lt hq1).mp q.1)))).symm) rfl dX3_sowLap_102
      · refine lv_iload hx hb dX3_sowLap_92 (lv_at hl 0 rfl) ?_
        refine lv_if_ne (tgt := 101) hx hb dX3_sowLap_94 (by decide) (fun h94 => ?_) (fun h94 => ?_)
        · refine lv_iconst (v := 0) hx hb dX3_sowLap_101 (by decide) ?_
          exact retI F hr hlk rfl hW () ((if_neg (fun q => h94 (if_neg (fun z => q.2 (by rw [← eE, ← ev]; exact z))))).symm) rfl dX3_sowLap_102
        · refine lv_iconst (v := 1) hx hb dX3_sowLap_97 (by decide) ?_
          refine lv_goto (tgt := 102) hx hb dX3_sowLap_98 (by decide) ?_
          exact retI F hr hlk rfl hW () ((if_pos ⟨(one_lt hq1).mpr (bz.mp h89), fun z => bz.mp h94 (by rw [eE, ev]; exact z)⟩).symm) rfl dX3_sowLap_102
end
section
-- seeds are kept: what a move leaves as it was, in whole numbers
def si (P : Nat → Int32) (b : Nat) : Nat → Int
  | 0 => 0
  | k + 1 => si P b k + (P (b + k)).toInt
theorem si_o {P : Nat → Int32} {b h : Nat} {x : Int32} : ∀ {n : Nat}, (h < b ∨ b + n ≤ h) → si (upd P h x) b n = si P b n
  | 0, _ => rfl
  | n + 1, hh => by rw [si, si, si_o (by omega), u_n (by omega)]
theorem si_u {P : Nat → Int32} {b h : Nat} {x : Int32} : ∀ {n : Nat}, b ≤ h → h < b + n → si (upd P h x) b n = si P b n - (P h).toInt + x.toInt
  | 0, h1, h2 => absurd h2 (by omega)
  | n + 1, h1, h2 => by
    rcases Nat.lt_or_ge h (b + n) with q | q
    · rw [si, si, si_u h1 q, u_n (by omega)]
      omega
    · have e : b + n = h := by omega
      rw [si, si, si_o (by omega), e, u_s]
      omega
theorem si_nn {P : Nat → Int32} {b : Nat} : ∀ {n : Nat}, (∀ j, b ≤ j → j < b + n → 0 ≤ (P j).toInt) → 0 ≤ si P b n
  | 0, _ => Int.le_refl 0
  | n + 1, h => by
    have h1 := si_nn (n := n) (fun j a b => h j a (by omega))
    have h2 := h (b + n) (by omega) (by omega)
    rw [si]
    omega
theorem si_le {P : Nat → Int32} {b j : Nat} : ∀ {n : Nat}, (∀ j, b ≤ j → j < b + n → 0 ≤ (P j).toInt) → b ≤ j → j < b + n → (P j).toInt ≤ si P b n
  | 0, _, h1, h2 => absurd h2 (by omega)
  | n + 1, h, h1, h2 => by
    have a1 := si_nn (n := n) (fun j a b => h j a (by omega))
    have a2 := h (b + n) (by omega) (by omega)
    rw [si]
    rcases Nat.lt_or_ge j (b + n) with q | q
    · have := si_le (n := n) (fun j a b => h j a (by omega)) h1 q
      omega
    · have e : b + n = j := by omega
      rw [e] at a2 ⊢
      omega
theorem si_split (P : Nat → Int32) (b m : Nat) : ∀ n, si P b (m + n) = si P b m + si P (b + m) n
  | 0 => by show si P b m = si P b m + 0; omega
  | n + 1 => by rw [← Nat.add_assoc, si, si, si_split P b m n, Nat.add_assoc]; omega
theorem si_ext {P Q : Nat → Int32} {b : Nat} : ∀ {n : Nat}, (∀ j, b ≤ j → j < b + n → P j = Q j) → si P b n = si Q b n
  | 0, _ => rfl
  | n + 1, h => by rw [si, si, si_ext (fun j a b => h j a (by omega)), h (b + n) (by omega) (by omega)]
/-- S seeds in all, x of them in the hand -/
def Jv (S : Int) (P : Nat → Int32) (x : Int) : Prop := (∀ j, j < 12 → 0 ≤ (P j).toInt) ∧ 0 ≤ (P 24).toInt ∧ 0 ≤ (P 25).toInt ∧ 0 ≤ x ∧ si P 0 12 + (P 24).toInt + (P 25).toInt + x = S ∧ S ≤ 2000
theorem Jv.le {S x : Int} {P : Nat → Int32} (h : Jv S P x) {j : Nat} (hj : j < 12) : (P j).toInt ≤ 2000 := by
  obtain ⟨h1, h2, h3, h4, h5, h6⟩ := h
  have := si_le (b := 0) (n := 12) (fun j _ b => h1 j (by omega)) (Nat.zero_le j) (by omega)
  omega
theorem Jv.nn {S x : Int} {P : Nat → Int32} (h : Jv S P x) : 0 ≤ si P 0 12 := si_nn (fun j _ b => h.1 j (by omega))
theorem Jv.o {S x : Int} {P Q : Nat → Int32} (h : Jv S P x) (hs : ∀ j, j < 12 → Q j = P j) (h4 : Q 24 = P 24) (h5 : Q 25 = P 25) : Jv S Q x := by
  obtain ⟨a1, a2, a3, a4, a5, a6⟩ := h
  refine ⟨fun j hj => by rw [hs j hj]; exact a1 j hj, by rw [h4]; exact a2, by rw [h5]; exact a3, a4, ?_, a6⟩
  rw [h4, h5, si_ext (P := Q) (Q := P) (fun j _ b => hs j (by omega))]
  exact a5
/-- the n-th of the two stores -/
theorem Jv.store {S x : Int} {P : Nat → Int32} (h : Jv S P x) {t : Nat} (ht : t < 2) : 0 ≤ (P (24 + t)).toInt ∧ (P (24 + t)).toInt + x ≤ 2000 := by
  obtain ⟨a1, a2, a3, a4, a5, a6⟩ := h
  have := si_nn (P := P) (b := 0) (n := 12) (fun j _ b => a1 j (by omega))
  rcases (show t = 0 ∨ t = 1 by omega) with rfl | rfl
  · exact ⟨a2, by show (P 24).toInt + x ≤ 2000; omega⟩
  · exact ⟨a3, by show (P 25).toInt + x ≤ 2000; omega⟩
theorem Jv.pay {S : Int} {P : Nat → Int32} {g pl : Nat} {hand : Int32} (h : Jv S P hand.toInt) (hpl : pl < 2) (h0 : 0 < hand) (ht : 0 ≤ (P 37).toInt) : Jv S (payP P g pl hand) (payH P g pl hand).toInt ∧ 0 < (payH P g pl hand).toInt := by
  have hp : 0 < hand.toInt := by have := (i_lt _ _).mp h0; rw [i_0] at this; exact this
  by_cases hc : own g ≠ pl ∧ P 35 ≤ P (12 + g) ∧ P 37 < hand
  · rw [payP_y hc, payH_y hc]
    have h2 := (i_lt _ _).mp hc.2.2
    have hr := i_rng hand
    have hs : (hand - P 37).toInt = hand.toInt - (P 37).toInt := i_sub (by omega) (by omega)
    have hst := h.store (t := 1 - pl) (by omega)
    have e0 : 24 + (1 - pl) = 25 - pl := by omega
    rw [e0] at hst
    have ha : (P (25 - pl) + P 37).toInt = (P (25 - pl)).toInt + (P 37).toInt := i_add (by omega) (by omega)
    obtain ⟨a1, a2, a3, a4, a5, a6⟩ := h
    refine ⟨⟨fun j hj => ?_, ?_, ?_, by rw [hs]; omega, ?_, a6⟩, by rw [hs]; omega⟩
    · rw [u_n (by omega), u_n (by omega)]; exact a1 j hj
    · rw [u_n (by omega)]
      by_cases q : pl = 1
      · rw [show 25 - pl = 24 by omega] at ha ⊢; rw [u_s, ha]; omega
      · rw [u_n (by omega)]; exact a2
    · rw [u_n (by omega)]
      by_cases q : pl = 0
      · rw [show 25 - pl = 25 by omega] at ha ⊢; rw [u_s, ha]; omega
      · rw [u_n (by omega)]; exact a3
    · rw [si_o (by omega), si_o (by omega), u_n (show (24 : Nat) ≠ 33 by decide), u_n (show (25 : Nat) ≠ 33 by decide), hs]
      rcases (show pl = 0 ∨ pl = 1 by omega) with rfl | rfl
      · rw [u_n (show (24 : Nat) ≠ 25 - 0 by decide), show 25 - 0 = 25 from rfl, u_s]
        rw [show 25 - 0 = 25 from rfl] at ha
        rw [ha]; omega
      · rw [u_n (show (25 : Nat) ≠ 25 - 1 by decide), show 25 - 1 = 24 from rfl, u_s]
        rw [show 25 - 1 = 24 from rfl] at ha
        rw [ha]; omega
  · rw [payP_n hc, payH_n hc]
    exact ⟨h, hp⟩
theorem Jv.put {S : Int} {P : Nat → Int32} {g : Nat} {z : Int32} (h : Jv S P z.toInt) (hg : g < 12) (h0 : 0 < z.toInt) : Jv S (putS P g) (z - 1).toInt ∧ 1 ≤ (putS P g g).toInt := by
  have hl := h.le hg
  have hz := i_rng z
  have e1 := i_1
  have hs : (z - 1).toInt = z.toInt - 1 := by rw [i_sub (by omega) (by omega), e1]
  obtain ⟨a1, a2, a3, a4, a5, a6⟩ := h
  have hg0 := a1 g hg
  have ha : (P g + 1).toInt = (P g).toInt + 1 := by rw [i_add (by omega) (by omega), e1]
  unfold putS
  refine ⟨⟨fun j hj => ?_, ?_, ?_, by rw [hs]; omega, ?_, a6⟩, by rw [u_s, ha]; omega⟩
  · by_cases q : j = g
    · rw [q, u_s, ha]; omega
    · rw [u_n q]; exact a1 j hj
  · rw [u_n (by omega)]; exact a2
  · rw [u_n (by omega)]; exact a3
  · rw [si_u (Nat.zero_le g) (by omega), u_n (show 24 ≠ g by omega), u_n (show 25 ≠ g by omega), ha, hs]; omega
theorem sowF_J {S : Int} {fr pl : Nat} (hpl : pl < 2) : ∀ (n : Nat) (P : Nat → Int32) (h : Nat) (hand : Int32), hand.toNatClampNeg ≤ n → Jv S P hand.toInt → 0 ≤ (P 37).toInt → (0 < hand ∨ 1 ≤ (P h).toInt) → Jv S (sowF n P h hand fr pl).1 0 ∧ 1 ≤ ((sowF n P h hand fr pl).1 (sowF n P h hand fr pl).2).toInt := by
  intro n
  induction n with
  | zero =>
    intro P h hand hn hJ ht hc
    have h4 := hJ.2.2.2.1
    have a2 := i_nat hand h4
    have hz : ¬ 0 < hand := by rw [i_lt, i_0]; omega
    have e : hand.toInt = 0 := by omega
    rw [e] at hJ
    exact ⟨hJ, hc.elim (fun q => absurd q hz) id⟩
  | succ n ih =>
    intro P h hand hn hJ ht hc
    by_cases h0 : 0 < hand
    · rw [sowF, if_pos h0]
      have hg := nxt_lt fr h
      obtain ⟨j1, j2⟩ := hJ.pay (g := nxt fr h) hpl h0 ht
      obtain ⟨j3, j4⟩ := j1.put hg j2
      have hd := pay_dec (P := P) (h := nxt fr h) (pl := pl) h0 ht
      refine ih _ _ _ (by omega) j3 ?_ (Or.inr j4)
      rw [putS_o _ (by omega), payP_o _ _ _ _ hpl (by decide) (by decide) (by decide)]
      exact ht
    · rw [sowF_end h0]
      have h4 := hJ.2.2.2.1
      have e : hand.toInt = 0 := by rw [i_lt, i_0] at h0; omega
      rw [e] at hJ
      exact ⟨hJ, hc.elim (fun q => absurd q h0) id⟩
theorem sowM_J {S : Int} {P : Nat → Int32} {fr pl : Nat} (hpl : pl < 2) (hfr : fr < 12) (hJ : Jv S P 0) (ht : 0 ≤ (P 37).toInt) (h0 : 1 ≤ (P fr).toInt) : Jv S (sowM P fr pl).1 0 ∧ 1 ≤ ((sowM P fr pl).1 (sowM P fr pl).2).toInt := by
  unfold sowM
  refine sowF_J hpl _ _ _ _ (Nat.le_refl _) ?_ (by rw [u_n (by omega)]; exact ht) (Or.inl (by rw [i_lt, i_0]; omega))
  obtain ⟨a1, a2, a3, a4, a5, a6⟩ := hJ
  refine ⟨fun j hj => ?_, by rw [u_n (by omega)]; exact a2, by rw [u_n (by omega)]; exact a3, by omega, ?_, a6⟩
  · by_cases q : j = fr
    · rw [q, u_s, i_0]; omega
    · rw [u_n q]; exact a1 j hj
  · rw [si_u (Nat.zero_le fr) (by omega), u_n (show 24 ≠ fr by omega), u_n (show 25 ≠ fr by omega), i_0]; omega
theorem visM_J {S : Int} {P : Nat → Int32} {h : Nat} (hh : h < 12) (hJ : Jv S P 0) : Jv S (visM P h) 0 :=
  hJ.o (fun j hj => visM_o _ (by omega) (by omega)) (visM_o _ (by decide) (by omega)) (visM_o _ (by decide) (by omega))
theorem capM_J {S : Int} {P : Nat → Int32} {h pl : Nat} (hh : h < 12) (hpl : pl < 2) (hJ : Jv S P 0) : Jv S (capM P h pl) 0 := by
  have l1 := hJ.le hh
  have l2 := hJ.le (show 11 - h < 12 by omega)
  have hst := hJ.store hpl
  have n1 := hJ.1 h hh
  have n2 := hJ.1 (11 - h) (by omega)
  have c1 : (P h + P (11 - h)).toInt = (P h).toInt + (P (11 - h)).toInt := i_add (by omega) (by omega)
  have c2 : (P (24 + pl) + (P h + P (11 - h))).toInt = (P (24 + pl)).toInt + ((P h).toInt + (P (11 - h)).toInt) := by rw [i_add (by rw [c1]; omega) (by rw [c1]; omega), c1]
  obtain ⟨a1, a2, a3, a4, a5, a6⟩ := hJ
  have st : ∀ t, t < 2 → capM P h pl (24 + t) = upd P (24 + pl) (P (24 + pl) + (P h + P (11 - h))) (24 + t) := by
    intro t ht
    unfold capM
    rw [u_n (by omega), u_n (by omega), u_n (by omega), u_n (by omega)]
  have e4 := st 0 (by decide)
  have e5 := st 1 (by decide)
  rw [show 24 + 0 = 24 from rfl] at e4
  rw [show 24 + 1 = 25 from rfl] at e5
  refine ⟨fun j hj => ?_, ?_, ?_, a4, ?_, a6⟩
  · have := cap_s (P := P) (sd := P) (h := h) (pl := pl) (z := 0) (fun _ _ => rfl) j hj
    rw [u_n (show j ≠ 32 by omega)] at this
    rw [← this]
    by_cases q : j = 11 - h
    · rw [q, u_s, i_0]; omega
    · rw [u_n q]
      by_cases q2 : j = h
      · rw [q2, u_s, i_0]; omega
      · rw [u_n q2]; exact a1 j hj
  · rw [e4]
    by_cases q : pl = 0
    · rw [q] at c2 hst ⊢; rw [u_s, c2]; omega
    · rw [u_n (by omega)]; exact a2
  · rw [e5]
    by_cases q : pl = 1
    · rw [q] at c2 hst ⊢; rw [u_s, c2]; omega
    · rw [u_n (by omega)]; exact a3
  · have es : si (capM P h pl) 0 12 = si P 0 12 - (P h).toInt - (P (11 - h)).toInt := by
      unfold capM
      rw [si_o (by omega), si_o (by omega), si_u (Nat.zero_le _) (by omega), si_u (Nat.zero_le _) (by omega), si_o (by omega), u_n (show 11 - h ≠ h by omega), u_n (show 11 - h ≠ 24 + pl by omega), u_n (show h ≠ 24 + pl by omega), i_0]
      omega
    rw [es, e4, e5]
    rcases (show pl = 0 ∨ pl = 1 by omega) with rfl | rfl
    · rw [show 24 + 0 = 24 from rfl] at c2 ⊢
      rw [u_s, u_n (by decide), c2]; omega
    · rw [show 24 + 1 = 25 from rfl] at c2 ⊢
      rw [u_s, u_n (by decide), c2]; omega
theorem endM_J {S : Int} {P : Nat → Int32} {h pl : Nat} (hh : h < 12) (hpl : pl < 2) (hJ : Jv S P 0) : Jv S (endM P h pl) 0 := by
  unfold endM
  split
  · exact capM_J hh hpl (visM_J hh hJ)
  · exact visM_J hh hJ
theorem endM_g {P : Nat → Int32} {h pl : Nat} (hg : 1 < P h) : endM P h pl = visM P h := endM_n (fun q => q.1 hg)
theorem lapsF_J {S : Int} {pl : Nat} (hpl : pl < 2) : ∀ (n : Nat) (P : Nat → Int32) (h : Nat), h < 12 → Jv S P 0 → 0 ≤ (P 37).toInt → 1 ≤ (P h).toInt → Jv S (lapsF n P h pl).1 0 ∧ (lapsF n P h pl).2 < 12
  | 0, P, h, hh, hJ, _, _ => ⟨hJ, hh⟩
  | n + 1, P, h, hh, hJ, ht, h0 => by
    obtain ⟨j1, j2⟩ := sowM_J hpl hh hJ ht h0
    have hg := sowM_lt (P := P) (pl := pl) hh
    rw [lapsF]
    split
    · refine lapsF_J hpl n _ _ hg (visM_J hg j1) ?_ ?_
      · rw [visM_o _ (by decide) (by omega), sowM_o hpl hh (by decide) (by decide) (by decide) (by decide)]; exact ht
      · rw [visM_o _ (by omega) (by omega)]; exact j2
    · exact ⟨endM_J hg hpl j1, hg⟩
theorem lapsF_o {pl j : Nat} (hpl : pl < 2) (h1 : 26 ≤ j) (h2 : j ≠ 30) (h3 : j ≠ 32) (h4 : j ≠ 33) : ∀ (n : Nat) (P : Nat → Int32) (h : Nat), h < 12 → (lapsF n P h pl).1 j = P j
  | 0, _, _, _ => rfl
  | n + 1, P, h, hh => by
    have hg := sowM_lt (P := P) (pl := pl) hh
    have e := sowM_o (P := P) (fr := h) (pl := pl) (j := j) hpl hh (by omega) (by omega) (by omega) h4
    rw [lapsF]
    split
    · rw [lapsF_o hpl h1 h2 h3 h4 n _ _ hg, visM_o _ h2 (by omega), e]
    · show endM (sowM P h pl).1 (sowM P h pl).2 pl j = P j
      rw [endM_hi _ hg hpl h1 h3, visM_o _ h2 (by omega), e]
theorem sm_si {P : Nat → Int32} {b : Nat} : ∀ {n : Nat}, (∀ j, b ≤ j → j < b + n → 0 ≤ (P j).toInt) → si P b n ≤ 2000 → (sm 0 P b n).toInt = si P b n
  | 0, _, _ => i_0
  | n + 1, h, hl => by
    have a1 := si_nn (n := n) (fun j a b => h j a (by omega))
    have a2 := h (b + n) (by omega) (by omega)
    rw [si] at hl ⊢
    have ih := sm_si (n := n) (fun j a b => h j a (by omega)) (by omega)
    rw [sm, i_add (by omega) (by omega), ih]
end
section
-- Position: a whole move
theorem all_eq (P : Nat → Int32) : allM P = sm 0 P 0 6 + sm 0 P 6 6 + P 24 + P 25 := by
  unfold allM
  rw [sm_z, sm_add 0 P 0 6 6, sm_z (sm 0 P 0 6), Int32.add_comm, ← Int32.add_assoc]
theorem over_dec {P : Nat → Int32} {k : Nat} (h28 : P 28 = nI k) (hk : k ≤ 300) : overM P ↔ decP P := by
  have h3 : P 28 = 300 ↔ 300 ≤ P 28 := by
    rw [h28]
    constructor
    · intro h; rw [h]; exact Int32.le_refl _
    · intro h
      have h2 : 300 ≤ k := n_le (a := 300) h (by decide) (by omega)
      rw [show k = 300 by omega]; rfl
  unfold overM decP decC
  rw [all_eq, h3]
theorem fin_gt {S : Int} {B : Nat → Int32} {pl k : Nat} (hJ : Jv S B 0) (hpl : pl < 2) (h28 : B 28 = nI k) (hk : k ≤ 300) (h27 : B 27 = 0) : finM B pl = gtM B (1 - pl) := by
  unfold finM
  by_cases hd : decP B
  · rw [if_pos ((over_dec h28 hk).mpr hd), gt_y hd]
  · rw [if_neg (fun q => hd ((over_dec h28 hk).mp q)), gt_n hd]
    have hs : (sm 0 B (6 * (1 - pl)) 6).toInt = si B (6 * (1 - pl)) 6 ∧ 0 ≤ si B (6 * (1 - pl)) 6 := by
      have n1 := si_nn (P := B) (b := 0) (n := 6) (fun j _ b => hJ.1 j (by omega))
      have n2 := si_nn (P := B) (b := 6) (n := 6) (fun j _ b => hJ.1 j (by omega))
      have sp := si_split B 0 6 6
      obtain ⟨a1, a2, a3, a4, a5, a6⟩ := hJ
      rw [show 6 + 6 = 12 from rfl, show 0 + 6 = 6 from rfl] at sp
      rcases (show pl = 0 ∨ pl = 1 by omega) with rfl | rfl
      · exact ⟨sm_si (fun j _ b => a1 j (by omega)) (by show si B 6 6 ≤ 2000; omega), n2⟩
      · exact ⟨sm_si (fun j _ b => a1 j (by omega)) (by show si B 0 6 ≤ 2000; omega), n1⟩
    have e27 : upd B 27 0 = B := by
      funext j
      by_cases q : j = 27
      · rw [q, u_s, h27]
      · rw [u_n q]
    have et : turnM B pl = if sm 0 B (6 * (1 - pl)) 6 = 0 then nI (1 - (1 - pl)) else nI (1 - pl) := by
      unfold turnM
      by_cases q : sm 0 B (6 * (1 - pl)) 6 = 0
      · rw [if_pos q, if_neg (by rw [q]; decide), show 1 - (1 - pl) = pl by omega]
      · rw [if_neg q, if_pos (by
          rw [i_lt, i_0]
          have : ¬ (sm 0 B (6 * (1 - pl)) 6).toInt = 0 := fun z => q ((i_eq _ _).mpr (z.trans i_0.symm))
          omega)]
    rw [e27, et]
theorem clrL_o (P : Nat → Int32) {j : Nat} (h : j < 29 ∨ 34 ≤ j) : clrL P j = P j := if_neg (by omega)
theorem clrL_z (P : Nat → Int32) {j : Nat} (h1 : 29 ≤ j) (h2 : j < 34) : clrL P j = 0 := if_pos ⟨h1, h2⟩
theorem clrL_J {S : Int} {P : Nat → Int32} (hJ : Jv S P 0) : Jv S (clrL P) 0 := hJ.o (fun j hj => clrL_o _ (by omega)) (clrL_o _ (by omega)) (clrL_o _ (by omega))
theorem mvB_o (P : Nat → Int32) {fr pl j : Nat} (h1 : j ≠ 28) (h2 : j ≠ 29) (h3 : j ≠ 31) : mvB P fr pl j = (mvA P fr pl).1 j := by
  unfold mvB
  rw [u_n h1, u_n h3, u_n h2]
theorem mvA_o (P : Nat → Int32) {fr pl j : Nat} (hpl : pl < 2) (hfr : fr < 12) (h1 : 26 ≤ j) (h2 : j < 29 ∨ 34 ≤ j) : (mvA P fr pl).1 j = P j := by
  unfold mvA
  rw [lapsF_o hpl h1 (by omega) (by omega) (by omega) _ _ _ hfr, clrL_o _ h2]
theorem mvB_28 (P : Nat → Int32) {fr pl : Nat} (hpl : pl < 2) (hfr : fr < 12) : mvB P fr pl 28 = P 28 + 1 := by
  unfold mvB
  rw [u_s, mvA_o P hpl hfr (by decide) (by decide)]
theorem mvB_J {S : Int} {P : Nat → Int32} {fr pl : Nat} (hpl : pl < 2) (hfr : fr < 12) (hJ : Jv S P 0) (ht : 0 ≤ (P 37).toInt) (h0 : 1 ≤ (P fr).toInt) : Jv S (mvB P fr pl) 0 := by
  have h1 := (lapsF_J hpl 21 (clrL P) fr hfr (clrL_J hJ) (by rw [clrL_o _ (by omega)]; exact ht) (by rw [clrL_o _ (by omega)]; exact h0)).1
  exact h1.o (fun j hj => mvB_o _ (by omega) (by omega) (by omega)) (mvB_o _ (by omega) (by omega) (by omega)) (mvB_o _ (by omega) (by omega) (by omega))
theorem mvM_gt {S : Int} {P : Nat → Int32} {fr pl k : Nat} (hpl : pl < 2) (hfr : fr < 12) (hJ : Jv S P 0) (ht : 0 ≤ (P 37).toInt) (h0 : 1 ≤ (P fr).toInt) (h26 : P 26 = nI pl) (h27 : P 27 = 0) (h28 : P 28 = nI k) (hk : k < 300) : mvM P fr = gtM (mvB P fr pl) (1 - pl) := by
  unfold mvM
  rw [h26, nI_clamp (by omega)]
  refine fin_gt (k := k + 1) (mvB_J hpl hfr hJ ht h0) hpl (by rw [mvB_28 P hpl hfr, h28, nI_1]) (by omega) ?_
  rw [mvB_o _ (by decide) (by decide) (by decide), mvA_o P hpl hfr (by decide) (by decide), h27]
set_option maxHeartbeats 4000000 in
set_option maxRecDepth 100000 in
theorem c_makeMove (l : Launch) (D : va_G) (T : Nat → ClassId) (q0 q1 q2 q3 q4 q5 : Nat) {pl : Nat} (hpl : pl < 2) (ov mv : Int32) (sd vs so E : Nat → Int32) (x0 x1 x2 x3 x4 : Int32) (P : Nat → Int32) (hA : Agr P sd vs so) (hov : ov = P 27) (hmv : mv = P 28) (hE : ∀ j, j < 4 → E j = P (34 + j)) {fr : Nat} (hfr : fr < 12) {S : Int} (hJ : Jv S P 0) (h36 : 0 ≤ (P 36).toInt ∧ (P 36).toInt ≤ 20) (ht : 0 ≤ (P 37).toInt) (h0 : 1 ≤ (P fr).toInt) (h26 : P 26 = nI pl) (h27 : P 27 = 0) {mk : Nat} (h28 : P 28 = nI mk) (hmk : mk < 300) : KV (S := Unit) l D T yX3_makeMove cX3_makeMove 6 3 [.ref q0, .int (nI fr), .ref q4, .ref q5] [(q0, .inr (3, [.ref q1, .ref q2, .ref q3, .int (nI pl), .int ov, .int mv])), (q1, .inl (T 0, 12, .inl sd)), (q2, .inl (T 0, 12, .inl vs)), (q3, .inl (T 0, 2, .inl so)), (q4, .inl (T 0, 4, .inl E)), (q5, .inr (4, [.int x0, .int x1, .int x2, .int x3, .int x4]))] (fun _ => True) (fun u => [(q0, .inr (3, [.ref q1, .ref q2, .ref q3, .int ((mvM P fr) 26), .int ((mvM P fr) 27), .int ((mvM P fr) 28)])), (q1, .inl (T 0, 12, .inl (fun j => (mvM P fr) j))), (q2, .inl (T 0, 12, .inl (fun j => (mvM P fr) (12 + j)))), (q3, .inl (T 0, 2, .inl (fun j => (mvM P fr) (24 + j)))), (q4, .inl (T 0, 4, .inl E)), (q5, .inr (4, [.int ((mvM P fr) 29), .int ((mvM P fr) 30), .int ((mvM P fr) 31), .int ((mvM P fr) 32), .int ((mvM P fr) 33)]))]) := by
  refine KV.of (by decide +kernel) (Nat.le_of_ble_eq_true rfl) (fun p e s m below meth c A F hr hlk hW ls hl => ?_)
  have hx := F.1
  have hb := F.2.1
  have hl : lv_has ls 6 [(0, .ref q0), (1, .int (nI fr)), (2, .ref q4), (3, .ref q5)] := hl
  refine lv_aload_n hx hb dX3_makeMove_0 rfl (lv_at hl 3 rfl) ?_
  refine lv_iload_n hx hb dX3_makeMove_1 rfl (lv_at hl 1 rfl) ?_
  refine cVV (As := [.int (nI fr)]) (rest := []) (wr := [(q0, .inr (3, [.ref q1, .ref q2, .ref q3, .int (nI pl), .int ov, .int mv])), (q1, .inl (T 0, 12, .inl sd)), (q2, .inl (T 0, 12, .inl vs)), (q3, .inl (T 0, 2, .inl so)), (q4, .inl (T 0, 4, .inl E))]) F hW hl cs288 (c_clear l D T q5 x0 x1 x2 x3 x4 (nI fr)) [5] [0, 1, 2, 3, 4] rfl rfl rfl rfl (by decide) 0 4 rfl rfl rfl rfl rfl (Nat.le_of_ble_eq_true rfl) ⟨Nat.le_of_ble_eq_true rfl, Nat.le_of_ble_eq_true rfl⟩ ⟨Nat.zero_le _, Nat.zero_le _⟩ dX3_makeMove_2 (fun u2 H locs hr2 hW => ?_)
  have hW := Wd.ord hW (ws' := [(q0, .inr (3, [.ref q1, .ref q2, .ref q3, .int (nI pl), .int ov, .int mv])), (q1, .inl (T 0, 12, .inl sd)), (q2, .inl (T 0, 12, .inl vs)), (q3, .inl (T 0, 2, .inl so)), (q4, .inl (T 0, 4, .inl E)), (q5, .inr (4, [.int (nI fr), .int 0, .int (nI fr), .int 0, .int 0]))]) [0, 1, 2, 3, 4, 5] rfl rfl
  refine lv_iconst (v := nI 1) hx hb dX3_makeMove_5 (by decide) ?_
  refine lv_istore (lv' := [(4, .int (nI 1)), (0, .ref q0), (1, .int (nI fr)), (2, .ref q4), (3, .ref q5)]) hx hb dX3_makeMove_6 hl (by decide) rfl (fun ls hl => ?_)
  refine lv_iconst (v := nI 0) hx hb dX3_makeMove_8 (by decide) ?_
  refine lv_istore (lv' := [(5, .int (nI 0)), (4, .int (nI 1)), (0, .ref q0), (1, .int (nI fr)), (2, .ref q4), (3, .ref q5)]) hx hb dX3_makeMove_9 hl (by decide) rfl (fun ls hl => ?_)
  have hW := Wd.arr hW 1 (fun j => (clrL P) j) rfl (fun j hj => (hA.1 j hj).trans (clrL_o P (by omega)).symm) (ws' := [(q0, .inr (3, [.ref q1, .ref q2, .ref q3, .int (nI pl), .int ov, .int mv])), (q1, .inl (T 0, 12, .inl (fun j => (clrL P) j))), (q2, .inl (T 0, 12, .inl vs)), (q3, .inl (T 0, 2, .inl so)), (q4, .inl (T 0, 4, .inl E)), (q5, .inr (4, [.int (nI fr), .int 0, .int (nI fr), .int 0, .int 0]))]) rfl
  have hW := Wd.arr hW 2 (fun j => (clrL P) (12 + j)) rfl (fun j hj => (hA.2.1 j hj).trans (clrL_o P (by omega)).symm) (ws' := [(q0, .inr (3, [.ref q1, .ref q2, .ref q3, .int (nI pl), .int ov, .int mv])), (q1, .inl (T 0, 12, .inl (fun j => (clrL P) j))), (q2, .inl (T 0, 12, .inl (fun j => (clrL P) (12 + j)))), (q3, .inl (T 0, 2, .inl so)), (q4, .inl (T 0, 4, .inl E)), (q5, .inr (4, [.int (nI fr), .int 0, .int (nI fr), .int 0, .int 0]))]) rfl
  have hW := Wd.arr hW 3 (fun j => (clrL P) (24 + j)) rfl (fun j hj => (hA.2.2 j hj).trans (clrL_o P (by omega)).symm) (ws' := [(q0, .inr (3, [.ref q1, .ref q2, .ref q3, .int (nI pl), .int ov, .int mv])), (q1, .inl (T 0, 12, .inl (fun j => (clrL P) j))), (q2, .inl (T 0, 12, .inl (fun j => (clrL P) (12 + j)))), (q3, .inl (T 0, 2, .inl (fun j => (clrL P) (24 + j)))), (q4, .inl (T 0, 4, .inl E)), (q5, .inr (4, [.int (nI fr), .int 0, .int (nI fr), .int 0, .int 0]))]) rfl
  have e30 : (0 : Int32) = (clrL P) 30 := (clrL_z P (by decide) (by decide)).symm
  have e32 : (0 : Int32) = (clrL P) 32 := (clrL_z P (by decide) (by decide)).symm
  have e33 : (0 : Int32) = (clrL P) 33 := (clrL_z P (by decide) (by decide)).symm
  have hW : Wd D T A s [(q0, .inr (3, [.ref q1, .ref q2, .ref q3, .int (nI pl), .int ov, .int mv])), (q1, .inl (T 0, 12, .inl (fun j => (clrL P) j))), (q2, .inl (T 0, 12, .inl (fun j => (clrL P) (12 + j)))), (q3, .inl (T 0, 2, .inl (fun j => (clrL P) (24 + j)))), (q4, .inl (T 0, 4, .inl E)), (q5, .inr (4, [.int (nI fr), .int ((clrL P) 30), .int (nI fr), .int ((clrL P) 32), .int ((clrL P) 33)]))] H locs := by rw [← e30, ← e32, ← e33]; exact hW
  refine W.loop (fun m H2 locs2 ls2 => ∃ (k : Nat) (Pc : Nat → Int32) (h : Nat) (g : Int32), k ≤ 21 ∧ m = 21 - k ∧ h < 12 ∧ Pc 30 = nI k ∧ (∀ j, 26 ≤ j → j < 29 ∨ 34 ≤ j → Pc j = P j) ∧ ((g = 1 ∧ nI k ≤ P 36 ∧ lapsF (21 - k) Pc h pl = mvA P fr pl ∧ Jv S Pc 0 ∧ 1 ≤ (Pc h).toInt ∧ Pc 32 = 0) ∨ ((g = 0 ∨ ¬ nI k ≤ P 36) ∧ (Pc, h) = mvA P fr pl)) ∧ Wd D T A s [(q0, .inr (3, [.ref q1, .ref q2, .ref q3, .int (nI pl), .int ov, .int mv])), (q1, .inl (T 0, 12, .inl (fun j => Pc j))), (q2, .inl (T 0, 12, .inl (fun j => Pc (12 + j)))), (q3, .inl (T 0, 2, .inl (fun j => Pc (24 + j)))), (q4, .inl (T 0, 4, .inl E)), (q5, .inr (4, [.int (nI fr), .int (Pc 30), .int (nI h), .int (Pc 32), .int (Pc 33)]))] H2 locs2 ∧ lv_has ls2 6 [(0, .ref q0), (1, .int (nI fr)), (2, .ref q4), (3, .ref q5), (4, .int g), (5, .int (nI k))]) ?_ 21 ⟨0, clrL P, fr, 1, by omega, rfl, hfr, e30.symm, fun j a b => clrL_o P (by omega), Or.inl ⟨rfl, by rw [i_le]; exact h36.1, rfl, clrL_J hJ, by rw [clrL_o P (by omega)]; exact h0, e32.symm⟩, hW, lv_sub hl [2, 3, 4, 5, 1, 0] rfl⟩
  rintro mz H locs ls ⟨k, Pc, h, g, hk, rfl, hh, h30, ho, hc, hW, hl⟩ ih
  refine W.fork (X := Unit) 42 (fun _ => []) (fun _ H2 locs2 ls2 => H2 = H ∧ locs2 = locs ∧ (Pc, h) = mvA P fr pl ∧ lv_has ls2 6 [(0, .ref q0), (1, .int (nI fr)), (2, .ref q4), (3, .ref q5), (4, .int g), (5, .int (nI k))]) (fun hfin => ?_) ?_
  · refine lv_iload hx hb dX3_makeMove_11 (lv_at hl 4 rfl) ?_
    refine lv_if_eq (tgt := 42) hx hb dX3_makeMove_13 (by decide) (fun h13 => ?_) (fun h13 => ?_)
    · refine hfin () _ _ _ ⟨rfl, rfl, ?_, hl⟩
      rcases hc with hc | hc
      · exact absurd (hc.1.symm.trans h13) (by decide)
      · exact hc.2
    · refine lv_iload hx hb dX3_makeMove_16 (lv_at hl 5 rfl) ?_
      refine lv_aload_n hx hb dX3_makeMove_18 rfl (lv_at hl 2 rfl) ?_
      refine lv_iconst (v := nI 2) hx hb dX3_makeMove_19 (by decide) ?_
      refine ald F hW 4 rfl (x := P 36) 2 rfl (by omega) (by decide) (hE 2 (by decide)) dX3_makeMove_20 ?_
      refine lv_icmp_gt (tgt := 42) hx hb dX3_makeMove_21 (by decide) (fun h21 => ?_) (fun h21 => ?_)
      · refine hfin () _ _ _ ⟨rfl, rfl, ?_, hl⟩
        rcases hc with hc | hc
        · exact absurd hc.2.1 (Int32.not_le.mpr h21)
        · exact hc.2
      · have hc : nI k ≤ P 36 ∧ lapsF (21 - k) Pc h pl = mvA P fr pl ∧ Jv S Pc 0 ∧ 1 ≤ (Pc h).toInt ∧ Pc 32 = 0 := by
          rcases hc with hc | hc
          · exact hc.2
          · exact absurd hc.1 (fun q => q.elim h13 (fun q => q (Int32.not_lt.mp h21)))
        obtain ⟨hk2, hL, hJc, hh0, h32⟩ := hc
        have hk3 : k ≤ 20 := by rw [i_le, nI_toInt (by omega)] at hk2; omega
        have q37 : Pc 37 = P 37 := ho 37 (by decide) (by decide)
        obtain ⟨j1, j2⟩ := sowM_J hpl hh hJc (by rw [q37]; exact ht) hh0
        have hh2 := sowM_lt (P := Pc) (pl := pl) hh
        refine lv_aload_n hx hb dX3_makeMove_24 rfl (lv_at hl 0 rfl) ?_
        refine lv_aload_n hx hb dX3_makeMove_25 rfl (lv_at hl 3 rfl) ?_
        refine gf105 F hW 5 rfl rfl dX3_makeMove_26 ?_
        refine lv_aload_n hx hb dX3_makeMove_29 rfl (lv_at hl 2 rfl) ?_
        refine lv_aload_n hx hb dX3_makeMove_30 rfl (lv_at hl 3 rfl) ?_
        refine cIV (As := [.int (nI h), .ref q4, .ref q5]) (rest := []) (wr := []) F hW hl cs292 (c_sowLap l D T q0 q1 q2 q3 q4 q5 (pl := pl) (by omega) ov mv (fun j => Pc j) (fun j => Pc (12 + j)) (fun j => Pc (24 + j)) E (nI fr) (nI h) Pc ⟨fun _ _ => rfl, fun _ _ => rfl, fun _ _ => rfl⟩ (fun j hj => (hE j hj).trans (ho _ (by omega) (by omega)).symm) (fr := h) (by omega) (by rw [q37]; exact ht) j2 (j1.1 _ (by omega)) h32) [0, 1, 2, 3, 4, 5] [] rfl rfl rfl rfl (by decide) 0 3 rfl rfl rfl rfl rfl (Nat.le_of_ble_eq_true rfl) ⟨Nat.le_of_ble_eq_true rfl, Nat.le_of_ble_eq_true rfl⟩ ⟨Nat.zero_le _, Nat.zero_le _⟩ dX3_makeMove_31 (fun r31 u31 H locs hr31 hW => ?_)
        have hW := Wd.ord hW (ws' := [(q0, .inr (3, [.ref q1, .ref q2, .ref q3, .int (nI pl), .int ov, .int mv])), (q1, .inl (T 0, 12, .inl (fun j => (endM (sowM Pc h pl).1 (sowM Pc h pl).2 pl) j))), (q2, .inl (T 0, 12, .inl (fun j => (endM (sowM Pc h pl).1 (sowM Pc h pl).2 pl) (12 + j)))), (q3, .inl (T 0, 2, .inl (fun j => (endM (sowM Pc h pl).1 (sowM Pc h pl).2 pl) (24 + j)))), (q4, .inl (T 0, 4, .inl E)), (q5, .inr (4, [.int (nI fr), .int ((endM (sowM Pc h pl).1 (sowM Pc h pl).2 pl) 30), .int (nI ((sowM Pc h pl).2)), .int ((endM (sowM Pc h pl).1 (sowM Pc h pl).2 pl) 32), .int ((endM (sowM Pc h pl).1 (sowM Pc h pl).2 pl) 33)]))]) [0, 1, 2, 3, 4, 5] rfl rfl
        subst hr31
        refine lv_istore (lv' := [(4, .int (if goesM (sowM Pc h pl).1 (sowM Pc h pl).2 then 1 else 0)), (0, .ref q0), (1, .int (nI fr)), (2, .ref q4), (3, .ref q5), (5, .int (nI k))]) hx hb dX3_makeMove_34 hl (by decide) rfl (fun ls hl => ?_)
        refine lv_iinc (v := nI (k + 1)) (lv' := [(5, .int (nI (k + 1))), (4, .int (if goesM (sowM Pc h pl).1 (sowM Pc h pl).2 then 1 else 0)), (0, .ref q0), (1, .int (nI fr)), (2, .ref q4), (3, .ref q5)]) hx hb dX3_makeMove_36 hl (k := 5) rfl (nI_add _ _) (by decide) rfl (fun ls hl => ?_)
        refine lv_goto (tgt := 11) hx hb dX3_makeMove_39 (by decide) ?_
        have s30 : (endM (sowM Pc h pl).1 (sowM Pc h pl).2 pl) 30 = nI (k + 1) := by rw [endM_hi _ hh2 hpl (by decide) (by decide), visM_30 _ hh2, sowM_o hpl hh (by decide) (by decide) (by decide) (by decide), h30, nI_1]
        have so : ∀ j, 26 ≤ j → j < 29 ∨ 34 ≤ j → (endM (sowM Pc h pl).1 (sowM Pc h pl).2 pl) j = P j := fun j a b => by rw [endM_hi _ hh2 hpl a (by omega), visM_o _ (by omega) (by omega), sowM_o hpl hh (by omega) (by omega) (by omega) (by omega)]; exact ho j a b
        have e36 : (sowM Pc h pl).1 36 = P 36 := (sowM_o hpl hh (by decide) (by decide) (by decide) (by decide)).trans (ho 36 (by decide) (by decide))
        have e30 : (sowM Pc h pl).1 30 + 1 = nI (k + 1) := by rw [sowM_o hpl hh (by decide) (by decide) (by decide) (by decide), h30, nI_1]
        have e21 : 21 - k = (21 - (k + 1)) + 1 := by omega
        rw [e21, lapsF, e36, e30] at hL
        refine ih (21 - (k + 1)) _ _ _ (by omega) ⟨k + 1, (endM (sowM Pc h pl).1 (sowM Pc h pl).2 pl), (sowM Pc h pl).2, _, by omega, rfl, hh2, s30, so, ?_, hW, lv_sub hl [2, 3, 4, 5, 1, 0] rfl⟩
        by_cases hg : goesM (sowM Pc h pl).1 (sowM Pc h pl).2
        · rw [if_pos hg]
          by_cases hk4 : nI (k + 1) ≤ P 36
          · rw [if_pos ⟨hg, hk4⟩] at hL
            refine Or.inl ⟨rfl, hk4, ?_, endM_J hh2 hpl j1, ?_, ?_⟩
            · rw [endM_g hg.1]; exact hL
            · rw [endM_g hg.1, visM_o _ (by omega) (by omega)]; exact j2
            · rw [endM_g hg.1, visM_o _ (by decide) (by omega), sowM_o hpl hh (by decide) (by decide) (by decide) (by decide), h32]
          · rw [if_neg (fun q => hk4 q.2)] at hL
            exact Or.inr ⟨Or.inr hk4, hL⟩
        · rw [if_neg (fun q => hg q.1)] at hL
          rw [if_neg hg]
          exact Or.inr ⟨Or.inl rfl, hL⟩
  · rintro - H2 locs2 ls ⟨rfl, rfl, hA2, hl⟩
    have hB : mvB P fr pl = upd (upd (upd Pc 29 (nI fr)) 31 (nI h)) 28 (Pc 28 + 1) := by unfold mvB; rw [← hA2]
    have hM := mvM_gt hpl hfr hJ ht h0 h26 h27 h28 hmk
    have hb1 : ∀ j, j ≠ 28 → j ≠ 29 → j ≠ 31 → Pc j = mvB P fr pl j := fun j a b c => by rw [hB, u_n a, u_n c, u_n b]
    have hb28 : mvB P fr pl 28 = P 28 + 1 := mvB_28 P hpl hfr
    refine lv_aload_n hx hb dX3_makeMove_42 rfl (lv_at hl 0 rfl) ?_
    refine lv_dup hx hb dX3_makeMove_43 rfl ?_
    refine gf66 F hW 0 rfl rfl dX3_makeMove_44 ?_
    refine lv_iconst (v := 1) hx hb dX3_makeMove_47 (by decide) ?_
    refine iaddE (z := P 28 + 1) hx hb dX3_makeMove_48 (by rw [hmv]) ?_
    refine pf66 (ws' := [(q0, .inr (3, [.ref q1, .ref q2, .ref q3, .int (nI pl), .int ov, .int (P 28 + 1)])), (q1, .inl (T 0, 12, .inl (fun j => Pc j))), (q2, .inl (T 0, 12, .inl (fun j => Pc (12 + j)))), (q3, .inl (T 0, 2, .inl (fun j => Pc (24 + j)))), (q4, .inl (T 0, 4, .inl E)), (q5, .inr (4, [.int (nI fr), .int (Pc 30), .int (nI h), .int (Pc 32), .int (Pc 33)]))]) F hW 0 rfl rfl rfl dX3_makeMove_49 (fun H locs hW => ?_)
    refine lv_aload_n hx hb dX3_makeMove_52 rfl (lv_at hl 0 rfl) ?_
    refine lv_iconst (v := nI 1) hx hb dX3_makeMove_53 (by decide) ?_
    refine lv_aload_n hx hb dX3_makeMove_54 rfl (lv_at hl 0 rfl) ?_
    refine gf60 F hW 0 rfl rfl dX3_makeMove_55 ?_
    refine isubE (z := nI (1 - pl)) hx hb dX3_makeMove_58 (pk_sub (by omega)) ?_
    refine cVV (As := [.int (nI (1 - pl))]) (rest := []) (wr := [(q2, .inl (T 0, 12, .inl (fun j => Pc (12 + j)))), (q4, .inl (T 0, 4, .inl E)), (q5, .inr (4, [.int (nI fr), .int (Pc 30), .int (nI h), .int (Pc 32), .int (Pc 33)]))]) F hW hl cs311 (c_giveTurnTo l D T q0 q1 q2 q3 (nI pl) ov (P 28 + 1) (fun j => Pc j) (fun j => Pc (24 + j)) (mvB P fr pl) (fun j hj => hb1 j (by omega) (by omega) (by omega)) (fun j hj => hb1 _ (by omega) (by omega) (by omega)) (by rw [hov]; exact (ho 27 (by decide) (by decide)).symm.trans (hb1 27 (by decide) (by decide) (by decide))) (by rw [hb28]) (t := (1 - pl)) (by omega)) [0, 1, 3] [2, 4, 5] rfl rfl rfl rfl (by decide) 0 3 rfl rfl rfl rfl rfl (Nat.le_of_ble_eq_true rfl) ⟨Nat.le_of_ble_eq_true rfl, Nat.le_of_ble_eq_true rfl⟩ ⟨Nat.zero_le _, Nat.zero_le _⟩ dX3_makeMove_59 (fun u59 H locs hr59 hW => ?_)
    have hW := Wd.ord hW (ws' := [(q0, .inr (3, [.ref q1, .ref q2, .ref q3, .int ((gtM (mvB P fr pl) (1 - pl)) 26), .int ((gtM (mvB P fr pl) (1 - pl)) 27), .int (P 28 + 1)])), (q1, .inl (T 0, 12, .inl (fun j => (gtM (mvB P fr pl) (1 - pl)) j))), (q2, .inl (T 0, 12, .inl (fun j => Pc (12 + j)))), (q3, .inl (T 0, 2, .inl (fun j => (gtM (mvB P fr pl) (1 - pl)) (24 + j)))), (q4, .inl (T 0, 4, .inl E)), (q5, .inr (4, [.int (nI fr), .int (Pc 30), .int (nI h), .int (Pc 32), .int (Pc 33)]))]) [3, 4, 0, 5, 1, 2] rfl rfl
    have hg : ∀ j, j < 24 → 12 ≤ j → Pc j = mvM P fr j := fun j a b => by rw [hM]; unfold gtM; split; (rw [u_n (by omega)]; unfold endsM; rw [if_neg (by omega), if_neg (by omega), if_neg (by omega), if_neg (by omega)]; exact hb1 j (by omega) (by omega) (by omega)); (rw [u_n (by omega)]; exact hb1 j (by omega) (by omega) (by omega))
    have hg2 : ∀ j, 28 ≤ j → mvM P fr j = mvB P fr pl j := fun j a => by rw [hM]; unfold gtM; split; (rw [u_n (by omega)]; unfold endsM; rw [if_neg (by omega), if_neg (by omega), if_neg (by omega), if_neg (by omega)]); (rw [u_n (by omega)])
    have hW := Wd.arr hW 2 (fun j => (mvM P fr) (12 + j)) rfl (fun j hj => hg (12 + j) (by omega) (by omega)) (ws' := [(q0, .inr (3, [.ref q1, .ref q2, .ref q3, .int ((gtM (mvB P fr pl) (1 - pl)) 26), .int ((gtM (mvB P fr pl) (1 - pl)) 27), .int (P 28 + 1)])), (q1, .inl (T 0, 12, .inl (fun j => (gtM (mvB P fr pl) (1 - pl)) j))), (q2, .inl (T 0, 12, .inl (fun j => (mvM P fr) (12 + j)))), (q3, .inl (T 0, 2, .inl (fun j => (gtM (mvB P fr pl) (1 - pl)) (24 + j)))), (q4, .inl (T 0, 4, .inl E)), (q5, .inr (4, [.int (nI fr), .int (Pc 30), .int (nI h), .int (Pc 32), .int (Pc 33)]))]) rfl
    have r28 : P 28 + 1 = mvM P fr 28 := by rw [hg2 28 (by decide), hb28]
    have r29 : nI fr = mvM P fr 29 := by rw [hg2 29 (by decide), hB, u_n (by decide), u_n (by decide), u_s]
    have r30 : Pc 30 = mvM P fr 30 := by rw [hg2 30 (by decide)]; exact hb1 30 (by decide) (by decide) (by decide)
    have r31 : nI h = mvM P fr 31 := by rw [hg2 31 (by decide), hB, u_n (by decide), u_s]
    have r32 : Pc 32 = mvM P fr 32 := by rw [hg2 32 (by decide)]; exact hb1 32 (by decide) (by decide) (by decide)
    have r33 : Pc 33 = mvM P fr 33 := by rw [hg2 33 (by decide)]; exact hb1 33 (by decide) (by decide) (by decide)
    rw [← hM, r28, r29, r30, r31, r32, r33] at hW
    exact retV F hr hlk hW () trivial rfl dX3_makeMove_62
end
section
-- Position: beginning, reading, copying; State
section ACOPY
variable {p : Program} {l : Launch} {e : Env} {R : Room} {s : State} {m : MethodId} {args : Array Value} {below : List Frame} {meth : Method} {c : Code} {H : Heap} {locs : List Loc} {cells slots : Nat} {Q : State → Prop} {cc : ByteArray} {nL : Nat} {own : String} {D : va_G} {T : Nat → ClassId} {A : Nat → Prop} {ws ws' : va_W} {a : Nat} {pc : Nat} {ls : Array Slot} {rest : List Value} {lv : List (Nat × Value)}
theorem acopy (F : CallFix p m c cc nL s args gtbl own) (hW : Wd D T A s ws H locs) (hl : lv_has ls nL lv) (q0 q1 : Nat) {a0 n0 n1 idx : Nat} {f g : Nat → Int32} (ha0 : ws[q0]? = some (a0, .inl (T 0, n0, .inl f))) (ha1 : ws[q1]? = some (a, .inl (T 0, n1, .inl g))) (hlink : Cond.methodLink own idx arraycopyName ∈ gtbl) (n : Nat) (h4 : n ≤ n0) (h5 : n ≤ n1) (hn : n < 2 ^ 31) (g' : Nat → Int32) (hg : ∀ j, j < n1 → va_cpy f g 0 0 n j = g' j) (hw : ws.set q1 (a, .inl (T 0, n1, .inl g')) = ws')
    (hframes : 1 ≤ R.frames) (hlocals : (rest.map fun v => v.category).sum + (nativeFrameWords "java/lang/System" "arraycopy" 5 + 11) ≤ R.locals) (hdg : decode cc pc = .ok (.invokestatic idx, 3))
    (kk : ∀ (H1 : Heap) (locs1 : List Loc), Wd D T A s ws' H1 locs1 → W p l e R s m args below meth c H1 locs1 cells slots Q (F0 m (pc + 3) ls rest)) : W p l e R s m args below meth c H locs cells slots Q (F0 m pc ls (.int (nI n) :: .int (nI 0) :: .ref a :: .int (nI 0) :: .ref a0 :: rest)) := by
  have e0 : (nI 0).toNatClampNeg = 0 := nI_clamp (by decide)
  have en : (nI n).toNatClampNeg = n := nI_clamp hn
  refine va_copyi F.1 F.2.1 (by rw [F.2.2.1]; exact hl.1.symm) F.2.2.2.1 (F.2.2.2.2 _ hlink) (F.2.2.2.2 _ m252) (F.2.2.2.2 _ m251) (F.2.2.2.2 _ m32) hW.1 hW.2.1 hW.2.2.1 hW.2.2.2.1 q0 q1 0 0 ha0 ha1 rfl rfl rfl (nI_pos (by decide)) (nI_pos (by decide)) (nI_pos hn) (by rw [e0, en]; omega) (by rw [e0, en]; omega) (fun i hi => rfl) hframes hlocals hdg (fun H1 locs1 hP hD hS => ?_)
  rw [e0, en] at hP hD
  have hl1 := (List.getElem?_eq_some_iff.mp ha1).1
  have h1 : Wd D T A s (ws.set q1 (a, .inl (T 0, n1, .inl (va_cpy f g 0 0 n)))) H1 locs1 := ⟨hW.1, hP, hD, hS, hW.2.2.2.2⟩
  exact kk H1 locs1 (h1.arr q1 g' (List.getElem?_set_self hl1) hg (by rw [List.set_set]; exact hw))
end ACOPY
/-- the eight cells of a State -/
abbrev blk (T : Nat → ClassId) (a : Nat → Nat) (f : Nat → Int32) : va_W := [(a 0, .inr (5, [.ref (a 1), .ref (a 5), .ref (a 6), .ref (a 7)])), (a 1, .inr (3, [.ref (a 2), .ref (a 3), .ref (a 4), .int (f 26), .int (f 27), .int (f 28)])), (a 2, .inl (T 0, 12, .inl (fun j => f j))), (a 3, .inl (T 0, 12, .inl (fun j => f (12 + j)))), (a 4, .inl (T 0, 2, .inl (fun j => f (24 + j)))), (a 5, .inl (T 0, 4, .inl (fun j => f (34 + j)))), (a 6, .inr (4, [.int (f 29), .int (f 30), .int (f 31), .int (f 32), .int (f 33)])), (a 7, .inl (T 0, 300, .inl (fun j => f (40 + j))))]
set_option maxHeartbeats 4000000 in
set_option maxRecDepth 100000 in
theorem c_startGame (l : Launch) (D : va_G) (T : Nat → ClassId) (q0 q1 q2 q3 : Nat) (pl ov mv : Int32) (vs : Nat → Int32) : KV (S := Unit) l D T yX3_startGame cX3_startGame 2 0 [.ref q0] [(q0, .inr (3, [.ref q1, .ref q2, .ref q3, .int pl, .int ov, .int mv])), (q2, .inl (T 0, 12, .inl vs))] (fun _ => True) (fun u => [(q0, .inr (3, [.ref q1, .ref q2, .ref q3, .int pl, .int 0, .int 0])), (q2, .inl (T 0, 12, .inl (fun _ => 0)))]) := by
  refine KV.of (by decide +kernel) (Nat.le_of_ble_eq_true rfl) (fun p e s m below meth c A F hr hlk hW ls hl => ?_)
  have hx := F.1
  have hb := F.2.1
  have hl : lv_has ls 2 [(0, .ref q0)] := hl
  refine lv_iconst (v := nI 0) hx hb dX3_startGame_0 (by decide) ?_
  refine lv_istore_n (lv' := [(1, .int (nI 0)), (0, .ref q0)]) hx hb dX3_startGame_1 rfl hl (by decide) rfl (fun ls hl => ?_)
  have hW := Wd.arr hW 1 (fun j => if j < 0 then 0 else vs j) rfl (fun j hj => by rw [if_neg (Nat.not_lt_zero j)]) (ws' := [(q0, .inr (3, [.ref q1, .ref q2, .ref q3, .int pl, .int ov, .int mv])), (q2, .inl (T 0, 12, .inl (fun j => if j < 0 then 0 else vs j)))]) rfl
  refine W.loop (fun n H2 locs2 ls2 => ∃ k, k ≤ 12 ∧ n = 12 - k ∧ Wd D T A s [(q0, .inr (3, [.ref q1, .ref q2, .ref q3, .int pl, .int ov, .int mv])), (q2, .inl (T 0, 12, .inl (fun j => if j < k then 0 else vs j)))] H2 locs2 ∧ lv_has ls2 2 [(0, .ref q0), (1, .int (nI k))]) ?_ 12 ⟨0, by omega, rfl, hW, lv_sub hl [1, 0] rfl⟩
  rintro n H locs ls ⟨k, hk, rfl, hW, hl⟩ ih
  refine lv_iload_n hx hb dX3_startGame_2 rfl (lv_at hl 1 rfl) ?_
  refine lv_bipush (v := nI 12) hx hb dX3_startGame_3 (by decide) ?_
  refine lv_icmp_ge (tgt := 21) hx hb dX3_startGame_5 (by decide) (fun h5 => ?_) (fun h5 => ?_)
  · have h6 : k = 12 := by have := n_le h5 (by omega) (by omega); omega
    subst h6
    refine lv_aload_n hx hb dX3_startGame_21 rfl (lv_at hl 0 rfl) ?_
    refine lv_iconst (v := 0) hx hb dX3_startGame_22 (by decide) ?_
    refine pf64 (ws' := [(q0, .inr (3, [.ref q1, .ref q2, .ref q3, .int pl, .int 0, .int mv])), (q2, .inl (T 0, 12, .inl (fun j => if j < 12 then 0 else vs j)))]) F hW 0 rfl rfl rfl rfl rfl dX3_startGame_23 (fun H locs hW => ?_)
    refine lv_aload_n hx hb dX3_startGame_26 rfl (lv_at hl 0 rfl) ?_
    refine lv_iconst (v := 0) hx hb dX3_startGame_27 (by decide) ?_
    refine pf66 (ws' := [(q0, .inr (3, [.ref q1, .ref q2, .ref q3, .int pl, .int 0, .int 0])), (q2, .inl (T 0, 12, .inl (fun j => if j < 12 then 0 else vs j)))]) F hW 0 rfl rfl rfl dX3_startGame_28 (fun H locs hW => ?_)
    have hW := Wd.arr hW 1 (fun _ => 0) rfl (fun j hj => if_pos hj) (ws' := [(q0, .inr (3, [.ref q1, .ref q2, .ref q3, .int pl, .int 0, .int 0])), (q2, .inl (T 0, 12, .inl (fun _ => 0)))]) rfl
    exact retV F hr hlk hW () trivial rfl dX3_startGame_31
  · have h6 : k < 12 := by have := n_nle h5 (by omega) (by omega); omega
    refine lv_aload_n hx hb dX3_startGame_8 rfl (lv_at hl 0 rfl) ?_
    refine gf56 F hW 0 rfl rfl dX3_startGame_9 ?_
    refine lv_iload_n hx hb dX3_startGame_12 rfl (lv_at hl 1 rfl) ?_
    refine lv_iconst (v := 0) hx hb dX3_startGame_13 (by decide) ?_
    refine ast (ws' := [(q0, .inr (3, [.ref q1, .ref q2, .ref q3, .int pl, .int ov, .int mv])), (q2, .inl (T 0, 12, .inl (fun j => if j < k + 1 then 0 else vs j)))]) F hW 1 (fun j => if j < k + 1 then 0 else vs j) rfl k rfl (by omega) (by decide) (fun j hj => by by_cases q : j = k <;> simp [upd, q] <;> (split <;> split <;> first | rfl | omega)) rfl dX3_startGame_14 (fun H locs hW => ?_)
    refine lv_iinc (v := nI (k + 1)) (lv' := [(1, .int (nI (k + 1))), (0, .ref q0)]) hx hb dX3_startGame_15 hl (k := 1) rfl (nI_add _ _) (by decide) rfl (fun ls hl => ?_)
    refine lv_goto (tgt := 2) hx hb dX3_startGame_18 (by decide) ?_
    exact ih (12 - (k + 1)) _ _ _ (by omega) ⟨k + 1, by omega, rfl, hW, lv_sub hl [1, 0] rfl⟩
set_option maxHeartbeats 4000000 in
set_option maxRecDepth 100000 in
theorem c_fill (l : Launch) (D : va_G) (T : Nat → ClassId) (q0 q1 q2 q3 : Nat) (pl ov mv x : Int32) (sd vs so : Nat → Int32) : KV (S := Unit) l D T yX3_fill cX3_fill 3 1 [.ref q0, .int x] [(q0, .inr (3, [.ref q1, .ref q2, .ref q3, .int pl, .int ov, .int mv])), (q1, .inl (T 0, 12, .inl sd)), (q2, .inl (T 0, 12, .inl vs)), (q3, .inl (T 0, 2, .inl so))] (fun _ => True) (fun u => [(q0, .inr (3, [.ref q1, .ref q2, .ref q3, .int 0, .int 0, .int 0])), (q1, .inl (T 0, 12, .inl (fun _ => x))), (q2, .inl (T 0, 12, .inl (fun _ => 0))), (q3, .inl (T 0, 2, .inl (fun _ => 0)))]) := by
  refine KV.of (by decide +kernel) (Nat.le_of_ble_eq_true rfl) (fun p e s m below meth c A F hr hlk hW ls hl => ?_)
  have hx := F.1
  have hb := F.2.1
  have hl : lv_has ls 3 [(0, .ref q0), (1, .int x)] := hl
  refine lv_aload_n hx hb dX3_fill_0 rfl (lv_at hl 0 rfl) ?_
  refine cVV (As := []) (rest := []) (wr := [(q1, .inl (T 0, 12, .inl sd)), (q3, .inl (T 0, 2, .inl so))]) F hW hl cs207 (c_startGame l D T q0 q1 q2 q3 pl ov mv vs) [0, 2] [1, 3] rfl rfl rfl rfl (by decide) 0 3 rfl rfl rfl rfl rfl (Nat.le_of_ble_eq_true rfl) ⟨Nat.le_of_ble_eq_true rfl, Nat.le_of_ble_eq_true rfl⟩ ⟨Nat.zero_le _, Nat.zero_le _⟩ dX3_fill_1 (fun u1 H locs hr1 hW => ?_)
  have hW := Wd.ord hW (ws' := [(q0, .inr (3, [.ref q1, .ref q2, .ref q3, .int pl, .int 0, .int 0])), (q1, .inl (T 0, 12, .inl sd)), (q2, .inl (T 0, 12, .inl (fun _ => 0))), (q3, .inl (T 0, 2, .inl so))]) [2, 0, 3, 1] rfl rfl
  refine lv_iconst (v := nI 0) hx hb dX3_fill_4 (by decide) ?_
  refine lv_istore_n (lv' := [(2, .int (nI 0)), (0, .ref q0), (1, .int x)]) hx hb dX3_fill_5 rfl hl (by decide) rfl (fun ls hl => ?_)
  have hW := Wd.arr hW 1 (fun j => if j < 0 then x else sd j) rfl (fun j hj => by rw [if_neg (Nat.not_lt_zero j)]) (ws' := [(q0, .inr (3, [.ref q1, .ref q2, .ref q3, .int pl, .int 0, .int 0])), (q1, .inl (T 0, 12, .inl (fun j => if j < 0 then x else sd j))), (q2, .inl (T 0, 12, .inl (fun _ => 0))), (q3, .inl (T 0, 2, .inl so))]) rfl
  refine W.loop (fun n H2 locs2 ls2 => ∃ k, k ≤ 12 ∧ n = 12 - k ∧ Wd D T A s [(q0, .inr (3, [.ref q1, .ref q2, .ref q3, .int pl, .int 0, .int 0])), (q1, .inl (T 0, 12, .inl (fun j => if j < k then x else sd j))), (q2, .inl (T 0, 12, .inl (fun _ => 0))), (q3, .inl (T 0, 2, .inl so))] H2 locs2 ∧ lv_has ls2 3 [(0, .ref q0), (1, .int x), (2, .int (nI k))]) ?_ 12 ⟨0, by omega, rfl, hW, lv_sub hl [1, 2, 0] rfl⟩
  rintro n H locs ls ⟨k, hk, rfl, hW, hl⟩ ih
  refine lv_iload_n hx hb dX3_fill_6 rfl (lv_at hl 2 rfl) ?_
  refine lv_bipush (v := nI 12) hx hb dX3_fill_7 (by decide) ?_
  refine lv_icmp_ge (tgt := 25) hx hb dX3_fill_9 (by decide) (fun h9 => ?_) (fun h9 => ?_)
  · have h6 : k = 12 := by have := n_le h9 (by omega) (by omega); omega
    subst h6
    refine lv_aload_n hx hb dX3_fill_25 rfl (lv_at hl 0 rfl) ?_
    refine gf58 F hW 0 rfl rfl dX3_fill_26 ?_
    refine lv_iconst (v := nI 0) hx hb dX3_fill_29 (by decide) ?_
    refine lv_iconst (v := 0) hx hb dX3_fill_30 (by decide) ?_
    refine ast (ws' := [(q0, .inr (3, [.ref q1, .ref q2, .ref q3, .int pl, .int 0, .int 0])), (q1, .inl (T 0, 12, .inl (fun j => if j < 12 then x else sd j))), (q2, .inl (T 0, 12, .inl (fun _ => 0))), (q3, .inl (T 0, 2, .inl (upd so 0 0)))]) F hW 3 (upd so 0 0) rfl 0 rfl (by omega) (by decide) (fun _ _ => rfl) rfl dX3_fill_31 (fun H locs hW => ?_)
    refine lv_aload_n hx hb dX3_fill_32 rfl (lv_at hl 0 rfl) ?_
    refine gf58 F hW 0 rfl rfl dX3_fill_33 ?_
    refine lv_iconst (v := nI 1) hx hb dX3_fill_36 (by decide) ?_
    refine lv_iconst (v := 0) hx hb dX3_fill_37 (by decide) ?_
    refine ast (ws' := [(q0, .inr (3, [.ref q1, .ref q2, .ref q3, .int pl, .int 0, .int 0])), (q1, .inl (T 0, 12, .inl (fun j => if j < 12 then x else sd j))), (q2, .inl (T 0, 12, .inl (fun _ => 0))), (q3, .inl (T 0, 2, .inl (upd (upd so 0 0) 1 0)))]) F hW 3 (upd (upd so 0 0) 1 0) rfl 1 rfl (by omega) (by decide) (fun _ _ => rfl) rfl dX3_fill_38 (fun H locs hW => ?_)
    refine lv_aload_n hx hb dX3_fill_39 rfl (lv_at hl 0 rfl) ?_
    refine lv_iconst (v := 0) hx hb dX3_fill_40 (by decide) ?_
    refine pf60 (ws' := [(q0, .inr (3, [.ref q1, .ref q2, .ref q3, .int 0, .int 0, .int 0])), (q1, .inl (T 0, 12, .inl (fun j => if j < 12 then x else sd j))), (q2, .inl (T 0, 12, .inl (fun _ => 0))), (q3, .inl (T 0, 2, .inl (upd (upd so 0 0) 1 0)))]) F hW 0 rfl rfl rfl dX3_fill_41 (fun H locs hW => ?_)
    have hW := Wd.arr hW 1 (fun _ => x) rfl (fun j hj => if_pos hj) (ws' := [(q0, .inr (3, [.ref q1, .ref q2, .ref q3, .int 0, .int 0, .int 0])), (q1, .inl (T 0, 12, .inl (fun _ => x))), (q2, .inl (T 0, 12, .inl (fun _ => 0))), (q3, .inl (T 0, 2, .inl (upd (upd so 0 0) 1 0)))]) rfl
    have hW := Wd.arr hW 3 (fun _ => 0) rfl (fun j hj => by rcases (show j = 0 ∨ j = 1 by omega) with rfl | rfl <;> rfl) (ws' := [(q0, .inr (3, [.ref q1, .ref q2, .ref q3, .int 0, .int 0, .int 0])), (q1, .inl (T 0, 12, .inl (fun _ => x))), (q2, .inl (T 0, 12, .inl (fun _ => 0))), (q3, .inl (T 0, 2, .inl (fun _ => 0)))]) rfl
    exact retV F hr hlk hW () trivial rfl dX3_fill_44
  · have h6 : k < 12 := by have := n_nle h9 (by omega) (by omega); omega
    refine lv_aload_n hx hb dX3_fill_12 rfl (lv_at hl 0 rfl) ?_
    refine gf54 F hW 0 rfl rfl dX3_fill_13 ?_
    refine lv_iload_n hx hb dX3_fill_16 rfl (lv_at hl 2 rfl) ?_
    refine lv_iload_n hx hb dX3_fill_17 rfl (lv_at hl 1 rfl) ?_
    refine ast (ws' := [(q0, .inr (3, [.ref q1, .ref q2, .ref q3, .int pl, .int 0, .int 0])), (q1, .inl (T 0, 12, .inl (fun j => if j < k + 1 then x else sd j))), (q2, .inl (T 0, 12, .inl (fun _ => 0))), (q3, .inl (T 0, 2, .inl so))]) F hW 1 (fun j => if j < k + 1 then x else sd j) rfl k rfl (by omega) (by decide) (fun j hj => by by_cases q : j = k <;> simp [upd, q] <;> (split <;> split <;> first | rfl | omega)) rfl dX3_fill_18 (fun H locs hW => ?_)
    refine lv_iinc (v := nI (k + 1)) (lv' := [(2, .int (nI (k + 1))), (0, .ref q0), (1, .int x)]) hx hb dX3_fill_19 hl (k := 2) rfl (nI_add _ _) (by decide) rfl (fun ls hl => ?_)
    refine lv_goto (tgt := 6) hx hb dX3_fill_22 (by decide) ?_
    exact ih (12 - (k + 1)) _ _ _ (by omega) ⟨k + 1, by omega, rfl, hW, lv_sub hl [1, 2, 0] rfl⟩
set_option maxHeartbeats 4000000 in
set_option maxRecDepth 100000 in
theorem c_fillFrom (l : Launch) (D : va_G) (T : Nat → ClassId) (q0 q1 q2 q3 q4 : Nat) (pl ov mv : Int32) (sd vs so nf P : Nat → Int32) (hs : ∀ j, j < 12 → nf j = P j) (h12 : nf 12 = P 24) (h13 : nf 13 = P 25) (h27 : P 27 = 0) (h28 : P 28 = 0) {t : Nat} (ht : t < 2) (h14 : nf 14 = nI t) : KV (S := Unit) l D T yX3_fillFrom cX3_fillFrom 3 3 [.ref q0, .ref q4] [(q0, .inr (3, [.ref q1, .ref q2, .ref q3, .int pl, .int ov, .int mv])), (q1, .inl (T 0, 12, .inl sd)), (q2, .inl (T 0, 12, .inl vs)), (q3, .inl (T 0, 2, .inl so)), (q4, .inl (T 0, 15, .inl nf))] (fun _ => True) (fun u => [(q0, .inr (3, [.ref q1, .ref q2, .ref q3, .int ((gtM P t) 26), .int ((gtM P t) 27), .int 0])), (q1, .inl (T 0, 12, .inl (fun j => (gtM P t) j))), (q2, .inl (T 0, 12, .inl (fun _ => 0))), (q3, .inl (T 0, 2, .inl (fun j => (gtM P t) (24 + j)))), (q4, .inl (T 0, 15, .inl nf))]) := by
  refine KV.of (by decide +kernel) (Nat.le_of_ble_eq_true rfl) (fun p e s m below meth c A F hr hlk hW ls hl => ?_)
  have hx := F.1
  have hb := F.2.1
  have hl : lv_has ls 3 [(0, .ref q0), (1, .ref q4)] := hl
  refine lv_aload_n hx hb dX3_fillFrom_0 rfl (lv_at hl 0 rfl) ?_
  refine cVV (As := []) (rest := []) (wr := [(q1, .inl (T 0, 12, .inl sd)), (q3, .inl (T 0, 2, .inl so)), (q4, .inl (T 0, 15, .inl nf))]) F hW hl cs207 (c_startGame l D T q0 q1 q2 q3 pl ov mv vs) [0, 2] [1, 3, 4] rfl rfl rfl rfl (by decide) 0 3 rfl rfl rfl rfl rfl (Nat.le_of_ble_eq_true rfl) ⟨Nat.le_of_ble_eq_true rfl, Nat.le_of_ble_eq_true rfl⟩ ⟨Nat.zero_le _, Nat.zero_le _⟩ dX3_fillFrom_1 (fun u1 H locs hr1 hW => ?_)
  have hW := Wd.ord hW (ws' := [(q0, .inr (3, [.ref q1, .ref q2, .ref q3, .int pl, .int 0, .int 0])), (q1, .inl (T 0, 12, .inl sd)), (q2, .inl (T 0, 12, .inl (fun _ => 0))), (q3, .inl (T 0, 2, .inl so)), (q4, .inl (T 0, 15, .inl nf))]) [3, 0, 4, 1, 2] rfl rfl
  refine lv_iconst (v := nI 0) hx hb dX3_fillFrom_4 (by decide) ?_
  refine lv_istore_n (lv' := [(2, .int (nI 0)), (0, .ref q0), (1, .ref q4)]) hx hb dX3_fillFrom_5 rfl hl (by decide) rfl (fun ls hl => ?_)
  have hW := Wd.arr hW 1 (fun j => if j < 0 then nf j else sd j) rfl (fun j hj => by rw [if_neg (Nat.not_lt_zero j)]) (ws' := [(q0, .inr (3, [.ref q1, .ref q2, .ref q3, .int pl, .int 0, .int 0])), (q1, .inl (T 0, 12, .inl (fun j => if j < 0 then nf j else sd j))), (q2, .inl (T 0, 12, .inl (fun _ => 0))), (q3, .inl (T 0, 2, .inl so)), (q4, .inl (T 0, 15, .inl nf))]) rfl
  refine W.loop (fun n H2 locs2 ls2 => ∃ k, k ≤ 12 ∧ n = 12 - k ∧ Wd D T A s [(q0, .inr (3, [.ref q1, .ref q2, .ref q3, .int pl, .int 0, .int 0])), (q1, .inl (T 0, 12, .inl (fun j => if j < k then nf j else sd j))), (q2, .inl (T 0, 12, .inl (fun _ => 0))), (q3, .inl (T 0, 2, .inl so)), (q4, .inl (T 0, 15, .inl nf))] H2 locs2 ∧ lv_has ls2 3 [(0, .ref q0), (1, .ref q4), (2, .int (nI k))]) ?_ 12 ⟨0, by omega, rfl, hW, lv_sub hl [1, 2, 0] rfl⟩
  rintro n H locs ls ⟨k, hk, rfl, hW, hl⟩ ih
  refine lv_iload_n hx hb dX3_fillFrom_6 rfl (lv_at hl 2 rfl) ?_
  refine lv_bipush (v := nI 12) hx hb dX3_fillFrom_7 (by decide) ?_
  refine lv_icmp_ge (tgt := 27) hx hb dX3_fillFrom_9 (by decide) (fun h9 => ?_) (fun h9 => ?_)
  · have h6 : k = 12 := by have := n_le h9 (by omega) (by omega); omega
    subst h6
    refine lv_aload_n hx hb dX3_fillFrom_27 rfl (lv_at hl 0 rfl) ?_
    refine gf58 F hW 0 rfl rfl dX3_fillFrom_28 ?_
    refine lv_iconst (v := nI 0) hx hb dX3_fillFrom_31 (by decide) ?_
    refine lv_aload_n hx hb dX3_fillFrom_32 rfl (lv_at hl 1 rfl) ?_
    refine lv_bipush (v := nI 12) hx hb dX3_fillFrom_33 (by decide) ?_
    refine ald F hW 4 rfl (x := nf 12) 12 rfl (by omega) (by decide) rfl dX3_fillFrom_35 ?_
    refine ast (ws' := [(q0, .inr (3, [.ref q1, .ref q2, .ref q3, .int pl, .int 0, .int 0])), (q1, .inl (T 0, 12, .inl (fun j => if j < 12 then nf j else sd j))), (q2, .inl (T 0, 12, .inl (fun _ => 0))), (q3, .inl (T 0, 2, .inl (upd so 0 (nf 12)))), (q4, .inl (T 0, 15, .inl nf))]) F hW 3 (upd so 0 (nf 12)) rfl 0 rfl (by omega) (by decide) (fun _ _ => rfl) rfl dX3_fillFrom_36 (fun H locs hW => ?_)
    refine lv_aload_n hx hb dX3_fillFrom_37 rfl (lv_at hl 0 rfl) ?_
    refine gf58 F hW 0 rfl rfl dX3_fillFrom_38 ?_
    refine lv_iconst (v := nI 1) hx hb dX3_fillFrom_41 (by decide) ?_
    refine lv_aload_n hx hb dX3_fillFrom_42 rfl (lv_at hl 1 rfl) ?_
    refine lv_bipush (v := nI 13) hx hb dX3_fillFrom_43 (by decide) ?_
    refine ald F hW 4 rfl (x := nf 13) 13 rfl (by omega) (by decide) rfl dX3_fillFrom_45 ?_
    refine ast (ws' := [(q0, .inr (3, [.ref q1, .ref q2, .ref q3, .int pl, .int 0, .int 0])), (q1, .inl (T 0, 12, .inl (fun j => if j < 12 then nf j else sd j))), (q2, .inl (T 0, 12, .inl (fun _ => 0))), (q3, .inl (T 0, 2, .inl (upd (upd so 0 (nf 12)) 1 (nf 13)))), (q4, .inl (T 0, 15, .inl nf))]) F hW 3 (upd (upd so 0 (nf 12)) 1 (nf 13)) rfl 1 rfl (by omega) (by decide) (fun _ _ => rfl) rfl dX3_fillFrom_46 (fun H locs hW => ?_)
    refine lv_aload_n hx hb dX3_fillFrom_47 rfl (lv_at hl 0 rfl) ?_
    refine lv_aload_n hx hb dX3_fillFrom_48 rfl (lv_at hl 1 rfl) ?_
    refine lv_bipush (v := nI 14) hx hb dX3_fillFrom_49 (by decide) ?_
    refine ald F hW 4 rfl (x := nf 14) 14 rfl (by omega) (by decide) rfl dX3_fillFrom_51 ?_
    have hW := Wd.arr hW 1 (fun j => nf j) rfl (fun j hj => if_pos hj) (ws' := [(q0, .inr (3, [.ref q1, .ref q2, .ref q3, .int pl, .int 0, .int 0])), (q1, .inl (T 0, 12, .inl (fun j => nf j))), (q2, .inl (T 0, 12, .inl (fun _ => 0))), (q3, .inl (T 0, 2, .inl (upd (upd so 0 (nf 12)) 1 (nf 13)))), (q4, .inl (T 0, 15, .inl nf))]) rfl
    have hW := Wd.arr hW 3 (fun j => P (24 + j)) rfl (fun j hj => by rcases (show j = 0 ∨ j = 1 by omega) with rfl | rfl; exact h12; exact h13) (ws' := [(q0, .inr (3, [.ref q1, .ref q2, .ref q3, .int pl, .int 0, .int 0])), (q1, .inl (T 0, 12, .inl (fun j => nf j))), (q2, .inl (T 0, 12, .inl (fun _ => 0))), (q3, .inl (T 0, 2, .inl (fun j => P (24 + j)))), (q4, .inl (T 0, 15, .inl nf))]) rfl
    refine W.fork (X := Unit) 60 (fun _ => [.int (nI t), .ref q0]) (fun _ H2 locs2 ls2 => H2 = H ∧ locs2 = locs ∧ lv_has ls2 3 [(0, .ref q0), (1, .ref q4), (2, .int (nI 12))]) (fun hJ => ?_) ?_
    · refine lv_if_ne (tgt := 59) hx hb dX3_fillFrom_52 (by decide) (fun h52 => ?_) (fun h52 => ?_)
      · refine lv_iconst (v := nI 1) hx hb dX3_fillFrom_59 (by decide) ?_
        have e1 : t = 1 := by have : t ≠ 0 := fun q => h52 (by rw [h14, q]; rfl); omega
        rw [show nI 1 = nI t by rw [e1]]
        exact hJ () _ _ _ ⟨rfl, rfl, hl⟩
      · refine lv_iconst (v := nI 0) hx hb dX3_fillFrom_55 (by decide) ?_
        refine lv_goto (tgt := 60) hx hb dX3_fillFrom_56 (by decide) ?_
        have e1 : t = 0 := n_eq (b := 0) (h14.symm.trans h52) (by omega) (by decide)
        rw [show nI 0 = nI t by rw [e1]]
        exact hJ () _ _ _ ⟨rfl, rfl, hl⟩
    · rintro - H2 locs2 ls ⟨rfl, rfl, hl⟩
      refine cVV (As := [.int (nI t)]) (rest := []) (wr := [(q2, .inl (T 0, 12, .inl (fun _ => 0))), (q4, .inl (T 0, 15, .inl nf))]) F hW hl cs311 (c_giveTurnTo l D T q0 q1 q2 q3 pl 0 0 (fun j => nf j) (fun j => P (24 + j)) P (fun j hj => hs j hj) (fun _ _ => rfl) h27.symm h28.symm (t := t) (by omega)) [0, 1, 3] [2, 4] rfl rfl rfl rfl (by decide) 0 3 rfl rfl rfl rfl rfl (Nat.le_of_ble_eq_true rfl) ⟨Nat.le_of_ble_eq_true rfl, Nat.le_of_ble_eq_true rfl⟩ ⟨Nat.zero_le _, Nat.zero_le _⟩ dX3_fillFrom_60 (fun u60 H locs hr60 hW => ?_)
      have hW := Wd.ord hW (ws' := [(q0, .inr (3, [.ref q1, .ref q2, .ref q3, .int ((gtM P t) 26), .int ((gtM P t) 27), .int 0])), (q1, .inl (T 0, 12, .inl (fun j => (gtM P t) j))), (q2, .inl (T 0, 12, .inl (fun _ => 0))), (q3, .inl (T 0, 2, .inl (fun j => (gtM P t) (24 + j)))), (q4, .inl (T 0, 15, .inl nf))]) [2, 3, 0, 4, 1] rfl rfl
      exact retV F hr hlk hW () trivial rfl dX3_fillFrom_63
  · have h6 : k < 12 := by have := n_nle h9 (by omega) (by omega); omega
    refine lv_aload_n hx hb dX3_fillFrom_12 rfl (lv_at hl 0 rfl) ?_
    refine gf54 F hW 0 rfl rfl dX3_fillFrom_13 ?_
    refine lv_iload_n hx hb dX3_fillFrom_16 rfl (lv_at hl 2 rfl) ?_
    refine lv_aload_n hx hb dX3_fillFrom_17 rfl (lv_at hl 1 rfl) ?_
    refine lv_iload_n hx hb dX3_fillFrom_18 rfl (lv_at hl 2 rfl) ?_
    refine ald F hW 4 rfl (x := nf k) k rfl (by omega) (by decide) rfl dX3_fillFrom_19 ?_
    refine ast (ws' := [(q0, .inr (3, [.ref q1, .ref q2, .ref q3, .int pl, .int 0, .int 0])), (q1, .inl (T 0, 12, .inl (fun j => if j < k + 1 then nf j else sd j))), (q2, .inl (T 0, 12, .inl (fun _ => 0))), (q3, .inl (T 0, 2, .inl so)), (q4, .inl (T 0, 15, .inl nf))]) F hW 1 (fun j => if j < k + 1 then nf j else sd j) rfl k rfl (by omega) (by decide) (fun j hj => by by_cases q : j = k <;> simp [upd, q] <;> (split <;> split <;> first | rfl | omega)) rfl dX3_fillFrom_20 (fun H locs hW => ?_)
    refine lv_iinc (v := nI (k + 1)) (lv' := [(2, .int (nI (k + 1))), (0, .ref q0), (1, .ref q4)]) hx hb dX3_fillFrom_21 hl (k := 2) rfl (nI_add _ _) (by decide) rfl (fun ls hl => ?_)
    refine lv_goto (tgt := 6) hx hb dX3_fillFrom_24 (by decide) ?_
    exact ih (12 - (k + 1)) _ _ _ (by omega) ⟨k + 1, by omega, rfl, hW, lv_sub hl [1, 2, 0] rfl⟩
set_option maxHeartbeats 4000000 in
set_option maxRecDepth 100000 in
theorem c_posCopy (l : Launch) (D : va_G) (T : Nat → ClassId) (q0 q1 q2 q3 r0 r1 r2 r3 : Nat) (pl ov mv pl2 ov2 mv2 : Int32) (sd vs so sd2 vs2 so2 : Nat → Int32) (hbo : ov2 = 0 ∨ ov2 = 1) : KV (S := Unit) l D T yX3_copyFrom cX3_copyFrom 2 1 [.ref q0, .ref r0] [(q0, .inr (3, [.ref q1, .ref q2, .ref q3, .int pl, .int ov, .int mv])), (q1, .inl (T 0, 12, .inl sd)), (q2, .inl (T 0, 12, .inl vs)), (q3, .inl (T 0, 2, .inl so)), (r0, .inr (3, [.ref r1, .ref r2, .ref r3, .int pl2, .int ov2, .int mv2])), (r1, .inl (T 0, 12, .inl sd2)), (r2, .inl (T 0, 12, .inl vs2)), (r3, .inl (T 0, 2, .inl so2))] (fun _ => True) (fun u => [(q0, .inr (3, [.ref q1, .ref q2, .ref q3, .int pl2, .int ov2, .int mv2])), (q1, .inl (T 0, 12, .inl sd2)), (q2, .inl (T 0, 12, .inl vs2)), (q3, .inl (T 0, 2, .inl so2)), (r0, .inr (3, [.ref r1, .ref r2, .ref r3, .int pl2, .int ov2, .int mv2])), (r1, .inl (T 0, 12, .inl sd2)), (r2, .inl (T 0, 12, .inl vs2)), (r3, .inl (T 0, 2, .inl so2))]) := by
  refine KV.of (by decide +kernel) (Nat.le_of_ble_eq_true rfl) (fun p e s m below meth c A F hr hlk hW ls hl => ?_)
  have hx := F.1
  have hb := F.2.1
  have hl : lv_has ls 2 [(0, .ref q0), (1, .ref r0)] := hl
  have hz := z_bool hbo
  refine lv_aload_n hx hb dX3_copyFrom_0 rfl (lv_at hl 1 rfl) ?_
  refine gf54 F hW 4 rfl rfl dX3_copyFrom_1 ?_
  refine lv_iconst (v := nI 0) hx hb dX3_copyFrom_4 (by decide) ?_
  refine lv_aload_n hx hb dX3_copyFrom_5 rfl (lv_at hl 0 rfl) ?_
  refine gf54 F hW 0 rfl rfl dX3_copyFrom_6 ?_
  refine lv_iconst (v := nI 0) hx hb dX3_copyFrom_9 (by decide) ?_
  refine lv_bipush (v := nI 12) hx hb dX3_copyFrom_10 (by decide) ?_
  refine acopy (ws' := [(q0, .inr (3, [.ref q1, .ref q2, .ref q3, .int pl, .int ov, .int mv])), (q1, .inl (T 0, 12, .inl sd2)), (q2, .inl (T 0, 12, .inl vs)), (q3, .inl (T 0, 2, .inl so)), (r0, .inr (3, [.ref r1, .ref r2, .ref r3, .int pl2, .int ov2, .int mv2])), (r1, .inl (T 0, 12, .inl sd2)), (r2, .inl (T 0, 12, .inl vs2)), (r3, .inl (T 0, 2, .inl so2))]) F hW hl 5 1 rfl rfl m250 12 (by decide) (by decide) (by decide) sd2 (fun j hj => by rw [va_cpy, if_pos ⟨Nat.zero_le j, by omega⟩, Nat.sub_zero, Nat.zero_add]) rfl (Nat.le_of_ble_eq_true rfl) (Nat.le_of_ble_eq_true rfl) dX3_copyFrom_12 (fun H locs hW => ?_)
  refine lv_aload_n hx hb dX3_copyFrom_15 rfl (lv_at hl 1 rfl) ?_
  refine gf56 F hW 4 rfl rfl dX3_copyFrom_16 ?_
  refine lv_iconst (v := nI 0) hx hb dX3_copyFrom_19 (by decide) ?_
  refine lv_aload_n hx hb dX3_copyFrom_20 rfl (lv_at hl 0 rfl) ?_
  refine gf56 F hW 0 rfl rfl dX3_copyFrom_21 ?_
  refine lv_iconst (v := nI 0) hx hb dX3_copyFrom_24 (by decide) ?_
  refine lv_bipush (v := nI 12) hx hb dX3_copyFrom_25 (by decide) ?_
  refine acopy (ws' := [(q0, .inr (3, [.ref q1, .ref q2, .ref q3, .int pl, .int ov, .int mv])), (q1, .inl (T 0, 12, .inl sd2)), (q2, .inl (T 0, 12, .inl vs2)), (q3, .inl (T 0, 2, .inl so)), (r0, .inr (3, [.ref r1, .ref r2, .ref r3, .int pl2, .int ov2, .int mv2])), (r1, .inl (T 0, 12, .inl sd2)), (r2, .inl (T 0, 12, .inl vs2)), (r3, .inl (T 0, 2, .inl so2))]) F hW hl 6 2 rfl rfl m250 12 (by decide) (by decide) (by decide) vs2 (fun j hj => by rw [va_cpy, if_pos ⟨Nat.zero_le j, by omega⟩, Nat.sub_zero, Nat.zero_add]) rfl (Nat.le_of_ble_eq_true rfl) (Nat.le_of_ble_eq_true rfl) dX3_copyFrom_27 (fun H locs hW => ?_)
  refine lv_aload_n hx hb dX3_copyFrom_30 rfl (lv_at hl 0 rfl) ?_
  refine gf58 F hW 0 rfl rfl dX3_copyFrom_31 ?_
  refine lv_iconst (v := nI 0) hx hb dX3_copyFrom_34 (by decide) ?_
  refine lv_aload_n hx hb dX3_copyFrom_35 rfl (lv_at hl 1 rfl) ?_
  refine gf58 F hW 4 rfl rfl dX3_copyFrom_36 ?_
  refine lv_iconst (v := nI 0) hx hb dX3_copyFrom_39 (by decide) ?_
  refine ald F hW 7 rfl (x := so2 0) 0 rfl (by omega) (by decide) rfl dX3_copyFrom_40 ?_
  refine ast (ws' := [(q0, .inr (3, [.ref q1, .ref q2, .ref q3, .int pl, .int ov, .int mv])), (q1, .inl (T 0, 12, .inl sd2)), (q2, .inl (T 0, 12, .inl vs2)), (q3, .inl (T 0, 2, .inl (upd so 0 (so2 0)))), (r0, .inr (3, [.ref r1, .ref r2, .ref r3, .int pl2, .int ov2, .int mv2])), (r1, .inl (T 0, 12, .inl sd2)), (r2, .inl (T 0, 12, .inl vs2)), (r3, .inl (T 0, 2, .inl so2))]) F hW 3 (upd so 0 (so2 0)) rfl 0 rfl (by omega) (by decide) (fun _ _ => rfl) rfl dX3_copyFrom_41 (fun H locs hW => ?_)
  refine lv_aload_n hx hb dX3_copyFrom_42 rfl (lv_at hl 0 rfl) ?_
  refine gf58 F hW 0 rfl rfl dX3_copyFrom_43 ?_
  refine lv_iconst (v := nI 1) hx hb dX3_copyFrom_46 (by decide) ?_
  refine lv_aload_n hx hb dX3_copyFrom_47 rfl (lv_at hl 1 rfl) ?_
  refine gf58 F hW 4 rfl rfl dX3_copyFrom_48 ?_
  refine lv_iconst (v := nI 1) hx hb dX3_copyFrom_51 (by decide) ?_
  refine ald F hW 7 rfl (x := so2 1) 1 rfl (by omega) (by decide) rfl dX3_copyFrom_52 ?_
  refine ast (ws' := [(q0, .inr (3, [.ref q1, .ref q2, .ref q3, .int pl, .int ov, .int mv])), (q1, .inl (T 0, 12, .inl sd2)), (q2, .inl (T 0, 12, .inl vs2)), (q3, .inl (T 0, 2, .inl (upd (upd so 0 (so2 0)) 1 (so2 1)))), (r0, .inr (3, [.ref r1, .ref r2, .ref r3, .int pl2, .int ov2, .int mv2])), (r1, .inl (T 0, 12, .inl sd2)), (r2, .inl (T 0, 12, .inl vs2)), (r3, .inl (T 0, 2, .inl so2))]) F hW 3 (upd (upd so 0 (so2 0)) 1 (so2 1)) rfl 1 rfl (by omega) (by decide) (fun _ _ => rfl) rfl dX3_copyFrom_53 (fun H locs hW => ?_)
  refine lv_aload_n hx hb dX3_copyFrom_54 rfl (lv_at hl 0 rfl) ?_
  refine lv_aload_n hx hb dX3_copyFrom_55 rfl (lv_at hl 1 rfl) ?_
  refine gf60 F hW 4 rfl rfl dX3_copyFrom_56 ?_
  refine pf60 (ws' := [(q0, .inr (3, [.ref q1, .ref q2, .ref q3, .int pl2, .int ov, .int mv])), (q1, .inl (T 0, 12, .inl sd2)), (q2, .inl (T 0, 12, .inl vs2)), (q3, .inl (T 0, 2, .inl (upd (upd so 0 (so2 0)) 1 (so2 1)))), (r0, .inr (3, [.ref r1, .ref r2, .ref r3, .int pl2, .int ov2, .int mv2])), (r1, .inl (T 0, 12, .inl sd2)), (r2, .inl (T 0, 12, .inl vs2)), (r3, .inl (T 0, 2, .inl so2))]) F hW 0 rfl rfl rfl dX3_copyFrom_59 (fun H locs hW => ?_)
  refine lv_aload_n hx hb dX3_copyFrom_62 rfl (lv_at hl 0 rfl) ?_
  refine lv_aload_n hx hb dX3_copyFrom_63 rfl (lv_at hl 1 rfl) ?_
  refine gf64 F hW 4 rfl rfl dX3_copyFrom_64 ?_
  refine pf64 (ws' := [(q0, .inr (3, [.ref q1, .ref q2, .ref q3, .int pl2, .int ov2, .int mv])), (q1, .inl (T 0, 12, .inl sd2)), (q2, .inl (T 0, 12, .inl vs2)), (q3, .inl (T 0, 2, .inl (upd (upd so 0 (so2 0)) 1 (so2 1)))), (r0, .inr (3, [.ref r1, .ref r2, .ref r3, .int pl2, .int ov2, .int mv2])), (r1, .inl (T 0, 12, .inl sd2)), (r2, .inl (T 0, 12, .inl vs2)), (r3, .inl (T 0, 2, .inl so2))]) F hW 0 rfl hz.1 hz.2.1 rfl rfl dX3_copyFrom_67 (fun H locs hW => ?_)
  refine lv_aload_n hx hb dX3_copyFrom_70 rfl (lv_at hl 0 rfl) ?_
  refine lv_aload_n hx hb dX3_copyFrom_71 rfl (lv_at hl 1 rfl) ?_
  refine gf66 F hW 4 rfl rfl dX3_copyFrom_72 ?_
  refine pf66 (ws' := [(q0, .inr (3, [.ref q1, .ref q2, .ref q3, .int pl2, .int ov2, .int mv2])), (q1, .inl (T 0, 12, .inl sd2)), (q2, .inl (T 0, 12, .inl vs2)), (q3, .inl (T 0, 2, .inl (upd (upd so 0 (so2 0)) 1 (so2 1)))), (r0, .inr (3, [.ref r1, .ref r2, .ref r3, .int pl2, .int ov2, .int mv2])), (r1, .inl (T 0, 12, .inl sd2)), (r2, .inl (T 0, 12, .inl vs2)), (r3, .inl (T 0, 2, .inl so2))]) F hW 0 rfl rfl rfl dX3_copyFrom_75 (fun H locs hW => ?_)
  have hW := Wd.arr hW 3 so2 rfl (fun j hj => by rcases (show j = 0 ∨ j = 1 by omega) with rfl | rfl <;> rfl) (ws' := [(q0, .inr (3, [.ref q1, .ref q2, .ref q3, .int pl2, .int ov2, .int mv2])), (q1, .inl (T 0, 12, .inl sd2)), (q2, .inl (T 0, 12, .inl vs2)), (q3, .inl (T 0, 2, .inl so2)), (r0, .inr (3, [.ref r1, .ref r2, .ref r3, .int pl2, .int ov2, .int mv2])), (r1, .inl (T 0, 12, .inl sd2)), (r2, .inl (T 0, 12, .inl vs2)), (r3, .inl (T 0, 2, .inl so2))]) rfl
  exact retV F hr hlk hW () trivial rfl dX3_copyFrom_78
set_option maxHeartbeats 4000000 in
set_option maxRecDepth 100000 in
theorem c_stCopy (l : Launch) (D : va_G) (T : Nat → ClassId) (a b : Nat → Nat) (f g : Nat → Int32) (hbo : g 27 = 0 ∨ g 27 = 1) : KV (S := Unit) l D T yX5_copyFrom cX5_copyFrom 2 2 [.ref (a 0), .ref (b 0)] ((blk T a f) ++ ((blk T b g))) (fun _ => True) (fun u => ((blk T a g) ++ ((blk T b g)))) := by
  refine KV.of (by decide +kernel) (Nat.le_of_ble_eq_true rfl) (fun p e s m below meth c A F hr hlk hW ls hl => ?_)
  have hx := F.1
  have hb := F.2.1
  have hl : lv_has ls 2 [(0, .ref (a 0)), (1, .ref (b 0))] := hl
  refine lv_aload_n hx hb dX5_copyFrom_0 rfl (lv_at hl 0 rfl) ?_
  refine gf123 F hW 0 rfl rfl dX5_copyFrom_1 ?_
  refine lv_aload_n hx hb dX5_copyFrom_4 rfl (lv_at hl 1 rfl) ?_
  refine gf123 F hW 8 rfl rfl dX5_copyFrom_5 ?_
  refine cVV (As := [.ref (b 1)]) (rest := []) (wr := [(a 0, .inr (5, [.ref (a 1), .ref (a 5), .ref (a 6), .ref (a 7)])), (a 5, .inl (T 0, 4, .inl (fun j => f (34 + j)))), (a 6, .inr (4, [.int (f 29), .int (f 30), .int (f 31), .int (f 32), .int (f 33)])), (a 7, .inl (T 0, 300, .inl (fun j => f (40 + j)))), (b 0, .inr (5, [.ref (b 1), .ref (b 5), .ref (b 6), .ref (b 7)])), (b 5, .inl (T 0, 4, .inl (fun j => g (34 + j)))), (b 6, .inr (4, [.int (g 29), .int (g 30), .int (g 31), .int (g 32), .int (g 33)])), (b 7, .inl (T 0, 300, .inl (fun j => g (40 + j))))]) F hW hl cs246 (c_posCopy l D T (a 1) (a 2) (a 3) (a 4) (b 1) (b 2) (b 3) (b 4) (f 26) (f 27) (f 28) (g 26) (g 27) (g 28) (fun j => f j) (fun j => f (12 + j)) (fun j => f (24 + j)) (fun j => g j) (fun j => g (12 + j)) (fun j => g (24 + j)) hbo) [1, 2, 3, 4, 9, 10, 11, 12] [0, 5, 6, 7, 8, 13, 14, 15] rfl rfl rfl rfl (by decide) 0 3 rfl rfl rfl rfl rfl (Nat.le_of_ble_eq_true rfl) ⟨Nat.le_of_ble_eq_true rfl, Nat.le_of_ble_eq_true rfl⟩ ⟨Nat.zero_le _, Nat.zero_le _⟩ dX5_copyFrom_8 (fun u8 H locs hr8 hW => ?_)
  have hW := Wd.ord hW (ws' := ([(a 0, .inr (5, [.ref (a 1), .ref (a 5), .ref (a 6), .ref (a 7)])), (a 1, .inr (3, [.ref (a 2), .ref (a 3), .ref (a 4), .int (g 26), .int (g 27), .int (g 28)])), (a 2, .inl (T 0, 12, .inl (fun j => g j))), (a 3, .inl (T 0, 12, .inl (fun j => g (12 + j)))), (a 4, .inl (T 0, 2, .inl (fun j => g (24 + j)))), (a 5, .inl (T 0, 4, .inl (fun j => f (34 + j)))), (a 6, .inr (4, [.int (f 29), .int (f 30), .int (f 31), .int (f 32), .int (f 33)])), (a 7, .inl (T 0, 300, .inl (fun j => f (40 + j))))] ++ ((blk T b g)))) [0, 8, 9, 10, 11, 1, 2, 3, 4, 12, 13, 14, 15, 5, 6, 7] rfl rfl
  refine lv_aload_n hx hb dX5_copyFrom_11 rfl (lv_at hl 1 rfl) ?_
  refine gf125 F hW 8 rfl rfl dX5_copyFrom_12 ?_
  refine lv_iconst (v := nI 0) hx hb dX5_copyFrom_15 (by decide) ?_
  refine lv_aload_n hx hb dX5_copyFrom_16 rfl (lv_at hl 0 rfl) ?_
  refine gf125 F hW 0 rfl rfl dX5_copyFrom_17 ?_
  refine lv_iconst (v := nI 0) hx hb dX5_copyFrom_20 (by decide) ?_
  refine lv_iconst (v := nI 4) hx hb dX5_copyFrom_21 (by decide) ?_
  refine acopy (ws' := ([(a 0, .inr (5, [.ref (a 1), .ref (a 5), .ref (a 6), .ref (a 7)])), (a 1, .inr (3, [.ref (a 2), .ref (a 3), .ref (a 4), .int (g 26), .int (g 27), .int (g 28)])), (a 2, .inl (T 0, 12, .inl (fun j => g j))), (a 3, .inl (T 0, 12, .inl (fun j => g (12 + j)))), (a 4, .inl (T 0, 2, .inl (fun j => g (24 + j)))), (a 5, .inl (T 0, 4, .inl (fun j => g (34 + j)))), (a 6, .inr (4, [.int (f 29), .int (f 30), .int (f 31), .int (f 32), .int (f 33)])), (a 7, .inl (T 0, 300, .inl (fun j => f (40 + j))))] ++ ((blk T b g)))) F hW hl 13 5 rfl rfl m253 4 (by decide) (by decide) (by decide) (fun j => g (34 + j)) (fun j hj => by rw [va_cpy, if_pos ⟨Nat.zero_le j, by omega⟩, Nat.sub_zero, Nat.zero_add]) rfl (Nat.le_of_ble_eq_true rfl) (Nat.le_of_ble_eq_true rfl) dX5_copyFrom_22 (fun H locs hW => ?_)
  refine lv_aload_n hx hb dX5_copyFrom_25 rfl (lv_at hl 0 rfl) ?_
  refine gf127 F hW 0 rfl rfl dX5_copyFrom_26 ?_
  refine lv_aload_n hx hb dX5_copyFrom_29 rfl (lv_at hl 1 rfl) ?_
  refine gf127 F hW 8 rfl rfl dX5_copyFrom_30 ?_
  refine cVV (As := [.ref (b 6)]) (rest := []) (wr := [(a 0, .inr (5, [.ref (a 1), .ref (a 5), .ref (a 6), .ref (a 7)])), (a 1, .inr (3, [.ref (a 2), .ref (a 3), .ref (a 4), .int (g 26), .int (g 27), .int (g 28)])), (a 2, .inl (T 0, 12, .inl (fun j => g j))), (a 3, .inl (T 0, 12, .inl (fun j => g (12 + j)))), (a 4, .inl (T 0, 2, .inl (fun j => g (24 + j)))), (a 5, .inl (T 0, 4, .inl (fun j => g (34 + j)))), (a 7, .inl (T 0, 300, .inl (fun j => f (40 + j)))), (b 0, .inr (5, [.ref (b 1), .ref (b 5), .ref (b 6), .ref (b 7)])), (b 1, .inr (3, [.ref (b 2), .ref (b 3), .ref (b 4), .int (g 26), .int (g 27), .int (g 28)])), (b 2, .inl (T 0, 12, .inl (fun j => g j))), (b 3, .inl (T 0, 12, .inl (fun j => g (12 + j)))), (b 4, .inl (T 0, 2, .inl (fun j => g (24 + j)))), (b 5, .inl (T 0, 4, .inl (fun j => g (34 + j)))), (b 7, .inl (T 0, 300, .inl (fun j => g (40 + j))))]) F hW hl cs254 (c_repCopy l D T (a 6) (b 6) (f 29) (f 30) (f 31) (f 32) (f 33) (g 29) (g 30) (g 31) (g 32) (g 33)) [6, 14] [0, 1, 2, 3, 4, 5, 7, 8, 9, 10, 11, 12, 13, 15] rfl rfl rfl rfl (by decide) 0 4 rfl rfl rfl rfl rfl (Nat.le_of_ble_eq_true rfl) ⟨Nat.le_of_ble_eq_true rfl, Nat.le_of_ble_eq_true rfl⟩ ⟨Nat.zero_le _, Nat.zero_le _⟩ dX5_copyFrom_33 (fun u33 H locs hr33 hW => ?_)
  have hW := Wd.ord hW (ws' := [(a 0, .inr (5, [.ref (a 1), .ref (a 5), .ref (a 6), .ref (a 7)])), (a 1, .inr (3, [.ref (a 2), .ref (a 3), .ref (a 4), .int (g 26), .int (g 27), .int (g 28)])), (a 2, .inl (T 0, 12, .inl (fun j => g j))), (a 3, .inl (T 0, 12, .inl (fun j => g (12 + j)))), (a 4, .inl (T 0, 2, .inl (fun j => g (24 + j)))), (a 5, .inl (T 0, 4, .inl (fun j => g (34 + j)))), (a 6, .inr (4, [.int (g 29), .int (g 30), .int (g 31), .int (g 32), .int (g 33)])), (a 7, .inl (T 0, 300, .inl (fun j => f (40 + j)))), (b 0, .inr (5, [.ref (b 1), .ref (b 5), .ref (b 6), .ref (b 7)])), (b 1, .inr (3, [.ref (b 2), .ref (b 3), .ref (b 4), .int (g 26), .int (g 27), .int (g 28)])), (b 2, .inl (T 0, 12, .inl (fun j => g j))), (b 3, .inl (T 0, 12, .inl (fun j => g (12 + j)))), (b 4, .inl (T 0, 2, .inl (fun j => g (24 + j)))), (b 5, .inl (T 0, 4, .inl (fun j => g (34 + j)))), (b 6, .inr (4, [.int (g 29), .int (g 30), .int (g 31), .int (g 32), .int (g 33)])), (b 7, .inl (T 0, 300, .inl (fun j => g (40 + j))))]) [0, 1, 2, 3, 4, 5, 14, 6, 7, 8, 9, 10, 11, 12, 15, 13] rfl rfl
  refine lv_aload_n hx hb dX5_copyFrom_36 rfl (lv_at hl 1 rfl) ?_
  refine gf129 F hW 8 rfl rfl dX5_copyFrom_37 ?_
  refine lv_iconst (v := nI 0) hx hb dX5_copyFrom_40 (by decide) ?_
  refine lv_aload_n hx hb dX5_copyFrom_41 rfl (lv_at hl 0 rfl) ?_
  refine gf129 F hW 0 rfl rfl dX5_copyFrom_42 ?_
  refine lv_iconst (v := nI 0) hx hb dX5_copyFrom_45 (by decide) ?_
  refine lv_sipush (v := nI 300) hx hb dX5_copyFrom_46 (by decide) ?_
  refine acopy (ws' := [(a 0, .inr (5, [.ref (a 1), .ref (a 5), .ref (a 6), .ref (a 7)])), (a 1, .inr (3, [.ref (a 2), .ref (a 3), .ref (a 4), .int (g 26), .int (g 27), .int (g 28)])), (a 2, .inl (T 0, 12, .inl (fun j => g j))), (a 3, .inl (T 0, 12, .inl (fun j => g (12 + j)))), (a 4, .inl (T 0, 2, .inl (fun j => g (24 + j)))), (a 5, .inl (T 0, 4, .inl (fun j => g (34 + j)))), (a 6, .inr (4, [.int (g 29), .int (g 30), .int (g 31), .int (g 32), .int (g 33)])), (a 7, .inl (T 0, 300, .inl (fun j => g (40 + j)))), (b 0, .inr (5, [.ref (b 1), .ref (b 5), .ref (b 6), .ref (b 7)])), (b 1, .inr (3, [.ref (b 2), .ref (b 3), .ref (b 4), .int (g 26), .int (g 27), .int (g 28)])), (b 2, .inl (T 0, 12, .inl (fun j => g j))), (b 3, .inl (T 0, 12, .inl (fun j => g (12 + j)))), (b 4, .inl (T 0, 2, .inl (fun j => g (24 + j)))), (b 5, .inl (T 0, 4, .inl (fun j => g (34 + j)))), (b 6, .inr (4, [.int (g 29), .int (g 30), .int (g 31), .int (g 32), .int (g 33)])), (b 7, .inl (T 0, 300, .inl (fun j => g (40 + j))))]) F hW hl 15 7 rfl rfl m253 300 (by decide) (by decide) (by decide) (fun j => g (40 + j)) (fun j hj => by rw [va_cpy, if_pos ⟨Nat.zero_le j, by omega⟩, Nat.sub_zero, Nat.zero_add]) rfl (Nat.le_of_ble_eq_true rfl) (Nat.le_of_ble_eq_true rfl) dX5_copyFrom_49 (fun H locs hW => ?_)
  exact retV F hr hlk hW () trivial rfl dX5_copyFrom_52
/-- a State behind a move from fr -/
def mkS (f : Nat → Int32) (fr : Nat) : Nat → Int32 := fun j => if j < 34 then mvM f fr j else if j = 40 + (f 28).toNatClampNeg then nI fr else f j
theorem mkS_lo (f : Nat → Int32) (fr : Nat) {j : Nat} (h : j < 34) : mvM f fr j = mkS f fr j := (if_pos h).symm
set_option maxHeartbeats 4000000 in
set_option maxRecDepth 100000 in
theorem c_stMove (l : Launch) (D : va_G) (T : Nat → ClassId) (a : Nat → Nat) (f : Nat → Int32) {pl : Nat} (hpl : pl < 2) {fr : Nat} (hfr : fr < 12) {S : Int} (hJ : Jv S f 0) (h36 : 0 ≤ (f 36).toInt ∧ (f 36).toInt ≤ 20) (ht : 0 ≤ (f 37).toInt) (h0 : 1 ≤ (f fr).toInt) (h26 : f 26 = nI pl) (h27 : f 27 = 0) {mk : Nat} (h28 : f 28 = nI mk) (hmk : mk < 300) : KV (S := Unit) l D T yX5_makeMove cX5_makeMove 3 4 [.ref (a 0), .int (nI fr)] (blk T a f) (fun _ => True) (fun u => (blk T a (mkS f fr))) := by
  refine KV.of (by decide +kernel) (Nat.le_of_ble_eq_true rfl) (fun p e s m below meth c A F hr hlk hW ls hl => ?_)
  have hx := F.1
  have hb := F.2.1
  have hl : lv_has ls 3 [(0, .ref (a 0)), (1, .int (nI fr))] := hl
  have hW : Wd D T A s [(a 0, .inr (5, [.ref (a 1), .ref (a 5), .ref (a 6), .ref (a 7)])), (a 1, .inr (3, [.ref (a 2), .ref (a 3), .ref (a 4), .int (nI pl), .int (f 27), .int (f 28)])), (a 2, .inl (T 0, 12, .inl (fun j => f j))), (a 3, .inl (T 0, 12, .inl (fun j => f (12 + j)))), (a 4, .inl (T 0, 2, .inl (fun j => f (24 + j)))), (a 5, .inl (T 0, 4, .inl (fun j => f (34 + j)))), (a 6, .inr (4, [.int (f 29), .int (f 30), .int (f 31), .int (f 32), .int (f 33)])), (a 7, .inl (T 0, 300, .inl (fun j => f (40 + j))))] s.heap [] := by rw [← h26]; exact hW
  have em : (f 28).toNatClampNeg = mk := by rw [h28]; exact nI_clamp (by omega)
  refine lv_aload_n hx hb dX5_makeMove_0 rfl (lv_at hl 0 rfl) ?_
  refine gf123 F hW 0 rfl rfl dX5_makeMove_1 ?_
  refine gf67 F hW 1 rfl rfl dX5_makeMove_4 ?_
  refine lv_istore_n (lv' := [(2, .int (f 28)), (0, .ref (a 0)), (1, .int (nI fr))]) hx hb dX5_makeMove_7 rfl hl (by decide) rfl (fun ls hl => ?_)
  refine lv_iload_n hx hb dX5_makeMove_8 rfl (lv_at hl 0 rfl) ?_
  refine lv_sipush (v := nI 300) hx hb dX5_makeMove_9 (by decide) ?_
  refine lv_icmp_ge (tgt := 22) hx hb dX5_makeMove_12 (by decide) (fun h9 => absurd h9 (by rw [h28]; exact nI_ge hmk (by decide))) (fun _ => ?_)
  refine lv_aload_n hx hb dX5_makeMove_15 rfl (lv_at hl 1 rfl) ?_
  refine gf129 F hW 0 rfl rfl dX5_makeMove_16 ?_
  refine lv_iload_n hx hb dX5_makeMove_19 rfl (lv_at hl 0 rfl) ?_
  refine lv_iload_n hx hb dX5_makeMove_20 rfl (lv_at hl 2 rfl) ?_
  refine ast (ws' := [(a 0, .inr (5, [.ref (a 1), .ref (a 5), .ref (a 6), .ref (a 7)])), (a 1, .inr (3, [.ref (a 2), .ref (a 3), .ref (a 4), .int (nI pl), .int (f 27), .int (f 28)])), (a 2, .inl (T 0, 12, .inl (fun j => f j))), (a 3, .inl (T 0, 12, .inl (fun j => f (12 + j)))), (a 4, .inl (T 0, 2, .inl (fun j => f (24 + j)))), (a 5, .inl (T 0, 4, .inl (fun j => f (34 + j)))), (a 6, .inr (4, [.int (f 29), .int (f 30), .int (f 31), .int (f 32), .int (f 33)])), (a 7, .inl (T 0, 300, .inl (fun j => (mkS f fr) (40 + j))))]) F hW 7 (fun j => (mkS f fr) (40 + j)) rfl mk h28 hmk (by decide) (fun j hj => by unfold mkS; rw [if_neg (by omega), em]; by_cases q : j = mk; (rw [q, u_s, if_pos rfl]); (rw [u_n q, if_neg (by omega)])) rfl dX5_makeMove_21 (fun H locs hW => ?_)
  refine lv_aload_n hx hb dX5_makeMove_22 rfl (lv_at hl 1 rfl) ?_
  refine gf123 F hW 0 rfl rfl dX5_makeMove_23 ?_
  refine lv_iload_n hx hb dX5_makeMove_26 rfl (lv_at hl 2 rfl) ?_
  refine lv_aload_n hx hb dX5_makeMove_27 rfl (lv_at hl 1 rfl) ?_
  refine gf125 F hW 0 rfl rfl dX5_makeMove_28 ?_
  refine lv_aload_n hx hb dX5_makeMove_31 rfl (lv_at hl 1 rfl) ?_
  refine gf127 F hW 0 rfl rfl dX5_makeMove_32 ?_
  refine cVV (As := [.int (nI fr), .ref (a 5), .ref (a 6)]) (rest := []) (wr := [(a 0, .inr (5, [.ref (a 1), .ref (a 5), .ref (a 6), .ref (a 7)])), (a 7, .inl (T 0, 300, .inl (fun j => (mkS f fr) (40 + j))))]) F hW hl cs284 (c_makeMove l D T (a 1) (a 2) (a 3) (a 4) (a 5) (a 6) (pl := pl) hpl (f 27) (f 28) (fun j => f j) (fun j => f (12 + j)) (fun j => f (24 + j)) (fun j => f (34 + j)) (f 29) (f 30) (f 31) (f 32) (f 33) f ⟨fun _ _ => rfl, fun _ _ => rfl, fun _ _ => rfl⟩ rfl rfl (fun _ _ => rfl) (fr := fr) hfr hJ h36 ht h0 h26 h27 h28 hmk) [1, 2, 3, 4, 5, 6] [0, 7] rfl rfl rfl rfl (by decide) 0 3 rfl rfl rfl rfl rfl (Nat.le_of_ble_eq_true rfl) ⟨Nat.le_of_ble_eq_true rfl, Nat.le_of_ble_eq_true rfl⟩ ⟨Nat.zero_le _, Nat.zero_le _⟩ dX5_makeMove_35 (fun u35 H locs hr35 hW => ?_)
  have hW := Wd.ord hW (ws' := [(a 0, .inr (5, [.ref (a 1), .ref (a 5), .ref (a 6), .ref (a 7)])), (a 1, .inr (3, [.ref (a 2), .ref (a 3), .ref (a 4), .int ((mvM f fr) 26), .int ((mvM f fr) 27), .int ((mvM f fr) 28)])), (a 2, .inl (T 0, 12, .inl (fun j => (mvM f fr) j))), (a 3, .inl (T 0, 12, .inl (fun j => (mvM f fr) (12 + j)))), (a 4, .inl (T 0, 2, .inl (fun j => (mvM f fr) (24 + j)))), (a 5, .inl (T 0, 4, .inl (fun j => f (34 + j)))), (a 6, .inr (4, [.int ((mvM f fr) 29), .int ((mvM f fr) 30), .int ((mvM f fr) 31), .int ((mvM f fr) 32), .int ((mvM f fr) 33)])), (a 7, .inl (T 0, 300, .inl (fun j => (mkS f fr) (40 + j))))]) [0, 2, 3, 4, 5, 6, 7, 1] rfl rfl
  have hW := Wd.arr hW 2 (fun j => (mkS f fr) j) rfl (fun j hj => mkS_lo f fr (by omega)) (ws' := [(a 0, .inr (5, [.ref (a 1), .ref (a 5), .ref (a 6), .ref (a 7)])), (a 1, .inr (3, [.ref (a 2), .ref (a 3), .ref (a 4), .int ((mvM f fr) 26), .int ((mvM f fr) 27), .int ((mvM f fr) 28)])), (a 2, .inl (T 0, 12, .inl (fun j => (mkS f fr) j))), (a 3, .inl (T 0, 12, .inl (fun j => (mvM f fr) (12 + j)))), (a 4, .inl (T 0, 2, .inl (fun j => (mvM f fr) (24 + j)))), (a 5, .inl (T 0, 4, .inl (fun j => f (34 + j)))), (a 6, .inr (4, [.int ((mvM f fr) 29), .int ((mvM f fr) 30), .int ((mvM f fr) 31), .int ((mvM f fr) 32), .int ((mvM f fr) 33)])), (a 7, .inl (T 0, 300, .inl (fun j => (mkS f fr) (40 + j))))]) rfl
  have hW := Wd.arr hW 3 (fun j => (mkS f fr) (12 + j)) rfl (fun j hj => mkS_lo f fr (by omega)) (ws' := [(a 0, .inr (5, [.ref (a 1), .ref (a 5), .ref (a 6), .ref (a 7)])), (a 1, .inr (3, [.ref (a 2), .ref (a 3), .ref (a 4), .int ((mvM f fr) 26), .int ((mvM f fr) 27), .int ((mvM f fr) 28)])), (a 2, .inl (T 0, 12, .inl (fun j => (mkS f fr) j))), (a 3, .inl (T 0, 12, .inl (fun j => (mkS f fr) (12 + j)))), (a 4, .inl (T 0, 2, .inl (fun j => (mvM f fr) (24 + j)))), (a 5, .inl (T 0, 4, .inl (fun j => f (34 + j)))), (a 6, .inr (4, [.int ((mvM f fr) 29), .int ((mvM f fr) 30), .int ((mvM f fr) 31), .int ((mvM f fr) 32), .int ((mvM f fr) 33)])), (a 7, .inl (T 0, 300, .inl (fun j => (mkS f fr) (40 + j))))]) rfl
  have hW := Wd.arr hW 4 (fun j => (mkS f fr) (24 + j)) rfl (fun j hj => mkS_lo f fr (by omega)) (ws' := [(a 0, .inr (5, [.ref (a 1), .ref (a 5), .ref (a 6), .ref (a 7)])), (a 1, .inr (3, [.ref (a 2), .ref (a 3), .ref (a 4), .int ((mvM f fr) 26), .int ((mvM f fr) 27), .int ((mvM f fr) 28)])), (a 2, .inl (T 0, 12, .inl (fun j => (mkS f fr) j))), (a 3, .inl (T 0, 12, .inl (fun j => (mkS f fr) (12 + j)))), (a 4, .inl (T 0, 2, .inl (fun j => (mkS f fr) (24 + j)))), (a 5, .inl (T 0, 4, .inl (fun j => f (34 + j)))), (a 6, .inr (4, [.int ((mvM f fr) 29), .int ((mvM f fr) 30), .int ((mvM f fr) 31), .int ((mvM f fr) 32), .int ((mvM f fr) 33)])), (a 7, .inl (T 0, 300, .inl (fun j => (mkS f fr) (40 + j))))]) rfl
  have hW := Wd.arr hW 5 (fun j => (mkS f fr) (34 + j)) rfl (fun j hj => by unfold mkS; rw [if_neg (by omega), if_neg (by omega)]) (ws' := [(a 0, .inr (5, [.ref (a 1), .ref (a 5), .ref (a 6), .ref (a 7)])), (a 1, .inr (3, [.ref (a 2), .ref (a 3), .ref (a 4), .int ((mvM f fr) 26), .int ((mvM f fr) 27), .int ((mvM f fr) 28)])), (a 2, .inl (T 0, 12, .inl (fun j => (mkS f fr) j))), (a 3, .inl (T 0, 12, .inl (fun j => (mkS f fr) (12 + j)))), (a 4, .inl (T 0, 2, .inl (fun j => (mkS f fr) (24 + j)))), (a 5, .inl (T 0, 4, .inl (fun j => (mkS f fr) (34 + j)))), (a 6, .inr (4, [.int ((mvM f fr) 29), .int ((mvM f fr) 30), .int ((mvM f fr) 31), .int ((mvM f fr) 32), .int ((mvM f fr) 33)])), (a 7, .inl (T 0, 300, .inl (fun j => (mkS f fr) (40 + j))))]) rfl
  rw [mkS_lo f fr (show 26 < 34 by decide), mkS_lo f fr (show 27 < 34 by decide), mkS_lo f fr (show 28 < 34 by decide), mkS_lo f fr (show 29 < 34 by decide), mkS_lo f fr (show 30 < 34 by decide), mkS_lo f fr (show 31 < 34 by decide), mkS_lo f fr (show 32 < 34 by decide), mkS_lo f fr (show 33 < 34 by decide)] at hW
  exact retV F hr hlk hW () trivial rfl dX5_makeMove_38
end
section
-- History: a ring of six states
def hsU (hs : Nat → Nat → Int32) (i : Nat) (f : Nat → Int32) : Nat → Nat → Int32 := fun j => if j = i then f else hs j
theorem six {i : Nat} (h : i < 6) : i = 0 ∨ i = 1 ∨ i = 2 ∨ i = 3 ∨ i = 4 ∨ i = 5 := by omega
set_option maxHeartbeats 4000000 in
set_option maxRecDepth 100000 in
theorem c_remember (l : Launch) (D : va_G) (T : Nat → ClassId) (h0 h1 : Nat) (hd : Nat → Nat → Nat) (a : Nat → Nat) (hs : Nat → Nat → Int32) (f : Nat → Int32) {ol sz : Nat} (hol : ol < 6) (hsz : sz ≤ 6) (hbo : f 27 = 0 ∨ f 27 = 1) : KV (S := Unit) l D T yX0_remember cX0_remember 2 3 [.ref h0, .ref (a 0)] ([(h0, .inr (0, [.ref h1, .int (nI ol), .int (nI sz)])), (h1, .inl (T 4, 6, .inr (.inr (.inr (.inr (fun j => some (hd j 0)))))))] ++ ((blk T (hd 0) (hs 0)) ++ ((blk T (hd 1) (hs 1)) ++ ((blk T (hd 2) (hs 2)) ++ ((blk T (hd 3) (hs 3)) ++ ((blk T (hd 4) (hs 4)) ++ ((blk T (hd 5) (hs 5)) ++ ((blk T a f))))))))) (fun _ => True) (fun u => ([(h0, .inr (0, [.ref h1, .int (nI (if sz < 6 then ol else (ol + 1) % 6)), .int (nI (if sz < 6 then sz + 1 else sz))])), (h1, .inl (T 4, 6, .inr (.inr (.inr (.inr (fun j => some (hd j 0)))))))] ++ ((blk T (hd 0) (hsU hs ((ol + sz) % 6) f 0)) ++ ((blk T (hd 1) (hsU hs ((ol + sz) % 6) f 1)) ++ ((blk T (hd 2) (hsU hs ((ol + sz) % 6) f 2)) ++ ((blk T (hd 3) (hsU hs ((ol + sz) % 6) f 3)) ++ ((blk T (hd 4) (hsU hs ((ol + sz) % 6) f 4)) ++ ((blk T (hd 5) (hsU hs ((ol + sz) % 6) f 5)) ++ ((blk T a f)))))))))) := by
  refine KV.of (by decide +kernel) (Nat.le_of_ble_eq_true rfl) (fun p e s m below meth c A F hr hlk hW ls hl => ?_)
  have hx := F.1
  have hb := F.2.1
  have hl : lv_has ls 2 [(0, .ref h0), (1, .ref (a 0))] := hl
  refine lv_aload_n hx hb dX0_remember_0 rfl (lv_at hl 0 rfl) ?_
  refine gf149 F hW 0 rfl rfl dX0_remember_1 ?_
  refine lv_aload_n hx hb dX0_remember_4 rfl (lv_at hl 0 rfl) ?_
  refine gf150 F hW 0 rfl rfl dX0_remember_5 ?_
  refine lv_aload_n hx hb dX0_remember_8 rfl (lv_at hl 0 rfl) ?_
  refine gf151 F hW 0 rfl rfl dX0_remember_9 ?_
  refine iaddE (z := nI (ol + sz)) hx hb dX0_remember_12 (nI_add _ _) ?_
  refine lv_bipush (v := nI 6) hx hb dX0_remember_13 (by decide) ?_
  refine iremE (z := nI ((ol + sz) % 6)) hx hb dX0_remember_15 ⟨by decide, pk_rem (by omega) (by decide) (by decide)⟩ ?_
  refine W.fork (X := Unit) 21 (fun _ => []) (fun _ H2 locs2 ls2 => Wd D T A s ([(h0, .inr (0, [.ref h1, .int (nI ol), .int (nI sz)])), (h1, .inl (T 4, 6, .inr (.inr (.inr (.inr (fun j => some (hd j 0)))))))] ++ ((blk T (hd 0) (hsU hs ((ol + sz) % 6) f 0)) ++ ((blk T (hd 1) (hsU hs ((ol + sz) % 6) f 1)) ++ ((blk T (hd 2) (hsU hs ((ol + sz) % 6) f 2)) ++ ((blk T (hd 3) (hsU hs ((ol + sz) % 6) f 3)) ++ ((blk T (hd 4) (hsU hs ((ol + sz) % 6) f 4)) ++ ((blk T (hd 5) (hsU hs ((ol + sz) % 6) f 5)) ++ ((blk T a f))))))))) H2 locs2 ∧ lv_has ls2 2 [(0, .ref h0), (1, .ref (a 0))]) (fun hJ => ?_) ?_
  · obtain ⟨i, hi⟩ : ∃ i, i = (ol + sz) % 6 := ⟨_, rfl⟩
    rcases six (show i < 6 by omega) with rfl | rfl | rfl | rfl | rfl | rfl
    · refine aald F hW 1 4 rfl rfl (r := (hd 0) 0) ((ol + sz) % 6) rfl (by omega) (by decide) (by rw [← hi]) dX0_remember_16 ?_
      refine lv_aload_n hx hb dX0_remember_17 rfl (lv_at hl 1 rfl) ?_
      refine cVV (As := [.ref (a 0)]) (rest := []) (wr := ([(h0, .inr (0, [.ref h1, .int (nI ol), .int (nI sz)])), (h1, .inl (T 4, 6, .inr (.inr (.inr (.inr (fun j => some (hd j 0)))))))] ++ ((blk T (hd 1) (hs 1)) ++ ((blk T (hd 2) (hs 2)) ++ ((blk T (hd 3) (hs 3)) ++ ((blk T (hd 4) (hs 4)) ++ ((blk T (hd 5) (hs 5))))))))) F hW hl cs242 (c_stCopy l D T (hd 0) a (hs 0) f hbo) [2, 3, 4, 5, 6, 7, 8, 9, 50, 51, 52, 53, 54, 55, 56, 57] [0, 1, 10, 11, 12, 13, 14, 15, 16, 17, 18, 19, 20, 21, 22, 23, 24, 25, 26, 27, 28, 29, 30, 31, 32, 33, 34, 35, 36, 37, 38, 39, 40, 41, 42, 43, 44, 45, 46, 47, 48, 49] rfl rfl rfl rfl (by decide) 0 5 rfl rfl rfl rfl rfl (Nat.le_of_ble_eq_true rfl) ⟨Nat.le_of_ble_eq_true rfl, Nat.le_of_ble_eq_true rfl⟩ ⟨Nat.zero_le _, Nat.zero_le _⟩ dX0_remember_18 (fun u18 H locs hr18 hW => ?_)
      have hW := Wd.ord hW (ws' := ([(h0, .inr (0, [.ref h1, .int (nI ol), .int (nI sz)])), (h1, .inl (T 4, 6, .inr (.inr (.inr (.inr (fun j => some (hd j 0)))))))] ++ ((blk T (hd 0) f) ++ ((blk T (hd 1) (hs 1)) ++ ((blk T (hd 2) (hs 2)) ++ ((blk T (hd 3) (hs 3)) ++ ((blk T (hd 4) (hs 4)) ++ ((blk T (hd 5) (hs 5)) ++ ((blk T a f)))))))))) [0, 1, 42, 43, 44, 45, 46, 47, 48, 49, 2, 3, 4, 5, 6, 7, 8, 9, 10, 11, 12, 13, 14, 15, 16, 17, 18, 19, 20, 21, 22, 23, 24, 25, 26, 27, 28, 29, 30, 31, 32, 33, 34, 35, 36, 37, 38, 39, 40, 41, 50, 51, 52, 53, 54, 55, 56, 57] rfl rfl
      exact hJ () _ _ _ ⟨by rw [← hi]; exact hW, hl⟩
    · refine aald F hW 1 4 rfl rfl (r := (hd 1) 0) ((ol + sz) % 6) rfl (by omega) (by decide) (by rw [← hi]) dX0_remember_16 ?_
      refine lv_aload_n hx hb dX0_remember_17 rfl (lv_at hl 1 rfl) ?_
      refine cVV (As := [.ref (a 0)]) (rest := []) (wr := ([(h0, .inr (0, [.ref h1, .int (nI ol), .int (nI sz)])), (h1, .inl (T 4, 6, .inr (.inr (.inr (.inr (fun j => some (hd j 0)))))))] ++ ((blk T (hd 0) (hs 0)) ++ ((blk T (hd 2) (hs 2)) ++ ((blk T (hd 3) (hs 3)) ++ ((blk T (hd 4) (hs 4)) ++ ((blk T (hd 5) (hs 5))))))))) F hW hl cs242 (c_stCopy l D T (hd 1) a (hs 1) f hbo) [10, 11, 12, 13, 14, 15, 16, 17, 50, 51, 52, 53, 54, 55, 56, 57] [0, 1, 2, 3, 4, 5, 6, 7, 8, 9, 18, 19, 20, 21, 22, 23, 24, 25, 26, 27, 28, 29, 30, 31, 32, 33, 34, 35, 36, 37, 38, 39, 40, 41, 42, 43, 44, 45, 46, 47, 48, 49] rfl rfl rfl rfl (by decide) 0 5 rfl rfl rfl rfl rfl (Nat.le_of_ble_eq_true rfl) ⟨Nat.le_of_ble_eq_true rfl, Nat.le_of_ble_eq_true rfl⟩ ⟨Nat.zero_le _, Nat.zero_le _⟩ dX0_remember_18 (fun u18 H locs hr18 hW => ?_)
      have hW := Wd.ord hW (ws' := ([(h0, .inr (0, [.ref h1, .int (nI ol), .int (nI sz)])), (h1, .inl (T 4, 6, .inr (.inr (.inr (.inr (fun j => some (hd j 0)))))))] ++ ((blk T (hd 0) (hs 0)) ++ ((blk T (hd 1) f) ++ ((blk T (hd 2) (hs 2)) ++ ((blk T (hd 3) (hs 3)) ++ ((blk T (hd 4) (hs 4)) ++ ((blk T (hd 5) (hs 5)) ++ ((blk T a f)))))))))) [0, 1, 2, 3, 4, 5, 6, 7, 8, 9, 42, 43, 44, 45, 46, 47, 48, 49, 10, 11, 12, 13, 14, 15, 16, 17, 18, 19, 20, 21, 22, 23, 24, 25, 26, 27, 28, 29, 30, 31, 32, 33, 34, 35, 36, 37, 38, 39, 40, 41, 50, 51, 52, 53, 54, 55, 56, 57] rfl rfl
      exact hJ () _ _ _ ⟨by rw [← hi]; exact hW, hl⟩
    · refine aald F hW 1 4 rfl rfl (r := (hd 2) 0) ((ol + sz) % 6) rfl (by omega) (by decide) (by rw [← hi]) dX0_remember_16 ?_
      refine lv_aload_n hx hb dX0_remember_17 rfl (lv_at hl 1 rfl) ?_
      refine cVV (As := [.ref (a 0)]) (rest := []) (wr := ([(h0, .inr (0, [.ref h1, .int (nI ol), .int (nI sz)])), (h1, .inl (T 4, 6, .inr (.inr (.inr (.inr (fun j => some (hd j 0)))))))] ++ ((blk T (hd 0) (hs 0)) ++ ((blk T (hd 1) (hs 1)) ++ ((blk T (hd 3) (hs 3)) ++ ((blk T (hd 4) (hs 4)) ++ ((blk T (hd 5) (hs 5))))))))) F hW hl cs242 (c_stCopy l D T (hd 2) a (hs 2) f hbo) [18, 19, 20, 21, 22, 23, 24, 25, 50, 51, 52, 53, 54, 55, 56, 57] [0, 1, 2, 3, 4, 5, 6, 7, 8, 9, 10, 11, 12, 13, 14, 15, 16, 17, 26, 27, 28, 29, 30, 31, 32, 33, 34, 35, 36, 37, 38, 39, 40, 41, 42, 43, 44, 45, 46, 47, 48, 49] rfl rfl rfl rfl (by decide) 0 5 rfl rfl rfl rfl rfl (Nat.le_of_ble_eq_true rfl) ⟨Nat.le_of_ble_eq_true rfl, Nat.le_of_ble_eq_true rfl⟩ ⟨Nat.zero_le _, Nat.zero_le _⟩ dX0_remember_18 (fun u18 H locs hr18 hW => ?_)
      have hW := Wd.ord hW (ws' := ([(h0, .inr (0, [.ref h1, .int (nI ol), .int (nI sz)])), (h1, .inl (T 4, 6, .inr (.inr (.inr (.inr (fun j => some (hd j 0)))))))] ++ ((blk T (hd 0) (hs 0)) ++ ((blk T (hd 1) (hs 1)) ++ ((blk T (hd 2) f) ++ ((blk T (hd 3) (hs 3)) ++ ((blk T (hd 4) (hs 4)) ++ ((blk T (hd 5) (hs 5)) ++ ((blk T a f)))))))))) [0, 1, 2, 3, 4, 5, 6, 7, 8, 9, 10, 11, 12, 13, 14, 15, 16, 17, 42, 43, 44, 45, 46, 47, 48, 49, 18, 19, 20, 21, 22, 23, 24, 25, 26, 27, 28, 29, 30, 31, 32, 33, 34, 35, 36, 37, 38, 39, 40, 41, 50, 51, 52, 53, 54, 55, 56, 57] rfl rfl
      exact hJ () _ _ _ ⟨by rw [← hi]; exact hW, hl⟩
    · refine aald F hW 1 4 rfl rfl (r := (hd 3) 0) ((ol + sz) % 6) rfl (by omega) (by decide) (by rw [← hi]) dX0_remember_16 ?_
      refine lv_aload_n hx hb dX0_remember_17 rfl (lv_at hl 1 rfl) ?_
      refine cVV (As := [.ref (a 0)]) (rest := []) (wr := ([(h0, .inr (0, [.ref h1, .int (nI ol), .int (nI sz)])), (h1, .inl (T 4, 6, .inr (.inr (.inr (.inr (fun j => some (hd j 0)))))))] ++ ((blk T (hd 0) (hs 0)) ++ ((blk T (hd 1) (hs 1)) ++ ((blk T (hd 2) (hs 2)) ++ ((blk T (hd 4) (hs 4)) ++ ((blk T (hd 5) (hs 5))))))))) F hW hl cs242 (c_stCopy l D T (hd 3) a (hs 3) f hbo) [26, 27, 28, 29, 30, 31, 32, 33, 50, 51, 52, 53, 54, 55, 56, 57] [0, 1, 2, 3, 4, 5, 6, 7, 8, 9, 10, 11, 12, 13, 14, 15, 16, 17, 18, 19, 20, 21, 22, 23, 24, 25, 34, 35, 36, 37, 38, 39, 40, 41, 42, 43, 44, 45, 46, 47, 48, 49] rfl rfl rfl rfl (by decide) 0 5 rfl rfl rfl rfl rfl (Nat.le_of_ble_eq_true rfl) ⟨Nat.le_of_ble_eq_true rfl, Nat.le_of_ble_eq_true rfl⟩ ⟨Nat.zero_le _, Nat.zero_le _⟩ dX0_remember_18 (fun u18 H locs hr18 hW => ?_)
      have hW := Wd.ord hW (ws' := ([(h0, .inr (0, [.ref h1, .int (nI ol), .int (nI sz)])), (h1, .inl (T 4, 6, .inr (.inr (.inr (.inr (fun j => some (hd j 0)))))))] ++ ((blk T (hd 0) (hs 0)) ++ ((blk T (hd 1) (hs 1)) ++ ((blk T (hd 2) (hs 2)) ++ ((blk T (hd 3) f) ++ ((blk T (hd 4) (hs 4)) ++ ((blk T (hd 5) (hs 5)) ++ ((blk T a f)))))))))) [0, 1, 2, 3, 4, 5, 6, 7, 8, 9, 10, 11, 12, 13, 14, 15, 16, 17, 18, 19, 20, 21, 22, 23, 24, 25, 42, 43, 44, 45, 46, 47, 48, 49, 26, 27, 28, 29, 30, 31, 32, 33, 34, 35, 36, 37, 38, 39, 40, 41, 50, 51, 52, 53, 54, 55, 56, 57] rfl rfl
      exact hJ () _ _ _ ⟨by rw [← hi]; exact hW, hl⟩
    · refine aald F hW 1 4 rfl rfl (r := (hd 4) 0) ((ol + sz) % 6) rfl (by omega) (by decide) (by rw [← hi]) dX0_remember_16 ?_
      refine lv_aload_n hx hb dX0_remember_17 rfl (lv_at hl 1 rfl) ?_
      refine cVV (As := [.ref (a 0)]) (rest := []) (wr := ([(h0, .inr (0, [.ref h1, .int (nI ol), .int (nI sz)])), (h1, .inl (T 4, 6, .inr (.inr (.inr (.inr (fun j => some (hd j 0)))))))] ++ ((blk T (hd 0) (hs 0)) ++ ((blk T (hd 1) (hs 1)) ++ ((blk T (hd 2) (hs 2)) ++ ((blk T (hd 3) (hs 3)) ++ ((blk T (hd 5) (hs 5))))))))) F hW hl cs242 (c_stCopy l D T (hd 4) a (hs 4) f hbo) [34, 35, 36, 37, 38, 39, 40, 41, 50, 51, 52, 53, 54, 55, 56, 57] [0, 1, 2, 3, 4, 5, 6, 7, 8, 9, 10, 11, 12, 13, 14, 15, 16, 17, 18, 19, 20, 21, 22, 23, 24, 25, 26, 27, 28, 29, 30, 31, 32, 33, 42, 43, 44, 45, 46, 47, 48, 49] rfl rfl rfl rfl (by decide) 0 5 rfl rfl rfl rfl rfl (Nat.le_of_ble_eq_true rfl) ⟨Nat.le_of_ble_eq_true rfl, Nat.le_of_ble_eq_true rfl⟩ ⟨Nat.zero_le _, Nat.zero_le _⟩ dX0_remember_18 (fun u18 H locs hr18 hW => ?_)
      have hW := Wd.ord hW (ws' := ([(h0, .inr (0, [.ref h1, .int (nI ol), .int (nI sz)])), (h1, .inl (T 4, 6, .inr (.inr (.inr (.inr (fun j => some (hd j 0)))))))] ++ ((blk T (hd 0) (hs 0)) ++ ((blk T (hd 1) (hs 1)) ++ ((blk T (hd 2) (hs 2)) ++ ((blk T (hd 3) (hs 3)) ++ ((blk T (hd 4) f) ++ ((blk T (hd 5) (hs 5)) ++ ((blk T a f)))))))))) [0, 1, 2, 3, 4, 5, 6, 7, 8, 9, 10, 11, 12, 13, 14, 15, 16, 17, 18, 19, 20, 21, 22, 23, 24, 25, 26, 27, 28, 29, 30, 31, 32, 33, 42, 43, 44, 45, 46, 47, 48, 49, 34, 35, 36, 37, 38, 39, 40, 41, 50, 51, 52, 53, 54, 55, 56, 57] rfl rfl
      exact hJ () _ _ _ ⟨by rw [← hi]; exact hW, hl⟩
    · refine aald F hW 1 4 rfl rfl (r := (hd 5) 0) ((ol + sz) % 6) rfl (by omega) (by decide) (by rw [← hi]) dX0_remember_16 ?_
      refine lv_aload_n hx hb dX0_remember_17 rfl (lv_at hl 1 rfl) ?_
      refine cVV (As := [.ref (a 0)]) (rest := []) (wr := ([(h0, .inr (0, [.ref h1, .int (nI ol), .int (nI sz)])), (h1, .inl (T 4, 6, .inr (.inr (.inr (.inr (fun j => some (hd j 0)))))))] ++ ((blk T (hd 0) (hs 0)) ++ ((blk T (hd 1) (hs 1)) ++ ((blk T (hd 2) (hs 2)) ++ ((blk T (hd 3) (hs 3)) ++ ((blk T (hd 4) (hs 4))))))))) F hW hl cs242 (c_stCopy l D T (hd 5) a (hs 5) f hbo) [42, 43, 44, 45, 46, 47, 48, 49, 50, 51, 52, 53, 54, 55, 56, 57] [0, 1, 2, 3, 4, 5, 6, 7, 8, 9, 10, 11, 12, 13, 14, 15, 16, 17, 18, 19, 20, 21, 22, 23, 24, 25, 26, 27, 28, 29, 30, 31, 32, 33, 34, 35, 36, 37, 38, 39, 40, 41] rfl rfl rfl rfl (by decide) 0 5 rfl rfl rfl rfl rfl (Nat.le_of_ble_eq_true rfl) ⟨Nat.le_of_ble_eq_true rfl, Nat.le_of_ble_eq_true rfl⟩ ⟨Nat.zero_le _, Nat.zero_le _⟩ dX0_remember_18 (fun u18 H locs hr18 hW => ?_)
      have hW := Wd.ord hW (ws' := ([(h0, .inr (0, [.ref h1, .int (nI ol), .int (nI sz)])), (h1, .inl (T 4, 6, .inr (.inr (.inr (.inr (fun j => some (hd j 0)))))))] ++ ((blk T (hd 0) (hs 0)) ++ ((blk T (hd 1) (hs 1)) ++ ((blk T (hd 2) (hs 2)) ++ ((blk T (hd 3) (hs 3)) ++ ((blk T (hd 4) (hs 4)) ++ ((blk T (hd 5) f) ++ ((blk T a f)))))))))) [0, 1, 2, 3, 4, 5, 6, 7, 8, 9, 10, 11, 12, 13, 14, 15, 16, 17, 18, 19, 20, 21, 22, 23, 24, 25, 26, 27, 28, 29, 30, 31, 32, 33, 34, 35, 36, 37, 38, 39, 40, 41, 42, 43, 44, 45, 46, 47, 48, 49, 50, 51, 52, 53, 54, 55, 56, 57] rfl rfl
      exact hJ () _ _ _ ⟨by rw [← hi]; exact hW, hl⟩
  · rintro - H locs ls ⟨hW, hl⟩
    refine lv_aload_n hx hb dX0_remember_21 rfl (lv_at hl 0 rfl) ?_
    refine gf151 F hW 0 rfl rfl dX0_remember_22 ?_
    refine lv_bipush (v := nI 6) hx hb dX0_remember_25 (by decide) ?_
    refine lv_icmp_ge (tgt := 43) hx hb dX0_remember_27 (by decide) (fun h27 => ?_) (fun h27 => ?_)
    · have e1 : (if sz < 6 then ol else (ol + 1) % 6) = (ol + 1) % 6 := if_neg (by have := n_le h27 (by decide) (by omega); omega)
      have e2 : (if sz < 6 then sz + 1 else sz) = sz := if_neg (by have := n_le h27 (by decide) (by omega); omega)
      refine lv_aload_n hx hb dX0_remember_43 rfl (lv_at hl 0 rfl) ?_
      refine lv_aload_n hx hb dX0_remember_44 rfl (lv_at hl 0 rfl) ?_
      refine gf150 F hW 0 rfl rfl dX0_remember_45 ?_
      refine lv_iconst (v := nI 1) hx hb dX0_remember_48 (by decide) ?_
      refine iaddE (z := nI (ol + 1)) hx hb dX0_remember_49 (nI_add _ _) ?_
      refine lv_bipush (v := nI 6) hx hb dX0_remember_50 (by decide) ?_
      refine iremE (z := nI ((ol + 1) % 6)) hx hb dX0_remember_52 ⟨by decide, pk_rem (by omega) (by decide) (by decide)⟩ ?_
      refine pf150 (ws' := ([(h0, .inr (0, [.ref h1, .int (nI ((ol + 1) % 6)), .int (nI sz)])), (h1, .inl (T 4, 6, .inr (.inr (.inr (.inr (fun j => some (hd j 0)))))))] ++ ((blk T (hd 0) (hsU hs ((ol + sz) % 6) f 0)) ++ ((blk T (hd 1) (hsU hs ((ol + sz) % 6) f 1)) ++ ((blk T (hd 2) (hsU hs ((ol + sz) % 6) f 2)) ++ ((blk T (hd 3) (hsU hs ((ol + sz) % 6) f 3)) ++ ((blk T (hd 4) (hsU hs ((ol + sz) % 6) f 4)) ++ ((blk T (hd 5) (hsU hs ((ol + sz) % 6) f 5)) ++ ((blk T a f)))))))))) F hW 0 rfl rfl rfl dX0_remember_53 (fun H locs hW => ?_)
      exact retV F hr hlk hW () trivial (by rw [e1, e2]) dX0_remember_56
    · have e1 : (if sz < 6 then ol else (ol + 1) % 6) = ol := if_pos (n_nle h27 (by decide) (by omega))
      have e2 : (if sz < 6 then sz + 1 else sz) = sz + 1 := if_pos (n_nle h27 (by decide) (by omega))
      refine lv_aload_n hx hb dX0_remember_30 rfl (lv_at hl 0 rfl) ?_
      refine lv_dup hx hb dX0_remember_31 rfl ?_
      refine gf151 F hW 0 rfl rfl dX0_remember_32 ?_
      refine lv_iconst (v := nI 1) hx hb dX0_remember_35 (by decide) ?_
      refine iaddE (z := nI (sz + 1)) hx hb dX0_remember_36 (nI_add _ _) ?_
      refine pf151 (ws' := ([(h0, .inr (0, [.ref h1, .int (nI ol), .int (nI (sz + 1))])), (h1, .inl (T 4, 6, .inr (.inr (.inr (.inr (fun j => some (hd j 0)))))))] ++ ((blk T (hd 0) (hsU hs ((ol + sz) % 6) f 0)) ++ ((blk T (hd 1) (hsU hs ((ol + sz) % 6) f 1)) ++ ((blk T (hd 2) (hsU hs ((ol + sz) % 6) f 2)) ++ ((blk T (hd 3) (hsU hs ((ol + sz) % 6) f 3)) ++ ((blk T (hd 4) (hsU hs ((ol + sz) % 6) f 4)) ++ ((blk T (hd 5) (hsU hs ((ol + sz) % 6) f 5)) ++ ((blk T a f)))))))))) F hW 0 rfl rfl rfl dX0_remember_37 (fun H locs hW => ?_)
      refine lv_goto (tgt := 56) hx hb dX0_remember_40 (by decide) ?_
      exact retV F hr hlk hW () trivial (by rw [e1, e2]) dX0_remember_56
set_option maxHeartbeats 4000000 in
set_option maxRecDepth 100000 in
theorem c_takeBack (l : Launch) (D : va_G) (T : Nat → ClassId) (h0 h1 : Nat) (hd : Nat → Nat → Nat) (a : Nat → Nat) (hs : Nat → Nat → Int32) (f : Nat → Int32) {ol sz : Nat} (hol : ol < 6) (hsz : sz ≤ 6) (hs0 : 0 < sz) (hbo : ∀ i, i < 6 → hs i 27 = 0 ∨ hs i 27 = 1) : KV (S := Unit) l D T yX0_takeBack cX0_takeBack 2 3 [.ref h0, .ref (a 0)] ([(h0, .inr (0, [.ref h1, .int (nI ol), .int (nI sz)])), (h1, .inl (T 4, 6, .inr (.inr (.inr (.inr (fun j => some (hd j 0)))))))] ++ ((blk T (hd 0) (hs 0)) ++ ((blk T (hd 1) (hs 1)) ++ ((blk T (hd 2) (hs 2)) ++ ((blk T (hd 3) (hs 3)) ++ ((blk T (hd 4) (hs 4)) ++ ((blk T (hd 5) (hs 5)) ++ ((blk T a f))))))))) (fun _ => True) (fun u => ([(h0, .inr (0, [.ref h1, .int (nI ol), .int (nI (sz - 1))])), (h1, .inl (T 4, 6, .inr (.inr (.inr (.inr (fun j => some (hd j 0)))))))] ++ ((blk T (hd 0) (hs 0)) ++ ((blk T (hd 1) (hs 1)) ++ ((blk T (hd 2) (hs 2)) ++ ((blk T (hd 3) (hs 3)) ++ ((blk T (hd 4) (hs 4)) ++ ((blk T (hd 5) (hs 5)) ++ ((blk T a (hs ((ol + (sz - 1)) % 6)))))))))))) := by
  refine KV.of (by decide +kernel) (Nat.le_of_ble_eq_true rfl) (fun p e s m below meth c A F hr hlk hW ls hl => ?_)
  have hx := F.1
  have hb := F.2.1
  have hl : lv_has ls 2 [(0, .ref h0), (1, .ref (a 0))] := hl
  refine lv_aload_n hx hb dX0_takeBack_0 rfl (lv_at hl 0 rfl) ?_
  refine gf151 F hW 0 rfl rfl dX0_takeBack_1 ?_
  refine lv_if_ne (tgt := 8) hx hb dX0_takeBack_4 (by decide) (fun _ => ?_) (fun h9 => absurd h9 (nI_ne0 hs0 (by omega)))
  refine lv_aload_n hx hb dX0_takeBack_8 rfl (lv_at hl 0 rfl) ?_
  refine lv_dup hx hb dX0_takeBack_9 rfl ?_
  refine gf151 F hW 0 rfl rfl dX0_takeBack_10 ?_
  refine lv_iconst (v := nI 1) hx hb dX0_takeBack_13 (by decide) ?_
  refine isubE (z := nI (sz - 1)) hx hb dX0_takeBack_14 (pk_sub (by omega)) ?_
  refine pf151 (ws' := ([(h0, .inr (0, [.ref h1, .int (nI ol), .int (nI (sz - 1))])), (h1, .inl (T 4, 6, .inr (.inr (.inr (.inr (fun j => some (hd j 0)))))))] ++ ((blk T (hd 0) (hs 0)) ++ ((blk T (hd 1) (hs 1)) ++ ((blk T (hd 2) (hs 2)) ++ ((blk T (hd 3) (hs 3)) ++ ((blk T (hd 4) (hs 4)) ++ ((blk T (hd 5) (hs 5)) ++ ((blk T a f)))))))))) F hW 0 rfl rfl rfl dX0_takeBack_15 (fun H locs hW => ?_)
  refine lv_aload_n hx hb dX0_takeBack_18 rfl (lv_at hl 1 rfl) ?_
  refine lv_aload_n hx hb dX0_takeBack_19 rfl (lv_at hl 0 rfl) ?_
  refine gf149 F hW 0 rfl rfl dX0_takeBack_20 ?_
  refine lv_aload_n hx hb dX0_takeBack_23 rfl (lv_at hl 0 rfl) ?_
  refine gf150 F hW 0 rfl rfl dX0_takeBack_24 ?_
  refine lv_aload_n hx hb dX0_takeBack_27 rfl (lv_at hl 0 rfl) ?_
  refine gf151 F hW 0 rfl rfl dX0_takeBack_28 ?_
  refine iaddE (z := nI (ol + (sz - 1))) hx hb dX0_takeBack_31 (nI_add _ _) ?_
  refine lv_bipush (v := nI 6) hx hb dX0_takeBack_32 (by decide) ?_
  refine iremE (z := nI ((ol + (sz - 1)) % 6)) hx hb dX0_takeBack_34 ⟨by decide, pk_rem (by omega) (by decide) (by decide)⟩ ?_
  obtain ⟨i, hi⟩ : ∃ i, i = (ol + (sz - 1)) % 6 := ⟨_, rfl⟩
  rcases six (show i < 6 by omega) with rfl | rfl | rfl | rfl | rfl | rfl
  · refine aald F hW 1 4 rfl rfl (r := (hd 0) 0) ((ol + (sz - 1)) % 6) rfl (by omega) (by decide) (by rw [← hi]) dX0_takeBack_35 ?_
    refine cVV (As := [.ref ((hd 0) 0)]) (rest := []) (wr := ([(h0, .inr (0, [.ref h1, .int (nI ol), .int (nI (sz - 1))])), (h1, .inl (T 4, 6, .inr (.inr (.inr (.inr (fun j => some (hd j 0)))))))] ++ ((blk T (hd 1) (hs 1)) ++ ((blk T (hd 2) (hs 2)) ++ ((blk T (hd 3) (hs 3)) ++ ((blk T (hd 4) (hs 4)) ++ ((blk T (hd 5) (hs 5))))))))) F hW hl cs242 (c_stCopy l D T a (hd 0) f (hs 0) (hbo 0 (by decide))) [50, 51, 52, 53, 54, 55, 56, 57, 2, 3, 4, 5, 6, 7, 8, 9] [0, 1, 10, 11, 12, 13, 14, 15, 16, 17, 18, 19, 20, 21, 22, 23, 24, 25, 26, 27, 28, 29, 30, 31, 32, 33, 34, 35, 36, 37, 38, 39, 40, 41, 42, 43, 44, 45, 46, 47, 48, 49] rfl rfl rfl rfl (by decide) 0 5 rfl rfl rfl rfl rfl (Nat.le_of_ble_eq_true rfl) ⟨Nat.le_of_ble_eq_true rfl, Nat.le_of_ble_eq_true rfl⟩ ⟨Nat.zero_le _, Nat.zero_le _⟩ dX0_takeBack_36 (fun u36 H locs hr36 hW => ?_)
    have hW := Wd.ord hW (ws' := ([(h0, .inr (0, [.ref h1, .int (nI ol), .int (nI (sz - 1))])), (h1, .inl (T 4, 6, .inr (.inr (.inr (.inr (fun j => some (hd j 0)))))))] ++ ((blk T (hd 0) (hs 0)) ++ ((blk T (hd 1) (hs 1)) ++ ((blk T (hd 2) (hs 2)) ++ ((blk T (hd 3) (hs 3)) ++ ((blk T (hd 4) (hs 4)) ++ ((blk T (hd 5) (hs 5)) ++ ((blk T a (hs 0))))))))))) [0, 1, 50, 51, 52, 53, 54, 55, 56, 57, 2, 3, 4, 5, 6, 7, 8, 9, 10, 11, 12, 13, 14, 15, 16, 17, 18, 19, 20, 21, 22, 23, 24, 25, 26, 27, 28, 29, 30, 31, 32, 33, 34, 35, 36, 37, 38, 39, 40, 41, 42, 43, 44, 45, 46, 47, 48, 49] rfl rfl
    exact retV F hr hlk hW () trivial (by rw [← hi]) dX0_takeBack_39
  · refine aald F hW 1 4 rfl rfl (r := (hd 1) 0) ((ol + (sz - 1)) % 6) rfl (by omega) (by decide) (by rw [← hi]) dX0_takeBack_35 ?_
    refine cVV (As := [.ref ((hd 1) 0)]) (rest := []) (wr := ([(h0, .inr (0, [.ref h1, .int (nI ol), .int (nI (sz - 1))])), (h1, .inl (T 4, 6, .inr (.inr (.inr (.inr (fun j => some (hd j 0)))))))] ++ ((blk T (hd 0) (hs 0)) ++ ((blk T (hd 2) (hs 2)) ++ ((blk T (hd 3) (hs 3)) ++ ((blk T (hd 4) (hs 4)) ++ ((blk T (hd 5) (hs 5))))))))) F hW hl cs242 (c_stCopy l D T a (hd 1) f (hs 1) (hbo 1 (by decide))) [50, 51, 52, 53, 54, 55, 56, 57, 10, 11, 12, 13, 14, 15, 16, 17] [0, 1, 2, 3, 4, 5, 6, 7, 8, 9, 18, 19, 20, 21, 22, 23, 24, 25, 26, 27, 28, 29, 30, 31, 32, 33, 34, 35, 36, 37, 38, 39, 40, 41, 42, 43, 44, 45, 46, 47, 48, 49] rfl rfl rfl rfl (by decide) 0 5 rfl rfl rfl rfl rfl (Nat.le_of_ble_eq_true rfl) ⟨Nat.le_of_ble_eq_true rfl, Nat.le_of_ble_eq_true rfl⟩ ⟨Nat.zero_le _, Nat.zero_le _⟩ dX0_takeBack_36 (fun u36 H locs hr36 hW => ?_)
    have hW := Wd.ord hW (ws' := ([(h0, .inr (0, [.ref h1, .int (nI ol), .int (nI (sz - 1))])), (h1, .inl (T 4, 6, .inr (.inr (.inr (.inr (fun j => some (hd j 0)))))))] ++ ((blk T (hd 0) (hs 0)) ++ ((blk T (hd 1) (hs 1)) ++ ((blk T (hd 2) (hs 2)) ++ ((blk T (hd 3) (hs 3)) ++ ((blk T (hd 4) (hs 4)) ++ ((blk T (hd 5) (hs 5)) ++ ((blk T a (hs 1))))))))))) [0, 1, 2, 3, 4, 5, 6, 7, 8, 9, 50, 51, 52, 53, 54, 55, 56, 57, 10, 11, 12, 13, 14, 15, 16, 17, 18, 19, 20, 21, 22, 23, 24, 25, 26, 27, 28, 29, 30, 31, 32, 33, 34, 35, 36, 37, 38, 39, 40, 41, 42, 43, 44, 45, 46, 47, 48, 49] rfl rfl
    exact retV F hr hlk hW () trivial (by rw [← hi]) dX0_takeBack_39
  · refine aald F hW 1 4 rfl rfl (r := (hd 2) 0) ((ol + (sz - 1)) % 6) rfl (by omega) (by decide) (by rw [← hi]) dX0_takeBack_35 ?_
    refine cVV (As := [.ref ((hd 2) 0)]) (rest := []) (wr := ([(h0, .inr (0, [.ref h1, .int (nI ol), .int (nI (sz - 1))])), (h1, .inl (T 4, 6, .inr (.inr (.inr (.inr (fun j => some (hd j 0)))))))] ++ ((blk T (hd 0) (hs 0)) ++ ((blk T (hd 1) (hs 1)) ++ ((blk T (hd 3) (hs 3)) ++ ((blk T (hd 4) (hs 4)) ++ ((blk T (hd 5) (hs 5))))))))) F hW hl cs242 (c_stCopy l D T a (hd 2) f (hs 2) (hbo 2 (by decide))) [50, 51, 52, 53, 54, 55, 56, 57, 18, 19, 20, 21, 22, 23, 24, 25] [0, 1, 2, 3, 4, 5, 6, 7, 8, 9, 10, 11, 12, 13, 14, 15, 16, 17, 26, 27, 28, 29, 30, 31, 32, 33, 34, 35, 36, 37, 38, 39, 40, 41, 42, 43, 44, 45, 46, 47, 48, 49] rfl rfl rfl rfl (by decide) 0 5 rfl rfl rfl rfl rfl (Nat.le_of_ble_eq_true rfl) ⟨Nat.le_of_ble_eq_true rfl, Nat.le_of_ble_eq_true rfl⟩ ⟨Nat.zero_le _, Nat.zero_le _⟩ dX0_takeBack_36 (fun u36 H locs hr36 hW => ?_)
    have hW := Wd.ord hW (ws' := ([(h0, .inr (0, [.ref h1, .int (nI ol), .int (nI (sz - 1))])), (h1, .inl (T 4, 6, .inr (.inr (.inr (.inr (fun j => some (hd j 0)))))))] ++ ((blk T (hd 0) (hs 0)) ++ ((blk T (hd 1) (hs 1)) ++ ((blk T (hd 2) (hs 2)) ++ ((blk T (hd 3) (hs 3)) ++ ((blk T (hd 4) (hs 4)) ++ ((blk T (hd 5) (hs 5)) ++ ((blk T a (hs 2))))))))))) [0, 1, 2, 3, 4, 5, 6, 7, 8, 9, 10, 11, 12, 13, 14, 15, 16, 17, 50, 51, 52, 53, 54, 55, 56, 57, 18, 19, 20, 21, 22, 23, 24, 25, 26, 27, 28, 29, 30, 31, 32, 33, 34, 35, 36, 37, 38, 39, 40, 41, 42, 43, 44, 45, 46, 47, 48, 49] rfl rfl
    exact retV F hr hlk hW () trivial (by rw [← hi]) dX0_takeBack_39
  · refine aald F hW 1 4 rfl rfl (r := (hd 3) 0) ((ol + (sz - 1)) % 6) rfl (by omega) (by decide) (by rw [← hi]) dX0_takeBack_35 ?_
    refine cVV (As := [.ref ((hd 3) 0)]) (rest := []) (wr := ([(h0, .inr (0, [.ref h1, .int (nI ol), .int (nI (sz - 1))])), (h1, .inl (T 4, 6, .inr (.inr (.inr (.inr (fun j => some (hd j 0)))))))] ++ ((blk T (hd 0) (hs 0)) ++ ((blk T (hd 1) (hs 1)) ++ ((blk T (hd 2) (hs 2)) ++ ((blk T (hd 4) (hs 4)) ++ ((blk T (hd 5) (hs 5))))))))) F hW hl cs242 (c_stCopy l D T a (hd 3) f (hs 3) (hbo 3 (by decide))) [50, 51, 52, 53, 54, 55, 56, 57, 26, 27, 28, 29, 30, 31, 32, 33] [0, 1, 2, 3, 4, 5, 6, 7, 8, 9, 10, 11, 12, 13, 14, 15, 16, 17, 18, 19, 20, 21, 22, 23, 24, 25, 34, 35, 36, 37, 38, 39, 40, 41, 42, 43, 44, 45, 46, 47, 48, 49] rfl rfl rfl rfl (by decide) 0 5 rfl rfl rfl rfl rfl (Nat.le_of_ble_eq_true rfl) ⟨Nat.le_of_ble_eq_true rfl, Nat.le_of_ble_eq_true rfl⟩ ⟨Nat.zero_le _, Nat.zero_le _⟩ dX0_takeBack_36 (fun u36 H locs hr36 hW => ?_)
    have hW := Wd.ord hW (ws' := ([(h0, .inr (0, [.ref h1, .int (nI ol), .int (nI (sz - 1))])), (h1, .inl (T 4, 6, .inr (.inr (.inr (.inr (fun j => some (hd j 0)))))))] ++ ((blk T (hd 0) (hs 0)) ++ ((blk T (hd 1) (hs 1)) ++ ((blk T (hd 2) (hs 2)) ++ ((blk T (hd 3) (hs 3)) ++ ((blk T (hd 4) (hs 4)) ++ ((blk T (hd 5) (hs 5)) ++ ((blk T a (hs 3))))))))))) [0, 1, 2, 3, 4, 5, 6, 7, 8, 9, 10, 11, 12, 13, 14, 15, 16, 17, 18, 19, 20, 21, 22, 23, 24, 25, 50, 51, 52, 53, 54, 55, 56, 57, 26, 27, 28, 29, 30, 31, 32, 33, 34, 35, 36, 37, 38, 39, 40, 41, 42, 43, 44, 45, 46, 47, 48, 49] rfl rfl
    exact retV F hr hlk hW () trivial (by rw [← hi]) dX0_takeBack_39
  · refine aald F hW 1 4 rfl rfl (r := (hd 4) 0) ((ol + (sz - 1)) % 6) rfl (by omega) (by decide) (by rw [← hi]) dX0_takeBack_35 ?_
    refine cVV (As := [.ref ((hd 4) 0)]) (rest := []) (wr := ([(h0, .inr (0, [.ref h1, .int (nI ol), .int (nI (sz - 1))])), (h1, .inl (T 4, 6, .inr (.inr (.inr (.inr (fun j => some (hd j 0)))))))] ++ ((blk T (hd 0) (hs 0)) ++ ((blk T (hd 1) (hs 1)) ++ ((blk T (hd 2) (hs 2)) ++ ((blk T (hd 3) (hs 3)) ++ ((blk T (hd 5) (hs 5))))))))) F hW hl cs242 (c_stCopy l D T a (hd 4) f (hs 4) (hbo 4 (by decide))) [50, 51, 52, 53, 54, 55, 56, 57, 34, 35, 36, 37, 38, 39, 40, 41] [0, 1, 2, 3, 4, 5, 6, 7, 8, 9, 10, 11, 12, 13, 14, 15, 16, 17, 18, 19, 20, 21, 22, 23, 24, 25, 26, 27, 28, 29, 30, 31, 32, 33, 42, 43, 44, 45, 46, 47, 48, 49] rfl rfl rfl rfl (by decide) 0 5 rfl rfl rfl rfl rfl (Nat.le_of_ble_eq_true rfl) ⟨Nat.le_of_ble_eq_true rfl, Nat.le_of_ble_eq_true rfl⟩ ⟨Nat.zero_le _, Nat.zero_le _⟩ dX0_takeBack_36 (fun u36 H locs hr36 hW => ?_)
    have hW := Wd.ord hW (ws' := ([(h0, .inr (0, [.ref h1, .int (nI ol), .int (nI (sz - 1))])), (h1, .inl (T 4, 6, .inr (.inr (.inr (.inr (fun j => some (hd j 0)))))))] ++ ((blk T (hd 0) (hs 0)) ++ ((blk T (hd 1) (hs 1)) ++ ((blk T (hd 2) (hs 2)) ++ ((blk T (hd 3) (hs 3)) ++ ((blk T (hd 4) (hs 4)) ++ ((blk T (hd 5) (hs 5)) ++ ((blk T a (hs 4))))))))))) [0, 1, 2, 3, 4, 5, 6, 7, 8, 9, 10, 11, 12, 13, 14, 15, 16, 17, 18, 19, 20, 21, 22, 23, 24, 25, 26, 27, 28, 29, 30, 31, 32, 33, 50, 51, 52, 53, 54, 55, 56, 57, 34, 35, 36, 37, 38, 39, 40, 41, 42, 43, 44, 45, 46, 47, 48, 49] rfl rfl
    exact retV F hr hlk hW () trivial (by rw [← hi]) dX0_takeBack_39
  · refine aald F hW 1 4 rfl rfl (r := (hd 5) 0) ((ol + (sz - 1)) % 6) rfl (by omega) (by decide) (by rw [← hi]) dX0_takeBack_35 ?_
    refine cVV (As := [.ref ((hd 5) 0)]) (rest := []) (wr := ([(h0, .inr (0, [.ref h1, .int (nI ol), .int (nI (sz - 1))])), (h1, .inl (T 4, 6, .inr (.inr (.inr (.inr (fun j => some (hd j 0)))))))] ++ ((blk T (hd 0) (hs 0)) ++ ((blk T (hd 1) (hs 1)) ++ ((blk T (hd 2) (hs 2)) ++ ((blk T (hd 3) (hs 3)) ++ ((blk T (hd 4) (hs 4))))))))) F hW hl cs242 (c_stCopy l D T a (hd 5) f (hs 5) (hbo 5 (by decide))) [50, 51, 52, 53, 54, 55, 56, 57, 42, 43, 44, 45, 46, 47, 48, 49] [0, 1, 2, 3, 4, 5, 6, 7, 8, 9, 10, 11, 12, 13, 14, 15, 16, 17, 18, 19, 20, 21, 22, 23, 24, 25, 26, 27, 28, 29, 30, 31, 32, 33, 34, 35, 36, 37, 38, 39, 40, 41] rfl rfl rfl rfl (by decide) 0 5 rfl rfl rfl rfl rfl (Nat.le_of_ble_eq_true rfl) ⟨Nat.le_of_ble_eq_true rfl, Nat.le_of_ble_eq_true rfl⟩ ⟨Nat.zero_le _, Nat.zero_le _⟩ dX0_takeBack_36 (fun u36 H locs hr36 hW => ?_)
    have hW := Wd.ord hW (ws' := ([(h0, .inr (0, [.ref h1, .int (nI ol), .int (nI (sz - 1))])), (h1, .inl (T 4, 6, .inr (.inr (.inr (.inr (fun j => some (hd j 0)))))))] ++ ((blk T (hd 0) (hs 0)) ++ ((blk T (hd 1) (hs 1)) ++ ((blk T (hd 2) (hs 2)) ++ ((blk T (hd 3) (hs 3)) ++ ((blk T (hd 4) (hs 4)) ++ ((blk T (hd 5) (hs 5)) ++ ((blk T a (hs 5))))))))))) [0, 1, 2, 3, 4, 5, 6, 7, 8, 9, 10, 11, 12, 13, 14, 15, 16, 17, 18, 19, 20, 21, 22, 23, 24, 25, 26, 27, 28, 29, 30, 31, 32, 33, 34, 35, 36, 37, 38, 39, 40, 41, 50, 51, 52, 53, 54, 55, 56, 57, 42, 43, 44, 45, 46, 47, 48, 49] rfl rfl
    exact retV F hr hlk hW () trivial (by rw [← hi]) dX0_takeBack_39
end
section
-- looking ahead, as numbers
abbrev legM (P : Nat → Int32) (h : Nat) : Prop := P 27 = 0 ∧ nI (own h) = P 26 ∧ 0 < P h
def leadM (P : Nat → Int32) : Int32 := P (24 + (P 26).toNatClampNeg) - P (24 + (1 - (P 26).toNatClampNeg))
/-- the best house below n, with its worth: of several the first -/
def scanM (P : Nat → Int32) (v : Nat → Int32) : Nat → Option (Nat × Int32)
  | 0 => none
  | n + 1 => match scanM P v n with
    | none => if legM P n then some (n, v n) else none
    | some q => if legM P n ∧ q.2 < v n then some (n, v n) else some q
def gotM (q : Option (Nat × Int32)) : Int32 := match q with
  | none => -10000
  | some q => q.2
def houM (q : Option (Nat × Int32)) : Int32 := match q with
  | none => -6
  | some q => nI q.1
def valM : Nat → (Nat → Int32) → Int32
  | 0, P => leadM P
  | d + 1, P => if P 27 = 0 then gotM (scanM P (fun h => if mvM P h 26 = P 26 then valM d (mvM P h) else -(valM d (mvM P h))) 12) else leadM P
/-- the worth, for who moves, of the position behind a move -/
def vbM (d : Nat) (P : Nat → Int32) (h : Nat) : Int32 := if mvM P h 26 = P 26 then valM d (mvM P h) else -(valM d (mvM P h))
theorem valM_s (d : Nat) (P : Nat → Int32) : valM (d + 1) P = if P 27 = 0 then gotM (scanM P (vbM d P) 12) else leadM P := rfl
def Iv (S : Int) (P : Nat → Int32) : Prop := Jv S P 0 ∧ (∃ k, k < 2 ∧ P 26 = nI k) ∧ (P 27 = 0 ∨ P 27 = 1) ∧ (∃ mk, P 28 = nI mk ∧ mk ≤ 300 ∧ (P 27 = 0 → mk < 300)) ∧ (0 ≤ (P 36).toInt ∧ (P 36).toInt ≤ 20) ∧ 0 ≤ (P 37).toInt ∧ (P 27 = 0 → ∃ h, h < 12 ∧ legM P h)
theorem leg_pos {P : Nat → Int32} {h : Nat} (hl : legM P h) : 1 ≤ (P h).toInt := by
  have := (i_lt _ _).mp hl.2.2
  rw [i_0] at this
  omega
theorem gtM_hi (P : Nat → Int32) (t : Nat) {j : Nat} (hj : 28 ≤ j) : gtM P t j = P j := by
  unfold gtM
  split
  · rw [u_n (by omega)]
    unfold endsM
    rw [if_neg (by omega), if_neg (by omega), if_neg (by omega), if_neg (by omega)]
  · rw [u_n (by omega)]
theorem gtM_26 (P : Nat → Int32) {t : Nat} (ht : t < 2) : ∃ k, k < 2 ∧ gtM P t 26 = nI k := by
  unfold gtM
  split
  · exact ⟨t, ht, u_s _ _ _⟩
  · rw [u_s]
    split
    · exact ⟨1 - t, by omega, rfl⟩
    · exact ⟨t, ht, rfl⟩
theorem sm6 {S : Int} {P : Nat → Int32} (hJ : Jv S P 0) {t : Nat} (ht : t < 2) : (sm 0 P (6 * t) 6).toInt = si P (6 * t) 6 ∧ 0 ≤ si P (6 * t) 6 ∧ si P 0 6 + si P 6 6 + (P 24).toInt + (P 25).toInt = S ∧ S ≤ 2000 := by
  have n1 := si_nn (P := P) (b := 0) (n := 6) (fun j _ b => hJ.1 j (by omega))
  have n2 := si_nn (P := P) (b := 6) (n := 6) (fun j _ b => hJ.1 j (by omega))
  have sp := si_split P 0 6 6
  obtain ⟨a1, a2, a3, a4, a5, a6⟩ := hJ
  rw [show 6 + 6 = 12 from rfl, show 0 + 6 = 6 from rfl] at sp
  rcases (show t = 0 ∨ t = 1 by omega) with rfl | rfl
  · exact ⟨sm_si (fun j _ b => a1 j (by omega)) (by show si P 0 6 ≤ 2000; omega), n1, by omega, a6⟩
  · exact ⟨sm_si (fun j _ b => a1 j (by omega)) (by show si P 6 6 ≤ 2000; omega), n2, by omega, a6⟩
theorem si_pos {P : Nat → Int32} {b : Nat} : ∀ {n : Nat}, (∀ j, b ≤ j → j < b + n → 0 ≤ (P j).toInt) → ¬ si P b n = 0 → ∃ j, b ≤ j ∧ j < b + n ∧ 0 < (P j).toInt
  | 0, _, h => absurd rfl h
  | n + 1, hn, h => by
    by_cases q : si P b n = 0
    · refine ⟨b + n, by omega, by omega, ?_⟩
      have := hn (b + n) (by omega) (by omega)
      rw [si, q] at h
      omega
    · obtain ⟨j, h1, h2, h3⟩ := si_pos (n := n) (fun j a b => hn j a (by omega)) q
      exact ⟨j, h1, by omega, h3⟩
theorem gtM_Jv {S : Int} {P : Nat → Int32} {t : Nat} (hJ : Jv S P 0) : Jv S (gtM P t) 0 := by
  unfold gtM
  split
  · obtain ⟨e0, n0, e2, -⟩ := sm6 hJ (t := 0) (by decide)
    obtain ⟨e1, n1, -, -⟩ := sm6 hJ (t := 1) (by decide)
    rw [show 6 * 0 = 0 from rfl] at e0 n0
    rw [show 6 * 1 = 6 from rfl] at e1 n1
    obtain ⟨a1, a2, a3, a4, a5, a6⟩ := hJ
    have v24 : upd (endsM P) 26 (nI t) 24 = P 24 + sm 0 P 0 6 := by rw [u_n (by decide)]; show sm (P 24) P 0 6 = _; rw [sm_z]
    have v25 : upd (endsM P) 26 (nI t) 25 = P 25 + sm 0 P 6 6 := by rw [u_n (by decide)]; show sm (P 25) P 6 6 = _; rw [sm_z]
    have z24 : (P 24 + sm 0 P 0 6).toInt = (P 24).toInt + si P 0 6 := by rw [i_add (by rw [e0]; omega) (by rw [e0]; omega), e0]
    have z25 : (P 25 + sm 0 P 6 6).toInt = (P 25).toInt + si P 6 6 := by rw [i_add (by rw [e1]; omega) (by rw [e1]; omega), e1]
    have hz : ∀ n, n ≤ 12 → si (upd (endsM P) 26 (nI t)) 0 n = 0 := by
      intro n
      induction n with
      | zero => intro _; rfl
      | succ n ih =>
        intro hn
        rw [si, ih (by omega), ends_lo (by omega), i_0]
        rfl
    refine ⟨fun j hj => by rw [ends_lo hj, i_0]; omega, by rw [v24, z24]; omega, by rw [v25, z25]; omega, by omega, ?_, a6⟩
    rw [hz 12 (Nat.le_refl _), v24, v25, z24, z25]
    omega
  · exact hJ.o (fun j hj => u_n (by omega)) (u_n (by decide)) (u_n (by decide))
theorem gtM_27 {P : Nat → Int32} {t : Nat} (h27 : P 27 = 0) : (decP P → gtM P t 27 = 1) ∧ (¬ decP P → gtM P t 27 = 0) := by
  refine ⟨fun h => by rw [gt_y h, u_n (by decide)]; rfl, fun h => by rw [gt_n h, u_n (by decide), h27]⟩
theorem gtM_leg {S : Int} {P : Nat → Int32} {t : Nat} (hJ : Jv S P 0) (ht : t < 2) (h27 : P 27 = 0) (hd : ¬ decP P) : ∃ h, h < 12 ∧ legM (gtM P t) h := by
  have hn : ¬ sm 0 P 0 6 + sm 0 P 6 6 = 0 := fun q => hd (Or.inl q)
  obtain ⟨e0, n0, e2, -⟩ := sm6 hJ (t := 0) (by decide)
  obtain ⟨e1, n1, -, -⟩ := sm6 hJ (t := 1) (by decide)
  rw [show 6 * 0 = 0 from rfl] at e0 n0
  rw [show 6 * 1 = 6 from rfl] at e1 n1
  have key : ∀ t2, t2 < 2 → ¬ sm 0 P (6 * t2) 6 = 0 → gtM P t 26 = nI t2 → ∃ h, h < 12 ∧ legM (gtM P t) h := by
    intro t2 ht2 hs hg
    obtain ⟨z1, z2, -, -⟩ := sm6 hJ ht2
    obtain ⟨j, j1, j2, j3⟩ := si_pos (P := P) (b := 6 * t2) (n := 6) (fun j a b => hJ.1 j (by omega)) (fun q => hs ((i_eq _ _).mpr (by rw [z1, q, i_0])))
    refine ⟨j, by omega, (gtM_27 h27).2 hd, ?_, ?_⟩
    · rw [hg, show own j = t2 by unfold own; omega]
    · rw [gt_n hd, u_n (by omega), i_lt, i_0]; exact j3
  by_cases q : sm 0 P (6 * t) 6 = 0
  · refine key (1 - t) (by omega) ?_ (by rw [gt_n hd, u_s, if_pos q])
    intro q2
    apply hn
    rcases (show t = 0 ∨ t = 1 by omega) with rfl | rfl
    · rw [show 6 * 0 = 0 from rfl] at q
      rw [show 6 * (1 - 0) = 6 from rfl] at q2
      rw [q, q2]; rfl
    · rw [show 6 * 1 = 6 from rfl] at q
      rw [show 6 * (1 - 1) = 0 from rfl] at q2
      rw [q, q2]; rfl
  · exact key t ht q (by rw [gt_n hd, u_s, if_neg q])
theorem Iv.mv {S : Int} {P : Nat → Int32} (hI : Iv S P) {h : Nat} (hh : h < 12) (hl : legM P h) : Iv S (mvM P h) ∧ ∃ k, k < 2 ∧ P 26 = nI k ∧ mvM P h = gtM (mvB P h k) (1 - k) := by
  obtain ⟨hJ, ⟨k, hk, h26⟩, h27, ⟨mk, h28, hm1, hm2⟩, h36, h37, -⟩ := hI
  have e := mvM_gt hk hh hJ h37 (leg_pos hl) h26 hl.1 h28 (hm2 hl.1)
  have hB := mvB_J hk hh hJ h37 (leg_pos hl)
  have b27 : mvB P h k 27 = 0 := by rw [mvB_o _ (by decide) (by decide) (by decide), mvA_o P hk hh (by decide) (by decide), hl.1]
  have b28 : mvB P h k 28 = nI (mk + 1) := by rw [mvB_28 P hk hh, h28, nI_1]
  have bo : ∀ j, 34 ≤ j → mvB P h k j = P j := fun j hj => by rw [mvB_o _ (by omega) (by omega) (by omega), mvA_o P hk hh (by omega) (Or.inr hj)]
  have hm := hm2 hl.1
  refine ⟨?_, k, hk, h26, e⟩
  rw [e]
  refine ⟨gtM_Jv hB, gtM_26 _ (by omega), ?_, ⟨mk + 1, by rw [gtM_hi _ _ (by decide), b28], by omega, ?_⟩, ?_, ?_, ?_⟩
  · by_cases hd : decP (mvB P h k)
    · exact Or.inr ((gtM_27 b27).1 hd)
    · exact Or.inl ((gtM_27 b27).2 hd)
  · intro hz
    rcases Nat.lt_or_ge (mk + 1) 300 with q | q
    · exact q
    · exfalso
      have hd : decP (mvB P h k) := Or.inr (Or.inl (by rw [b28, show mk + 1 = 300 by omega]; exact Int32.le_refl _))
      rw [(gtM_27 b27).1 hd] at hz
      exact absurd hz (by decide)
  · rw [gtM_hi _ _ (by decide), bo _ (by decide)]; exact h36
  · rw [gtM_hi _ _ (by decide), bo _ (by decide)]; exact h37
  · intro hz
    by_cases hd : decP (mvB P h k)
    · rw [(gtM_27 b27).1 hd] at hz
      exact absurd hz (by decide)
    · exact gtM_leg hB (by omega) b27 hd
theorem mvM_set {S : Int} {P : Nat → Int32} (hI : Iv S P) {h : Nat} (hh : h < 12) (hl : legM P h) {j : Nat} (hj : 34 ≤ j) : mvM P h j = P j := by
  obtain ⟨-, k, hk, h26, e⟩ := hI.mv hh hl
  rw [e, gtM_hi _ _ (by omega), mvB_o _ (by omega) (by omega) (by omega), mvA_o P hk hh (by omega) (Or.inr hj)]
theorem leadM_b {S : Int} {P : Nat → Int32} (hI : Iv S P) : -2000 ≤ (leadM P).toInt ∧ (leadM P).toInt ≤ 2000 := by
  obtain ⟨hJ, ⟨k, hk, h26⟩, -⟩ := hI
  unfold leadM
  rw [h26, nI_clamp (by omega)]
  have h1 := hJ.store hk
  have h2 := hJ.store (show 1 - k < 2 by omega)
  rw [i_sub (by omega) (by omega)]
  omega
theorem scan_b {P v : Nat → Int32} (hv : ∀ h, h < 12 → legM P h → -2000 ≤ (v h).toInt ∧ (v h).toInt ≤ 2000) : ∀ n, n ≤ 12 → ∀ q, scanM P v n = some q → q.1 < n ∧ legM P q.1 ∧ q.2 = v q.1 := by
  intro n
  induction n with
  | zero => intro _ q h; cases h
  | succ n ih =>
    intro hn q h
    rw [scanM] at h
    cases hs : scanM P v n with
    | none =>
      rw [hs] at h
      dsimp only at h
      by_cases hl : legM P n
      · rw [if_pos hl] at h
        cases h
        exact ⟨by omega, hl, rfl⟩
      · rw [if_neg hl] at h
        cases h
    | some q2 =>
      rw [hs] at h
      dsimp only at h
      by_cases hl : legM P n ∧ q2.2 < v n
      · rw [if_pos hl] at h
        cases h
        exact ⟨by omega, hl.1, rfl⟩
      · rw [if_neg hl] at h
        have e := Option.some.inj h
        obtain ⟨a1, a2, a3⟩ := ih (by omega) q2 hs
        rw [← e]
        exact ⟨by omega, a2, a3⟩
theorem scan_some {P v : Nat → Int32} : ∀ n h, h < n → legM P h → ∃ q, scanM P v n = some q
  | 0, h, hh, _ => absurd hh (Nat.not_lt_zero h)
  | n + 1, h, hh, hl => by
    rw [scanM]
    cases hs : scanM P v n with
    | none =>
      dsimp only
      rcases Nat.lt_or_ge h n with q | q
      · obtain ⟨z, hz⟩ := scan_some n h q hl
        rw [hs] at hz
        cases hz
      · rw [show n = h by omega, if_pos hl]
        exact ⟨_, rfl⟩
    | some q2 =>
      dsimp only
      split
      · exact ⟨_, rfl⟩
      · exact ⟨_, rfl⟩
theorem valM_b {S : Int} : ∀ (d : Nat) (P : Nat → Int32), Iv S P → -2000 ≤ (valM d P).toInt ∧ (valM d P).toInt ≤ 2000
  | 0, P, hI => leadM_b hI
  | d + 1, P, hI => by
    rw [valM_s]
    by_cases h27 : P 27 = 0
    · rw [if_pos h27]
      have hv : ∀ h, h < 12 → legM P h → -2000 ≤ (vbM d P h).toInt ∧ (vbM d P h).toInt ≤ 2000 := by
        intro h hh hl
        have hb := valM_b d (mvM P h) (hI.mv hh hl).1
        unfold vbM
        split
        · exact hb
        · rw [i_neg (by omega)]; omega
      obtain ⟨h, hh, hl⟩ := hI.2.2.2.2.2.2 h27
      obtain ⟨q, hq⟩ := scan_some (v := vbM d P) 12 h hh hl
      obtain ⟨b1, b2, b3⟩ := scan_b hv 12 (Nat.le_refl _) q hq
      rw [hq]
      show -2000 ≤ q.2.toInt ∧ q.2.toInt ≤ 2000
      rw [b3]
      exact hv _ b1 b2
    · rw [if_neg h27]
      exact leadM_b hI
theorem vbM_b {S : Int} {P : Nat → Int32} (hI : Iv S P) (d : Nat) {h : Nat} (hh : h < 12) (hl : legM P h) : -2000 ≤ (vbM d P h).toInt ∧ (vbM d P h).toInt ≤ 2000 := by
  have hb := valM_b d (mvM P h) (hI.mv hh hl).1
  unfold vbM
  split
  · exact hb
  · rw [i_neg (by omega)]; omega
theorem i_m10 : (-10000 : Int32).toInt = -10000 := by decide
/-- the class's own way: the greatest so far, from -10000 on -/
theorem got_step {P v : Nat → Int32} {n : Nat} (hn : n < 12) (hv : ∀ h, h < 12 → legM P h → -2000 ≤ (v h).toInt ∧ (v h).toInt ≤ 2000) (hl : legM P n) : (if gotM (scanM P v n) < v n then v n else gotM (scanM P v n)) = gotM (scanM P v (n + 1)) := by
  rw [scanM]
  cases hs : scanM P v n with
  | none =>
    dsimp only
    rw [if_pos hl]
    refine if_pos ?_
    show (-10000 : Int32) < v n
    have := hv n hn hl
    rw [i_lt, i_m10]
    omega
  | some q =>
    dsimp only
    by_cases hq : q.2 < v n
    · have e : (if legM P n ∧ q.2 < v n then some (n, v n) else some q) = some (n, v n) := if_pos ⟨hl, hq⟩
      rw [e]
      exact if_pos hq
    · have e : (if legM P n ∧ q.2 < v n then some (n, v n) else some q) = some q := if_neg (fun z => hq z.2)
      rw [e]
      exact if_neg hq
theorem got_skip {P v : Nat → Int32} {n : Nat} (hl : ¬ legM P n) : scanM P v (n + 1) = scanM P v n := by
  rw [scanM]
  cases hs : scanM P v n with
  | none => dsimp only; rw [if_neg hl]
  | some q => dsimp only; rw [if_neg (fun z => hl z.1)]
theorem best_yes {P v : Nat → Int32} {n : Nat} (hl : legM P n) (h : gotM (scanM P v n) < v n) : scanM P v (n + 1) = some (n, v n) := by
  rw [scanM]
  cases hs : scanM P v n with
  | none => dsimp only; rw [if_pos hl]
  | some q =>
    rw [hs] at h
    exact if_pos ⟨hl, h⟩
theorem best_no {P v : Nat → Int32} {n : Nat} (hn : n < 12) (hv : ∀ h, h < 12 → legM P h → -2000 ≤ (v h).toInt ∧ (v h).toInt ≤ 2000) (hl : legM P n) (h : ¬ gotM (scanM P v n) < v n) : scanM P v (n + 1) = scanM P v n := by
  rw [scanM]
  cases hs : scanM P v n with
  | none =>
    rw [hs] at h
    have := hv n hn hl
    exact absurd (show (-10000 : Int32) < v n by rw [i_lt, i_m10]; omega) h
  | some q =>
    rw [hs] at h
    exact if_neg (fun z => h z.2)
end
section
-- Lookahead
section VMAX
variable {p : Program} {l : Launch} {e : Env} {R : Room} {s : State} {m : MethodId} {args : Array Value} {below : List Frame} {meth : Method} {c : Code} {H : Heap} {locs : List Loc} {cells slots : Nat} {Q : State → Prop} {cc : ByteArray} {nL : Nat} {own : String} {pc : Nat} {ls : Array Slot} {rest : List Value} {lv : List (Nat × Value)}
theorem vmax (F : CallFix p m c cc nL s args gtbl own) (hl : lv_has ls nL lv) {idx : Nat} (hlink : Cond.methodLink own idx ⟨"java/lang/Math", "max", "(II)I"⟩ ∈ gtbl) (hframes : 1 ≤ R.frames) (hlocals : (rest.map fun v => v.category).sum + 13 ≤ R.locals) (hcs : cells ≤ R.cells ∧ slots ≤ R.slots) {x y z : Int32} (hz : (if x < y then y else x) = z) (hdg : decode cc pc = .ok (.invokestatic idx, 3))
    (kk : W p l e R s m args below meth c H locs cells slots Q (F0 m (pc + 3) ls (.int z :: rest))) : W p l e R s m args below meth c H locs cells slots Q (F0 m pc ls (.int y :: .int x :: rest)) := by
  subst hz
  exact va_mmax F.1 F.2.1 (by rw [F.2.2.1]; exact hl.1.symm) F.2.2.2.1 (F.2.2.2.2 _ hlink) (F.2.2.2.2 _ m347) (F.2.2.2.2 _ m33) (F.2.2.2.2 _ m348) hframes hlocals hcs.1 hcs.2 hdg kk
end VMAX
/-- the four cells of a Position -/
abbrev pblk (T : Nat → ClassId) (a : Nat → Nat) (f : Nat → Int32) : va_W := [(a 0, .inr (3, [.ref (a 1), .ref (a 2), .ref (a 3), .int (f 26), .int (f 27), .int (f 28)])), (a 1, .inl (T 0, 12, .inl (fun j => f j))), (a 2, .inl (T 0, 12, .inl (fun j => f (12 + j)))), (a 3, .inl (T 0, 2, .inl (fun j => f (24 + j))))]
theorem c_makeMoveP (l : Launch) (D : va_G) (T : Nat → ClassId) (q0 q1 q2 q3 q4 q5 : Nat) {pl : Nat} (hpl : pl < 2) (px : Int32) (hpx : px = nI pl) (ov mv : Int32) (sd vs so E : Nat → Int32) (x0 x1 x2 x3 x4 : Int32) (P : Nat → Int32) (hA : Agr P sd vs so) (hov : ov = P 27) (hmv : mv = P 28) (hE : ∀ j, j < 4 → E j = P (34 + j)) {fr : Nat} (hfr : fr < 12) {S : Int} (hJ : Jv S P 0) (h36 : 0 ≤ (P 36).toInt ∧ (P 36).toInt ≤ 20) (ht : 0 ≤ (P 37).toInt) (h0 : 1 ≤ (P fr).toInt) (h26 : P 26 = nI pl) (h27 : P 27 = 0) {mk : Nat} (h28 : P 28 = nI mk) (hmk : mk < 300) : KV (S := Unit) l D T yX3_makeMove cX3_makeMove 6 3 [.ref q0, .int (nI fr), .ref q4, .ref q5] [(q0, .inr (3, [.ref q1, .ref q2, .ref q3, .int px, .int ov, .int mv])), (q1, .inl (T 0, 12, .inl sd)), (q2, .inl (T 0, 12, .inl vs)), (q3, .inl (T 0, 2, .inl so)), (q4, .inl (T 0, 4, .inl E)), (q5, .inr (4, [.int x0, .int x1, .int x2, .int x3, .int x4]))] (fun _ => True) (fun u => [(q0, .inr (3, [.ref q1, .ref q2, .ref q3, .int ((mvM P fr) 26), .int ((mvM P fr) 27), .int ((mvM P fr) 28)])), (q1, .inl (T 0, 12, .inl (fun j => (mvM P fr) j))), (q2, .inl (T 0, 12, .inl (fun j => (mvM P fr) (12 + j)))), (q3, .inl (T 0, 2, .inl (fun j => (mvM P fr) (24 + j)))), (q4, .inl (T 0, 4, .inl E)), (q5, .inr (4, [.int ((mvM P fr) 29), .int ((mvM P fr) 30), .int ((mvM P fr) 31), .int ((mvM P fr) 32), .int ((mvM P fr) 33)]))]) := by
  subst hpx
  exact c_makeMove l D T q0 q1 q2 q3 q4 q5 hpl ov mv sd vs so E x0 x1 x2 x3 x4 P hA hov hmv hE hfr hJ h36 ht h0 h26 h27 h28 hmk
theorem c_leadP (l : Launch) (D : va_G) (T : Nat → ClassId) (q0 q1 q2 q3 : Nat) {k : Nat} (hk : k < 2) (px ov mv : Int32) (hpx : px = nI k) (so : Nat → Int32) : KR l D T yX3_lead cX3_lead 1 (some .int) 0 [.ref q0] [(q0, .inr (3, [.ref q1, .ref q2, .ref q3, .int px, .int ov, .int mv])), (q3, .inl (T 0, 2, .inl so))] (fun r => r = so k - so (1 - k)) := by
  subst hpx
  exact c_lead l D T q0 q1 q2 q3 hk ov mv so
theorem scan_0 (P v : Nat → Int32) : scanM P v 0 = none := rfl
theorem got_0 : gotM none = -10000 := rfl
theorem hou_0 : houM none = -6 := rfl
theorem got_s (n : Nat) (x : Int32) : gotM (some (n, x)) = x := rfl
theorem hou_s (n : Nat) (x : Int32) : houM (some (n, x)) = nI n := rfl
theorem lead_eq {P : Nat → Int32} {k : Nat} (hk : k < 2) (h26 : P 26 = nI k) : leadM P = P (24 + k) - P (24 + (1 - k)) := by
  unfold leadM
  rw [h26, nI_clamp (by omega)]
set_option maxHeartbeats 4000000 in
set_option maxRecDepth 100000 in
theorem c_valueOf0 (l : Launch) (D : va_G) (T : Nat → ClassId) (l0 tr rp bh q4 : Nat) (bd : Nat → Nat → Nat) (q : Nat → Nat) (bs : Nat → Nat → Int32) (rv E P : Nat → Int32) {S : Int} (hI : Iv S P) (hE : ∀ j, j < 4 → E j = P (34 + j)) : KI (S := (Nat → Nat → Int32) × (Nat → Int32)) l D T yX1_valueOf cX1_valueOf 6 (some .int) 1 [.ref l0, .ref (q 0), .ref q4, .int (nI 0)] ([(l0, .inr (1, [.ref tr, .ref rp, .ref bh])), (rp, .inr (4, [.int (rv 0), .int (rv 1), .int (rv 2), .int (rv 3), .int (rv 4)])), (bh, .inl (T 3, 5, .inr (.inr (.inr (.inr (fun j => some (bd j 0)))))))] ++ ((pblk T q P) ++ ([(q4, .inl (T 0, 4, .inl E))]))) (fun r _ => r = valM 0 P) (fun u => ([(l0, .inr (1, [.ref tr, .ref rp, .ref bh])), (rp, .inr (4, [.int (u.2 0), .int (u.2 1), .int (u.2 2), .int (u.2 3), .int (u.2 4)])), (bh, .inl (T 3, 5, .inr (.inr (.inr (.inr (fun j => some (bd j 0)))))))] ++ ((pblk T q P) ++ ([(q4, .inl (T 0, 4, .inl E))])))) := by
  refine KI.of (by decide +kernel) (Nat.le_of_ble_eq_true rfl) (fun p e s m below meth c A F hr hlk hW ls hl => ?_)
  have hx := F.1
  have hb := F.2.1
  have hl : lv_has ls 6 [(0, .ref l0), (1, .ref (q 0)), (2, .ref q4), (3, .int (nI 0))] := hl
  obtain ⟨hJ, ⟨k, hk, h26⟩, hov, ⟨mk, h28, hm1, hm2⟩, h36, h37, hex⟩ := id hI
  refine lv_aload_n hx hb dX1_valueOf_0 rfl (lv_at hl 1 rfl) ?_
  refine gf63 F hW 3 rfl rfl dX1_valueOf_1 ?_
  refine lv_if_ne (tgt := 11) hx hb dX1_valueOf_4 (by decide) (fun h4 => ?_) (fun h4 => ?_)
  · refine lv_aload_n hx hb dX1_valueOf_11 rfl (lv_at hl 1 rfl) ?_
    refine cRV (As := []) (rest := []) F hW hl cs336 (c_leadP l D T (q 0) (q 1) (q 2) (q 3) hk (P 26) (P 27) (P 28) h26 (fun j => P (24 + j))) [3, 6] rfl rfl 0 3 rfl rfl rfl rfl rfl (Nat.le_of_ble_eq_true rfl) ⟨Nat.le_of_ble_eq_true rfl, Nat.le_of_ble_eq_true rfl⟩ ⟨Nat.zero_le _, Nat.zero_le _⟩ dX1_valueOf_12 (fun r12 hr12 => ?_)
    subst hr12
    exact retI F hr hlk rfl hW (bs, rv) (by rw [valM, lead_eq hk h26]) rfl dX1_valueOf_15
  · refine lv_iload_n hx hb dX1_valueOf_7 rfl (lv_at hl 3 rfl) ?_
    refine lv_if_gt (tgt := 16) hx hb dX1_valueOf_8 (by decide) (fun h9 => absurd h9 (by decide)) (fun _ => ?_)
    refine lv_aload_n hx hb dX1_valueOf_11 rfl (lv_at hl 1 rfl) ?_
    refine cRV (As := []) (rest := []) F hW hl cs336 (c_leadP l D T (q 0) (q 1) (q 2) (q 3) hk (P 26) (P 27) (P 28) h26 (fun j => P (24 + j))) [3, 6] rfl rfl 0 3 rfl rfl rfl rfl rfl (Nat.le_of_ble_eq_true rfl) ⟨Nat.le_of_ble_eq_true rfl, Nat.le_of_ble_eq_true rfl⟩ ⟨Nat.zero_le _, Nat.zero_le _⟩ dX1_valueOf_12 (fun r12 hr12 => ?_)
    subst hr12
    exact retI F hr hlk rfl hW (bs, rv) (by rw [valM, lead_eq hk h26]) rfl dX1_valueOf_15
set_option maxHeartbeats 4000000 in
set_option maxRecDepth 100000 in
theorem c_valueBehind1 (l : Launch) (D : va_G) (T : Nat → ClassId) (l0 tr rp bh q4 : Nat) (bd : Nat → Nat → Nat) (q : Nat → Nat) (bs : Nat → Nat → Int32) (rv E P : Nat → Int32) {S : Int} (hI : Iv S P) (hE : ∀ j, j < 4 → E j = P (34 + j)) {h : Nat} (hh : h < 12) (hleg : legM P h) : KI (S := (Nat → Nat → Int32) × (Nat → Int32)) l D T yX1_valueBehind cX1_valueBehind 7 (some .int) 4 [.ref l0, .ref (q 0), .int (nI h), .ref q4, .int (nI 1)] ([(l0, .inr (1, [.ref tr, .ref rp, .ref bh])), (rp, .inr (4, [.int (rv 0), .int (rv 1), .int (rv 2), .int (rv 3), .int (rv 4)])), (bh, .inl (T 3, 5, .inr (.inr (.inr (.inr (fun j => some (bd j 0)))))))] ++ ((pblk T (bd 1) (bs 1)) ++ ((pblk T q P) ++ ([(q4, .inl (T 0, 4, .inl E))])))) (fun r _ => r = vbM 0 P h) (fun u => ([(l0, .inr (1, [.ref tr, .ref rp, .ref bh])), (rp, .inr (4, [.int (u.2 0), .int (u.2 1), .int (u.2 2), .int (u.2 3), .int (u.2 4)])), (bh, .inl (T 3, 5, .inr (.inr (.inr (.inr (fun j => some (bd j 0)))))))] ++ ((pblk T (bd 1) (u.1 1)) ++ ((pblk T q P) ++ ([(q4, .inl (T 0, 4, .inl E))]))))) := by
  refine KI.of (by decide +kernel) (Nat.le_of_ble_eq_true rfl) (fun p e s m below meth c A F hr hlk hW ls hl => ?_)
  have hx := F.1
  have hb := F.2.1
  have hl : lv_has ls 7 [(0, .ref l0), (1, .ref (q 0)), (2, .int (nI h)), (3, .ref q4), (4, .int (nI 1))] := hl
  obtain ⟨hJ, ⟨k, hk, h26⟩, hov, ⟨mk, h28, hm1, hm2⟩, h36, h37, hex⟩ := id hI
  have hI2 := (hI.mv hh hleg).1
  refine lv_iload hx hb dX1_valueBehind_0 (lv_at hl 4 rfl) ?_
  refine lv_iconst (v := nI 1) hx hb dX1_valueBehind_2 (by decide) ?_
  refine lv_icmp_lt (tgt := 12) hx hb dX1_valueBehind_3 (by decide) (fun h9 => absurd h9 (by decide)) (fun _ => ?_)
  refine lv_iload hx hb dX1_valueBehind_6 (lv_at hl 4 rfl) ?_
  refine lv_iconst (v := nI 4) hx hb dX1_valueBehind_8 (by decide) ?_
  refine lv_icmp_le (tgt := 17) hx hb dX1_valueBehind_9 (by decide) (fun _ => ?_) (fun h9 => absurd (by decide) h9)
  have hset : ∀ j, 34 ≤ j → mvM P h j = P j := fun j hj => mvM_set hI hh hleg hj
  refine lv_aload_n hx hb dX1_valueBehind_17 rfl (lv_at hl 0 rfl) ?_
  refine gf195 F hW 0 rfl rfl dX1_valueBehind_18 ?_
  refine lv_iload hx hb dX1_valueBehind_21 (lv_at hl 4 rfl) ?_
  refine aald F hW 2 3 rfl rfl (r := (bd 1) 0) 1 rfl (by omega) (by decide) rfl dX1_valueBehind_23 ?_
  refine lv_astore (lv' := [(5, .ref ((bd 1) 0)), (0, .ref l0), (1, .ref (q 0)), (2, .int (nI h)), (3, .ref q4), (4, .int (nI 1))]) hx hb dX1_valueBehind_24 hl (by decide) rfl (fun ls hl => ?_)
  refine lv_aload hx hb dX1_valueBehind_26 (lv_at hl 0 rfl) ?_
  refine lv_aload_n hx hb dX1_valueBehind_28 rfl (lv_at hl 2 rfl) ?_
  refine cVV (As := [.ref (q 0)]) (rest := []) (wr := [(l0, .inr (1, [.ref tr, .ref rp, .ref bh])), (rp, .inr (4, [.int (rv 0), .int (rv 1), .int (rv 2), .int (rv 3), .int (rv 4)])), (bh, .inl (T 3, 5, .inr (.inr (.inr (.inr (fun j => some (bd j 0))))))), (q4, .inl (T 0, 4, .inl E))]) F hW hl cs340 (c_posCopy l D T ((bd 1) 0) ((bd 1) 1) ((bd 1) 2) ((bd 1) 3) (q 0) (q 1) (q 2) (q 3) ((bs 1) 26) ((bs 1) 27) ((bs 1) 28) (P 26) (P 27) (P 28) (fun j => (bs 1) j) (fun j => (bs 1) (12 + j)) (fun j => (bs 1) (24 + j)) (fun j => P j) (fun j => P (12 + j)) (fun j => P (24 + j)) hov) [3, 4, 5, 6, 7, 8, 9, 10] [0, 1, 2, 11] rfl rfl rfl rfl (by decide) 0 3 rfl rfl rfl rfl rfl (Nat.le_of_ble_eq_true rfl) ⟨Nat.le_of_ble_eq_true rfl, Nat.le_of_ble_eq_true rfl⟩ ⟨Nat.zero_le _, Nat.zero_le _⟩ dX1_valueBehind_29 (fun u29 H locs hr29 hW => ?_)
  have hW := Wd.ord hW (ws' := ([(l0, .inr (1, [.ref tr, .ref rp, .ref bh])), (rp, .inr (4, [.int (rv 0), .int (rv 1), .int (rv 2), .int (rv 3), .int (rv 4)])), (bh, .inl (T 3, 5, .inr (.inr (.inr (.inr (fun j => some (bd j 0))))))), ((bd 1) 0, .inr (3, [.ref ((bd 1) 1), .ref ((bd 1) 2), .ref ((bd 1) 3), .int (P 26), .int (P 27), .int (P 28)])), ((bd 1) 1, .inl (T 0, 12, .inl (fun j => P j))), ((bd 1) 2, .inl (T 0, 12, .inl (fun j => P (12 + j)))), ((bd 1) 3, .inl (T 0, 2, .inl (fun j => P (24 + j))))] ++ ((pblk T q P) ++ ([(q4, .inl (T 0, 4, .inl E))])))) [0, 1, 2, 4, 5, 6, 7, 8, 9, 10, 11, 3] rfl rfl
  refine lv_aload hx hb dX1_valueBehind_32 (lv_at hl 0 rfl) ?_
  refine lv_iload_n hx hb dX1_valueBehind_34 rfl (lv_at hl 3 rfl) ?_
  refine lv_aload_n hx hb dX1_valueBehind_35 rfl (lv_at hl 4 rfl) ?_
  refine lv_aload_n hx hb dX1_valueBehind_36 rfl (lv_at hl 1 rfl) ?_
  refine gf193 F hW 0 rfl rfl dX1_valueBehind_37 ?_
  refine cVV (As := [.int (nI h), .ref q4, .ref rp]) (rest := []) (wr := ([(l0, .inr (1, [.ref tr, .ref rp, .ref bh])), (bh, .inl (T 3, 5, .inr (.inr (.inr (.inr (fun j => some (bd j 0)))))))] ++ ((pblk T q P)))) F hW hl cs341 (c_makeMoveP l D T ((bd 1) 0) ((bd 1) 1) ((bd 1) 2) ((bd 1) 3) q4 rp (pl := k) hk (P 26) h26 (P 27) (P 28) (fun j => P j) (fun j => P (12 + j)) (fun j => P (24 + j)) E (rv 0) (rv 1) (rv 2) (rv 3) (rv 4) P ⟨fun _ _ => rfl, fun _ _ => rfl, fun _ _ => rfl⟩ rfl rfl hE (fr := h) hh hJ h36 h37 (leg_pos hleg) h26 hleg.1 h28 (hm2 hleg.1)) [3, 4, 5, 6, 11, 1] [0, 2, 7, 8, 9, 10] rfl rfl rfl rfl (by decide) 0 3 rfl rfl rfl rfl rfl (Nat.le_of_ble_eq_true rfl) ⟨Nat.le_of_ble_eq_true rfl, Nat.le_of_ble_eq_true rfl⟩ ⟨Nat.zero_le _, Nat.zero_le _⟩ dX1_valueBehind_40 (fun u40 H locs hr40 hW => ?_)
  have hW := Wd.ord hW (ws' := ([(l0, .inr (1, [.ref tr, .ref rp, .ref bh])), (rp, .inr (4, [.int ((mvM P h) 29), .int ((mvM P h) 30), .int ((mvM P h) 31), .int ((mvM P h) 32), .int ((mvM P h) 33)])), (bh, .inl (T 3, 5, .inr (.inr (.inr (.inr (fun j => some (bd j 0))))))), ((bd 1) 0, .inr (3, [.ref ((bd 1) 1), .ref ((bd 1) 2), .ref ((bd 1) 3), .int ((mvM P h) 26), .int ((mvM P h) 27), .int ((mvM P h) 28)])), ((bd 1) 1, .inl (T 0, 12, .inl (fun j => (mvM P h) j))), ((bd 1) 2, .inl (T 0, 12, .inl (fun j => (mvM P h) (12 + j)))), ((bd 1) 3, .inl (T 0, 2, .inl (fun j => (mvM P h) (24 + j))))] ++ ((pblk T q P) ++ ([(q4, .inl (T 0, 4, .inl E))])))) [0, 11, 1, 6, 7, 8, 9, 2, 3, 4, 5, 10] rfl rfl
  obtain ⟨z, hz⟩ : ∃ z, mvM P h = z := ⟨_, rfl⟩
  rw [hz] at hW hI2 hset
  refine lv_aload_n hx hb dX1_valueBehind_43 rfl (lv_at hl 1 rfl) ?_
  refine lv_aload hx hb dX1_valueBehind_44 (lv_at hl 0 rfl) ?_
  refine lv_aload_n hx hb dX1_valueBehind_46 rfl (lv_at hl 4 rfl) ?_
  refine lv_iload hx hb dX1_valueBehind_47 (lv_at hl 5 rfl) ?_
  refine lv_iconst (v := nI 1) hx hb dX1_valueBehind_49 (by decide) ?_
  refine isubE (z := nI 0) hx hb dX1_valueBehind_50 (by decide) ?_
  refine cIV (As := [.ref ((bd 1) 0), .ref q4, .int (nI 0)]) (rest := []) (wr := (pblk T q P)) F hW hl cs342 (c_valueOf0 l D T l0 tr rp bh q4 bd (bd 1) bs (fun j => z (29 + j)) E z hI2 (fun j hj => (hE j hj).trans (hset (34 + j) (by omega)).symm)) [0, 1, 2, 3, 4, 5, 6, 11] [7, 8, 9, 10] rfl rfl rfl rfl (by decide) 0 1 rfl rfl rfl rfl rfl (Nat.le_of_ble_eq_true rfl) ⟨Nat.le_of_ble_eq_true rfl, Nat.le_of_ble_eq_true rfl⟩ ⟨Nat.zero_le _, Nat.zero_le _⟩ dX1_valueBehind_51 (fun r51 u51 H locs hr51 hW => ?_)
  have hW := Wd.ord hW (ws' := ([(l0, .inr (1, [.ref tr, .ref rp, .ref bh])), (rp, .inr (4, [.int (u51.2 0), .int (u51.2 1), .int (u51.2 2), .int (u51.2 3), .int (u51.2 4)])), (bh, .inl (T 3, 5, .inr (.inr (.inr (.inr (fun j => some (bd j 0)))))))] ++ ((pblk T (bd 1) z) ++ ((pblk T q P) ++ ([(q4, .inl (T 0, 4, .inl E))]))))) [4, 5, 6, 7, 8, 9, 10, 0, 1, 2, 3, 11] rfl rfl
  subst hr51
  refine lv_istore (lv' := [(6, .int (valM 0 z)), (5, .ref ((bd 1) 0)), (0, .ref l0), (1, .ref (q 0)), (2, .int (nI h)), (3, .ref q4), (4, .int (nI 1))]) hx hb dX1_valueBehind_54 hl (by decide) rfl (fun ls hl => ?_)
  refine lv_aload hx hb dX1_valueBehind_56 (lv_at hl 1 rfl) ?_
  refine gf61 F hW 3 rfl rfl dX1_valueBehind_58 ?_
  refine lv_aload_n hx hb dX1_valueBehind_61 rfl (lv_at hl 3 rfl) ?_
  refine gf61 F hW 7 rfl rfl dX1_valueBehind_62 ?_
  refine lv_icmp_ne (tgt := 73) hx hb dX1_valueBehind_65 (by decide) (fun h65 => ?_) (fun h65 => ?_)
  · refine lv_iload hx hb dX1_valueBehind_73 (lv_at hl 0 rfl) ?_
    refine lv_ineg hx hb dX1_valueBehind_75 ?_
    exact retI F hr hlk rfl hW (fun j => if j = 1 then z else u51.1 j, u51.2) (by unfold vbM; rw [hz, if_neg h65]) rfl dX1_valueBehind_76
  · refine lv_iload hx hb dX1_valueBehind_68 (lv_at hl 0 rfl) ?_
    refine lv_goto (tgt := 76) hx hb dX1_valueBehind_70 (by decide) ?_
    exact retI F hr hlk rfl hW (fun j => if j = 1 then z else u51.1 j, u51.2) (by unfold vbM; rw [hz, if_pos h65]) rfl dX1_valueBehind_76
set_option maxHeartbeats 4000000 in
set_option maxRecDepth 100000 in
theorem c_valueOf1 (l : Launch) (D : va_G) (T : Nat → ClassId) (l0 tr rp bh q4 : Nat) (bd : Nat → Nat → Nat) (q : Nat → Nat) (bs : Nat → Nat → Int32) (rv E P : Nat → Int32) {S : Int} (hI : Iv S P) (hE : ∀ j, j < 4 → E j = P (34 + j)) : KI (S := (Nat → Nat → Int32) × (Nat → Int32)) l D T yX1_valueOf cX1_valueOf 6 (some .int) 5 [.ref l0, .ref (q 0), .ref q4, .int (nI 1)] ([(l0, .inr (1, [.ref tr, .ref rp, .ref bh])), (rp, .inr (4, [.int (rv 0), .int (rv 1), .int (rv 2), .int (rv 3), .int (rv 4)])), (bh, .inl (T 3, 5, .inr (.inr (.inr (.inr (fun j => some (bd j 0)))))))] ++ ((pblk T (bd 1) (bs 1)) ++ ((pblk T q P) ++ ([(q4, .inl (T 0, 4, .inl E))])))) (fun r _ => r = valM 1 P) (fun u => ([(l0, .inr (1, [.ref tr, .ref rp, .ref bh])), (rp, .inr (4, [.int (u.2 0), .int (u.2 1), .int (u.2 2), .int (u.2 3), .int (u.2 4)])), (bh, .inl (T 3, 5, .inr (.inr (.inr (.inr (fun j => some (bd j 0)))))))] ++ ((pblk T (bd 1) (u.1 1)) ++ ((pblk T q P) ++ ([(q4, .inl (T 0, 4, .inl E))]))))) := by
  refine KI.of (by decide +kernel) (Nat.le_of_ble_eq_true rfl) (fun p e s m below meth c A F hr hlk hW ls hl => ?_)
  have hx := F.1
  have hb := F.2.1
  have hl : lv_has ls 6 [(0, .ref l0), (1, .ref (q 0)), (2, .ref q4), (3, .int (nI 1))] := hl
  obtain ⟨hJ, ⟨k, hk, h26⟩, hov, ⟨mk, h28, hm1, hm2⟩, h36, h37, hex⟩ := id hI
  refine lv_aload_n hx hb dX1_valueOf_0 rfl (lv_at hl 1 rfl) ?_
  refine gf63 F hW 7 rfl rfl dX1_valueOf_1 ?_
  refine lv_if_ne (tgt := 11) hx hb dX1_valueOf_4 (by decide) (fun h4 => ?_) (fun h4 => ?_)
  · refine lv_aload_n hx hb dX1_valueOf_11 rfl (lv_at hl 1 rfl) ?_
    refine cRV (As := []) (rest := []) F hW hl cs336 (c_leadP l D T (q 0) (q 1) (q 2) (q 3) hk (P 26) (P 27) (P 28) h26 (fun j => P (24 + j))) [7, 10] rfl rfl 0 3 rfl rfl rfl rfl rfl (Nat.le_of_ble_eq_true rfl) ⟨Nat.le_of_ble_eq_true rfl, Nat.le_of_ble_eq_true rfl⟩ ⟨Nat.zero_le _, Nat.zero_le _⟩ dX1_valueOf_12 (fun r12 hr12 => ?_)
    subst hr12
    exact retI F hr hlk rfl hW (bs, rv) (by rw [valM_s, if_neg h4, lead_eq hk h26]) rfl dX1_valueOf_15
  · refine lv_iload_n hx hb dX1_valueOf_7 rfl (lv_at hl 3 rfl) ?_
    refine lv_if_gt (tgt := 16) hx hb dX1_valueOf_8 (by decide) (fun _ => ?_) (fun h9 => absurd (by decide) h9)
    refine lv_sipush (v := -10000) hx hb dX1_valueOf_16 (by decide) ?_
    refine lv_istore (lv' := [(4, .int (-10000)), (0, .ref l0), (1, .ref (q 0)), (2, .ref q4), (3, .int (nI 1))]) hx hb dX1_valueOf_19 hl (by decide) rfl (fun ls hl => ?_)
    refine lv_iconst (v := nI 0) hx hb dX1_valueOf_21 (by decide) ?_
    refine lv_istore (lv' := [(5, .int (nI 0)), (4, .int (-10000)), (0, .ref l0), (1, .ref (q 0)), (2, .ref q4), (3, .int (nI 1))]) hx hb dX1_valueOf_22 hl (by decide) rfl (fun ls hl => ?_)
    have hv : ∀ h, h < 12 → legM P h → -2000 ≤ (vbM 0 P h).toInt ∧ (vbM 0 P h).toInt ≤ 2000 := fun h hh hl => vbM_b hI 0 hh hl
    refine W.loop (fun z H2 locs2 ls2 => ∃ (n : Nat) (bs : Nat → Nat → Int32) (rv : Nat → Int32), n ≤ 12 ∧ z = 12 - n ∧ Wd D T A s ([(l0, .inr (1, [.ref tr, .ref rp, .ref bh])), (rp, .inr (4, [.int (rv 0), .int (rv 1), .int (rv 2), .int (rv 3), .int (rv 4)])), (bh, .inl (T 3, 5, .inr (.inr (.inr (.inr (fun j => some (bd j 0)))))))] ++ ((pblk T (bd 1) (bs 1)) ++ ((pblk T q P) ++ ([(q4, .inl (T 0, 4, .inl E))])))) H2 locs2 ∧ lv_has ls2 6 [(0, .ref l0), (1, .ref (q 0)), (2, .ref q4), (3, .int (nI 1)), (4, .int (gotM (scanM P (vbM 0 P) n))), (5, .int (nI n))]) ?_ 12 ⟨0, bs, rv, by omega, rfl, hW, by rw [scan_0, got_0]; exact lv_sub hl [2, 3, 4, 5, 1, 0] rfl⟩
    rintro z H locs ls ⟨n, bs, rv, hn, rfl, hW, hl⟩ ih
    refine lv_iload hx hb dX1_valueOf_24 (lv_at hl 5 rfl) ?_
    refine lv_bipush (v := nI 12) hx hb dX1_valueOf_26 (by decide) ?_
    refine lv_icmp_ge (tgt := 62) hx hb dX1_valueOf_28 (by decide) (fun h28x => ?_) (fun h28x => ?_)
    · have h9 : n = 12 := by have := n_le h28x (by omega) (by omega); omega
      subst h9
      refine lv_iload hx hb dX1_valueOf_62 (lv_at hl 4 rfl) ?_
      exact retI F hr hlk rfl hW (bs, rv) (by rw [valM_s, if_pos h4]) rfl dX1_valueOf_64
    · have h9 : n < 12 := n_nle h28x (by decide) (by omega)
      refine lv_aload_n hx hb dX1_valueOf_31 rfl (lv_at hl 1 rfl) ?_
      refine lv_iload hx hb dX1_valueOf_32 (lv_at hl 5 rfl) ?_
      refine cRV (As := [.int (nI n)]) (rest := []) F hW hl cs331 (c_canMoveFrom l D T (q 0) (q 1) (q 2) (q 3) (P 26) (P 27) (P 28) (fun j => P j) (h := n) (by omega)) [7, 8] rfl rfl 0 3 rfl rfl rfl rfl rfl (Nat.le_of_ble_eq_true rfl) ⟨Nat.le_of_ble_eq_true rfl, Nat.le_of_ble_eq_true rfl⟩ ⟨Nat.zero_le _, Nat.zero_le _⟩ dX1_valueOf_34 (fun r34 hr34 => ?_)
      subst hr34
      refine lv_if_eq (tgt := 56) hx hb dX1_valueOf_37 (by decide) (fun h37 => ?_) (fun h37 => ?_)
      · have hn2 : ¬ legM P n := bz.mp h37
        rw [← got_skip (v := (vbM 0 P)) hn2] at hl
        refine lv_iinc (v := nI (n + 1)) (lv' := [(5, .int (nI (n + 1))), (0, .ref l0), (1, .ref (q 0)), (2, .ref q4), (3, .int (nI 1)), (4, .int (gotM (scanM P (vbM 0 P) (n + 1))))]) hx hb dX1_valueOf_56 hl (k := 5) rfl (nI_add _ _) (by decide) rfl (fun ls hl => ?_)
        refine lv_goto (tgt := 24) hx hb dX1_valueOf_59 (by decide) ?_
        exact ih (12 - (n + 1)) _ _ _ (by omega) ⟨n + 1, bs, rv, by omega, rfl, hW, lv_sub hl [1, 2, 3, 4, 5, 0] rfl⟩
      · have hleg : legM P n := Decidable.not_not.mp (fun q => h37 (bz.mpr q))
        refine lv_iload hx hb dX1_valueOf_40 (lv_at hl 4 rfl) ?_
        refine lv_aload_n hx hb dX1_valueOf_42 rfl (lv_at hl 0 rfl) ?_
        refine lv_aload_n hx hb dX1_valueOf_43 rfl (lv_at hl 1 rfl) ?_
        refine lv_iload hx hb dX1_valueOf_44 (lv_at hl 5 rfl) ?_
        refine lv_aload_n hx hb dX1_valueOf_46 rfl (lv_at hl 2 rfl) ?_
        refine lv_iload_n hx hb dX1_valueOf_47 rfl (lv_at hl 3 rfl) ?_
        refine cIV (As := [.ref (q 0), .int (nI n), .ref q4, .int (nI 1)]) (rest := [.int (gotM (scanM P (vbM 0 P) n))]) (wr := []) F hW hl cs332 (c_valueBehind1 l D T l0 tr rp bh q4 bd q bs rv E P hI hE (h := n) h9 hleg) [0, 1, 2, 3, 4, 5, 6, 7, 8, 9, 10, 11] [] rfl rfl rfl rfl (by decide) 0 1 rfl rfl rfl rfl rfl (Nat.le_of_ble_eq_true rfl) ⟨Nat.le_of_ble_eq_true rfl, Nat.le_of_ble_eq_true rfl⟩ ⟨Nat.zero_le _, Nat.zero_le _⟩ dX1_valueOf_48 (fun r48 u48 H locs hr48 hW => ?_)
        have hW := Wd.ord hW (ws' := ([(l0, .inr (1, [.ref tr, .ref rp, .ref bh])), (rp, .inr (4, [.int (u48.2 0), .int (u48.2 1), .int (u48.2 2), .int (u48.2 3), .int (u48.2 4)])), (bh, .inl (T 3, 5, .inr (.inr (.inr (.inr (fun j => some (bd j 0)))))))] ++ ((pblk T (bd 1) (u48.1 1)) ++ ((pblk T q P) ++ ([(q4, .inl (T 0, 4, .inl E))]))))) [0, 1, 2, 3, 4, 5, 6, 7, 8, 9, 10, 11] rfl rfl
        subst hr48
        refine vmax F hl m346 (Nat.le_of_ble_eq_true rfl) (Nat.le_of_ble_eq_true rfl) ⟨Nat.zero_le _, Nat.zero_le _⟩ (z := gotM (scanM P (vbM 0 P) (n + 1))) (got_step h9 hv hleg) dX1_valueOf_51 ?_
        refine lv_istore (lv' := [(4, .int (gotM (scanM P (vbM 0 P) (n + 1)))), (0, .ref l0), (1, .ref (q 0)), (2, .ref q4), (3, .int (nI 1)), (5, .int (nI n))]) hx hb dX1_valueOf_54 hl (by decide) rfl (fun ls hl => ?_)
        refine lv_iinc (v := nI (n + 1)) (lv' := [(5, .int (nI (n + 1))), (4, .int (gotM (scanM P (vbM 0 P) (n + 1)))), (0, .ref l0), (1, .ref (q 0)), (2, .ref q4), (3, .int (nI 1))]) hx hb dX1_valueOf_56 hl (k := 5) rfl (nI_add _ _) (by decide) rfl (fun ls hl => ?_)
        refine lv_goto (tgt := 24) hx hb dX1_valueOf_59 (by decide) ?_
        exact ih (12 - (n + 1)) _ _ _ (by omega) ⟨n + 1, u48.1, u48.2, by omega, rfl, hW, lv_sub hl [2, 3, 4, 5, 1, 0] rfl⟩
set_option maxHeartbeats 4000000 in
set_option maxRecDepth 100000 in
theorem c_valueBehind2 (l : Launch) (D : va_G) (T : Nat → ClassId) (l0 tr rp bh q4 : Nat) (bd : Nat → Nat → Nat) (q : Nat → Nat) (bs : Nat → Nat → Int32) (rv E P : Nat → Int32) {S : Int} (hI : Iv S P) (hE : ∀ j, j < 4 → E j = P (34 + j)) {h : Nat} (hh : h < 12) (hleg : legM P h) : KI (S := (Nat → Nat → Int32) × (Nat → Int32)) l D T yX1_valueBehind cX1_valueBehind 7 (some .int) 6 [.ref l0, .ref (q 0), .int (nI h), .ref q4, .int (nI 2)] ([(l0, .inr (1, [.ref tr, .ref rp, .ref bh])), (rp, .inr (4, [.int (rv 0), .int (rv 1), .int (rv 2), .int (rv 3), .int (rv 4)])), (bh, .inl (T 3, 5, .inr (.inr (.inr (.inr (fun j => some (bd j 0)))))))] ++ ((pblk T (bd 1) (bs 1)) ++ ((pblk T (bd 2) (bs 2)) ++ ((pblk T q P) ++ ([(q4, .inl (T 0, 4, .inl E))]))))) (fun r _ => r = vbM 1 P h) (fun u => ([(l0, .inr (1, [.ref tr, .ref rp, .ref bh])), (rp, .inr (4, [.int (u.2 0), .int (u.2 1), .int (u.2 2), .int (u.2 3), .int (u.2 4)])), (bh, .inl (T 3, 5, .inr (.inr (.inr (.inr (fun j => some (bd j 0)))))))] ++ ((pblk T (bd 1) (u.1 1)) ++ ((pblk T (bd 2) (u.1 2)) ++ ((pblk T q P) ++ ([(q4, .inl (T 0, 4, .inl E))])))))) := by
  refine KI.of (by decide +kernel) (Nat.le_of_ble_eq_true rfl) (fun p e s m below meth c A F hr hlk hW ls hl => ?_)
  have hx := F.1
  have hb := F.2.1
  have hl : lv_has ls 7 [(0, .ref l0), (1, .ref (q 0)), (2, .int (nI h)), (3, .ref q4), (4, .int (nI 2))] := hl
  obtain ⟨hJ, ⟨k, hk, h26⟩, hov, ⟨mk, h28, hm1, hm2⟩, h36, h37, hex⟩ := id hI
  have hI2 := (hI.mv hh hleg).1
  refine lv_iload hx hb dX1_valueBehind_0 (lv_at hl 4 rfl) ?_
  refine lv_iconst (v := nI 1) hx hb dX1_valueBehind_2 (by decide) ?_
  refine lv_icmp_lt (tgt := 12) hx hb dX1_valueBehind_3 (by decide) (fun h9 => absurd h9 (by decide)) (fun _ => ?_)
  refine lv_iload hx hb dX1_valueBehind_6 (lv_at hl 4 rfl) ?_
  refine lv_iconst (v := nI 4) hx hb dX1_valueBehind_8 (by decide) ?_
  refine lv_icmp_le (tgt := 17) hx hb dX1_valueBehind_9 (by decide) (fun _ => ?_) (fun h9 => absurd (by decide) h9)
  have hset : ∀ j, 34 ≤ j → mvM P h j = P j := fun j hj => mvM_set hI hh hleg hj
  refine lv_aload_n hx hb dX1_valueBehind_17 rfl (lv_at hl 0 rfl) ?_
  refine gf195 F hW 0 rfl rfl dX1_valueBehind_18 ?_
  refine lv_iload hx hb dX1_valueBehind_21 (lv_at hl 4 rfl) ?_
  refine aald F hW 2 3 rfl rfl (r := (bd 2) 0) 2 rfl (by omega) (by decide) rfl dX1_valueBehind_23 ?_
  refine lv_astore (lv' := [(5, .ref ((bd 2) 0)), (0, .ref l0), (1, .ref (q 0)), (2, .int (nI h)), (3, .ref q4), (4, .int (nI 2))]) hx hb dX1_valueBehind_24 hl (by decide) rfl (fun ls hl => ?_)
  refine lv_aload hx hb dX1_valueBehind_26 (lv_at hl 0 rfl) ?_
  refine lv_aload_n hx hb dX1_valueBehind_28 rfl (lv_at hl 2 rfl) ?_
  refine cVV (As := [.ref (q 0)]) (rest := []) (wr := ([(l0, .inr (1, [.ref tr, .ref rp, .ref bh])), (rp, .inr (4, [.int (rv 0), .int (rv 1), .int (rv 2), .int (rv 3), .int (rv 4)])), (bh, .inl (T 3, 5, .inr (.inr (.inr (.inr (fun j => some (bd j 0)))))))] ++ ((pblk T (bd 1) (bs 1)) ++ ([(q4, .inl (T 0, 4, .inl E))])))) F hW hl cs340 (c_posCopy l D T ((bd 2) 0) ((bd 2) 1) ((bd 2) 2) ((bd 2) 3) (q 0) (q 1) (q 2) (q 3) ((bs 2) 26) ((bs 2) 27) ((bs 2) 28) (P 26) (P 27) (P 28) (fun j => (bs 2) j) (fun j => (bs 2) (12 + j)) (fun j => (bs 2) (24 + j)) (fun j => P j) (fun j => P (12 + j)) (fun j => P (24 + j)) hov) [7, 8, 9, 10, 11, 12, 13, 14] [0, 1, 2, 3, 4, 5, 6, 15] rfl rfl rfl rfl (by decide) 0 3 rfl rfl rfl rfl rfl (Nat.le_of_ble_eq_true rfl) ⟨Nat.le_of_ble_eq_true rfl, Nat.le_of_ble_eq_true rfl⟩ ⟨Nat.zero_le _, Nat.zero_le _⟩ dX1_valueBehind_29 (fun u29 H locs hr29 hW => ?_)
  have hW := Wd.ord hW (ws' := ([(l0, .inr (1, [.ref tr, .ref rp, .ref bh])), (rp, .inr (4, [.int (rv 0), .int (rv 1), .int (rv 2), .int (rv 3), .int (rv 4)])), (bh, .inl (T 3, 5, .inr (.inr (.inr (.inr (fun j => some (bd j 0)))))))] ++ ((pblk T (bd 1) (bs 1)) ++ ([((bd 2) 0, .inr (3, [.ref ((bd 2) 1), .ref ((bd 2) 2), .ref ((bd 2) 3), .int (P 26), .int (P 27), .int (P 28)])), ((bd 2) 1, .inl (T 0, 12, .inl (fun j => P j))), ((bd 2) 2, .inl (T 0, 12, .inl (fun j => P (12 + j)))), ((bd 2) 3, .inl (T 0, 2, .inl (fun j => P (24 + j))))] ++ ((pblk T q P) ++ ([(q4, .inl (T 0, 4, .inl E))])))))) [0, 1, 2, 3, 4, 5, 6, 8, 9, 10, 11, 12, 13, 14, 15, 7] rfl rfl
  refine lv_aload hx hb dX1_valueBehind_32 (lv_at hl 0 rfl) ?_
  refine lv_iload_n hx hb dX1_valueBehind_34 rfl (lv_at hl 3 rfl) ?_
  refine lv_aload_n hx hb dX1_valueBehind_35 rfl (lv_at hl 4 rfl) ?_
  refine lv_aload_n hx hb dX1_valueBehind_36 rfl (lv_at hl 1 rfl) ?_
  refine gf193 F hW 0 rfl rfl dX1_valueBehind_37 ?_
  refine cVV (As := [.int (nI h), .ref q4, .ref rp]) (rest := []) (wr := ([(l0, .inr (1, [.ref tr, .ref rp, .ref bh])), (bh, .inl (T 3, 5, .inr (.inr (.inr (.inr (fun j => some (bd j 0)))))))] ++ ((pblk T (bd 1) (bs 1)) ++ ((pblk T q P))))) F hW hl cs341 (c_makeMoveP l D T ((bd 2) 0) ((bd 2) 1) ((bd 2) 2) ((bd 2) 3) q4 rp (pl := k) hk (P 26) h26 (P 27) (P 28) (fun j => P j) (fun j => P (12 + j)) (fun j => P (24 + j)) E (rv 0) (rv 1) (rv 2) (rv 3) (rv 4) P ⟨fun _ _ => rfl, fun _ _ => rfl, fun _ _ => rfl⟩ rfl rfl hE (fr := h) hh hJ h36 h37 (leg_pos hleg) h26 hleg.1 h28 (hm2 hleg.1)) [7, 8, 9, 10, 15, 1] [0, 2, 3, 4, 5, 6, 11, 12, 13, 14] rfl rfl rfl rfl (by decide) 0 3 rfl rfl rfl rfl rfl (Nat.le_of_ble_eq_true rfl) ⟨Nat.le_of_ble_eq_true rfl, Nat.le_of_ble_eq_true rfl⟩ ⟨Nat.zero_le _, Nat.zero_le _⟩ dX1_valueBehind_40 (fun u40 H locs hr40 hW => ?_)
  have hW := Wd.ord hW (ws' := ([(l0, .inr (1, [.ref tr, .ref rp, .ref bh])), (rp, .inr (4, [.int ((mvM P h) 29), .int ((mvM P h) 30), .int ((mvM P h) 31), .int ((mvM P h) 32), .int ((mvM P h) 33)])), (bh, .inl (T 3, 5, .inr (.inr (.inr (.inr (fun j => some (bd j 0)))))))] ++ ((pblk T (bd 1) (bs 1)) ++ ([((bd 2) 0, .inr (3, [.ref ((bd 2) 1), .ref ((bd 2) 2), .ref ((bd 2) 3), .int ((mvM P h) 26), .int ((mvM P h) 27), .int ((mvM P h) 28)])), ((bd 2) 1, .inl (T 0, 12, .inl (fun j => (mvM P h) j))), ((bd 2) 2, .inl (T 0, 12, .inl (fun j => (mvM P h) (12 + j)))), ((bd 2) 3, .inl (T 0, 2, .inl (fun j => (mvM P h) (24 + j))))] ++ ((pblk T q P) ++ ([(q4, .inl (T 0, 4, .inl E))])))))) [0, 15, 1, 2, 3, 4, 5, 10, 11, 12, 13, 6, 7, 8, 9, 14] rfl rfl
  obtain ⟨z, hz⟩ : ∃ z, mvM P h = z := ⟨_, rfl⟩
  rw [hz] at hW hI2 hset
  refine lv_aload_n hx hb dX1_valueBehind_43 rfl (lv_at hl 1 rfl) ?_
  refine lv_aload hx hb dX1_valueBehind_44 (lv_at hl 0 rfl) ?_
  refine lv_aload_n hx hb dX1_valueBehind_46 rfl (lv_at hl 4 rfl) ?_
  refine lv_iload hx hb dX1_valueBehind_47 (lv_at hl 5 rfl) ?_
  refine lv_iconst (v := nI 1) hx hb dX1_valueBehind_49 (by decide) ?_
  refine isubE (z := nI 1) hx hb dX1_valueBehind_50 (by decide) ?_
  refine cIV (As := [.ref ((bd 2) 0), .ref q4, .int (nI 1)]) (rest := []) (wr := (pblk T q P)) F hW hl cs342 (c_valueOf1 l D T l0 tr rp bh q4 bd (bd 2) bs (fun j => z (29 + j)) E z hI2 (fun j hj => (hE j hj).trans (hset (34 + j) (by omega)).symm)) [0, 1, 2, 3, 4, 5, 6, 7, 8, 9, 10, 15] [11, 12, 13, 14] rfl rfl rfl rfl (by decide) 0 1 rfl rfl rfl rfl rfl (Nat.le_of_ble_eq_true rfl) ⟨Nat.le_of_ble_eq_true rfl, Nat.le_of_ble_eq_true rfl⟩ ⟨Nat.zero_le _, Nat.zero_le _⟩ dX1_valueBehind_51 (fun r51 u51 H locs hr51 hW => ?_)
  have hW := Wd.ord hW (ws' := ([(l0, .inr (1, [.ref tr, .ref rp, .ref bh])), (rp, .inr (4, [.int (u51.2 0), .int (u51.2 1), .int (u51.2 2), .int (u51.2 3), .int (u51.2 4)])), (bh, .inl (T 3, 5, .inr (.inr (.inr (.inr (fun j => some (bd j 0)))))))] ++ ((pblk T (bd 1) (u51.1 1)) ++ ((pblk T (bd 2) z) ++ ((pblk T q P) ++ ([(q4, .inl (T 0, 4, .inl E))])))))) [4, 5, 6, 7, 8, 9, 10, 11, 12, 13, 14, 0, 1, 2, 3, 15] rfl rfl
  subst hr51
  refine lv_istore (lv' := [(6, .int (valM 1 z)), (5, .ref ((bd 2) 0)), (0, .ref l0), (1, .ref (q 0)), (2, .int (nI h)), (3, .ref q4), (4, .int (nI 2))]) hx hb dX1_valueBehind_54 hl (by decide) rfl (fun ls hl => ?_)
  refine lv_aload hx hb dX1_valueBehind_56 (lv_at hl 1 rfl) ?_
  refine gf61 F hW 7 rfl rfl dX1_valueBehind_58 ?_
  refine lv_aload_n hx hb dX1_valueBehind_61 rfl (lv_at hl 3 rfl) ?_
  refine gf61 F hW 11 rfl rfl dX1_valueBehind_62 ?_
  refine lv_icmp_ne (tgt := 73) hx hb dX1_valueBehind_65 (by decide) (fun h65 => ?_) (fun h65 => ?_)
  · refine lv_iload hx hb dX1_valueBehind_73 (lv_at hl 0 rfl) ?_
    refine lv_ineg hx hb dX1_valueBehind_75 ?_
    exact retI F hr hlk rfl hW (fun j => if j = 2 then z else u51.1 j, u51.2) (by unfold vbM; rw [hz, if_neg h65]) rfl dX1_valueBehind_76
  · refine lv_iload hx hb dX1_valueBehind_68 (lv_at hl 0 rfl) ?_
    refine lv_goto (tgt := 76) hx hb dX1_valueBehind_70 (by decide) ?_
    exact retI F hr hlk rfl hW (fun j => if j = 2 then z else u51.1 j, u51.2) (by unfold vbM; rw [hz, if_pos h65]) rfl dX1_valueBehind_76
set_option maxHeartbeats 4000000 in
set_option maxRecDepth 100000 in
theorem c_valueOf2 (l : Launch) (D : va_G) (T : Nat → ClassId) (l0 tr rp bh q4 : Nat) (bd : Nat → Nat → Nat) (q : Nat → Nat) (bs : Nat → Nat → Int32) (rv E P : Nat → Int32) {S : Int} (hI : Iv S P) (hE : ∀ j, j < 4 → E j = P (34 + j)) : KI (S := (Nat → Nat → Int32) × (Nat → Int32)) l D T yX1_valueOf cX1_valueOf 6 (some .int) 7 [.ref l0, .ref (q 0), .ref q4, .int (nI 2)] ([(l0, .inr (1, [.ref tr, .ref rp, .ref bh])), (rp, .inr (4, [.int (rv 0), .int (rv 1), .int (rv 2), .int (rv 3), .int (rv 4)])), (bh, .inl (T 3, 5, .inr (.inr (.inr (.inr (fun j => some (bd j 0)))))))] ++ ((pblk T (bd 1) (bs 1)) ++ ((pblk T (bd 2) (bs 2)) ++ ((pblk T q P) ++ ([(q4, .inl (T 0, 4, .inl E))]))))) (fun r _ => r = valM 2 P) (fun u => ([(l0, .inr (1, [.ref tr, .ref rp, .ref bh])), (rp, .inr (4, [.int (u.2 0), .int (u.2 1), .int (u.2 2), .int (u.2 3), .int (u.2 4)])), (bh, .inl (T 3, 5, .inr (.inr (.inr (.inr (fun j => some (bd j 0)))))))] ++ ((pblk T (bd 1) (u.1 1)) ++ ((pblk T (bd 2) (u.1 2)) ++ ((pblk T q P) ++ ([(q4, .inl (T 0, 4, .inl E))])))))) := by
  refine KI.of (by decide +kernel) (Nat.le_of_ble_eq_true rfl) (fun p e s m below meth c A F hr hlk hW ls hl => ?_)
  have hx := F.1
  have hb := F.2.1
  have hl : lv_has ls 6 [(0, .ref l0), (1, .ref (q 0)), (2, .ref q4), (3, .int (nI 2))] := hl
  obtain ⟨hJ, ⟨k, hk, h26⟩, hov, ⟨mk, h28, hm1, hm2⟩, h36, h37, hex⟩ := id hI
  refine lv_aload_n hx hb dX1_valueOf_0 rfl (lv_at hl 1 rfl) ?_
  refine gf63 F hW 11 rfl rfl dX1_valueOf_1 ?_
  refine lv_if_ne (tgt := 11) hx hb dX1_valueOf_4 (by decide) (fun h4 => ?_) (fun h4 => ?_)
  · refine lv_aload_n hx hb dX1_valueOf_11 rfl (lv_at hl 1 rfl) ?_
    refine cRV (As := []) (rest := []) F hW hl cs336 (c_leadP l D T (q 0) (q 1) (q 2) (q 3) hk (P 26) (P 27) (P 28) h26 (fun j => P (24 + j))) [11, 14] rfl rfl 0 3 rfl rfl rfl rfl rfl (Nat.le_of_ble_eq_true rfl) ⟨Nat.le_of_ble_eq_true rfl, Nat.le_of_ble_eq_true rfl⟩ ⟨Nat.zero_le _, Nat.zero_le _⟩ dX1_valueOf_12 (fun r12 hr12 => ?_)
    subst hr12
    exact retI F hr hlk rfl hW (bs, rv) (by rw [valM_s, if_neg h4, lead_eq hk h26]) rfl dX1_valueOf_15
  · refine lv_iload_n hx hb dX1_valueOf_7 rfl (lv_at hl 3 rfl) ?_
    refine lv_if_gt (tgt := 16) hx hb dX1_valueOf_8 (by decide) (fun _ => ?_) (fun h9 => absurd (by decide) h9)
    refine lv_sipush (v := -10000) hx hb dX1_valueOf_16 (by decide) ?_
    refine lv_istore (lv' := [(4, .int (-10000)), (0, .ref l0), (1, .ref (q 0)), (2, .ref q4), (3, .int (nI 2))]) hx hb dX1_valueOf_19 hl (by decide) rfl (fun ls hl => ?_)
    refine lv_iconst (v := nI 0) hx hb dX1_valueOf_21 (by decide) ?_
    refine lv_istore (lv' := [(5, .int (nI 0)), (4, .int (-10000)), (0, .ref l0), (1, .ref (q 0)), (2, .ref q4), (3, .int (nI 2))]) hx hb dX1_valueOf_22 hl (by decide) rfl (fun ls hl => ?_)
    have hv : ∀ h, h < 12 → legM P h → -2000 ≤ (vbM 1 P h).toInt ∧ (vbM 1 P h).toInt ≤ 2000 := fun h hh hl => vbM_b hI 1 hh hl
    refine W.loop (fun z H2 locs2 ls2 => ∃ (n : Nat) (bs : Nat → Nat → Int32) (rv : Nat → Int32), n ≤ 12 ∧ z = 12 - n ∧ Wd D T A s ([(l0, .inr (1, [.ref tr, .ref rp, .ref bh])), (rp, .inr (4, [.int (rv 0), .int (rv 1), .int (rv 2), .int (rv 3), .int (rv 4)])), (bh, .inl (T 3, 5, .inr (.inr (.inr (.inr (fun j => some (bd j 0)))))))] ++ ((pblk T (bd 1) (bs 1)) ++ ((pblk T (bd 2) (bs 2)) ++ ((pblk T q P) ++ ([(q4, .inl (T 0, 4, .inl E))]))))) H2 locs2 ∧ lv_has ls2 6 [(0, .ref l0), (1, .ref (q 0)), (2, .ref q4), (3, .int (nI 2)), (4, .int (gotM (scanM P (vbM 1 P) n))), (5, .int (nI n))]) ?_ 12 ⟨0, bs, rv, by omega, rfl, hW, by rw [scan_0, got_0]; exact lv_sub hl [2, 3, 4, 5, 1, 0] rfl⟩
    rintro z H locs ls ⟨n, bs, rv, hn, rfl, hW, hl⟩ ih
    refine lv_iload hx hb dX1_valueOf_24 (lv_at hl 5 rfl) ?_
    refine lv_bipush (v := nI 12) hx hb dX1_valueOf_26 (by decide) ?_
    refine lv_icmp_ge (tgt := 62) hx hb dX1_valueOf_28 (by decide) (fun h28x => ?_) (fun h28x => ?_)
    · have h9 : n = 12 := by have := n_le h28x (by omega) (by omega); omega
      subst h9
      refine lv_iload hx hb dX1_valueOf_62 (lv_at hl 4 rfl) ?_
      exact retI F hr hlk rfl hW (bs, rv) (by rw [valM_s, if_pos h4]) rfl dX1_valueOf_64
    · have h9 : n < 12 := n_nle h28x (by decide) (by omega)
      refine lv_aload_n hx hb dX1_valueOf_31 rfl (lv_at hl 1 rfl) ?_
      refine lv_iload hx hb dX1_valueOf_32 (lv_at hl 5 rfl) ?_
      refine cRV (As := [.int (nI n)]) (rest := []) F hW hl cs331 (c_canMoveFrom l D T (q 0) (q 1) (q 2) (q 3) (P 26) (P 27) (P 28) (fun j => P j) (h := n) (by omega)) [11, 12] rfl rfl 0 3 rfl rfl rfl rfl rfl (Nat.le_of_ble_eq_true rfl) ⟨Nat.le_of_ble_eq_true rfl, Nat.le_of_ble_eq_true rfl⟩ ⟨Nat.zero_le _, Nat.zero_le _⟩ dX1_valueOf_34 (fun r34 hr34 => ?_)
      subst hr34
      refine lv_if_eq (tgt := 56) hx hb dX1_valueOf_37 (by decide) (fun h37 => ?_) (fun h37 => ?_)
      · have hn2 : ¬ legM P n := bz.mp h37
        rw [← got_skip (v := (vbM 1 P)) hn2] at hl
        refine lv_iinc (v := nI (n + 1)) (lv' := [(5, .int (nI (n + 1))), (0, .ref l0), (1, .ref (q 0)), (2, .ref q4), (3, .int (nI 2)), (4, .int (gotM (scanM P (vbM 1 P) (n + 1))))]) hx hb dX1_valueOf_56 hl (k := 5) rfl (nI_add _ _) (by decide) rfl (fun ls hl => ?_)
        refine lv_goto (tgt := 24) hx hb dX1_valueOf_59 (by decide) ?_
        exact ih (12 - (n + 1)) _ _ _ (by omega) ⟨n + 1, bs, rv, by omega, rfl, hW, lv_sub hl [1, 2, 3, 4, 5, 0] rfl⟩
      · have hleg : legM P n := Decidable.not_not.mp (fun q => h37 (bz.mpr q))
        refine lv_iload hx hb dX1_valueOf_40 (lv_at hl 4 rfl) ?_
        refine lv_aload_n hx hb dX1_valueOf_42 rfl (lv_at hl 0 rfl) ?_
        refine lv_aload_n hx hb dX1_valueOf_43 rfl (lv_at hl 1 rfl) ?_
        refine lv_iload hx hb dX1_valueOf_44 (lv_at hl 5 rfl) ?_
        refine lv_aload_n hx hb dX1_valueOf_46 rfl (lv_at hl 2 rfl) ?_
        refine lv_iload_n hx hb dX1_valueOf_47 rfl (lv_at hl 3 rfl) ?_
        refine cIV (As := [.ref (q 0), .int (nI n), .ref q4, .int (nI 2)]) (rest := [.int (gotM (scanM P (vbM 1 P) n))]) (wr := []) F hW hl cs332 (c_valueBehind2 l D T l0 tr rp bh q4 bd q bs rv E P hI hE (h := n) h9 hleg) [0, 1, 2, 3, 4, 5, 6, 7, 8, 9, 10, 11, 12, 13, 14, 15] [] rfl rfl rfl rfl (by decide) 0 1 rfl rfl rfl rfl rfl (Nat.le_of_ble_eq_true rfl) ⟨Nat.le_of_ble_eq_true rfl, Nat.le_of_ble_eq_true rfl⟩ ⟨Nat.zero_le _, Nat.zero_le _⟩ dX1_valueOf_48 (fun r48 u48 H locs hr48 hW => ?_)
        have hW := Wd.ord hW (ws' := ([(l0, .inr (1, [.ref tr, .ref rp, .ref bh])), (rp, .inr (4, [.int (u48.2 0), .int (u48.2 1), .int (u48.2 2), .int (u48.2 3), .int (u48.2 4)])), (bh, .inl (T 3, 5, .inr (.inr (.inr (.inr (fun j => some (bd j 0)))))))] ++ ((pblk T (bd 1) (u48.1 1)) ++ ((pblk T (bd 2) (u48.1 2)) ++ ((pblk T q P) ++ ([(q4, .inl (T 0, 4, .inl E))])))))) [0, 1, 2, 3, 4, 5, 6, 7, 8, 9, 10, 11, 12, 13, 14, 15] rfl rfl
        subst hr48
        refine vmax F hl m346 (Nat.le_of_ble_eq_true rfl) (Nat.le_of_ble_eq_true rfl) ⟨Nat.zero_le _, Nat.zero_le _⟩ (z := gotM (scanM P (vbM 1 P) (n + 1))) (got_step h9 hv hleg) dX1_valueOf_51 ?_
        refine lv_istore (lv' := [(4, .int (gotM (scanM P (vbM 1 P) (n + 1)))), (0, .ref l0), (1, .ref (q 0)), (2, .ref q4), (3, .int (nI 2)), (5, .int (nI n))]) hx hb dX1_valueOf_54 hl (by decide) rfl (fun ls hl => ?_)
        refine lv_iinc (v := nI (n + 1)) (lv' := [(5, .int (nI (n + 1))), (4, .int (gotM (scanM P (vbM 1 P) (n + 1)))), (0, .ref l0), (1, .ref (q 0)), (2, .ref q4), (3, .int (nI 2))]) hx hb dX1_valueOf_56 hl (k := 5) rfl (nI_add _ _) (by decide) rfl (fun ls hl => ?_)
        refine lv_goto (tgt := 24) hx hb dX1_valueOf_59 (by decide) ?_
        exact ih (12 - (n + 1)) _ _ _ (by omega) ⟨n + 1, u48.1, u48.2, by omega, rfl, hW, lv_sub hl [2, 3, 4, 5, 1, 0] rfl⟩
set_option maxHeartbeats 4000000 in
set_option maxRecDepth 100000 in
theorem c_valueBehind3 (l : Launch) (D : va_G) (T : Nat → ClassId) (l0 tr rp bh q4 : Nat) (bd : Nat → Nat → Nat) (q : Nat → Nat) (bs : Nat → Nat → Int32) (rv E P : Nat → Int32) {S : Int} (hI : Iv S P) (hE : ∀ j, j < 4 → E j = P (34 + j)) {h : Nat} (hh : h < 12) (hleg : legM P h) : KI (S := (Nat → Nat → Int32) × (Nat → Int32)) l D T yX1_valueBehind cX1_valueBehind 7 (some .int) 8 [.ref l0, .ref (q 0), .int (nI h), .ref q4, .int (nI 3)] ([(l0, .inr (1, [.ref tr, .ref rp, .ref bh])), (rp, .inr (4, [.int (rv 0), .int (rv 1), .int (rv 2), .int (rv 3), .int (rv 4)])), (bh, .inl (T 3, 5, .inr (.inr (.inr (.inr (fun j => some (bd j 0)))))))] ++ ((pblk T (bd 1) (bs 1)) ++ ((pblk T (bd 2) (bs 2)) ++ ((pblk T (bd 3) (bs 3)) ++ ((pblk T q P) ++ ([(q4, .inl (T 0, 4, .inl E))])))))) (fun r _ => r = vbM 2 P h) (fun u => ([(l0, .inr (1, [.ref tr, .ref rp, .ref bh])), (rp, .inr (4, [.int (u.2 0), .int (u.2 1), .int (u.2 2), .int (u.2 3), .int (u.2 4)])), (bh, .inl (T 3, 5, .inr (.inr (.inr (.inr (fun j => some (bd j 0)))))))] ++ ((pblk T (bd 1) (u.1 1)) ++ ((pblk T (bd 2) (u.1 2)) ++ ((pblk T (bd 3) (u.1 3)) ++ ((pblk T q P) ++ ([(q4, .inl (T 0, 4, .inl E))]))))))) := by
  refine KI.of (by decide +kernel) (Nat.le_of_ble_eq_true rfl) (fun p e s m below meth c A F hr hlk hW ls hl => ?_)
  have hx := F.1
  have hb := F.2.1
  have hl : lv_has ls 7 [(0, .ref l0), (1, .ref (q 0)), (2, .int (nI h)), (3, .ref q4), (4, .int (nI 3))] := hl
  obtain ⟨hJ, ⟨k, hk, h26⟩, hov, ⟨mk, h28, hm1, hm2⟩, h36, h37, hex⟩ := id hI
  have hI2 := (hI.mv hh hleg).1
  refine lv_iload hx hb dX1_valueBehind_0 (lv_at hl 4 rfl) ?_
  refine lv_iconst (v := nI 1) hx hb dX1_valueBehind_2 (by decide) ?_
  refine lv_icmp_lt (tgt := 12) hx hb dX1_valueBehind_3 (by decide) (fun h9 => absurd h9 (by decide)) (fun _ => ?_)
  refine lv_iload hx hb dX1_valueBehind_6 (lv_at hl 4 rfl) ?_
  refine lv_iconst (v := nI 4) hx hb dX1_valueBehind_8 (by decide) ?_
  refine lv_icmp_le (tgt := 17) hx hb dX1_valueBehind_9 (by decide) (fun _ => ?_) (fun h9 => absurd (by decide) h9)
  have hset : ∀ j, 34 ≤ j → mvM P h j = P j := fun j hj => mvM_set hI hh hleg hj
  refine lv_aload_n hx hb dX1_valueBehind_17 rfl (lv_at hl 0 rfl) ?_
  refine gf195 F hW 0 rfl rfl dX1_valueBehind_18 ?_
  refine lv_iload hx hb dX1_valueBehind_21 (lv_at hl 4 rfl) ?_
  refine aald F hW 2 3 rfl rfl (r := (bd 3) 0) 3 rfl (by omega) (by decide) rfl dX1_valueBehind_23 ?_
  refine lv_astore (lv' := [(5, .ref ((bd 3) 0)), (0, .ref l0), (1, .ref (q 0)), (2, .int (nI h)), (3, .ref q4), (4, .int (nI 3))]) hx hb dX1_valueBehind_24 hl (by decide) rfl (fun ls hl => ?_)
  refine lv_aload hx hb dX1_valueBehind_26 (lv_at hl 0 rfl) ?_
  refine lv_aload_n hx hb dX1_valueBehind_28 rfl (lv_at hl 2 rfl) ?_
  refine cVV (As := [.ref (q 0)]) (rest := []) (wr := ([(l0, .inr (1, [.ref tr, .ref rp, .ref bh])), (rp, .inr (4, [.int (rv 0), .int (rv 1), .int (rv 2), .int (rv 3), .int (rv 4)])), (bh, .inl (T 3, 5, .inr (.inr (.inr (.inr (fun j => some (bd j 0)))))))] ++ ((pblk T (bd 1) (bs 1)) ++ ((pblk T (bd 2) (bs 2)) ++ ([(q4, .inl (T 0, 4, .inl E))]))))) F hW hl cs340 (c_posCopy l D T ((bd 3) 0) ((bd 3) 1) ((bd 3) 2) ((bd 3) 3) (q 0) (q 1) (q 2) (q 3) ((bs 3) 26) ((bs 3) 27) ((bs 3) 28) (P 26) (P 27) (P 28) (fun j => (bs 3) j) (fun j => (bs 3) (12 + j)) (fun j => (bs 3) (24 + j)) (fun j => P j) (fun j => P (12 + j)) (fun j => P (24 + j)) hov) [11, 12, 13, 14, 15, 16, 17, 18] [0, 1, 2, 3, 4, 5, 6, 7, 8, 9, 10, 19] rfl rfl rfl rfl (by decide) 0 3 rfl rfl rfl rfl rfl (Nat.le_of_ble_eq_true rfl) ⟨Nat.le_of_ble_eq_true rfl, Nat.le_of_ble_eq_true rfl⟩ ⟨Nat.zero_le _, Nat.zero_le _⟩ dX1_valueBehind_29 (fun u29 H locs hr29 hW => ?_)
  have hW := Wd.ord hW (ws' := ([(l0, .inr (1, [.ref tr, .ref rp, .ref bh])), (rp, .inr (4, [.int (rv 0), .int (rv 1), .int (rv 2), .int (rv 3), .int (rv 4)])), (bh, .inl (T 3, 5, .inr (.inr (.inr (.inr (fun j => some (bd j 0)))))))] ++ ((pblk T (bd 1) (bs 1)) ++ ((pblk T (bd 2) (bs 2)) ++ ([((bd 3) 0, .inr (3, [.ref ((bd 3) 1), .ref ((bd 3) 2), .ref ((bd 3) 3), .int (P 26), .int (P 27), .int (P 28)])), ((bd 3) 1, .inl (T 0, 12, .inl (fun j => P j))), ((bd 3) 2, .inl (T 0, 12, .inl (fun j => P (12 + j)))), ((bd 3) 3, .inl (T 0, 2, .inl (fun j => P (24 + j))))] ++ ((pblk T q P) ++ ([(q4, .inl (T 0, 4, .inl E))]))))))) [0, 1, 2, 3, 4, 5, 6, 7, 8, 9, 10, 12, 13, 14, 15, 16, 17, 18, 19, 11] rfl rfl
  refine lv_aload hx hb dX1_valueBehind_32 (lv_at hl 0 rfl) ?_
  refine lv_iload_n hx hb dX1_valueBehind_34 rfl (lv_at hl 3 rfl) ?_
  refine lv_aload_n hx hb dX1_valueBehind_35 rfl (lv_at hl 4 rfl) ?_
  refine lv_aload_n hx hb dX1_valueBehind_36 rfl (lv_at hl 1 rfl) ?_
  refine gf193 F hW 0 rfl rfl dX1_valueBehind_37 ?_
  refine cVV (As := [.int (nI h), .ref q4, .ref rp]) (rest := []) (wr := ([(l0, .inr (1, [.ref tr, .ref rp, .ref bh])), (bh, .inl (T 3, 5, .inr (.inr (.inr (.inr (fun j => some (bd j 0)))))))] ++ ((pblk T (bd 1) (bs 1)) ++ ((pblk T (bd 2) (bs 2)) ++ ((pblk T q P)))))) F hW hl cs341 (c_makeMoveP l D T ((bd 3) 0) ((bd 3) 1) ((bd 3) 2) ((bd 3) 3) q4 rp (pl := k) hk (P 26) h26 (P 27) (P 28) (fun j => P j) (fun j => P (12 + j)) (fun j => P (24 + j)) E (rv 0) (rv 1) (rv 2) (rv 3) (rv 4) P ⟨fun _ _ => rfl, fun _ _ => rfl, fun _ _ => rfl⟩ rfl rfl hE (fr := h) hh hJ h36 h37 (leg_pos hleg) h26 hleg.1 h28 (hm2 hleg.1)) [11, 12, 13, 14, 19, 1] [0, 2, 3, 4, 5, 6, 7, 8, 9, 10, 15, 16, 17, 18] rfl rfl rfl rfl (by decide) 0 3 rfl rfl rfl rfl rfl (Nat.le_of_ble_eq_true rfl) ⟨Nat.le_of_ble_eq_true rfl, Nat.le_of_ble_eq_true rfl⟩ ⟨Nat.zero_le _, Nat.zero_le _⟩ dX1_valueBehind_40 (fun u40 H locs hr40 hW => ?_)
  have hW := Wd.ord hW (ws' := ([(l0, .inr (1, [.ref tr, .ref rp, .ref bh])), (rp, .inr (4, [.int ((mvM P h) 29), .int ((mvM P h) 30), .int ((mvM P h) 31), .int ((mvM P h) 32), .int ((mvM P h) 33)])), (bh, .inl (T 3, 5, .inr (.inr (.inr (.inr (fun j => some (bd j 0)))))))] ++ ((pblk T (bd 1) (bs 1)) ++ ((pblk T (bd 2) (bs 2)) ++ ([((bd 3) 0, .inr (3, [.ref ((bd 3) 1), .ref ((bd 3) 2), .ref ((bd 3) 3), .int ((mvM P h) 26), .int ((mvM P h) 27), .int ((mvM P h) 28)])), ((bd 3) 1, .inl (T 0, 12, .inl (fun j => (mvM P h) j))), ((bd 3) 2, .inl (T 0, 12, .inl (fun j => (mvM P h) (12 + j)))), ((bd 3) 3, .inl (T 0, 2, .inl (fun j => (mvM P h) (24 + j))))] ++ ((pblk T q P) ++ ([(q4, .inl (T 0, 4, .inl E))]))))))) [0, 19, 1, 2, 3, 4, 5, 6, 7, 8, 9, 14, 15, 16, 17, 10, 11, 12, 13, 18] rfl rfl
  obtain ⟨z, hz⟩ : ∃ z, mvM P h = z := ⟨_, rfl⟩
  rw [hz] at hW hI2 hset
  refine lv_aload_n hx hb dX1_valueBehind_43 rfl (lv_at hl 1 rfl) ?_
  refine lv_aload hx hb dX1_valueBehind_44 (lv_at hl 0 rfl) ?_
  refine lv_aload_n hx hb dX1_valueBehind_46 rfl (lv_at hl 4 rfl) ?_
  refine lv_iload hx hb dX1_valueBehind_47 (lv_at hl 5 rfl) ?_
  refine lv_iconst (v := nI 1) hx hb dX1_valueBehind_49 (by decide) ?_
  refine isubE (z := nI 2) hx hb dX1_valueBehind_50 (by decide) ?_
  refine cIV (As := [.ref ((bd 3) 0), .ref q4, .int (nI 2)]) (rest := []) (wr := (pblk T q P)) F hW hl cs342 (c_valueOf2 l D T l0 tr rp bh q4 bd (bd 3) bs (fun j => z (29 + j)) E z hI2 (fun j hj => (hE j hj).trans (hset (34 + j) (by omega)).symm)) [0, 1, 2, 3, 4, 5, 6, 7, 8, 9, 10, 11, 12, 13, 14, 19] [15, 16, 17, 18] rfl rfl rfl rfl (by decide) 0 1 rfl rfl rfl rfl rfl (Nat.le_of_ble_eq_true rfl) ⟨Nat.le_of_ble_eq_true rfl, Nat.le_of_ble_eq_true rfl⟩ ⟨Nat.zero_le _, Nat.zero_le _⟩ dX1_valueBehind_51 (fun r51 u51 H locs hr51 hW => ?_)
  have hW := Wd.ord hW (ws' := ([(l0, .inr (1, [.ref tr, .ref rp, .ref bh])), (rp, .inr (4, [.int (u51.2 0), .int (u51.2 1), .int (u51.2 2), .int (u51.2 3), .int (u51.2 4)])), (bh, .inl (T 3, 5, .inr (.inr (.inr (.inr (fun j => some (bd j 0)))))))] ++ ((pblk T (bd 1) (u51.1 1)) ++ ((pblk T (bd 2) (u51.1 2)) ++ ((pblk T (bd 3) z) ++ ((pblk T q P) ++ ([(q4, .inl (T 0, 4, .inl E))]))))))) [4, 5, 6, 7, 8, 9, 10, 11, 12, 13, 14, 15, 16, 17, 18, 0, 1, 2, 3, 19] rfl rfl
  subst hr51
  refine lv_istore (lv' := [(6, .int (valM 2 z)), (5, .ref ((bd 3) 0)), (0, .ref l0), (1, .ref (q 0)), (2, .int (nI h)), (3, .ref q4), (4, .int (nI 3))]) hx hb dX1_valueBehind_54 hl (by decide) rfl (fun ls hl => ?_)
  refine lv_aload hx hb dX1_valueBehind_56 (lv_at hl 1 rfl) ?_
  refine gf61 F hW 11 rfl rfl dX1_valueBehind_58 ?_
  refine lv_aload_n hx hb dX1_valueBehind_61 rfl (lv_at hl 3 rfl) ?_
  refine gf61 F hW 15 rfl rfl dX1_valueBehind_62 ?_
  refine lv_icmp_ne (tgt := 73) hx hb dX1_valueBehind_65 (by decide) (fun h65 => ?_) (fun h65 => ?_)
  · refine lv_iload hx hb dX1_valueBehind_73 (lv_at hl 0 rfl) ?_
    refine lv_ineg hx hb dX1_valueBehind_75 ?_
    exact retI F hr hlk rfl hW (fun j => if j = 3 then z else u51.1 j, u51.2) (by unfold vbM; rw [hz, if_neg h65]) rfl dX1_valueBehind_76
  · refine lv_iload hx hb dX1_valueBehind_68 (lv_at hl 0 rfl) ?_
    refine lv_goto (tgt := 76) hx hb dX1_valueBehind_70 (by decide) ?_
    exact retI F hr hlk rfl hW (fun j => if j = 3 then z else u51.1 j, u51.2) (by unfold vbM; rw [hz, if_pos h65]) rfl dX1_valueBehind_76
set_option maxHeartbeats 4000000 in
set_option maxRecDepth 100000 in
theorem c_valueOf3 (l : Launch) (D : va_G) (T : Nat → ClassId) (l0 tr rp bh q4 : Nat) (bd : Nat → Nat → Nat) (q : Nat → Nat) (bs : Nat → Nat → Int32) (rv E P : Nat → Int32) {S : Int} (hI : Iv S P) (hE : ∀ j, j < 4 → E j = P (34 + j)) : KI (S := (Nat → Nat → Int32) × (Nat → Int32)) l D T yX1_valueOf cX1_valueOf 6 (some .int) 9 [.ref l0, .ref (q 0), .ref q4, .int (nI 3)] ([(l0, .inr (1, [.ref tr, .ref rp, .ref bh])), (rp, .inr (4, [.int (rv 0), .int (rv 1), .int (rv 2), .int (rv 3), .int (rv 4)])), (bh, .inl (T 3, 5, .inr (.inr (.inr (.inr (fun j => some (bd j 0)))))))] ++ ((pblk T (bd 1) (bs 1)) ++ ((pblk T (bd 2) (bs 2)) ++ ((pblk T (bd 3) (bs 3)) ++ ((pblk T q P) ++ ([(q4, .inl (T 0, 4, .inl E))])))))) (fun r _ => r = valM 3 P) (fun u => ([(l0, .inr (1, [.ref tr, .ref rp, .ref bh])), (rp, .inr (4, [.int (u.2 0), .int (u.2 1), .int (u.2 2), .int (u.2 3), .int (u.2 4)])), (bh, .inl (T 3, 5, .inr (.inr (.inr (.inr (fun j => some (bd j 0)))))))] ++ ((pblk T (bd 1) (u.1 1)) ++ ((pblk T (bd 2) (u.1 2)) ++ ((pblk T (bd 3) (u.1 3)) ++ ((pblk T q P) ++ ([(q4, .inl (T 0, 4, .inl E))]))))))) := by
  refine KI.of (by decide +kernel) (Nat.le_of_ble_eq_true rfl) (fun p e s m below meth c A F hr hlk hW ls hl => ?_)
  have hx := F.1
  have hb := F.2.1
  have hl : lv_has ls 6 [(0, .ref l0), (1, .ref (q 0)), (2, .ref q4), (3, .int (nI 3))] := hl
  obtain ⟨hJ, ⟨k, hk, h26⟩, hov, ⟨mk, h28, hm1, hm2⟩, h36, h37, hex⟩ := id hI
  refine lv_aload_n hx hb dX1_valueOf_0 rfl (lv_at hl 1 rfl) ?_
  refine gf63 F hW 15 rfl rfl dX1_valueOf_1 ?_
  refine lv_if_ne (tgt := 11) hx hb dX1_valueOf_4 (by decide) (fun h4 => ?_) (fun h4 => ?_)
  · refine lv_aload_n hx hb dX1_valueOf_11 rfl (lv_at hl 1 rfl) ?_
    refine cRV (As := []) (rest := []) F hW hl cs336 (c_leadP l D T (q 0) (q 1) (q 2) (q 3) hk (P 26) (P 27) (P 28) h26 (fun j => P (24 + j))) [15, 18] rfl rfl 0 3 rfl rfl rfl rfl rfl (Nat.le_of_ble_eq_true rfl) ⟨Nat.le_of_ble_eq_true rfl, Nat.le_of_ble_eq_true rfl⟩ ⟨Nat.zero_le _, Nat.zero_le _⟩ dX1_valueOf_12 (fun r12 hr12 => ?_)
    subst hr12
    exact retI F hr hlk rfl hW (bs, rv) (by rw [valM_s, if_neg h4, lead_eq hk h26]) rfl dX1_valueOf_15
  · refine lv_iload_n hx hb dX1_valueOf_7 rfl (lv_at hl 3 rfl) ?_
    refine lv_if_gt (tgt := 16) hx hb dX1_valueOf_8 (by decide) (fun _ => ?_) (fun h9 => absurd (by decide) h9)
    refine lv_sipush (v := -10000) hx hb dX1_valueOf_16 (by decide) ?_
    refine lv_istore (lv' := [(4, .int (-10000)), (0, .ref l0), (1, .ref (q 0)), (2, .ref q4), (3, .int (nI 3))]) hx hb dX1_valueOf_19 hl (by decide) rfl (fun ls hl => ?_)
    refine lv_iconst (v := nI 0) hx hb dX1_valueOf_21 (by decide) ?_
    refine lv_istore (lv' := [(5, .int (nI 0)), (4, .int (-10000)), (0, .ref l0), (1, .ref (q 0)), (2, .ref q4), (3, .int (nI 3))]) hx hb dX1_valueOf_22 hl (by decide) rfl (fun ls hl => ?_)
    have hv : ∀ h, h < 12 → legM P h → -2000 ≤ (vbM 2 P h).toInt ∧ (vbM 2 P h).toInt ≤ 2000 := fun h hh hl => vbM_b hI 2 hh hl
    refine W.loop (fun z H2 locs2 ls2 => ∃ (n : Nat) (bs : Nat → Nat → Int32) (rv : Nat → Int32), n ≤ 12 ∧ z = 12 - n ∧ Wd D T A s ([(l0, .inr (1, [.ref tr, .ref rp, .ref bh])), (rp, .inr (4, [.int (rv 0), .int (rv 1), .int (rv 2), .int (rv 3), .int (rv 4)])), (bh, .inl (T 3, 5, .inr (.inr (.inr (.inr (fun j => some (bd j 0)))))))] ++ ((pblk T (bd 1) (bs 1)) ++ ((pblk T (bd 2) (bs 2)) ++ ((pblk T (bd 3) (bs 3)) ++ ((pblk T q P) ++ ([(q4, .inl (T 0, 4, .inl E))])))))) H2 locs2 ∧ lv_has ls2 6 [(0, .ref l0), (1, .ref (q 0)), (2, .ref q4), (3, .int (nI 3)), (4, .int (gotM (scanM P (vbM 2 P) n))), (5, .int (nI n))]) ?_ 12 ⟨0, bs, rv, by omega, rfl, hW, by rw [scan_0, got_0]; exact lv_sub hl [2, 3, 4, 5, 1, 0] rfl⟩
    rintro z H locs ls ⟨n, bs, rv, hn, rfl, hW, hl⟩ ih
    refine lv_iload hx hb dX1_valueOf_24 (lv_at hl 5 rfl) ?_
    refine lv_bipush (v := nI 12) hx hb dX1_valueOf_26 (by decide) ?_
    refine lv_icmp_ge (tgt := 62) hx hb dX1_valueOf_28 (by decide) (fun h28x => ?_) (fun h28x => ?_)
    · have h9 : n = 12 := by have := n_le h28x (by omega) (by omega); omega
      subst h9
      refine lv_iload hx hb dX1_valueOf_62 (lv_at hl 4 rfl) ?_
      exact retI F hr hlk rfl hW (bs, rv) (by rw [valM_s, if_pos h4]) rfl dX1_valueOf_64
    · have h9 : n < 12 := n_nle h28x (by decide) (by omega)
      refine lv_aload_n hx hb dX1_valueOf_31 rfl (lv_at hl 1 rfl) ?_
      refine lv_iload hx hb dX1_valueOf_32 (lv_at hl 5 rfl) ?_
      refine cRV (As := [.int (nI n)]) (rest := []) F hW hl cs331 (c_canMoveFrom l D T (q 0) (q 1) (q 2) (q 3) (P 26) (P 27) (P 28) (fun j => P j) (h := n) (by omega)) [15, 16] rfl rfl 0 3 rfl rfl rfl rfl rfl (Nat.le_of_ble_eq_true rfl) ⟨Nat.le_of_ble_eq_true rfl, Nat.le_of_ble_eq_true rfl⟩ ⟨Nat.zero_le _, Nat.zero_le _⟩ dX1_valueOf_34 (fun r34 hr34 => ?_)
      subst hr34
      refine lv_if_eq (tgt := 56) hx hb dX1_valueOf_37 (by decide) (fun h37 => ?_) (fun h37 => ?_)
      · have hn2 : ¬ legM P n := bz.mp h37
        rw [← got_skip (v := (vbM 2 P)) hn2] at hl
        refine lv_iinc (v := nI (n + 1)) (lv' := [(5, .int (nI (n + 1))), (0, .ref l0), (1, .ref (q 0)), (2, .ref q4), (3, .int (nI 3)), (4, .int (gotM (scanM P (vbM 2 P) (n + 1))))]) hx hb dX1_valueOf_56 hl (k := 5) rfl (nI_add _ _) (by decide) rfl (fun ls hl => ?_)
        refine lv_goto (tgt := 24) hx hb dX1_valueOf_59 (by decide) ?_
        exact ih (12 - (n + 1)) _ _ _ (by omega) ⟨n + 1, bs, rv, by omega, rfl, hW, lv_sub hl [1, 2, 3, 4, 5, 0] rfl⟩
      · have hleg : legM P n := Decidable.not_not.mp (fun q => h37 (bz.mpr q))
        refine lv_iload hx hb dX1_valueOf_40 (lv_at hl 4 rfl) ?_
        refine lv_aload_n hx hb dX1_valueOf_42 rfl (lv_at hl 0 rfl) ?_
        refine lv_aload_n hx hb dX1_valueOf_43 rfl (lv_at hl 1 rfl) ?_
        refine lv_iload hx hb dX1_valueOf_44 (lv_at hl 5 rfl) ?_
        refine lv_aload_n hx hb dX1_valueOf_46 rfl (lv_at hl 2 rfl) ?_
        refine lv_iload_n hx hb dX1_valueOf_47 rfl (lv_at hl 3 rfl) ?_
        refine cIV (As := [.ref (q 0), .int (nI n), .ref q4, .int (nI 3)]) (rest := [.int (gotM (scanM P (vbM 2 P) n))]) (wr := []) F hW hl cs332 (c_valueBehind3 l D T l0 tr rp bh q4 bd q bs rv E P hI hE (h := n) h9 hleg) [0, 1, 2, 3, 4, 5, 6, 7, 8, 9, 10, 11, 12, 13, 14, 15, 16, 17, 18, 19] [] rfl rfl rfl rfl (by decide) 0 1 rfl rfl rfl rfl rfl (Nat.le_of_ble_eq_true rfl) ⟨Nat.le_of_ble_eq_true rfl, Nat.le_of_ble_eq_true rfl⟩ ⟨Nat.zero_le _, Nat.zero_le _⟩ dX1_valueOf_48 (fun r48 u48 H locs hr48 hW => ?_)
        have hW := Wd.ord hW (ws' := ([(l0, .inr (1, [.ref tr, .ref rp, .ref bh])), (rp, .inr (4, [.int (u48.2 0), .int (u48.2 1), .int (u48.2 2), .int (u48.2 3), .int (u48.2 4)])), (bh, .inl (T 3, 5, .inr (.inr (.inr (.inr (fun j => some (bd j 0)))))))] ++ ((pblk T (bd 1) (u48.1 1)) ++ ((pblk T (bd 2) (u48.1 2)) ++ ((pblk T (bd 3) (u48.1 3)) ++ ((pblk T q P) ++ ([(q4, .inl (T 0, 4, .inl E))]))))))) [0, 1, 2, 3, 4, 5, 6, 7, 8, 9, 10, 11, 12, 13, 14, 15, 16, 17, 18, 19] rfl rfl
        subst hr48
        refine vmax F hl m346 (Nat.le_of_ble_eq_true rfl) (Nat.le_of_ble_eq_true rfl) ⟨Nat.zero_le _, Nat.zero_le _⟩ (z := gotM (scanM P (vbM 2 P) (n + 1))) (got_step h9 hv hleg) dX1_valueOf_51 ?_
        refine lv_istore (lv' := [(4, .int (gotM (scanM P (vbM 2 P) (n + 1)))), (0, .ref l0), (1, .ref (q 0)), (2, .ref q4), (3, .int (nI 3)), (5, .int (nI n))]) hx hb dX1_valueOf_54 hl (by decide) rfl (fun ls hl => ?_)
        refine lv_iinc (v := nI (n + 1)) (lv' := [(5, .int (nI (n + 1))), (4, .int (gotM (scanM P (vbM 2 P) (n + 1)))), (0, .ref l0), (1, .ref (q 0)), (2, .ref q4), (3, .int (nI 3))]) hx hb dX1_valueOf_56 hl (k := 5) rfl (nI_add _ _) (by decide) rfl (fun ls hl => ?_)
        refine lv_goto (tgt := 24) hx hb dX1_valueOf_59 (by decide) ?_
        exact ih (12 - (n + 1)) _ _ _ (by omega) ⟨n + 1, u48.1, u48.2, by omega, rfl, hW, lv_sub hl [2, 3, 4, 5, 1, 0] rfl⟩
set_option maxHeartbeats 4000000 in
set_option maxRecDepth 100000 in
theorem c_valueBehind4 (l : Launch) (D : va_G) (T : Nat → ClassId) (l0 tr rp bh q4 : Nat) (bd : Nat → Nat → Nat) (q : Nat → Nat) (bs : Nat → Nat → Int32) (rv E P : Nat → Int32) {S : Int} (hI : Iv S P) (hE : ∀ j, j < 4 → E j = P (34 + j)) {h : Nat} (hh : h < 12) (hleg : legM P h) : KI (S := (Nat → Nat → Int32) × (Nat → Int32)) l D T yX1_valueBehind cX1_valueBehind 7 (some .int) 10 [.ref l0, .ref (q 0), .int (nI h), .ref q4, .int (nI 4)] ([(l0, .inr (1, [.ref tr, .ref rp, .ref bh])), (rp, .inr (4, [.int (rv 0), .int (rv 1), .int (rv 2), .int (rv 3), .int (rv 4)])), (bh, .inl (T 3, 5, .inr (.inr (.inr (.inr (fun j => some (bd j 0)))))))] ++ ((pblk T (bd 1) (bs 1)) ++ ((pblk T (bd 2) (bs 2)) ++ ((pblk T (bd 3) (bs 3)) ++ ((pblk T (bd 4) (bs 4)) ++ ((pblk T q P) ++ ([(q4, .inl (T 0, 4, .inl E))]))))))) (fun r _ => r = vbM 3 P h) (fun u => ([(l0, .inr (1, [.ref tr, .ref rp, .ref bh])), (rp, .inr (4, [.int (u.2 0), .int (u.2 1), .int (u.2 2), .int (u.2 3), .int (u.2 4)])), (bh, .inl (T 3, 5, .inr (.inr (.inr (.inr (fun j => some (bd j 0)))))))] ++ ((pblk T (bd 1) (u.1 1)) ++ ((pblk T (bd 2) (u.1 2)) ++ ((pblk T (bd 3) (u.1 3)) ++ ((pblk T (bd 4) (u.1 4)) ++ ((pblk T q P) ++ ([(q4, .inl (T 0, 4, .inl E))])))))))) := by
  refine KI.of (by decide +kernel) (Nat.le_of_ble_eq_true rfl) (fun p e s m below meth c A F hr hlk hW ls hl => ?_)
  have hx := F.1
  have hb := F.2.1
  have hl : lv_has ls 7 [(0, .ref l0), (1, .ref (q 0)), (2, .int (nI h)), (3, .ref q4), (4, .int (nI 4))] := hl
  obtain ⟨hJ, ⟨k, hk, h26⟩, hov, ⟨mk, h28, hm1, hm2⟩, h36, h37, hex⟩ := id hI
  have hI2 := (hI.mv hh hleg).1
  refine lv_iload hx hb dX1_valueBehind_0 (lv_at hl 4 rfl) ?_
  refine lv_iconst (v := nI 1) hx hb dX1_valueBehind_2 (by decide) ?_
  refine lv_icmp_lt (tgt := 12) hx hb dX1_valueBehind_3 (by decide) (fun h9 => absurd h9 (by decide)) (fun _ => ?_)
  refine lv_iload hx hb dX1_valueBehind_6 (lv_at hl 4 rfl) ?_
  refine lv_iconst (v := nI 4) hx hb dX1_valueBehind_8 (by decide) ?_
  refine lv_icmp_le (tgt := 17) hx hb dX1_valueBehind_9 (by decide) (fun _ => ?_) (fun h9 => absurd (by decide) h9)
  have hset : ∀ j, 34 ≤ j → mvM P h j = P j := fun j hj => mvM_set hI hh hleg hj
  refine lv_aload_n hx hb dX1_valueBehind_17 rfl (lv_at hl 0 rfl) ?_
  refine gf195 F hW 0 rfl rfl dX1_valueBehind_18 ?_
  refine lv_iload hx hb dX1_valueBehind_21 (lv_at hl 4 rfl) ?_
  refine aald F hW 2 3 rfl rfl (r := (bd 4) 0) 4 rfl (by omega) (by decide) rfl dX1_valueBehind_23 ?_
  refine lv_astore (lv' := [(5, .ref ((bd 4) 0)), (0, .ref l0), (1, .ref (q 0)), (2, .int (nI h)), (3, .ref q4), (4, .int (nI 4))]) hx hb dX1_valueBehind_24 hl (by decide) rfl (fun ls hl => ?_)
  refine lv_aload hx hb dX1_valueBehind_26 (lv_at hl 0 rfl) ?_
  refine lv_aload_n hx hb dX1_valueBehind_28 rfl (lv_at hl 2 rfl) ?_
  refine cVV (As := [.ref (q 0)]) (rest := []) (wr := ([(l0, .inr (1, [.ref tr, .ref rp, .ref bh])), (rp, .inr (4, [.int (rv 0), .int (rv 1), .int (rv 2), .int (rv 3), .int (rv 4)])), (bh, .inl (T 3, 5, .inr (.inr (.inr (.inr (fun j => some (bd j 0)))))))] ++ ((pblk T (bd 1) (bs 1)) ++ ((pblk T (bd 2) (bs 2)) ++ ((pblk T (bd 3) (bs 3)) ++ ([(q4, .inl (T 0, 4, .inl E))])))))) F hW hl cs340 (c_posCopy l D T ((bd 4) 0) ((bd 4) 1) ((bd 4) 2) ((bd 4) 3) (q 0) (q 1) (q 2) (q 3) ((bs 4) 26) ((bs 4) 27) ((bs 4) 28) (P 26) (P 27) (P 28) (fun j => (bs 4) j) (fun j => (bs 4) (12 + j)) (fun j => (bs 4) (24 + j)) (fun j => P j) (fun j => P (12 + j)) (fun j => P (24 + j)) hov) [15, 16, 17, 18, 19, 20, 21, 22] [0, 1, 2, 3, 4, 5, 6, 7, 8, 9, 10, 11, 12, 13, 14, 23] rfl rfl rfl rfl (by decide) 0 3 rfl rfl rfl rfl rfl (Nat.le_of_ble_eq_true rfl) ⟨Nat.le_of_ble_eq_true rfl, Nat.le_of_ble_eq_true rfl⟩ ⟨Nat.zero_le _, Nat.zero_le _⟩ dX1_valueBehind_29 (fun u29 H locs hr29 hW => ?_)
  have hW := Wd.ord hW (ws' := ([(l0, .inr (1, [.ref tr, .ref rp, .ref bh])), (rp, .inr (4, [.int (rv 0), .int (rv 1), .int (rv 2), .int (rv 3), .int (rv 4)])), (bh, .inl (T 3, 5, .inr (.inr (.inr (.inr (fun j => some (bd j 0)))))))] ++ ((pblk T (bd 1) (bs 1)) ++ ((pblk T (bd 2) (bs 2)) ++ ((pblk T (bd 3) (bs 3)) ++ ([((bd 4) 0, .inr (3, [.ref ((bd 4) 1), .ref ((bd 4) 2), .ref ((bd 4) 3), .int (P 26), .int (P 27), .int (P 28)])), ((bd 4) 1, .inl (T 0, 12, .inl (fun j => P j))), ((bd 4) 2, .inl (T 0, 12, .inl (fun j => P (12 + j)))), ((bd 4) 3, .inl (T 0, 2, .inl (fun j => P (24 + j))))] ++ ((pblk T q P) ++ ([(q4, .inl (T 0, 4, .inl E))])))))))) [0, 1, 2, 3, 4, 5, 6, 7, 8, 9, 10, 11, 12, 13, 14, 16, 17, 18, 19, 20, 21, 22, 23, 15] rfl rfl
  refine lv_aload hx hb dX1_valueBehind_32 (lv_at hl 0 rfl) ?_
  refine lv_iload_n hx hb dX1_valueBehind_34 rfl (lv_at hl 3 rfl) ?_
  refine lv_aload_n hx hb dX1_valueBehind_35 rfl (lv_at hl 4 rfl) ?_
  refine lv_aload_n hx hb dX1_valueBehind_36 rfl (lv_at hl 1 rfl) ?_
  refine gf193 F hW 0 rfl rfl dX1_valueBehind_37 ?_
  refine cVV (As := [.int (nI h), .ref q4, .ref rp]) (rest := []) (wr := ([(l0, .inr (1, [.ref tr, .ref rp, .ref bh])), (bh, .inl (T 3, 5, .inr (.inr (.inr (.inr (fun j => some (bd j 0)))))))] ++ ((pblk T (bd 1) (bs 1)) ++ ((pblk T (bd 2) (bs 2)) ++ ((pblk T (bd 3) (bs 3)) ++ ((pblk T q P))))))) F hW hl cs341 (c_makeMoveP l D T ((bd 4) 0) ((bd 4) 1) ((bd 4) 2) ((bd 4) 3) q4 rp (pl := k) hk (P 26) h26 (P 27) (P 28) (fun j => P j) (fun j => P (12 + j)) (fun j => P (24 + j)) E (rv 0) (rv 1) (rv 2) (rv 3) (rv 4) P ⟨fun _ _ => rfl, fun _ _ => rfl, fun _ _ => rfl⟩ rfl rfl hE (fr := h) hh hJ h36 h37 (leg_pos hleg) h26 hleg.1 h28 (hm2 hleg.1)) [15, 16, 17, 18, 23, 1] [0, 2, 3, 4, 5, 6, 7, 8, 9, 10, 11, 12, 13, 14, 19, 20, 21, 22] rfl rfl rfl rfl (by decide) 0 3 rfl rfl rfl rfl rfl (Nat.le_of_ble_eq_true rfl) ⟨Nat.le_of_ble_eq_true rfl, Nat.le_of_ble_eq_true rfl⟩ ⟨Nat.zero_le _, Nat.zero_le _⟩ dX1_valueBehind_40 (fun u40 H locs hr40 hW => ?_)
  have hW := Wd.ord hW (ws' := ([(l0, .inr (1, [.ref tr, .ref rp, .ref bh])), (rp, .inr (4, [.int ((mvM P h) 29), .int ((mvM P h) 30), .int ((mvM P h) 31), .int ((mvM P h) 32), .int ((mvM P h) 33)])), (bh, .inl (T 3, 5, .inr (.inr (.inr (.inr (fun j => some (bd j 0)))))))] ++ ((pblk T (bd 1) (bs 1)) ++ ((pblk T (bd 2) (bs 2)) ++ ((pblk T (bd 3) (bs 3)) ++ ([((bd 4) 0, .inr (3, [.ref ((bd 4) 1), .ref ((bd 4) 2), .ref ((bd 4) 3), .int ((mvM P h) 26), .int ((mvM P h) 27), .int ((mvM P h) 28)])), ((bd 4) 1, .inl (T 0, 12, .inl (fun j => (mvM P h) j))), ((bd 4) 2, .inl (T 0, 12, .inl (fun j => (mvM P h) (12 + j)))), ((bd 4) 3, .inl (T 0, 2, .inl (fun j => (mvM P h) (24 + j))))] ++ ((pblk T q P) ++ ([(q4, .inl (T 0, 4, .inl E))])))))))) [0, 23, 1, 2, 3, 4, 5, 6, 7, 8, 9, 10, 11, 12, 13, 18, 19, 20, 21, 14, 15, 16, 17, 22] rfl rfl
  obtain ⟨z, hz⟩ : ∃ z, mvM P h = z := ⟨_, rfl⟩
  rw [hz] at hW hI2 hset
  refine lv_aload_n hx hb dX1_valueBehind_43 rfl (lv_at hl 1 rfl) ?_
  refine lv_aload hx hb dX1_valueBehind_44 (lv_at hl 0 rfl) ?_
  refine lv_aload_n hx hb dX1_valueBehind_46 rfl (lv_at hl 4 rfl) ?_
  refine lv_iload hx hb dX1_valueBehind_47 (lv_at hl 5 rfl) ?_
  refine lv_iconst (v := nI 1) hx hb dX1_valueBehind_49 (by decide) ?_
  refine isubE (z := nI 3) hx hb dX1_valueBehind_50 (by decide) ?_
  refine cIV (As := [.ref ((bd 4) 0), .ref q4, .int (nI 3)]) (rest := []) (wr := (pblk T q P)) F hW hl cs342 (c_valueOf3 l D T l0 tr rp bh q4 bd (bd 4) bs (fun j => z (29 + j)) E z hI2 (fun j hj => (hE j hj).trans (hset (34 + j) (by omega)).symm)) [0, 1, 2, 3, 4, 5, 6, 7, 8, 9, 10, 11, 12, 13, 14, 15, 16, 17, 18, 23] [19, 20, 21, 22] rfl rfl rfl rfl (by decide) 0 1 rfl rfl rfl rfl rfl (Nat.le_of_ble_eq_true rfl) ⟨Nat.le_of_ble_eq_true rfl, Nat.le_of_ble_eq_true rfl⟩ ⟨Nat.zero_le _, Nat.zero_le _⟩ dX1_valueBehind_51 (fun r51 u51 H locs hr51 hW => ?_)
  have hW := Wd.ord hW (ws' := ([(l0, .inr (1, [.ref tr, .ref rp, .ref bh])), (rp, .inr (4, [.int (u51.2 0), .int (u51.2 1), .int (u51.2 2), .int (u51.2 3), .int (u51.2 4)])), (bh, .inl (T 3, 5, .inr (.inr (.inr (.inr (fun j => some (bd j 0)))))))] ++ ((pblk T (bd 1) (u51.1 1)) ++ ((pblk T (bd 2) (u51.1 2)) ++ ((pblk T (bd 3) (u51.1 3)) ++ ((pblk T (bd 4) z) ++ ((pblk T q P) ++ ([(q4, .inl (T 0, 4, .inl E))])))))))) [4, 5, 6, 7, 8, 9, 10, 11, 12, 13, 14, 15, 16, 17, 18, 19, 20, 21, 22, 0, 1, 2, 3, 23] rfl rfl
  subst hr51
  refine lv_istore (lv' := [(6, .int (valM 3 z)), (5, .ref ((bd 4) 0)), (0, .ref l0), (1, .ref (q 0)), (2, .int (nI h)), (3, .ref q4), (4, .int (nI 4))]) hx hb dX1_valueBehind_54 hl (by decide) rfl (fun ls hl => ?_)
  refine lv_aload hx hb dX1_valueBehind_56 (lv_at hl 1 rfl) ?_
  refine gf61 F hW 15 rfl rfl dX1_valueBehind_58 ?_
  refine lv_aload_n hx hb dX1_valueBehind_61 rfl (lv_at hl 3 rfl) ?_
  refine gf61 F hW 19 rfl rfl dX1_valueBehind_62 ?_
  refine lv_icmp_ne (tgt := 73) hx hb dX1_valueBehind_65 (by decide) (fun h65 => ?_) (fun h65 => ?_)
  · refine lv_iload hx hb dX1_valueBehind_73 (lv_at hl 0 rfl) ?_
    refine lv_ineg hx hb dX1_valueBehind_75 ?_
    exact retI F hr hlk rfl hW (fun j => if j = 4 then z else u51.1 j, u51.2) (by unfold vbM; rw [hz, if_neg h65]) rfl dX1_valueBehind_76
  · refine lv_iload hx hb dX1_valueBehind_68 (lv_at hl 0 rfl) ?_
    refine lv_goto (tgt := 76) hx hb dX1_valueBehind_70 (by decide) ?_
    exact retI F hr hlk rfl hW (fun j => if j = 4 then z else u51.1 j, u51.2) (by unfold vbM; rw [hz, if_pos h65]) rfl dX1_valueBehind_76
set_option maxHeartbeats 4000000 in
set_option maxRecDepth 100000 in
theorem c_valueOf4 (l : Launch) (D : va_G) (T : Nat → ClassId) (l0 tr rp bh q4 : Nat) (bd : Nat → Nat → Nat) (q : Nat → Nat) (bs : Nat → Nat → Int32) (rv E P : Nat → Int32) {S : Int} (hI : Iv S P) (hE : ∀ j, j < 4 → E j = P (34 + j)) : KI (S := (Nat → Nat → Int32) × (Nat → Int32)) l D T yX1_valueOf cX1_valueOf 6 (some .int) 11 [.ref l0, .ref (q 0), .ref q4, .int (nI 4)] ([(l0, .inr (1, [.ref tr, .ref rp, .ref bh])), (rp, .inr (4, [.int (rv 0), .int (rv 1), .int (rv 2), .int (rv 3), .int (rv 4)])), (bh, .inl (T 3, 5, .inr (.inr (.inr (.inr (fun j => some (bd j 0)))))))] ++ ((pblk T (bd 1) (bs 1)) ++ ((pblk T (bd 2) (bs 2)) ++ ((pblk T (bd 3) (bs 3)) ++ ((pblk T (bd 4) (bs 4)) ++ ((pblk T q P) ++ ([(q4, .inl (T 0, 4, .inl E))]))))))) (fun r _ => r = valM 4 P) (fun u => ([(l0, .inr (1, [.ref tr, .ref rp, .ref bh])), (rp, .inr (4, [.int (u.2 0), .int (u.2 1), .int (u.2 2), .int (u.2 3), .int (u.2 4)])), (bh, .inl (T 3, 5, .inr (.inr (.inr (.inr (fun j => some (bd j 0)))))))] ++ ((pblk T (bd 1) (u.1 1)) ++ ((pblk T (bd 2) (u.1 2)) ++ ((pblk T (bd 3) (u.1 3)) ++ ((pblk T (bd 4) (u.1 4)) ++ ((pblk T q P) ++ ([(q4, .inl (T 0, 4, .inl E))])))))))) := by
  refine KI.of (by decide +kernel) (Nat.le_of_ble_eq_true rfl) (fun p e s m below meth c A F hr hlk hW ls hl => ?_)
  have hx := F.1
  have hb := F.2.1
  have hl : lv_has ls 6 [(0, .ref l0), (1, .ref (q 0)), (2, .ref q4), (3, .int (nI 4))] := hl
  obtain ⟨hJ, ⟨k, hk, h26⟩, hov, ⟨mk, h28, hm1, hm2⟩, h36, h37, hex⟩ := id hI
  refine lv_aload_n hx hb dX1_valueOf_0 rfl (lv_at hl 1 rfl) ?_
  refine gf63 F hW 19 rfl rfl dX1_valueOf_1 ?_
  refine lv_if_ne (tgt := 11) hx hb dX1_valueOf_4 (by decide) (fun h4 => ?_) (fun h4 => ?_)
  · refine lv_aload_n hx hb dX1_valueOf_11 rfl (lv_at hl 1 rfl) ?_
    refine cRV (As := []) (rest := []) F hW hl cs336 (c_leadP l D T (q 0) (q 1) (q 2) (q 3) hk (P 26) (P 27) (P 28) h26 (fun j => P (24 + j))) [19, 22] rfl rfl 0 3 rfl rfl rfl rfl rfl (Nat.le_of_ble_eq_true rfl) ⟨Nat.le_of_ble_eq_true rfl, Nat.le_of_ble_eq_true rfl⟩ ⟨Nat.zero_le _, Nat.zero_le _⟩ dX1_valueOf_12 (fun r12 hr12 => ?_)
    subst hr12
    exact retI F hr hlk rfl hW (bs, rv) (by rw [valM_s, if_neg h4, lead_eq hk h26]) rfl dX1_valueOf_15
  · refine lv_iload_n hx hb dX1_valueOf_7 rfl (lv_at hl 3 rfl) ?_
    refine lv_if_gt (tgt := 16) hx hb dX1_valueOf_8 (by decide) (fun _ => ?_) (fun h9 => absurd (by decide) h9)
    refine lv_sipush (v := -10000) hx hb dX1_valueOf_16 (by decide) ?_
    refine lv_istore (lv' := [(4, .int (-10000)), (0, .ref l0), (1, .ref (q 0)), (2, .ref q4), (3, .int (nI 4))]) hx hb dX1_valueOf_19 hl (by decide) rfl (fun ls hl => ?_)
    refine lv_iconst (v := nI 0) hx hb dX1_valueOf_21 (by decide) ?_
    refine lv_istore (lv' := [(5, .int (nI 0)), (4, .int (-10000)), (0, .ref l0), (1, .ref (q 0)), (2, .ref q4), (3, .int (nI 4))]) hx hb dX1_valueOf_22 hl (by decide) rfl (fun ls hl => ?_)
    have hv : ∀ h, h < 12 → legM P h → -2000 ≤ (vbM 3 P h).toInt ∧ (vbM 3 P h).toInt ≤ 2000 := fun h hh hl => vbM_b hI 3 hh hl
    refine W.loop (fun z H2 locs2 ls2 => ∃ (n : Nat) (bs : Nat → Nat → Int32) (rv : Nat → Int32), n ≤ 12 ∧ z = 12 - n ∧ Wd D T A s ([(l0, .inr (1, [.ref tr, .ref rp, .ref bh])), (rp, .inr (4, [.int (rv 0), .int (rv 1), .int (rv 2), .int (rv 3), .int (rv 4)])), (bh, .inl (T 3, 5, .inr (.inr (.inr (.inr (fun j => some (bd j 0)))))))] ++ ((pblk T (bd 1) (bs 1)) ++ ((pblk T (bd 2) (bs 2)) ++ ((pblk T (bd 3) (bs 3)) ++ ((pblk T (bd 4) (bs 4)) ++ ((pblk T q P) ++ ([(q4, .inl (T 0, 4, .inl E))]))))))) H2 locs2 ∧ lv_has ls2 6 [(0, .ref l0), (1, .ref (q 0)), (2, .ref q4), (3, .int (nI 4)), (4, .int (gotM (scanM P (vbM 3 P) n))), (5, .int (nI n))]) ?_ 12 ⟨0, bs, rv, by omega, rfl, hW, by rw [scan_0, got_0]; exact lv_sub hl [2, 3, 4, 5, 1, 0] rfl⟩
    rintro z H locs ls ⟨n, bs, rv, hn, rfl, hW, hl⟩ ih
    refine lv_iload hx hb dX1_valueOf_24 (lv_at hl 5 rfl) ?_
    refine lv_bipush (v := nI 12) hx hb dX1_valueOf_26 (by decide) ?_
    refine lv_icmp_ge (tgt := 62) hx hb dX1_valueOf_28 (by decide) (fun h28x => ?_) (fun h28x => ?_)
    · have h9 : n = 12 := by have := n_le h28x (by omega) (by omega); omega
      subst h9
      refine lv_iload hx hb dX1_valueOf_62 (lv_at hl 4 rfl) ?_
      exact retI F hr hlk rfl hW (bs, rv) (by rw [valM_s, if_pos h4]) rfl dX1_valueOf_64
    · have h9 : n < 12 := n_nle h28x (by decide) (by omega)
      refine lv_aload_n hx hb dX1_valueOf_31 rfl (lv_at hl 1 rfl) ?_
      refine lv_iload hx hb dX1_valueOf_32 (lv_at hl 5 rfl) ?_
      refine cRV (As := [.int (nI n)]) (rest := []) F hW hl cs331 (c_canMoveFrom l D T (q 0) (q 1) (q 2) (q 3) (P 26) (P 27) (P 28) (fun j => P j) (h := n) (by omega)) [19, 20] rfl rfl 0 3 rfl rfl rfl rfl rfl (Nat.le_of_ble_eq_true rfl) ⟨Nat.le_of_ble_eq_true rfl, Nat.le_of_ble_eq_true rfl⟩ ⟨Nat.zero_le _, Nat.zero_le _⟩ dX1_valueOf_34 (fun r34 hr34 => ?_)
      subst hr34
      refine lv_if_eq (tgt := 56) hx hb dX1_valueOf_37 (by decide) (fun h37 => ?_) (fun h37 => ?_)
      · have hn2 : ¬ legM P n := bz.mp h37
        rw [← got_skip (v := (vbM 3 P)) hn2] at hl
        refine lv_iinc (v := nI (n + 1)) (lv' := [(5, .int (nI (n + 1))), (0, .ref l0), (1, .ref (q 0)), (2, .ref q4), (3, .int (nI 4)), (4, .int (gotM (scanM P (vbM 3 P) (n + 1))))]) hx hb dX1_valueOf_56 hl (k := 5) rfl (nI_add _ _) (by decide) rfl (fun ls hl => ?_)
        refine lv_goto (tgt := 24) hx hb dX1_valueOf_59 (by decide) ?_
        exact ih (12 - (n + 1)) _ _ _ (by omega) ⟨n + 1, bs, rv, by omega, rfl, hW, lv_sub hl [1, 2, 3, 4, 5, 0] rfl⟩
      · have hleg : legM P n := Decidable.not_not.mp (fun q => h37 (bz.mpr q))
        refine lv_iload hx hb dX1_valueOf_40 (lv_at hl 4 rfl) ?_
        refine lv_aload_n hx hb dX1_valueOf_42 rfl (lv_at hl 0 rfl) ?_
        refine lv_aload_n hx hb dX1_valueOf_43 rfl (lv_at hl 1 rfl) ?_
        refine lv_iload hx hb dX1_valueOf_44 (lv_at hl 5 rfl) ?_
        refine lv_aload_n hx hb dX1_valueOf_46 rfl (lv_at hl 2 rfl) ?_
        refine lv_iload_n hx hb dX1_valueOf_47 rfl (lv_at hl 3 rfl) ?_
        refine cIV (As := [.ref (q 0), .int (nI n), .ref q4, .int (nI 4)]) (rest := [.int (gotM (scanM P (vbM 3 P) n))]) (wr := []) F hW hl cs332 (c_valueBehind4 l D T l0 tr rp bh q4 bd q bs rv E P hI hE (h := n) h9 hleg) [0, 1, 2, 3, 4, 5, 6, 7, 8, 9, 10, 11, 12, 13, 14, 15, 16, 17, 18, 19, 20, 21, 22, 23] [] rfl rfl rfl rfl (by decide) 0 1 rfl rfl rfl rfl rfl (Nat.le_of_ble_eq_true rfl) ⟨Nat.le_of_ble_eq_true rfl, Nat.le_of_ble_eq_true rfl⟩ ⟨Nat.zero_le _, Nat.zero_le _⟩ dX1_valueOf_48 (fun r48 u48 H locs hr48 hW => ?_)
        have hW := Wd.ord hW (ws' := ([(l0, .inr (1, [.ref tr, .ref rp, .ref bh])), (rp, .inr (4, [.int (u48.2 0), .int (u48.2 1), .int (u48.2 2), .int (u48.2 3), .int (u48.2 4)])), (bh, .inl (T 3, 5, .inr (.inr (.inr (.inr (fun j => some (bd j 0)))))))] ++ ((pblk T (bd 1) (u48.1 1)) ++ ((pblk T (bd 2) (u48.1 2)) ++ ((pblk T (bd 3) (u48.1 3)) ++ ((pblk T (bd 4) (u48.1 4)) ++ ((pblk T q P) ++ ([(q4, .inl (T 0, 4, .inl E))])))))))) [0, 1, 2, 3, 4, 5, 6, 7, 8, 9, 10, 11, 12, 13, 14, 15, 16, 17, 18, 19, 20, 21, 22, 23] rfl rfl
        subst hr48
        refine vmax F hl m346 (Nat.le_of_ble_eq_true rfl) (Nat.le_of_ble_eq_true rfl) ⟨Nat.zero_le _, Nat.zero_le _⟩ (z := gotM (scanM P (vbM 3 P) (n + 1))) (got_step h9 hv hleg) dX1_valueOf_51 ?_
        refine lv_istore (lv' := [(4, .int (gotM (scanM P (vbM 3 P) (n + 1)))), (0, .ref l0), (1, .ref (q 0)), (2, .ref q4), (3, .int (nI 4)), (5, .int (nI n))]) hx hb dX1_valueOf_54 hl (by decide) rfl (fun ls hl => ?_)
        refine lv_iinc (v := nI (n + 1)) (lv' := [(5, .int (nI (n + 1))), (4, .int (gotM (scanM P (vbM 3 P) (n + 1)))), (0, .ref l0), (1, .ref (q 0)), (2, .ref q4), (3, .int (nI 4))]) hx hb dX1_valueOf_56 hl (k := 5) rfl (nI_add _ _) (by decide) rfl (fun ls hl => ?_)
        refine lv_goto (tgt := 24) hx hb dX1_valueOf_59 (by decide) ?_
        exact ih (12 - (n + 1)) _ _ _ (by omega) ⟨n + 1, u48.1, u48.2, by omega, rfl, hW, lv_sub hl [2, 3, 4, 5, 1, 0] rfl⟩
set_option maxHeartbeats 4000000 in
set_option maxRecDepth 100000 in
theorem c_bestHouse1 (l : Launch) (D : va_G) (T : Nat → ClassId) (l0 tr rp bh q4 : Nat) (bd : Nat → Nat → Nat) (q : Nat → Nat) (bs : Nat → Nat → Int32) (rv E P : Nat → Int32) {S : Int} (hI : Iv S P) (hE : ∀ j, j < 4 → E j = P (34 + j)) : KI (S := (Nat → Nat → Int32) × (Nat → Int32)) l D T yX1_bestHouse cX1_bestHouse 8 (some .int) 5 [.ref l0, .ref (q 0), .ref q4, .int (nI 1)] ([(l0, .inr (1, [.ref tr, .ref rp, .ref bh])), (rp, .inr (4, [.int (rv 0), .int (rv 1), .int (rv 2), .int (rv 3), .int (rv 4)])), (bh, .inl (T 3, 5, .inr (.inr (.inr (.inr (fun j => some (bd j 0)))))))] ++ ((pblk T (bd 1) (bs 1)) ++ ((pblk T q P) ++ ([(q4, .inl (T 0, 4, .inl E))])))) (fun r _ => r = houM (scanM P (vbM 0 P) 12)) (fun u => ([(l0, .inr (1, [.ref tr, .ref rp, .ref bh])), (rp, .inr (4, [.int (u.2 0), .int (u.2 1), .int (u.2 2), .int (u.2 3), .int (u.2 4)])), (bh, .inl (T 3, 5, .inr (.inr (.inr (.inr (fun j => some (bd j 0)))))))] ++ ((pblk T (bd 1) (u.1 1)) ++ ((pblk T q P) ++ ([(q4, .inl (T 0, 4, .inl E))]))))) := by
  refine KI.of (by decide +kernel) (Nat.le_of_ble_eq_true rfl) (fun p e s m below meth c A F hr hlk hW ls hl => ?_)
  have hx := F.1
  have hb := F.2.1
  have hl : lv_has ls 8 [(0, .ref l0), (1, .ref (q 0)), (2, .ref q4), (3, .int (nI 1))] := hl
  refine lv_bipush (v := -6) hx hb dX1_bestHouse_0 (by decide) ?_
  refine lv_istore (lv' := [(4, .int (-6)), (0, .ref l0), (1, .ref (q 0)), (2, .ref q4), (3, .int (nI 1))]) hx hb dX1_bestHouse_2 hl (by decide) rfl (fun ls hl => ?_)
  refine lv_sipush (v := -10000) hx hb dX1_bestHouse_4 (by decide) ?_
  refine lv_istore (lv' := [(5, .int (-10000)), (4, .int (-6)), (0, .ref l0), (1, .ref (q 0)), (2, .ref q4), (3, .int (nI 1))]) hx hb dX1_bestHouse_7 hl (by decide) rfl (fun ls hl => ?_)
  refine lv_iconst (v := nI 0) hx hb dX1_bestHouse_9 (by decide) ?_
  refine lv_istore (lv' := [(6, .int (nI 0)), (5, .int (-10000)), (4, .int (-6)), (0, .ref l0), (1, .ref (q 0)), (2, .ref q4), (3, .int (nI 1))]) hx hb dX1_bestHouse_10 hl (by decide) rfl (fun ls hl => ?_)
  have hv : ∀ h, h < 12 → legM P h → -2000 ≤ (vbM 0 P h).toInt ∧ (vbM 0 P h).toInt ≤ 2000 := fun h hh hl => vbM_b hI 0 hh hl
  refine W.loop (fun z H2 locs2 ls2 => ∃ (n : Nat) (bs : Nat → Nat → Int32) (rv : Nat → Int32), n ≤ 12 ∧ z = 12 - n ∧ Wd D T A s ([(l0, .inr (1, [.ref tr, .ref rp, .ref bh])), (rp, .inr (4, [.int (rv 0), .int (rv 1), .int (rv 2), .int (rv 3), .int (rv 4)])), (bh, .inl (T 3, 5, .inr (.inr (.inr (.inr (fun j => some (bd j 0)))))))] ++ ((pblk T (bd 1) (bs 1)) ++ ((pblk T q P) ++ ([(q4, .inl (T 0, 4, .inl E))])))) H2 locs2 ∧ lv_has ls2 8 [(0, .ref l0), (1, .ref (q 0)), (2, .ref q4), (3, .int (nI 1)), (4, .int (houM (scanM P (vbM 0 P) n))), (5, .int (gotM (scanM P (vbM 0 P) n))), (6, .int (nI n))]) ?_ 12 ⟨0, bs, rv, by omega, rfl, hW, by rw [scan_0, got_0, hou_0]; exact lv_sub hl [3, 4, 5, 6, 2, 1, 0] rfl⟩
  rintro z H locs ls ⟨n, bs, rv, hn, rfl, hW, hl⟩ ih
  refine lv_iload hx hb dX1_bestHouse_12 (lv_at hl 6 rfl) ?_
  refine lv_bipush (v := nI 12) hx hb dX1_bestHouse_14 (by decide) ?_
  refine lv_icmp_ge (tgt := 60) hx hb dX1_bestHouse_16 (by decide) (fun h16 => ?_) (fun h16 => ?_)
  · have h9 : n = 12 := by have := n_le h16 (by omega) (by omega); omega
    subst h9
    refine lv_iload hx hb dX1_bestHouse_60 (lv_at hl 4 rfl) ?_
    exact retI F hr hlk rfl hW (bs, rv) rfl rfl dX1_bestHouse_62
  · have h9 : n < 12 := n_nle h16 (by decide) (by omega)
    refine lv_aload_n hx hb dX1_bestHouse_19 rfl (lv_at hl 1 rfl) ?_
    refine lv_iload hx hb dX1_bestHouse_20 (lv_at hl 6 rfl) ?_
    refine cRV (As := [.int (nI n)]) (rest := []) F hW hl cs331 (c_canMoveFrom l D T (q 0) (q 1) (q 2) (q 3) (P 26) (P 27) (P 28) (fun j => P j) (h := n) (by omega)) [7, 8] rfl rfl 0 3 rfl rfl rfl rfl rfl (Nat.le_of_ble_eq_true rfl) ⟨Nat.le_of_ble_eq_true rfl, Nat.le_of_ble_eq_true rfl⟩ ⟨Nat.zero_le _, Nat.zero_le _⟩ dX1_bestHouse_22 (fun r22 hr22 => ?_)
    subst hr22
    refine lv_if_eq (tgt := 54) hx hb dX1_bestHouse_25 (by decide) (fun h25 => ?_) (fun h25 => ?_)
    · have hn2 : ¬ legM P n := bz.mp h25
      rw [← got_skip (v := (vbM 0 P)) hn2] at hl
      refine lv_iinc (v := nI (n + 1)) (lv' := [(6, .int (nI (n + 1))), (0, .ref l0), (1, .ref (q 0)), (2, .ref q4), (3, .int (nI 1)), (4, .int (houM (scanM P (vbM 0 P) (n + 1)))), (5, .int (gotM (scanM P (vbM 0 P) (n + 1))))]) hx hb dX1_bestHouse_54 hl (k := 6) rfl (nI_add _ _) (by decide) rfl (fun ls hl => ?_)
      refine lv_goto (tgt := 12) hx hb dX1_bestHouse_57 (by decide) ?_
      exact ih (12 - (n + 1)) _ _ _ (by omega) ⟨n + 1, bs, rv, by omega, rfl, hW, lv_sub hl [1, 2, 3, 4, 5, 6, 0] rfl⟩
    · have hleg : legM P n := Decidable.not_not.mp (fun q => h25 (bz.mpr q))
      refine lv_aload_n hx hb dX1_bestHouse_28 rfl (lv_at hl 0 rfl) ?_
      refine lv_aload_n hx hb dX1_bestHouse_29 rfl (lv_at hl 1 rfl) ?_
      refine lv_iload hx hb dX1_bestHouse_30 (lv_at hl 6 rfl) ?_
      refine lv_aload_n hx hb dX1_bestHouse_32 rfl (lv_at hl 2 rfl) ?_
      refine lv_iload_n hx hb dX1_bestHouse_33 rfl (lv_at hl 3 rfl) ?_
      refine cIV (As := [.ref (q 0), .int (nI n), .ref q4, .int (nI 1)]) (rest := []) (wr := []) F hW hl cs332 (c_valueBehind1 l D T l0 tr rp bh q4 bd q bs rv E P hI hE (h := n) h9 hleg) [0, 1, 2, 3, 4, 5, 6, 7, 8, 9, 10, 11] [] rfl rfl rfl rfl (by decide) 0 1 rfl rfl rfl rfl rfl (Nat.le_of_ble_eq_true rfl) ⟨Nat.le_of_ble_eq_true rfl, Nat.le_of_ble_eq_true rfl⟩ ⟨Nat.zero_le _, Nat.zero_le _⟩ dX1_bestHouse_34 (fun r34 u34 H locs hr34 hW => ?_)
      have hW := Wd.ord hW (ws' := ([(l0, .inr (1, [.ref tr, .ref rp, .ref bh])), (rp, .inr (4, [.int (u34.2 0), .int (u34.2 1), .int (u34.2 2), .int (u34.2 3), .int (u34.2 4)])), (bh, .inl (T 3, 5, .inr (.inr (.inr (.inr (fun j => some (bd j 0)))))))] ++ ((pblk T (bd 1) (u34.1 1)) ++ ((pblk T q P) ++ ([(q4, .inl (T 0, 4, .inl E))]))))) [0, 1, 2, 3, 4, 5, 6, 7, 8, 9, 10, 11] rfl rfl
      subst hr34
      refine lv_istore (lv' := [(7, .int (vbM 0 P n)), (0, .ref l0), (1, .ref (q 0)), (2, .ref q4), (3, .int (nI 1)), (4, .int (houM (scanM P (vbM 0 P) n))), (5, .int (gotM (scanM P (vbM 0 P) n))), (6, .int (nI n))]) hx hb dX1_bestHouse_37 hl (by decide) rfl (fun ls hl => ?_)
      refine lv_iload hx hb dX1_bestHouse_39 (lv_at hl 0 rfl) ?_
      refine lv_iload hx hb dX1_bestHouse_41 (lv_at hl 6 rfl) ?_
      refine lv_icmp_le (tgt := 54) hx hb dX1_bestHouse_43 (by decide) (fun h43 => ?_) (fun h43 => ?_)
      · have e9 := best_no h9 hv hleg (Int32.not_lt.mpr h43)
        rw [← e9] at hl
        refine lv_iinc (v := nI (n + 1)) (lv' := [(6, .int (nI (n + 1))), (7, .int (vbM 0 P n)), (0, .ref l0), (1, .ref (q 0)), (2, .ref q4), (3, .int (nI 1)), (4, .int (houM (scanM P (vbM 0 P) (n + 1)))), (5, .int (gotM (scanM P (vbM 0 P) (n + 1))))]) hx hb dX1_bestHouse_54 hl (k := 7) rfl (nI_add _ _) (by decide) rfl (fun ls hl => ?_)
        refine lv_goto (tgt := 12) hx hb dX1_bestHouse_57 (by decide) ?_
        exact ih (12 - (n + 1)) _ _ _ (by omega) ⟨n + 1, u34.1, u34.2, by omega, rfl, hW, lv_sub hl [2, 3, 4, 5, 6, 7, 0] rfl⟩
      · have e9 := best_yes hleg (Int32.not_le.mp h43)
        refine lv_iload hx hb dX1_bestHouse_46 (lv_at hl 7 rfl) ?_
        refine lv_istore (lv' := [(4, .int (nI n)), (7, .int (vbM 0 P n)), (0, .ref l0), (1, .ref (q 0)), (2, .ref q4), (3, .int (nI 1)), (5, .int (gotM (scanM P (vbM 0 P) n))), (6, .int (nI n))]) hx hb dX1_bestHouse_48 hl (by decide) rfl (fun ls hl => ?_)
        refine lv_iload hx hb dX1_bestHouse_50 (lv_at hl 1 rfl) ?_
        refine lv_istore (lv' := [(5, .int (vbM 0 P n)), (4, .int (nI n)), (7, .int (vbM 0 P n)), (0, .ref l0), (1, .ref (q 0)), (2, .ref q4), (3, .int (nI 1)), (6, .int (nI n))]) hx hb dX1_bestHouse_52 hl (by decide) rfl (fun ls hl => ?_)
        refine lv_iinc (v := nI (n + 1)) (lv' := [(6, .int (nI (n + 1))), (5, .int (vbM 0 P n)), (4, .int (nI n)), (7, .int (vbM 0 P n)), (0, .ref l0), (1, .ref (q 0)), (2, .ref q4), (3, .int (nI 1))]) hx hb dX1_bestHouse_54 hl (k := 7) rfl (nI_add _ _) (by decide) rfl (fun ls hl => ?_)
        refine lv_goto (tgt := 12) hx hb dX1_bestHouse_57 (by decide) ?_
        exact ih (12 - (n + 1)) _ _ _ (by omega) ⟨n + 1, u34.1, u34.2, by omega, rfl, hW, by rw [e9, got_s, hou_s]; exact lv_sub hl [4, 5, 6, 7, 2, 1, 0] rfl⟩
set_option maxHeartbeats 4000000 in
set_option maxRecDepth 100000 in
theorem c_bestHouse2 (l : Launch) (D : va_G) (T : Nat → ClassId) (l0 tr rp bh q4 : Nat) (bd : Nat → Nat → Nat) (q : Nat → Nat) (bs : Nat → Nat → Int32) (rv E P : Nat → Int32) {S : Int} (hI : Iv S P) (hE : ∀ j, j < 4 → E j = P (34 + j)) : KI (S := (Nat → Nat → Int32) × (Nat → Int32)) l D T yX1_bestHouse cX1_bestHouse 8 (some .int) 7 [.ref l0, .ref (q 0), .ref q4, .int (nI 2)] ([(l0, .inr (1, [.ref tr, .ref rp, .ref bh])), (rp, .inr (4, [.int (rv 0), .int (rv 1), .int (rv 2), .int (rv 3), .int (rv 4)])), (bh, .inl (T 3, 5, .inr (.inr (.inr (.inr (fun j => some (bd j 0)))))))] ++ ((pblk T (bd 1) (bs 1)) ++ ((pblk T (bd 2) (bs 2)) ++ ((pblk T q P) ++ ([(q4, .inl (T 0, 4, .inl E))]))))) (fun r _ => r = houM (scanM P (vbM 1 P) 12)) (fun u => ([(l0, .inr (1, [.ref tr, .ref rp, .ref bh])), (rp, .inr (4, [.int (u.2 0), .int (u.2 1), .int (u.2 2), .int (u.2 3), .int (u.2 4)])), (bh, .inl (T 3, 5, .inr (.inr (.inr (.inr (fun j => some (bd j 0)))))))] ++ ((pblk T (bd 1) (u.1 1)) ++ ((pblk T (bd 2) (u.1 2)) ++ ((pblk T q P) ++ ([(q4, .inl (T 0, 4, .inl E))])))))) := by
  refine KI.of (by decide +kernel) (Nat.le_of_ble_eq_true rfl) (fun p e s m below meth c A F hr hlk hW ls hl => ?_)
  have hx := F.1
  have hb := F.2.1
  have hl : lv_has ls 8 [(0, .ref l0), (1, .ref (q 0)), (2, .ref q4), (3, .int (nI 2))] := hl
  refine lv_bipush (v := -6) hx hb dX1_bestHouse_0 (by decide) ?_
  refine lv_istore (lv' := [(4, .int (-6)), (0, .ref l0), (1, .ref (q 0)), (2, .ref q4), (3, .int (nI 2))]) hx hb dX1_bestHouse_2 hl (by decide) rfl (fun ls hl => ?_)
  refine lv_sipush (v := -10000) hx hb dX1_bestHouse_4 (by decide) ?_
  refine lv_istore (lv' := [(5, .int (-10000)), (4, .int (-6)), (0, .ref l0), (1, .ref (q 0)), (2, .ref q4), (3, .int (nI 2))]) hx hb dX1_bestHouse_7 hl (by decide) rfl (fun ls hl => ?_)
  refine lv_iconst (v := nI 0) hx hb dX1_bestHouse_9 (by decide) ?_
  refine lv_istore (lv' := [(6, .int (nI 0)), (5, .int (-10000)), (4, .int (-6)), (0, .ref l0), (1, .ref (q 0)), (2, .ref q4), (3, .int (nI 2))]) hx hb dX1_bestHouse_10 hl (by decide) rfl (fun ls hl => ?_)
  have hv : ∀ h, h < 12 → legM P h → -2000 ≤ (vbM 1 P h).toInt ∧ (vbM 1 P h).toInt ≤ 2000 := fun h hh hl => vbM_b hI 1 hh hl
  refine W.loop (fun z H2 locs2 ls2 => ∃ (n : Nat) (bs : Nat → Nat → Int32) (rv : Nat → Int32), n ≤ 12 ∧ z = 12 - n ∧ Wd D T A s ([(l0, .inr (1, [.ref tr, .ref rp, .ref bh])), (rp, .inr (4, [.int (rv 0), .int (rv 1), .int (rv 2), .int (rv 3), .int (rv 4)])), (bh, .inl (T 3, 5, .inr (.inr (.inr (.inr (fun j => some (bd j 0)))))))] ++ ((pblk T (bd 1) (bs 1)) ++ ((pblk T (bd 2) (bs 2)) ++ ((pblk T q P) ++ ([(q4, .inl (T 0, 4, .inl E))]))))) H2 locs2 ∧ lv_has ls2 8 [(0, .ref l0), (1, .ref (q 0)), (2, .ref q4), (3, .int (nI 2)), (4, .int (houM (scanM P (vbM 1 P) n))), (5, .int (gotM (scanM P (vbM 1 P) n))), (6, .int (nI n))]) ?_ 12 ⟨0, bs, rv, by omega, rfl, hW, by rw [scan_0, got_0, hou_0]; exact lv_sub hl [3, 4, 5, 6, 2, 1, 0] rfl⟩
  rintro z H locs ls ⟨n, bs, rv, hn, rfl, hW, hl⟩ ih
  refine lv_iload hx hb dX1_bestHouse_12 (lv_at hl 6 rfl) ?_
  refine lv_bipush (v := nI 12) hx hb dX1_bestHouse_14 (by decide) ?_
  refine lv_icmp_ge (tgt := 60) hx hb dX1_bestHouse_16 (by decide) (fun h16 => ?_) (fun h16 => ?_)
  · have h9 : n = 12 := by have := n_le h16 (by omega) (by omega); omega
    subst h9
    refine lv_iload hx hb dX1_bestHouse_60 (lv_at hl 4 rfl) ?_
    exact retI F hr hlk rfl hW (bs, rv) rfl rfl dX1_bestHouse_62
  · have h9 : n < 12 := n_nle h16 (by decide) (by omega)
    refine lv_aload_n hx hb dX1_bestHouse_19 rfl (lv_at hl 1 rfl) ?_
    refine lv_iload hx hb dX1_bestHouse_20 (lv_at hl 6 rfl) ?_
    refine cRV (As := [.int (nI n)]) (rest := []) F hW hl cs331 (c_canMoveFrom l D T (q 0) (q 1) (q 2) (q 3) (P 26) (P 27) (P 28) (fun j => P j) (h := n) (by omega)) [11, 12] rfl rfl 0 3 rfl rfl rfl rfl rfl (Nat.le_of_ble_eq_true rfl) ⟨Nat.le_of_ble_eq_true rfl, Nat.le_of_ble_eq_true rfl⟩ ⟨Nat.zero_le _, Nat.zero_le _⟩ dX1_bestHouse_22 (fun r22 hr22 => ?_)
    subst hr22
    refine lv_if_eq (tgt := 54) hx hb dX1_bestHouse_25 (by decide) (fun h25 => ?_) (fun h25 => ?_)
    · have hn2 : ¬ legM P n := bz.mp h25
      rw [← got_skip (v := (vbM 1 P)) hn2] at hl
      refine lv_iinc (v := nI (n + 1)) (lv' := [(6, .int (nI (n + 1))), (0, .ref l0), (1, .ref (q 0)), (2, .ref q4), (3, .int (nI 2)), (4, .int (houM (scanM P (vbM 1 P) (n + 1)))), (5, .int (gotM (scanM P (vbM 1 P) (n + 1))))]) hx hb dX1_bestHouse_54 hl (k := 6) rfl (nI_add _ _) (by decide) rfl (fun ls hl => ?_)
      refine lv_goto (tgt := 12) hx hb dX1_bestHouse_57 (by decide) ?_
      exact ih (12 - (n + 1)) _ _ _ (by omega) ⟨n + 1, bs, rv, by omega, rfl, hW, lv_sub hl [1, 2, 3, 4, 5, 6, 0] rfl⟩
    · have hleg : legM P n := Decidable.not_not.mp (fun q => h25 (bz.mpr q))
      refine lv_aload_n hx hb dX1_bestHouse_28 rfl (lv_at hl 0 rfl) ?_
      refine lv_aload_n hx hb dX1_bestHouse_29 rfl (lv_at hl 1 rfl) ?_
      refine lv_iload hx hb dX1_bestHouse_30 (lv_at hl 6 rfl) ?_
      refine lv_aload_n hx hb dX1_bestHouse_32 rfl (lv_at hl 2 rfl) ?_
      refine lv_iload_n hx hb dX1_bestHouse_33 rfl (lv_at hl 3 rfl) ?_
      refine cIV (As := [.ref (q 0), .int (nI n), .ref q4, .int (nI 2)]) (rest := []) (wr := []) F hW hl cs332 (c_valueBehind2 l D T l0 tr rp bh q4 bd q bs rv E P hI hE (h := n) h9 hleg) [0, 1, 2, 3, 4, 5, 6, 7, 8, 9, 10, 11, 12, 13, 14, 15] [] rfl rfl rfl rfl (by decide) 0 1 rfl rfl rfl rfl rfl (Nat.le_of_ble_eq_true rfl) ⟨Nat.le_of_ble_eq_true rfl, Nat.le_of_ble_eq_true rfl⟩ ⟨Nat.zero_le _, Nat.zero_le _⟩ dX1_bestHouse_34 (fun r34 u34 H locs hr34 hW => ?_)
      have hW := Wd.ord hW (ws' := ([(l0, .inr (1, [.ref tr, .ref rp, .ref bh])), (rp, .inr (4, [.int (u34.2 0), .int (u34.2 1), .int (u34.2 2), .int (u34.2 3), .int (u34.2 4)])), (bh, .inl (T 3, 5, .inr (.inr (.inr (.inr (fun j => some (bd j 0)))))))] ++ ((pblk T (bd 1) (u34.1 1)) ++ ((pblk T (bd 2) (u34.1 2)) ++ ((pblk T q P) ++ ([(q4, .inl (T 0, 4, .inl E))])))))) [0, 1, 2, 3, 4, 5, 6, 7, 8, 9, 10, 11, 12, 13, 14, 15] rfl rfl
      subst hr34
      refine lv_istore (lv' := [(7, .int (vbM 1 P n)), (0, .ref l0), (1, .ref (q 0)), (2, .ref q4), (3, .int (nI 2)), (4, .int (houM (scanM P (vbM 1 P) n))), (5, .int (gotM (scanM P (vbM 1 P) n))), (6, .int (nI n))]) hx hb dX1_bestHouse_37 hl (by decide) rfl (fun ls hl => ?_)
      refine lv_iload hx hb dX1_bestHouse_39 (lv_at hl 0 rfl) ?_
      refine lv_iload hx hb dX1_bestHouse_41 (lv_at hl 6 rfl) ?_
      refine lv_icmp_le (tgt := 54) hx hb dX1_bestHouse_43 (by decide) (fun h43 => ?_) (fun h43 => ?_)
      · have e9 := best_no h9 hv hleg (Int32.not_lt.mpr h43)
        rw [← e9] at hl
        refine lv_iinc (v := nI (n + 1)) (lv' := [(6, .int (nI (n + 1))), (7, .int (vbM 1 P n)), (0, .ref l0), (1, .ref (q 0)), (2, .ref q4), (3, .int (nI 2)), (4, .int (houM (scanM P (vbM 1 P) (n + 1)))), (5, .int (gotM (scanM P (vbM 1 P) (n + 1))))]) hx hb dX1_bestHouse_54 hl (k := 7) rfl (nI_add _ _) (by decide) rfl (fun ls hl => ?_)
        refine lv_goto (tgt := 12) hx hb dX1_bestHouse_57 (by decide) ?_
        exact ih (12 - (n + 1)) _ _ _ (by omega) ⟨n + 1, u34.1, u34.2, by omega, rfl, hW, lv_sub hl [2, 3, 4, 5, 6, 7, 0] rfl⟩
      · have e9 := best_yes hleg (Int32.not_le.mp h43)
        refine lv_iload hx hb dX1_bestHouse_46 (lv_at hl 7 rfl) ?_
        refine lv_istore (lv' := [(4, .int (nI n)), (7, .int (vbM 1 P n)), (0, .ref l0), (1, .ref (q 0)), (2, .ref q4), (3, .int (nI 2)), (5, .int (gotM (scanM P (vbM 1 P) n))), (6, .int (nI n))]) hx hb dX1_bestHouse_48 hl (by decide) rfl (fun ls hl => ?_)
        refine lv_iload hx hb dX1_bestHouse_50 (lv_at hl 1 rfl) ?_
        refine lv_istore (lv' := [(5, .int (vbM 1 P n)), (4, .int (nI n)), (7, .int (vbM 1 P n)), (0, .ref l0), (1, .ref (q 0)), (2, .ref q4), (3, .int (nI 2)), (6, .int (nI n))]) hx hb dX1_bestHouse_52 hl (by decide) rfl (fun ls hl => ?_)
        refine lv_iinc (v := nI (n + 1)) (lv' := [(6, .int (nI (n + 1))), (5, .int (vbM 1 P n)), (4, .int (nI n)), (7, .int (vbM 1 P n)), (0, .ref l0), (1, .ref (q 0)), (2, .ref q4), (3, .int (nI 2))]) hx hb dX1_bestHouse_54 hl (k := 7) rfl (nI_add _ _) (by decide) rfl (fun ls hl => ?_)
        refine lv_goto (tgt := 12) hx hb dX1_bestHouse_57 (by decide) ?_
        exact ih (12 - (n + 1)) _ _ _ (by omega) ⟨n + 1, u34.1, u34.2, by omega, rfl, hW, by rw [e9, got_s, hou_s]; exact lv_sub hl [4, 5, 6, 7, 2, 1, 0] rfl⟩
set_option maxHeartbeats 4000000 in
set_option maxRecDepth 100000 in
theorem c_bestHouse3 (l : Launch) (D : va_G) (T : Nat → ClassId) (l0 tr rp bh q4 : Nat) (bd : Nat → Nat → Nat) (q : Nat → Nat) (bs : Nat → Nat → Int32) (rv E P : Nat → Int32) {S : Int} (hI : Iv S P) (hE : ∀ j, j < 4 → E j = P (34 + j)) : KI (S := (Nat → Nat → Int32) × (Nat → Int32)) l D T yX1_bestHouse cX1_bestHouse 8 (some .int) 9 [.ref l0, .ref (q 0), .ref q4, .int (nI 3)] ([(l0, .inr (1, [.ref tr, .ref rp, .ref bh])), (rp, .inr (4, [.int (rv 0), .int (rv 1), .int (rv 2), .int (rv 3), .int (rv 4)])), (bh, .inl (T 3, 5, .inr (.inr (.inr (.inr (fun j => some (bd j 0)))))))] ++ ((pblk T (bd 1) (bs 1)) ++ ((pblk T (bd 2) (bs 2)) ++ ((pblk T (bd 3) (bs 3)) ++ ((pblk T q P) ++ ([(q4, .inl (T 0, 4, .inl E))])))))) (fun r _ => r = houM (scanM P (vbM 2 P) 12)) (fun u => ([(l0, .inr (1, [.ref tr, .ref rp, .ref bh])), (rp, .inr (4, [.int (u.2 0), .int (u.2 1), .int (u.2 2), .int (u.2 3), .int (u.2 4)])), (bh, .inl (T 3, 5, .inr (.inr (.inr (.inr (fun j => some (bd j 0)))))))] ++ ((pblk T (bd 1) (u.1 1)) ++ ((pblk T (bd 2) (u.1 2)) ++ ((pblk T (bd 3) (u.1 3)) ++ ((pblk T q P) ++ ([(q4, .inl (T 0, 4, .inl E))]))))))) := by
  refine KI.of (by decide +kernel) (Nat.le_of_ble_eq_true rfl) (fun p e s m below meth c A F hr hlk hW ls hl => ?_)
  have hx := F.1
  have hb := F.2.1
  have hl : lv_has ls 8 [(0, .ref l0), (1, .ref (q 0)), (2, .ref q4), (3, .int (nI 3))] := hl
  refine lv_bipush (v := -6) hx hb dX1_bestHouse_0 (by decide) ?_
  refine lv_istore (lv' := [(4, .int (-6)), (0, .ref l0), (1, .ref (q 0)), (2, .ref q4), (3, .int (nI 3))]) hx hb dX1_bestHouse_2 hl (by decide) rfl (fun ls hl => ?_)
  refine lv_sipush (v := -10000) hx hb dX1_bestHouse_4 (by decide) ?_
  refine lv_istore (lv' := [(5, .int (-10000)), (4, .int (-6)), (0, .ref l0), (1, .ref (q 0)), (2, .ref q4), (3, .int (nI 3))]) hx hb dX1_bestHouse_7 hl (by decide) rfl (fun ls hl => ?_)
  refine lv_iconst (v := nI 0) hx hb dX1_bestHouse_9 (by decide) ?_
  refine lv_istore (lv' := [(6, .int (nI 0)), (5, .int (-10000)), (4, .int (-6)), (0, .ref l0), (1, .ref (q 0)), (2, .ref q4), (3, .int (nI 3))]) hx hb dX1_bestHouse_10 hl (by decide) rfl (fun ls hl => ?_)
  have hv : ∀ h, h < 12 → legM P h → -2000 ≤ (vbM 2 P h).toInt ∧ (vbM 2 P h).toInt ≤ 2000 := fun h hh hl => vbM_b hI 2 hh hl
  refine W.loop (fun z H2 locs2 ls2 => ∃ (n : Nat) (bs : Nat → Nat → Int32) (rv : Nat → Int32), n ≤ 12 ∧ z = 12 - n ∧ Wd D T A s ([(l0, .inr (1, [.ref tr, .ref rp, .ref bh])), (rp, .inr (4, [.int (rv 0), .int (rv 1), .int (rv 2), .int (rv 3), .int (rv 4)])), (bh, .inl (T 3, 5, .inr (.inr (.inr (.inr (fun j => some (bd j 0)))))))] ++ ((pblk T (bd 1) (bs 1)) ++ ((pblk T (bd 2) (bs 2)) ++ ((pblk T (bd 3) (bs 3)) ++ ((pblk T q P) ++ ([(q4, .inl (T 0, 4, .inl E))])))))) H2 locs2 ∧ lv_has ls2 8 [(0, .ref l0), (1, .ref (q 0)), (2, .ref q4), (3, .int (nI 3)), (4, .int (houM (scanM P (vbM 2 P) n))), (5, .int (gotM (scanM P (vbM 2 P) n))), (6, .int (nI n))]) ?_ 12 ⟨0, bs, rv, by omega, rfl, hW, by rw [scan_0, got_0, hou_0]; exact lv_sub hl [3, 4, 5, 6, 2, 1, 0] rfl⟩
  rintro z H locs ls ⟨n, bs, rv, hn, rfl, hW, hl⟩ ih
  refine lv_iload hx hb dX1_bestHouse_12 (lv_at hl 6 rfl) ?_
  refine lv_bipush (v := nI 12) hx hb dX1_bestHouse_14 (by decide) ?_
  refine lv_icmp_ge (tgt := 60) hx hb dX1_bestHouse_16 (by decide) (fun h16 => ?_) (fun h16 => ?_)
  · have h9 : n = 12 := by have := n_le h16 (by omega) (by omega); omega
    subst h9
    refine lv_iload hx hb dX1_bestHouse_60 (lv_at hl 4 rfl) ?_
    exact retI F hr hlk rfl hW (bs, rv) rfl rfl dX1_bestHouse_62
  · have h9 : n < 12 := n_nle h16 (by decide) (by omega)
    refine lv_aload_n hx hb dX1_bestHouse_19 rfl (lv_at hl 1 rfl) ?_
    refine lv_iload hx hb dX1_bestHouse_20 (lv_at hl 6 rfl) ?_
    refine cRV (As := [.int (nI n)]) (rest := []) F hW hl cs331 (c_canMoveFrom l D T (q 0) (q 1) (q 2) (q 3) (P 26) (P 27) (P 28) (fun j => P j) (h := n) (by omega)) [15, 16] rfl rfl 0 3 rfl rfl rfl rfl rfl (Nat.le_of_ble_eq_true rfl) ⟨Nat.le_of_ble_eq_true rfl, Nat.le_of_ble_eq_true rfl⟩ ⟨Nat.zero_le _, Nat.zero_le _⟩ dX1_bestHouse_22 (fun r22 hr22 => ?_)
    subst hr22
    refine lv_if_eq (tgt := 54) hx hb dX1_bestHouse_25 (by decide) (fun h25 => ?_) (fun h25 => ?_)
    · have hn2 : ¬ legM P n := bz.mp h25
      rw [← got_skip (v := (vbM 2 P)) hn2] at hl
      refine lv_iinc (v := nI (n + 1)) (lv' := [(6, .int (nI (n + 1))), (0, .ref l0), (1, .ref (q 0)), (2, .ref q4), (3, .int (nI 3)), (4, .int (houM (scanM P (vbM 2 P) (n + 1)))), (5, .int (gotM (scanM P (vbM 2 P) (n + 1))))]) hx hb dX1_bestHouse_54 hl (k := 6) rfl (nI_add _ _) (by decide) rfl (fun ls hl => ?_)
      refine lv_goto (tgt := 12) hx hb dX1_bestHouse_57 (by decide) ?_
      exact ih (12 - (n + 1)) _ _ _ (by omega) ⟨n + 1, bs, rv, by omega, rfl, hW, lv_sub hl [1, 2, 3, 4, 5, 6, 0] rfl⟩
    · have hleg : legM P n := Decidable.not_not.mp (fun q => h25 (bz.mpr q))
      refine lv_aload_n hx hb dX1_bestHouse_28 rfl (lv_at hl 0 rfl) ?_
      refine lv_aload_n hx hb dX1_bestHouse_29 rfl (lv_at hl 1 rfl) ?_
      refine lv_iload hx hb dX1_bestHouse_30 (lv_at hl 6 rfl) ?_
      refine lv_aload_n hx hb dX1_bestHouse_32 rfl (lv_at hl 2 rfl) ?_
      refine lv_iload_n hx hb dX1_bestHouse_33 rfl (lv_at hl 3 rfl) ?_
      refine cIV (As := [.ref (q 0), .int (nI n), .ref q4, .int (nI 3)]) (rest := []) (wr := []) F hW hl cs332 (c_valueBehind3 l D T l0 tr rp bh q4 bd q bs rv E P hI hE (h := n) h9 hleg) [0, 1, 2, 3, 4, 5, 6, 7, 8, 9, 10, 11, 12, 13, 14, 15, 16, 17, 18, 19] [] rfl rfl rfl rfl (by decide) 0 1 rfl rfl rfl rfl rfl (Nat.le_of_ble_eq_true rfl) ⟨Nat.le_of_ble_eq_true rfl, Nat.le_of_ble_eq_true rfl⟩ ⟨Nat.zero_le _, Nat.zero_le _⟩ dX1_bestHouse_34 (fun r34 u34 H locs hr34 hW => ?_)
      have hW := Wd.ord hW (ws' := ([(l0, .inr (1, [.ref tr, .ref rp, .ref bh])), (rp, .inr (4, [.int (u34.2 0), .int (u34.2 1), .int (u34.2 2), .int (u34.2 3), .int (u34.2 4)])), (bh, .inl (T 3, 5, .inr (.inr (.inr (.inr (fun j => some (bd j 0)))))))] ++ ((pblk T (bd 1) (u34.1 1)) ++ ((pblk T (bd 2) (u34.1 2)) ++ ((pblk T (bd 3) (u34.1 3)) ++ ((pblk T q P) ++ ([(q4, .inl (T 0, 4, .inl E))]))))))) [0, 1, 2, 3, 4, 5, 6, 7, 8, 9, 10, 11, 12, 13, 14, 15, 16, 17, 18, 19] rfl rfl
      subst hr34
      refine lv_istore (lv' := [(7, .int (vbM 2 P n)), (0, .ref l0), (1, .ref (q 0)), (2, .ref q4), (3, .int (nI 3)), (4, .int (houM (scanM P (vbM 2 P) n))), (5, .int (gotM (scanM P (vbM 2 P) n))), (6, .int (nI n))]) hx hb dX1_bestHouse_37 hl (by decide) rfl (fun ls hl => ?_)
      refine lv_iload hx hb dX1_bestHouse_39 (lv_at hl 0 rfl) ?_
      refine lv_iload hx hb dX1_bestHouse_41 (lv_at hl 6 rfl) ?_
      refine lv_icmp_le (tgt := 54) hx hb dX1_bestHouse_43 (by decide) (fun h43 => ?_) (fun h43 => ?_)
      · have e9 := best_no h9 hv hleg (Int32.not_lt.mpr h43)
        rw [← e9] at hl
        refine lv_iinc (v := nI (n + 1)) (lv' := [(6, .int (nI (n + 1))), (7, .int (vbM 2 P n)), (0, .ref l0), (1, .ref (q 0)), (2, .ref q4), (3, .int (nI 3)), (4, .int (houM (scanM P (vbM 2 P) (n + 1)))), (5, .int (gotM (scanM P (vbM 2 P) (n + 1))))]) hx hb dX1_bestHouse_54 hl (k := 7) rfl (nI_add _ _) (by decide) rfl (fun ls hl => ?_)
        refine lv_goto (tgt := 12) hx hb dX1_bestHouse_57 (by decide) ?_
        exact ih (12 - (n + 1)) _ _ _ (by omega) ⟨n + 1, u34.1, u34.2, by omega, rfl, hW, lv_sub hl [2, 3, 4, 5, 6, 7, 0] rfl⟩
      · have e9 := best_yes hleg (Int32.not_le.mp h43)
        refine lv_iload hx hb dX1_bestHouse_46 (lv_at hl 7 rfl) ?_
        refine lv_istore (lv' := [(4, .int (nI n)), (7, .int (vbM 2 P n)), (0, .ref l0), (1, .ref (q 0)), (2, .ref q4), (3, .int (nI 3)), (5, .int (gotM (scanM P (vbM 2 P) n))), (6, .int (nI n))]) hx hb dX1_bestHouse_48 hl (by decide) rfl (fun ls hl => ?_)
        refine lv_iload hx hb dX1_bestHouse_50 (lv_at hl 1 rfl) ?_
        refine lv_istore (lv' := [(5, .int (vbM 2 P n)), (4, .int (nI n)), (7, .int (vbM 2 P n)), (0, .ref l0), (1, .ref (q 0)), (2, .ref q4), (3, .int (nI 3)), (6, .int (nI n))]) hx hb dX1_bestHouse_52 hl (by decide) rfl (fun ls hl => ?_)
        refine lv_iinc (v := nI (n + 1)) (lv' := [(6, .int (nI (n + 1))), (5, .int (vbM 2 P n)), (4, .int (nI n)), (7, .int (vbM 2 P n)), (0, .ref l0), (1, .ref (q 0)), (2, .ref q4), (3, .int (nI 3))]) hx hb dX1_bestHouse_54 hl (k := 7) rfl (nI_add _ _) (by decide) rfl (fun ls hl => ?_)
        refine lv_goto (tgt := 12) hx hb dX1_bestHouse_57 (by decide) ?_
        exact ih (12 - (n + 1)) _ _ _ (by omega) ⟨n + 1, u34.1, u34.2, by omega, rfl, hW, by rw [e9, got_s, hou_s]; exact lv_sub hl [4, 5, 6, 7, 2, 1, 0] rfl⟩
set_option maxHeartbeats 4000000 in
set_option maxRecDepth 100000 in
theorem c_bestHouse4 (l : Launch) (D : va_G) (T : Nat → ClassId) (l0 tr rp bh q4 : Nat) (bd : Nat → Nat → Nat) (q : Nat → Nat) (bs : Nat → Nat → Int32) (rv E P : Nat → Int32) {S : Int} (hI : Iv S P) (hE : ∀ j, j < 4 → E j = P (34 + j)) : KI (S := (Nat → Nat → Int32) × (Nat → Int32)) l D T yX1_bestHouse cX1_bestHouse 8 (some .int) 11 [.ref l0, .ref (q 0), .ref q4, .int (nI 4)] ([(l0, .inr (1, [.ref tr, .ref rp, .ref bh])), (rp, .inr (4, [.int (rv 0), .int (rv 1), .int (rv 2), .int (rv 3), .int (rv 4)])), (bh, .inl (T 3, 5, .inr (.inr (.inr (.inr (fun j => some (bd j 0)))))))] ++ ((pblk T (bd 1) (bs 1)) ++ ((pblk T (bd 2) (bs 2)) ++ ((pblk T (bd 3) (bs 3)) ++ ((pblk T (bd 4) (bs 4)) ++ ((pblk T q P) ++ ([(q4, .inl (T 0, 4, .inl E))]))))))) (fun r _ => r = houM (scanM P (vbM 3 P) 12)) (fun u => ([(l0, .inr (1, [.ref tr, .ref rp, .ref bh])), (rp, .inr (4, [.int (u.2 0), .int (u.2 1), .int (u.2 2), .int (u.2 3), .int (u.2 4)])), (bh, .inl (T 3, 5, .inr (.inr (.inr (.inr (fun j => some (bd j 0)))))))] ++ ((pblk T (bd 1) (u.1 1)) ++ ((pblk T (bd 2) (u.1 2)) ++ ((pblk T (bd 3) (u.1 3)) ++ ((pblk T (bd 4) (u.1 4)) ++ ((pblk T q P) ++ ([(q4, .inl (T 0, 4, .inl E))])))))))) := by
  refine KI.of (by decide +kernel) (Nat.le_of_ble_eq_true rfl) (fun p e s m below meth c A F hr hlk hW ls hl => ?_)
  have hx := F.1
  have hb := F.2.1
  have hl : lv_has ls 8 [(0, .ref l0), (1, .ref (q 0)), (2, .ref q4), (3, .int (nI 4))] := hl
  refine lv_bipush (v := -6) hx hb dX1_bestHouse_0 (by decide) ?_
  refine lv_istore (lv' := [(4, .int (-6)), (0, .ref l0), (1, .ref (q 0)), (2, .ref q4), (3, .int (nI 4))]) hx hb dX1_bestHouse_2 hl (by decide) rfl (fun ls hl => ?_)
  refine lv_sipush (v := -10000) hx hb dX1_bestHouse_4 (by decide) ?_
  refine lv_istore (lv' := [(5, .int (-10000)), (4, .int (-6)), (0, .ref l0), (1, .ref (q 0)), (2, .ref q4), (3, .int (nI 4))]) hx hb dX1_bestHouse_7 hl (by decide) rfl (fun ls hl => ?_)
  refine lv_iconst (v := nI 0) hx hb dX1_bestHouse_9 (by decide) ?_
  refine lv_istore (lv' := [(6, .int (nI 0)), (5, .int (-10000)), (4, .int (-6)), (0, .ref l0), (1, .ref (q 0)), (2, .ref q4), (3, .int (nI 4))]) hx hb dX1_bestHouse_10 hl (by decide) rfl (fun ls hl => ?_)
  have hv : ∀ h, h < 12 → legM P h → -2000 ≤ (vbM 3 P h).toInt ∧ (vbM 3 P h).toInt ≤ 2000 := fun h hh hl => vbM_b hI 3 hh hl
  refine W.loop (fun z H2 locs2 ls2 => ∃ (n : Nat) (bs : Nat → Nat → Int32) (rv : Nat → Int32), n ≤ 12 ∧ z = 12 - n ∧ Wd D T A s ([(l0, .inr (1, [.ref tr, .ref rp, .ref bh])), (rp, .inr (4, [.int (rv 0), .int (rv 1), .int (rv 2), .int (rv 3), .int (rv 4)])), (bh, .inl (T 3, 5, .inr (.inr (.inr (.inr (fun j => some (bd j 0)))))))] ++ ((pblk T (bd 1) (bs 1)) ++ ((pblk T (bd 2) (bs 2)) ++ ((pblk T (bd 3) (bs 3)) ++ ((pblk T (bd 4) (bs 4)) ++ ((pblk T q P) ++ ([(q4, .inl (T 0, 4, .inl E))]))))))) H2 locs2 ∧ lv_has ls2 8 [(0, .ref l0), (1, .ref (q 0)), (2, .ref q4), (3, .int (nI 4)), (4, .int (houM (scanM P (vbM 3 P) n))), (5, .int (gotM (scanM P (vbM 3 P) n))), (6, .int (nI n))]) ?_ 12 ⟨0, bs, rv, by omega, rfl, hW, by rw [scan_0, got_0, hou_0]; exact lv_sub hl [3, 4, 5, 6, 2, 1, 0] rfl⟩
  rintro z H locs ls ⟨n, bs, rv, hn, rfl, hW, hl⟩ ih
  refine lv_iload hx hb dX1_bestHouse_12 (lv_at hl 6 rfl) ?_
  refine lv_bipush (v := nI 12) hx hb dX1_bestHouse_14 (by decide) ?_
  refine lv_icmp_ge (tgt := 60) hx hb dX1_bestHouse_16 (by decide) (fun h16 => ?_) (fun h16 => ?_)
  · have h9 : n = 12 := by have := n_le h16 (by omega) (by omega); omega
    subst h9
    refine lv_iload hx hb dX1_bestHouse_60 (lv_at hl 4 rfl) ?_
    exact retI F hr hlk rfl hW (bs, rv) rfl rfl dX1_bestHouse_62
  · have h9 : n < 12 := n_nle h16 (by decide) (by omega)
    refine lv_aload_n hx hb dX1_bestHouse_19 rfl (lv_at hl 1 rfl) ?_
    refine lv_iload hx hb dX1_bestHouse_20 (lv_at hl 6 rfl) ?_
    refine cRV (As := [.int (nI n)]) (rest := []) F hW hl cs331 (c_canMoveFrom l D T (q 0) (q 1) (q 2) (q 3) (P 26) (P 27) (P 28) (fun j => P j) (h := n) (by omega)) [19, 20] rfl rfl 0 3 rfl rfl rfl rfl rfl (Nat.le_of_ble_eq_true rfl) ⟨Nat.le_of_ble_eq_true rfl, Nat.le_of_ble_eq_true rfl⟩ ⟨Nat.zero_le _, Nat.zero_le _⟩ dX1_bestHouse_22 (fun r22 hr22 => ?_)
    subst hr22
    refine lv_if_eq (tgt := 54) hx hb dX1_bestHouse_25 (by decide) (fun h25 => ?_) (fun h25 => ?_)
    · have hn2 : ¬ legM P n := bz.mp h25
      rw [← got_skip (v := (vbM 3 P)) hn2] at hl
      refine lv_iinc (v := nI (n + 1)) (lv' := [(6, .int (nI (n + 1))), (0, .ref l0), (1, .ref (q 0)), (2, .ref q4), (3, .int (nI 4)), (4, .int (houM (scanM P (vbM 3 P) (n + 1)))), (5, .int (gotM (scanM P (vbM 3 P) (n + 1))))]) hx hb dX1_bestHouse_54 hl (k := 6) rfl (nI_add _ _) (by decide) rfl (fun ls hl => ?_)
      refine lv_goto (tgt := 12) hx hb dX1_bestHouse_57 (by decide) ?_
      exact ih (12 - (n + 1)) _ _ _ (by omega) ⟨n + 1, bs, rv, by omega, rfl, hW, lv_sub hl [1, 2, 3, 4, 5, 6, 0] rfl⟩
    · have hleg : legM P n := Decidable.not_not.mp (fun q => h25 (bz.mpr q))
      refine lv_aload_n hx hb dX1_bestHouse_28 rfl (lv_at hl 0 rfl) ?_
      refine lv_aload_n hx hb dX1_bestHouse_29 rfl (lv_at hl 1 rfl) ?_
      refine lv_iload hx hb dX1_bestHouse_30 (lv_at hl 6 rfl) ?_
      refine lv_aload_n hx hb dX1_bestHouse_32 rfl (lv_at hl 2 rfl) ?_
      refine lv_iload_n hx hb dX1_bestHouse_33 rfl (lv_at hl 3 rfl) ?_
      refine cIV (As := [.ref (q 0), .int (nI n), .ref q4, .int (nI 4)]) (rest := []) (wr := []) F hW hl cs332 (c_valueBehind4 l D T l0 tr rp bh q4 bd q bs rv E P hI hE (h := n) h9 hleg) [0, 1, 2, 3, 4, 5, 6, 7, 8, 9, 10, 11, 12, 13, 14, 15, 16, 17, 18, 19, 20, 21, 22, 23] [] rfl rfl rfl rfl (by decide) 0 1 rfl rfl rfl rfl rfl (Nat.le_of_ble_eq_true rfl) ⟨Nat.le_of_ble_eq_true rfl, Nat.le_of_ble_eq_true rfl⟩ ⟨Nat.zero_le _, Nat.zero_le _⟩ dX1_bestHouse_34 (fun r34 u34 H locs hr34 hW => ?_)
      have hW := Wd.ord hW (ws' := ([(l0, .inr (1, [.ref tr, .ref rp, .ref bh])), (rp, .inr (4, [.int (u34.2 0), .int (u34.2 1), .int (u34.2 2), .int (u34.2 3), .int (u34.2 4)])), (bh, .inl (T 3, 5, .inr (.inr (.inr (.inr (fun j => some (bd j 0)))))))] ++ ((pblk T (bd 1) (u34.1 1)) ++ ((pblk T (bd 2) (u34.1 2)) ++ ((pblk T (bd 3) (u34.1 3)) ++ ((pblk T (bd 4) (u34.1 4)) ++ ((pblk T q P) ++ ([(q4, .inl (T 0, 4, .inl E))])))))))) [0, 1, 2, 3, 4, 5, 6, 7, 8, 9, 10, 11, 12, 13, 14, 15, 16, 17, 18, 19, 20, 21, 22, 23] rfl rfl
      subst hr34
      refine lv_istore (lv' := [(7, .int (vbM 3 P n)), (0, .ref l0), (1, .ref (q 0)), (2, .ref q4), (3, .int (nI 4)), (4, .int (houM (scanM P (vbM 3 P) n))), (5, .int (gotM (scanM P (vbM 3 P) n))), (6, .int (nI n))]) hx hb dX1_bestHouse_37 hl (by decide) rfl (fun ls hl => ?_)
      refine lv_iload hx hb dX1_bestHouse_39 (lv_at hl 0 rfl) ?_
      refine lv_iload hx hb dX1_bestHouse_41 (lv_at hl 6 rfl) ?_
      refine lv_icmp_le (tgt := 54) hx hb dX1_bestHouse_43 (by decide) (fun h43 => ?_) (fun h43 => ?_)
      · have e9 := best_no h9 hv hleg (Int32.not_lt.mpr h43)
        rw [← e9] at hl
        refine lv_iinc (v := nI (n + 1)) (lv' := [(6, .int (nI (n + 1))), (7, .int (vbM 3 P n)), (0, .ref l0), (1, .ref (q 0)), (2, .ref q4), (3, .int (nI 4)), (4, .int (houM (scanM P (vbM 3 P) (n + 1)))), (5, .int (gotM (scanM P (vbM 3 P) (n + 1))))]) hx hb dX1_bestHouse_54 hl (k := 7) rfl (nI_add _ _) (by decide) rfl (fun ls hl => ?_)
        refine lv_goto (tgt := 12) hx hb dX1_bestHouse_57 (by decide) ?_
        exact ih (12 - (n + 1)) _ _ _ (by omega) ⟨n + 1, u34.1, u34.2, by omega, rfl, hW, lv_sub hl [2, 3, 4, 5, 6, 7, 0] rfl⟩
      · have e9 := best_yes hleg (Int32.not_le.mp h43)
        refine lv_iload hx hb dX1_bestHouse_46 (lv_at hl 7 rfl) ?_
        refine lv_istore (lv' := [(4, .int (nI n)), (7, .int (vbM 3 P n)), (0, .ref l0), (1, .ref (q 0)), (2, .ref q4), (3, .int (nI 4)), (5, .int (gotM (scanM P (vbM 3 P) n))), (6, .int (nI n))]) hx hb dX1_bestHouse_48 hl (by decide) rfl (fun ls hl => ?_)
        refine lv_iload hx hb dX1_bestHouse_50 (lv_at hl 1 rfl) ?_
        refine lv_istore (lv' := [(5, .int (vbM 3 P n)), (4, .int (nI n)), (7, .int (vbM 3 P n)), (0, .ref l0), (1, .ref (q 0)), (2, .ref q4), (3, .int (nI 4)), (6, .int (nI n))]) hx hb dX1_bestHouse_52 hl (by decide) rfl (fun ls hl => ?_)
        refine lv_iinc (v := nI (n + 1)) (lv' := [(6, .int (nI (n + 1))), (5, .int (vbM 3 P n)), (4, .int (nI n)), (7, .int (vbM 3 P n)), (0, .ref l0), (1, .ref (q 0)), (2, .ref q4), (3, .int (nI 4))]) hx hb dX1_bestHouse_54 hl (k := 7) rfl (nI_add _ _) (by decide) rfl (fun ls hl => ?_)
        refine lv_goto (tgt := 12) hx hb dX1_bestHouse_57 (by decide) ?_
        exact ih (12 - (n + 1)) _ _ _ (by omega) ⟨n + 1, u34.1, u34.2, by omega, rfl, hW, by rw [e9, got_s, hou_s]; exact lv_sub hl [4, 5, 6, 7, 2, 1, 0] rfl⟩
end
section
-- Pad; the rows wb_.. began as the starting texts of laws/BITS
theorem wb_tb (n : Nat) : (lN n).toBitVec = BitVec.ofNat 64 n := rfl
theorem wb_inj {a b : Int64} (h : a.toBitVec = b.toBitVec) : a = b := Int64.toBitVec_inj.mp h
theorem wb_tn {n : Nat} (h : n < 2 ^ 64) : (lN n).toBitVec.toNat = n := by rw [wb_tb, BitVec.toNat_ofNat, Nat.mod_eq_of_lt h]
theorem wb_of (x : Int64) : ∃ n, n < 2 ^ 64 ∧ x = lN n := ⟨x.toBitVec.toNat, x.toBitVec.isLt, wb_inj (by rw [wb_tb]; simp)⟩
theorem wb_of32 (x : Int32) : ∃ n, n < 2 ^ 32 ∧ x = nI n := ⟨x.toBitVec.toNat, x.toBitVec.isLt, Int32.toBitVec_inj.mp (by show _ = BitVec.ofNat 32 _; simp)⟩
theorem wb_c : ∀ k, k < 64 → ((nI k).toInt64 &&& 63) = lN k := by decide +kernel
theorem wb_cu : ∀ k, k < 64 → ((nI k).toInt64.toUInt64 &&& Int64.toUInt64 63) = UInt64.ofNat k := by decide +kernel
theorem wb_sm : ∀ k, k < 64 → (BitVec.ofNat 64 k).smod 64 = BitVec.ofNat 64 k := by decide +kernel
theorem wb_pw {a b : Nat} (h : a ≤ b) : 2 ^ b = 2 ^ a * 2 ^ (b - a) := by rw [← Nat.pow_add]; congr 1; omega
theorem wb_lt2 {a b : Nat} (h : a < b) : 2 ^ a < 2 ^ b := Nat.pow_lt_pow_right (by decide) h
theorem wb_mod (n : Nat) : lN n = lN (n % 2 ^ 64) := wb_inj (by rw [wb_tb, wb_tb]; apply BitVec.eq_of_toNat_eq; rw [BitVec.toNat_ofNat, BitVec.toNat_ofNat, Nat.mod_mod])
theorem wb_shr {n k : Nat} (hn : n < 2 ^ 64) (hk : k < 64) : ((lN n).toUInt64 >>> ((nI k).toInt64.toUInt64 &&& Int64.toUInt64 63)).toInt64 = lN (n / 2 ^ k) := by
  rw [wb_cu k hk]
  apply wb_inj
  apply BitVec.eq_of_toNat_eq
  show ((lN n).toUInt64 >>> UInt64.ofNat k).toNat = (BitVec.ofNat 64 _).toNat
  have h1 : (UInt64.ofNat k).toNat = k := by
    show (BitVec.ofNat 64 k).toNat = k
    rw [BitVec.toNat_ofNat, Nat.mod_eq_of_lt (by omega)]
  have h2 : (lN n).toUInt64.toNat = n := wb_tn hn
  rw [UInt64.toNat_shiftRight, h1, h2, Nat.mod_eq_of_lt hk, Nat.shiftRight_eq_div_pow, BitVec.toNat_ofNat, Nat.mod_eq_of_lt (Nat.lt_of_le_of_lt (Nat.div_le_self _ _) hn)]
theorem wb_shl (n : Nat) {k : Nat} (hk : k < 64) : lN n <<< ((nI k).toInt64 &&& 63) = lN (n * 2 ^ k) := by
  rw [wb_c k hk]
  apply wb_inj
  rw [Int64.toBitVec_shiftLeft, wb_tb, wb_tb, wb_tb, wb_sm k hk]
  apply BitVec.eq_of_toNat_eq
  rw [BitVec.shiftLeft_eq', BitVec.toNat_shiftLeft, BitVec.toNat_ofNat, BitVec.toNat_ofNat, BitVec.toNat_ofNat, Nat.mod_eq_of_lt (show k < 2 ^ 64 by omega), Nat.shiftLeft_eq, Nat.mul_mod, Nat.mod_mod, ← Nat.mul_mod]
theorem wb_and {a b : Nat} (ha : a < 2 ^ 64) (hb : b < 2 ^ 64) : lN a &&& lN b = lN (a &&& b) := by
  apply wb_inj
  rw [Int64.toBitVec_and, wb_tb, wb_tb, wb_tb]
  apply BitVec.eq_of_toNat_eq
  rw [BitVec.toNat_and, BitVec.toNat_ofNat, BitVec.toNat_ofNat, BitVec.toNat_ofNat, Nat.mod_eq_of_lt ha, Nat.mod_eq_of_lt hb, Nat.mod_eq_of_lt (Nat.and_lt_two_pow _ hb)]
theorem wb_or {a b : Nat} (ha : a < 2 ^ 64) (hb : b < 2 ^ 64) : lN a ||| lN b = lN (a ||| b) := by
  apply wb_inj
  rw [Int64.toBitVec_or, wb_tb, wb_tb, wb_tb]
  apply BitVec.eq_of_toNat_eq
  rw [BitVec.toNat_or, BitVec.toNat_ofNat, BitVec.toNat_ofNat, BitVec.toNat_ofNat, Nat.mod_eq_of_lt ha, Nat.mod_eq_of_lt hb, Nat.mod_eq_of_lt (Nat.or_lt_two_pow ha hb)]
theorem wb_mask {n k : Nat} (hn : n < 2 ^ 64) (hk : k < 64) : lN n &&& lN (2 ^ k - 1) = lN (n % 2 ^ k) := by
  rw [wb_and hn (by have := wb_lt2 hk; omega), Nat.and_two_pow_sub_one_eq_mod]
section LONGS
variable {p : Program} {l : Launch} {e : Env} {R : Room} {s : State} {m : MethodId} {args : Array Value} {below : List Frame} {meth : Method} {c : Code} {H : Heap} {locs : List Loc} {cells slots : Nat} {Q : State → Prop} {cc : ByteArray} {pc : Nat} {ls : Array Slot} {rest : List Value}
theorem landE (hexec : p.tables.exec = Jvm.exec) (hb : c.code = cc) {x y z : Int64} (hdg : decode cc pc = .ok (.land, 1)) (hz : x &&& y = z) (kk : W p l e R s m args below meth c H locs cells slots Q (F0 m (pc + 1) ls (.long z :: rest))) : W p l e R s m args below meth c H locs cells slots Q (F0 m pc ls (.long y :: .long x :: rest)) := by
  subst hz; exact lv_land hexec hb hdg kk
theorem lorE (hexec : p.tables.exec = Jvm.exec) (hb : c.code = cc) {x y z : Int64} (hdg : decode cc pc = .ok (.lor, 1)) (hz : x ||| y = z) (kk : W p l e R s m args below meth c H locs cells slots Q (F0 m (pc + 1) ls (.long z :: rest))) : W p l e R s m args below meth c H locs cells slots Q (F0 m pc ls (.long y :: .long x :: rest)) := by
  subst hz; exact lv_lor hexec hb hdg kk
theorem lsubE (hexec : p.tables.exec = Jvm.exec) (hb : c.code = cc) {x y z : Int64} (hdg : decode cc pc = .ok (.lsub, 1)) (hz : x - y = z) (kk : W p l e R s m args below meth c H locs cells slots Q (F0 m (pc + 1) ls (.long z :: rest))) : W p l e R s m args below meth c H locs cells slots Q (F0 m pc ls (.long y :: .long x :: rest)) := by
  subst hz; exact lv_lsub hexec hb hdg kk
end LONGS
abbrev fitC (c : Int32) (f d : Nat) (nb : Nat → Int32) : Prop := (f = 14 ∧ d = 0 ∧ (c = 48 ∨ c = 49)) ∨ (¬ f = 14 ∧ (48 ≤ c ∧ c ≤ 57) ∧ (d = 0 ∨ d = 1 ∧ ¬ nb f = 0))
def sgnC (f : Nat) : Int32 := if f = 11 ∨ f = 13 then 47 else 44
def numC (c : Int32) (f d : Nat) (nb : Nat → Int32) : Nat → Int32 := upd nb f ((if d = 0 then 0 else nb f * 10) + c - 48)
/-- the text t read from i on, k characters still to come, in the number f, behind d of its digits -/
def scanF : Nat → Nat → Nat → Nat → (Nat → Int32) → (Nat → Int32) → Int32 × (Nat → Int32)
  | 0, i, f, d, _, nb => (if f = 14 ∧ 0 < d then -6 else nI i, nb)
  | k + 1, i, f, d, t, nb => if fitC (t i) f d nb then scanF k (i + 1) f (d + 1) t (numC (t i) f d nb) else if 0 < d ∧ f < 14 ∧ t i = sgnC f then scanF k (i + 1) (f + 1) 0 t nb else (nI i, nb)
def chF : Nat → Nat → Nat → Nat
  | 0, _, c => c
  | n + 1, x, c => if x = 0 then c else if x % 256 < 33 ∨ 126 < x % 256 then 0 else chF n (x / 256) (c + 1)
def apT (t : Nat → Int32) (n c x m : Nat) : Nat → Int32 := fun j => if n ≤ j ∧ j < n + m then nI (x / 2 ^ (8 * (c - 1 - (j - n))) % 256) else t j
theorem lN_z {y : Nat} (hy : y < 2 ^ 64) : lN y = 0 ↔ y = 0 := by
  constructor
  · intro h
    have h2 : (lN y).toBitVec.toNat = (0 : Int64).toBitVec.toNat := congrArg (fun z : Int64 => z.toBitVec.toNat) h
    have e1 := wb_tn hy
    have e2 : (0 : Int64).toBitVec.toNat = 0 := by decide
    omega
  · intro h; rw [h]; rfl
theorem mask8 {y : Nat} (hy : y < 2 ^ 64) : lN y &&& 255 = lN (y % 256) := wb_mask (k := 8) hy (by decide)
theorem shr8 {y : Nat} (hy : y < 2 ^ 64) : ((lN y).toUInt64 >>> ((nI 8).toInt64.toUInt64 &&& Int64.toUInt64 63)).toInt64 = lN (y / 256) := wb_shr (k := 8) hy (by decide)
theorem nar_c {b : Nat} (hb : b < 65536) : vp_nar .char (nI b) = nI b := by unfold vp_nar; rw [(pk_charN hb).1]
set_option maxHeartbeats 4000000 in
set_option maxRecDepth 100000 in
theorem c_digitFits (l : Launch) (D : va_G) (T : Nat → ClassId) (p0 p1 p2 : Nat) (ln ch : Int32) (nb : Nat → Int32) {f d : Nat} (hf : f < 15) (hd : d < 2 ^ 31) : KR l D T yX2_digitFits cX2_digitFits 5 (some .boolean) 0 [.ref p0, .int ch, .int (nI f), .int (nI d)] [(p0, .inr (2, [.ref p1, .ref p2, .int ln])), (p2, .inl (T 0, 15, .inl nb))] (fun r => r = if fitC ch f d nb then 1 else 0) := by
  refine KR.of (by decide +kernel) (Nat.le_of_ble_eq_true rfl) (fun p e s m below meth c F hr hlk hW ls hl => ?_)
  have hx := F.1
  have hb := F.2.1
  have hl : lv_has ls 5 [(0, .ref p0), (1, .int ch), (2, .int (nI f)), (3, .int (nI d))] := hl
  refine lv_iload_n hx hb dX2_digitFits_0 rfl (lv_at hl 2 rfl) ?_
  refine lv_bipush (v := nI 14) hx hb dX2_digitFits_1 (by decide) ?_
  refine lv_icmp_ne (tgt := 28) hx hb dX2_digitFits_3 (by decide) (fun h3 => ?_) (fun h3 => ?_)
  · have f14 : ¬ f = 14 := n_ne h3
    refine lv_iload_n hx hb dX2_digitFits_28 rfl (lv_at hl 1 rfl) ?_
    refine lv_bipush (v := nI 48) hx hb dX2_digitFits_29 (by decide) ?_
    refine lv_icmp_lt (tgt := 44) hx hb dX2_digitFits_31 (by decide) (fun h31 => ?_) (fun h31 => ?_)
    · refine lv_iconst (v := 0) hx hb dX2_digitFits_44 (by decide) ?_
      refine lv_istore (lv' := [(4, .int 0), (0, .ref p0), (1, .int ch), (2, .int (nI f)), (3, .int (nI d))]) hx hb dX2_digitFits_45 hl (by decide) rfl (fun ls hl => ?_)
      refine lv_iload hx hb dX2_digitFits_47 (lv_at hl 0 rfl) ?_
      refine lv_if_eq (tgt := 74) hx hb dX2_digitFits_49 (by decide) (fun _ => ?_) (fun h9 => absurd rfl h9)
      refine lv_iconst (v := 0) hx hb dX2_digitFits_74 (by decide) ?_
      exact retR F hr hlk rfl (if_neg (show ¬ fitC ch f d nb from (fun q => q.elim (fun q => f14 q.1) (fun q => Int32.not_lt.mpr q.2.1.1 h31)))).symm dX2_digitFits_75
    · refine lv_iload_n hx hb dX2_digitFits_34 rfl (lv_at hl 1 rfl) ?_
      refine lv_bipush (v := nI 57) hx hb dX2_digitFits_35 (by decide) ?_
      refine lv_icmp_gt (tgt := 44) hx hb dX2_digitFits_37 (by decide) (fun h37 => ?_) (fun h37 => ?_)
      · refine lv_iconst (v := 0) hx hb dX2_digitFits_44 (by decide) ?_
        refine lv_istore (lv' := [(4, .int 0), (0, .ref p0), (1, .int ch), (2, .int (nI f)), (3, .int (nI d))]) hx hb dX2_digitFits_45 hl (by decide) rfl (fun ls hl => ?_)
        refine lv_iload hx hb dX2_digitFits_47 (lv_at hl 0 rfl) ?_
        refine lv_if_eq (tgt := 74) hx hb dX2_digitFits_49 (by decide) (fun _ => ?_) (fun h9 => absurd rfl h9)
        refine lv_iconst (v := 0) hx hb dX2_digitFits_74 (by decide) ?_
        exact retR F hr hlk rfl (if_neg (show ¬ fitC ch f d nb from (fun q => q.elim (fun q => f14 q.1) (fun q => Int32.not_lt.mpr q.2.1.2 h37)))).symm dX2_digitFits_75
      · have hdig : 48 ≤ ch ∧ ch ≤ 57 := ⟨Int32.not_lt.mp h31, Int32.not_lt.mp h37⟩
        refine lv_iconst (v := 1) hx hb dX2_digitFits_40 (by decide) ?_
        refine lv_goto (tgt := 45) hx hb dX2_digitFits_41 (by decide) ?_
        refine lv_istore (lv' := [(4, .int 1), (0, .ref p0), (1, .int ch), (2, .int (nI f)), (3, .int (nI d))]) hx hb dX2_digitFits_45 hl (by decide) rfl (fun ls hl => ?_)
        refine lv_iload hx hb dX2_digitFits_47 (lv_at hl 0 rfl) ?_
        refine lv_if_eq (tgt := 74) hx hb dX2_digitFits_49 (by decide) (fun h9 => absurd h9 (by decide)) (fun _ => ?_)
        refine lv_iload_n hx hb dX2_digitFits_52 rfl (lv_at hl 4 rfl) ?_
        refine lv_if_eq (tgt := 70) hx hb dX2_digitFits_53 (by decide) (fun h53 => ?_) (fun h53 => ?_)
        · refine lv_iconst (v := 1) hx hb dX2_digitFits_70 (by decide) ?_
          refine lv_goto (tgt := 75) hx hb dX2_digitFits_71 (by decide) ?_
          exact retR F hr hlk rfl (if_pos (show fitC ch f d nb from Or.inr ⟨f14, hdig, Or.inl (n_eq (b := 0) h53 (by omega) (by decide))⟩)).symm dX2_digitFits_75
        · have d0 : ¬ d = 0 := n_ne (b := 0) h53
          refine lv_iload_n hx hb dX2_digitFits_56 rfl (lv_at hl 4 rfl) ?_
          refine lv_iconst (v := nI 1) hx hb dX2_digitFits_57 (by decide) ?_
          refine lv_icmp_ne (tgt := 74) hx hb dX2_digitFits_58 (by decide) (fun h58 => ?_) (fun h58 => ?_)
          · refine lv_iconst (v := 0) hx hb dX2_digitFits_74 (by decide) ?_
            exact retR F hr hlk rfl (if_neg (show ¬ fitC ch f d nb from (fun q => q.elim (fun q => f14 q.1) (fun q => q.2.2.elim d0 (fun q => n_ne h58 q.1))))).symm dX2_digitFits_75
          · refine lv_aload_n hx hb dX2_digitFits_61 rfl (lv_at hl 1 rfl) ?_
            refine gf167 F hW 0 rfl rfl dX2_digitFits_62 ?_
            refine lv_iload_n hx hb dX2_digitFits_65 rfl (lv_at hl 3 rfl) ?_
            refine ald F hW 1 rfl (x := nb f) f rfl (by omega) (by decide) rfl dX2_digitFits_66 ?_
            refine lv_if_eq (tgt := 74) hx hb dX2_digitFits_67 (by decide) (fun h67 => ?_) (fun h67 => ?_)
            · refine lv_iconst (v := 0) hx hb dX2_digitFits_74 (by decide) ?_
              exact retR F hr hlk rfl (if_neg (show ¬ fitC ch f d nb from (fun q => q.elim (fun q => f14 q.1) (fun q => q.2.2.elim d0 (fun q => q.2 h67))))).symm dX2_digitFits_75
            · refine lv_iconst (v := 1) hx hb dX2_digitFits_70 (by decide) ?_
              refine lv_goto (tgt := 75) hx hb dX2_digitFits_71 (by decide) ?_
              exact retR F hr hlk rfl (if_pos (show fitC ch f d nb from Or.inr ⟨f14, hdig, Or.inr ⟨n_eq h58 (by omega) (by decide), h67⟩⟩)).symm dX2_digitFits_75
  · have f14 : f = 14 := n_eq h3 (by omega) (by decide)
    refine lv_iload_n hx hb dX2_digitFits_6 rfl (lv_at hl 3 rfl) ?_
    refine lv_if_ne (tgt := 26) hx hb dX2_digitFits_7 (by decide) (fun h7 => ?_) (fun h7 => ?_)
    · refine lv_iconst (v := 0) hx hb dX2_digitFits_26 (by decide) ?_
      exact retR F hr hlk rfl (if_neg (show ¬ fitC ch f d nb from (fun q => q.elim (fun q => n_ne (b := 0) h7 q.2.1) (fun q => q.1 f14)))).symm dX2_digitFits_27
    · have d0 : d = 0 := n_eq (b := 0) h7 (by omega) (by decide)
      refine lv_iload_n hx hb dX2_digitFits_10 rfl (lv_at hl 1 rfl) ?_
      refine lv_bipush (v := nI 48) hx hb dX2_digitFits_11 (by decide) ?_
      refine lv_icmp_eq (tgt := 22) hx hb dX2_digitFits_13 (by decide) (fun h13 => ?_) (fun h13 => ?_)
      · refine lv_iconst (v := 1) hx hb dX2_digitFits_22 (by decide) ?_
        refine lv_goto (tgt := 27) hx hb dX2_digitFits_23 (by decide) ?_
        exact retR F hr hlk rfl (if_pos (show fitC ch f d nb from Or.inl ⟨f14, d0, Or.inl h13⟩)).symm dX2_digitFits_27
      · refine lv_iload_n hx hb dX2_digitFits_16 rfl (lv_at hl 1 rfl) ?_
        refine lv_bipush (v := nI 49) hx hb dX2_digitFits_17 (by decide) ?_
        refine lv_icmp_ne (tgt := 26) hx hb dX2_digitFits_19 (by decide) (fun h19 => ?_) (fun h19 => ?_)
        · refine lv_iconst (v := 0) hx hb dX2_digitFits_26 (by decide) ?_
          exact retR F hr hlk rfl (if_neg (show ¬ fitC ch f d nb from (fun q => q.elim (fun q => q.2.2.elim h13 h19) (fun q => q.1 f14)))).symm dX2_digitFits_27
        · refine lv_iconst (v := 1) hx hb dX2_digitFits_22 (by decide) ?_
          refine lv_goto (tgt := 27) hx hb dX2_digitFits_23 (by decide) ?_
          exact retR F hr hlk rfl (if_pos (show fitC ch f d nb from Or.inl ⟨f14, d0, Or.inr h19⟩)).symm dX2_digitFits_27
set_option maxHeartbeats 4000000 in
set_option maxRecDepth 100000 in
theorem c_signBehind (l : Launch) (D : va_G) (T : Nat → ClassId) {f : Nat} (hf : f < 15) : KR l D T yX2_signBehind cX2_signBehind 1 (some .char) 0 [.int (nI f)] [] (fun r => r = sgnC f) := by
  refine KR.of (by decide +kernel) (Nat.le_of_ble_eq_true rfl) (fun p e s m below meth c F hr hlk hW ls hl => ?_)
  have hx := F.1
  have hb := F.2.1
  have hl : lv_has ls 1 [(0, .int (nI f))] := hl
  refine lv_iload_n hx hb dX2_signBehind_0 rfl (lv_at hl 0 rfl) ?_
  refine lv_bipush (v := nI 11) hx hb dX2_signBehind_1 (by decide) ?_
  refine lv_icmp_eq (tgt := 12) hx hb dX2_signBehind_3 (by decide) (fun h3 => ?_) (fun h3 => ?_)
  · refine lv_bipush (v := 47) hx hb dX2_signBehind_12 (by decide) ?_
    refine lv_goto (tgt := 19) hx hb dX2_signBehind_14 (by decide) ?_
    exact retR F hr hlk rfl (if_pos (Or.inl (n_eq h3 (by omega) (by decide)))).symm dX2_signBehind_19
  · refine lv_iload_n hx hb dX2_signBehind_6 rfl (lv_at hl 0 rfl) ?_
    refine lv_bipush (v := nI 13) hx hb dX2_signBehind_7 (by decide) ?_
    refine lv_icmp_ne (tgt := 17) hx hb dX2_signBehind_9 (by decide) (fun h9 => ?_) (fun h9 => ?_)
    · refine lv_bipush (v := 44) hx hb dX2_signBehind_17 (by decide) ?_
      exact retR F hr hlk rfl (if_neg (fun q => q.elim (n_ne h3) (n_ne h9))).symm dX2_signBehind_19
    · refine lv_bipush (v := 47) hx hb dX2_signBehind_12 (by decide) ?_
      refine lv_goto (tgt := 19) hx hb dX2_signBehind_14 (by decide) ?_
      exact retR F hr hlk rfl (if_pos (Or.inr (n_eq h9 (by omega) (by decide)))).symm dX2_signBehind_19
set_option maxHeartbeats 4000000 in
set_option maxRecDepth 100000 in
theorem c_scan (l : Launch) (D : va_G) (T : Nat → ClassId) (p0 p1 p2 : Nat) (t nb : Nat → Int32) {n : Nat} (hn : n ≤ 60) : KI (S := Unit) l D T yX2_scan cX2_scan 6 (some .int) 1 [.ref p0] [(p0, .inr (2, [.ref p1, .ref p2, .int (nI n)])), (p1, .inl (T 1, 60, .inl t)), (p2, .inl (T 0, 15, .inl nb))] (fun r _ => r = (scanF n 0 0 0 t nb).1) (fun u => [(p0, .inr (2, [.ref p1, .ref p2, .int (nI n)])), (p1, .inl (T 1, 60, .inl t)), (p2, .inl (T 0, 15, .inl ((scanF n 0 0 0 t nb).2)))]) := by
  refine KI.of (by decide +kernel) (Nat.le_of_ble_eq_true rfl) (fun p e s m below meth c A F hr hlk hW ls hl => ?_)
  have hx := F.1
  have hb := F.2.1
  have hl : lv_has ls 6 [(0, .ref p0)] := hl
  refine lv_iconst (v := nI 0) hx hb dX2_scan_0 (by decide) ?_
  refine lv_istore_n (lv' := [(1, .int (nI 0)), (0, .ref p0)]) hx hb dX2_scan_1 rfl hl (by decide) rfl (fun ls hl => ?_)
  refine lv_iconst (v := nI 0) hx hb dX2_scan_2 (by decide) ?_
  refine lv_istore_n (lv' := [(2, .int (nI 0)), (1, .int (nI 0)), (0, .ref p0)]) hx hb dX2_scan_3 rfl hl (by decide) rfl (fun ls hl => ?_)
  refine lv_iconst (v := nI 0) hx hb dX2_scan_4 (by decide) ?_
  refine lv_istore_n (lv' := [(3, .int (nI 0)), (2, .int (nI 0)), (1, .int (nI 0)), (0, .ref p0)]) hx hb dX2_scan_5 rfl hl (by decide) rfl (fun ls hl => ?_)
  refine W.loop (fun k H2 locs2 ls2 => ∃ (i f d : Nat) (nc : Nat → Int32), i + k = n ∧ f < 15 ∧ d ≤ i ∧ scanF k i f d t nc = (scanF n 0 0 0 t nb) ∧ Wd D T A s [(p0, .inr (2, [.ref p1, .ref p2, .int (nI n)])), (p1, .inl (T 1, 60, .inl t)), (p2, .inl (T 0, 15, .inl nc))] H2 locs2 ∧ lv_has ls2 6 [(0, .ref p0), (1, .int (nI f)), (2, .int (nI d)), (3, .int (nI i))]) ?_ n ⟨0, 0, 0, nb, by omega, by omega, by omega, rfl, hW, lv_sub hl [3, 2, 1, 0] rfl⟩
  rintro k H locs ls ⟨i, f, d, nc, hi, hf, hd, hS, hW, hl⟩ ih
  refine lv_iload_n hx hb dX2_scan_6 rfl (lv_at hl 3 rfl) ?_
  refine lv_aload_n hx hb dX2_scan_7 rfl (lv_at hl 0 rfl) ?_
  refine gf169 F hW 0 rfl rfl dX2_scan_8 ?_
  refine lv_icmp_ge (tgt := 107) hx hb dX2_scan_11 (by decide) (fun h11 => ?_) (fun h11 => ?_)
  · have hk : k = 0 := by have := n_le h11 (by omega) (by omega); omega
    subst hk
    have hin : i = n := by omega
    rw [scanF] at hS
    refine lv_iload_n hx hb dX2_scan_107 rfl (lv_at hl 1 rfl) ?_
    refine lv_bipush (v := nI 14) hx hb dX2_scan_108 (by decide) ?_
    refine lv_icmp_ne (tgt := 122) hx hb dX2_scan_110 (by decide) (fun h110 => ?_) (fun h110 => ?_)
    · refine lv_aload_n hx hb dX2_scan_122 rfl (lv_at hl 0 rfl) ?_
      refine gf169 F hW 0 rfl rfl dX2_scan_123 ?_
      exact retI F hr hlk rfl hW () (by rw [← hS]; dsimp only; rw [if_neg (fun q => n_ne h110 q.1), hin]) (by rw [← hS]) dX2_scan_126
    · refine lv_iload_n hx hb dX2_scan_113 rfl (lv_at hl 2 rfl) ?_
      refine lv_if_le (tgt := 122) hx hb dX2_scan_114 (by decide) (fun h114 => ?_) (fun h114 => ?_)
      · refine lv_aload_n hx hb dX2_scan_122 rfl (lv_at hl 0 rfl) ?_
        refine gf169 F hW 0 rfl rfl dX2_scan_123 ?_
        exact retI F hr hlk rfl hW () (by rw [← hS]; dsimp only; rw [if_neg (fun q => absurd h114 (Int32.not_le.mpr (nI_lt (a := 0) q.2 (by omega)))), hin]) (by rw [← hS]) dX2_scan_126
      · refine lv_bipush (v := -6) hx hb dX2_scan_117 (by decide) ?_
        refine lv_goto (tgt := 126) hx hb dX2_scan_119 (by decide) ?_
        exact retI F hr hlk rfl hW () (by rw [← hS]; dsimp only; rw [if_pos ⟨n_eq h110 (by omega) (by decide), by have : ¬ nI d ≤ nI 0 := h114; have := n_nle this (by omega) (by decide); omega⟩]) (by rw [← hS]) dX2_scan_126
  · have hlt : i < n := n_nle h11 (by omega) (by omega)
    obtain ⟨k, rfl⟩ : ∃ z, k = z + 1 := ⟨k - 1, by omega⟩
    rw [scanF] at hS
    refine lv_aload_n hx hb dX2_scan_14 rfl (lv_at hl 0 rfl) ?_
    refine gf166 F hW 0 rfl rfl dX2_scan_15 ?_
    refine lv_iload_n hx hb dX2_scan_18 rfl (lv_at hl 3 rfl) ?_
    refine cald F hW 1 rfl (x := t i) i rfl (by omega) (by decide) rfl dX2_scan_19 ?_
    refine lv_istore (lv' := [(4, .int (t i)), (0, .ref p0), (1, .int (nI f)), (2, .int (nI d)), (3, .int (nI i))]) hx hb dX2_scan_20 hl (by decide) rfl (fun ls hl => ?_)
    refine lv_aload_n hx hb dX2_scan_22 rfl (lv_at hl 1 rfl) ?_
    refine lv_iload hx hb dX2_scan_23 (lv_at hl 0 rfl) ?_
    refine lv_iload_n hx hb dX2_scan_25 rfl (lv_at hl 2 rfl) ?_
    refine lv_iload_n hx hb dX2_scan_26 rfl (lv_at hl 3 rfl) ?_
    refine cRV (As := [.int (t i), .int (nI f), .int (nI d)]) (rest := []) F hW hl cs357 (c_digitFits l D T p0 p1 p2 (nI n) (t i) nc (f := f) (d := d) (by omega) (by omega)) [0, 2] rfl rfl 0 2 rfl rfl rfl rfl rfl (Nat.le_of_ble_eq_true rfl) ⟨Nat.le_of_ble_eq_true rfl, Nat.le_of_ble_eq_true rfl⟩ ⟨Nat.zero_le _, Nat.zero_le _⟩ dX2_scan_27 (fun r27 hr27 => ?_)
    subst hr27
    refine lv_if_eq (tgt := 72) hx hb dX2_scan_30 (by decide) (fun h30 => ?_) (fun h30 => ?_)
    · have hn1 : ¬ fitC (t i) f d nc := bz.mp h30
      rw [if_neg hn1] at hS
      refine lv_iload_n hx hb dX2_scan_72 rfl (lv_at hl 3 rfl) ?_
      refine lv_if_le (tgt := 99) hx hb dX2_scan_73 (by decide) (fun h73 => ?_) (fun h73 => ?_)
      · have d0 : ¬ 0 < d := fun q => absurd h73 (Int32.not_le.mpr (nI_lt (a := 0) q (by omega)))
        rw [if_neg (fun q => d0 q.1)] at hS
        refine lv_iload_n hx hb dX2_scan_99 rfl (lv_at hl 4 rfl) ?_
        exact retI F hr hlk rfl hW () (by rw [← hS]) (by rw [← hS]) dX2_scan_100
      · have d0 : 0 < d := by have : ¬ nI d ≤ nI 0 := h73; have := n_nle this (by omega) (by decide); omega
        refine lv_iload_n hx hb dX2_scan_76 rfl (lv_at hl 2 rfl) ?_
        refine lv_bipush (v := nI 14) hx hb dX2_scan_77 (by decide) ?_
        refine lv_icmp_ge (tgt := 99) hx hb dX2_scan_79 (by decide) (fun h79 => ?_) (fun h79 => ?_)
        · rw [if_neg (fun q => by have := n_le h79 (by decide) (by omega); omega)] at hS
          refine lv_iload_n hx hb dX2_scan_99 rfl (lv_at hl 4 rfl) ?_
          exact retI F hr hlk rfl hW () (by rw [← hS]) (by rw [← hS]) dX2_scan_100
        · have f14 : f < 14 := n_nle h79 (by decide) (by omega)
          refine lv_iload hx hb dX2_scan_82 (lv_at hl 0 rfl) ?_
          refine lv_iload_n hx hb dX2_scan_84 rfl (lv_at hl 2 rfl) ?_
          refine cRS (As := [.int (nI f)]) (rest := [.int (t i)]) F hW hl cs361 (c_signBehind l D T (f := f) (by omega)) [] rfl rfl rfl rfl (Nat.le_of_ble_eq_true rfl) ⟨Nat.le_of_ble_eq_true rfl, Nat.le_of_ble_eq_true rfl⟩ ⟨Nat.zero_le _, Nat.zero_le _⟩ dX2_scan_85 (fun r85 hr85 => ?_)
          subst hr85
          refine lv_icmp_ne (tgt := 99) hx hb dX2_scan_88 (by decide) (fun h88 => ?_) (fun h88 => ?_)
          · rw [if_neg (fun q => h88 q.2.2)] at hS
            refine lv_iload_n hx hb dX2_scan_99 rfl (lv_at hl 4 rfl) ?_
            exact retI F hr hlk rfl hW () (by rw [← hS]) (by rw [← hS]) dX2_scan_100
          · rw [if_pos ⟨d0, f14, h88⟩] at hS
            refine lv_iinc (v := nI (f + 1)) (lv' := [(1, .int (nI (f + 1))), (4, .int (t i)), (0, .ref p0), (2, .int (nI d)), (3, .int (nI i))]) hx hb dX2_scan_91 hl (k := 2) rfl (nI_add _ _) (by decide) rfl (fun ls hl => ?_)
            refine lv_iconst (v := nI 0) hx hb dX2_scan_94 (by decide) ?_
            refine lv_istore_n (lv' := [(2, .int (nI 0)), (1, .int (nI (f + 1))), (4, .int (t i)), (0, .ref p0), (3, .int (nI i))]) hx hb dX2_scan_95 rfl hl (by decide) rfl (fun ls hl => ?_)
            refine lv_goto (tgt := 101) hx hb dX2_scan_96 (by decide) ?_
            refine lv_iinc (v := nI (i + 1)) (lv' := [(3, .int (nI (i + 1))), (2, .int (nI 0)), (1, .int (nI (f + 1))), (4, .int (t i)), (0, .ref p0)]) hx hb dX2_scan_101 hl (k := 4) rfl (nI_add _ _) (by decide) rfl (fun ls hl => ?_)
            refine lv_goto (tgt := 6) hx hb dX2_scan_104 (by decide) ?_
            exact ih k _ _ _ (Nat.lt_succ_self k) ⟨i + 1, f + 1, 0, nc, by omega, by omega, by omega, hS, hW, lv_sub hl [4, 2, 1, 0] rfl⟩
    · have hy1 : fitC (t i) f d nc := Decidable.not_not.mp (fun q => h30 (bz.mpr q))
      rw [if_pos hy1] at hS
      refine lv_iload_n hx hb dX2_scan_33 rfl (lv_at hl 3 rfl) ?_
      refine W.fork (X := Unit) 50 (fun _ => [.int (if d = 0 then 0 else nc f * 10)]) (fun _ H2 locs2 ls2 => H2 = H ∧ locs2 = locs ∧ lv_has ls2 6 [(4, .int (t i)), (0, .ref p0), (1, .int (nI f)), (2, .int (nI d)), (3, .int (nI i))]) (fun hJ => ?_) ?_
      · refine lv_if_ne (tgt := 41) hx hb dX2_scan_34 (by decide) (fun h34 => ?_) (fun h34 => ?_)
        · refine lv_aload_n hx hb dX2_scan_41 rfl (lv_at hl 1 rfl) ?_
          refine gf167 F hW 0 rfl rfl dX2_scan_42 ?_
          refine lv_iload_n hx hb dX2_scan_45 rfl (lv_at hl 2 rfl) ?_
          refine ald F hW 2 rfl (x := nc f) f rfl (by omega) (by decide) rfl dX2_scan_46 ?_
          refine lv_bipush (v := nI 10) hx hb dX2_scan_47 (by decide) ?_
          refine imulE (z := (nc f) * (nI 10)) hx hb dX2_scan_49 rfl ?_
          have e1 : (if d = 0 then 0 else nc f * 10) = nc f * 10 := if_neg (n_ne (b := 0) h34)
          rw [e1] at hJ
          exact hJ () _ _ _ ⟨rfl, rfl, hl⟩
        · refine lv_iconst (v := 0) hx hb dX2_scan_37 (by decide) ?_
          refine lv_goto (tgt := 50) hx hb dX2_scan_38 (by decide) ?_
          have e1 : (if d = 0 then 0 else nc f * 10) = 0 := if_pos (n_eq (b := 0) h34 (by omega) (by decide))
          rw [e1] at hJ
          exact hJ () _ _ _ ⟨rfl, rfl, hl⟩
      · rintro - H2 locs2 ls ⟨rfl, rfl, hl⟩
        refine lv_istore (lv' := [(5, .int (if d = 0 then 0 else nc f * 10)), (4, .int (t i)), (0, .ref p0), (1, .int (nI f)), (2, .int (nI d)), (3, .int (nI i))]) hx hb dX2_scan_50 hl (by decide) rfl (fun ls hl => ?_)
        refine lv_aload_n hx hb dX2_scan_52 rfl (lv_at hl 2 rfl) ?_
        refine gf167 F hW 0 rfl rfl dX2_scan_53 ?_
        refine lv_iload_n hx hb dX2_scan_56 rfl (lv_at hl 3 rfl) ?_
        refine lv_iload hx hb dX2_scan_57 (lv_at hl 0 rfl) ?_
        refine lv_iload hx hb dX2_scan_59 (lv_at hl 1 rfl) ?_
        refine iaddE (z := (if d = 0 then 0 else nc f * 10) + (t i)) hx hb dX2_scan_61 rfl ?_
        refine lv_bipush (v := nI 48) hx hb dX2_scan_62 (by decide) ?_
        refine isubE (z := ((if d = 0 then 0 else nc f * 10) + (t i)) - (nI 48)) hx hb dX2_scan_64 rfl ?_
        refine ast (ws' := [(p0, .inr (2, [.ref p1, .ref p2, .int (nI n)])), (p1, .inl (T 1, 60, .inl t)), (p2, .inl (T 0, 15, .inl (numC (t i) f d nc)))]) F hW 2 (numC (t i) f d nc) rfl f rfl (by omega) (by decide) (fun _ _ => rfl) rfl dX2_scan_65 (fun H locs hW => ?_)
        refine lv_iinc (v := nI (d + 1)) (lv' := [(2, .int (nI (d + 1))), (5, .int (if d = 0 then 0 else nc f * 10)), (4, .int (t i)), (0, .ref p0), (1, .int (nI f)), (3, .int (nI i))]) hx hb dX2_scan_66 hl (k := 4) rfl (nI_add _ _) (by decide) rfl (fun ls hl => ?_)
        refine lv_goto (tgt := 101) hx hb dX2_scan_69 (by decide) ?_
        refine lv_iinc (v := nI (i + 1)) (lv' := [(3, .int (nI (i + 1))), (2, .int (nI (d + 1))), (5, .int (if d = 0 then 0 else nc f * 10)), (4, .int (t i)), (0, .ref p0), (1, .int (nI f))]) hx hb dX2_scan_101 hl (k := 5) rfl (nI_add _ _) (by decide) rfl (fun ls hl => ?_)
        refine lv_goto (tgt := 6) hx hb dX2_scan_104 (by decide) ?_
        exact ih k _ _ _ (Nat.lt_succ_self k) ⟨i + 1, f, d + 1, _, by omega, hf, by omega, hS, hW, lv_sub hl [4, 5, 1, 0] rfl⟩
set_option maxHeartbeats 4000000 in
set_option maxRecDepth 100000 in
theorem c_charactersIn (l : Launch) (D : va_G) (T : Nat → ClassId) {x : Nat} (hx64 : x < 2 ^ 64) : KR l D T yX2_charactersIn cX2_charactersIn 7 (some .int) 0 [.long (lN x)] [] (fun r => r = nI (chF 8 x 0)) := by
  refine KR.of (by decide +kernel) (Nat.le_of_ble_eq_true rfl) (fun p e s m below meth c F hr hlk hW ls hl => ?_)
  have hx := F.1
  have hb := F.2.1
  have hl : lv_has ls 7 [(0, .long (lN x))] := hl
  refine lv_lload_n hx hb dX2_charactersIn_0 rfl (lv_at hl 0 rfl) ?_
  refine lv_lstore_n (lv' := [(2, .long (lN x)), (0, .long (lN x))]) hx hb dX2_charactersIn_1 rfl hl (by decide) rfl (fun ls hl => ?_)
  refine lv_iconst (v := nI 0) hx hb dX2_charactersIn_2 (by decide) ?_
  refine lv_istore (lv' := [(4, .int (nI 0)), (2, .long (lN x)), (0, .long (lN x))]) hx hb dX2_charactersIn_3 hl (by decide) rfl (fun ls hl => ?_)
  refine W.loop (fun k H2 locs2 ls2 => H2 = s.heap ∧ locs2 = [] ∧ ∃ (y c : Nat), c + k = 8 ∧ y < 2 ^ 64 ∧ chF k y c = chF 8 x 0 ∧ lv_has ls2 7 [(2, .long (lN y)), (4, .int (nI c))]) ?_ 8 ⟨rfl, rfl, x, 0, rfl, hx64, rfl, lv_sub hl [1, 0] rfl⟩
  rintro k H2 locs2 ls ⟨rfl, rfl, y, cn, hc, hy, hS, hl⟩ ih
  refine lv_lload_n hx hb dX2_charactersIn_5 rfl (lv_at hl 0 rfl) ?_
  refine lv_lconst (v := 0) hx hb dX2_charactersIn_6 (by decide) ?_
  refine W.lcmp hx hb dX2_charactersIn_7 ?_
  refine lv_if_eq (tgt := 56) hx hb dX2_charactersIn_8 (by decide) (fun h8 => ?_) (fun h8 => ?_)
  · have y0 : y = 0 := (lN_z hy).mp ((lg_cmp_eq _ _).mp h8)
    refine lv_iload hx hb dX2_charactersIn_56 (lv_at hl 1 rfl) ?_
    exact retR F hr hlk rfl (by rw [← hS, y0]; cases k <;> rfl) dX2_charactersIn_58
  · have y0 : ¬ y = 0 := fun q => h8 ((lg_cmp_eq _ _).mpr ((lN_z hy).mpr q))
    refine lv_iload hx hb dX2_charactersIn_11 (lv_at hl 1 rfl) ?_
    refine lv_bipush (v := nI 8) hx hb dX2_charactersIn_13 (by decide) ?_
    refine lv_icmp_ge (tgt := 56) hx hb dX2_charactersIn_15 (by decide) (fun h15 => ?_) (fun h15 => ?_)
    · have k0 : k = 0 := by have := n_le h15 (by decide) (by omega); omega
      subst k0
      refine lv_iload hx hb dX2_charactersIn_56 (lv_at hl 1 rfl) ?_
      exact retR F hr hlk rfl (by rw [← hS]; rfl) dX2_charactersIn_58
    · obtain ⟨k, rfl⟩ : ∃ z, k = z + 1 := ⟨k - 1, by have := n_nle h15 (by decide) (by omega); omega⟩
      rw [chF, if_neg y0] at hS
      have hb8 : y % 256 < 256 := Nat.mod_lt _ (by decide)
      refine lv_lload_n hx hb dX2_charactersIn_18 rfl (lv_at hl 0 rfl) ?_
      refine lv_ldc2 hx hb F.2.2.2.1 (F.2.2.2.2 _ m431) dX2_charactersIn_19 ?_
      refine landE (z := lN (y % 256)) hx hb dX2_charactersIn_22 (mask8 hy) ?_
      refine lv_lstore (lv' := [(5, .long (lN (y % 256))), (2, .long (lN y)), (4, .int (nI cn))]) hx hb dX2_charactersIn_23 hl (by decide) rfl (fun ls hl => ?_)
      refine lv_lload hx hb dX2_charactersIn_25 (lv_at hl 0 rfl) ?_
      refine lv_ldc2 hx hb F.2.2.2.1 (F.2.2.2.2 _ m432) dX2_charactersIn_27 ?_
      refine W.lcmp hx hb dX2_charactersIn_30 ?_
      refine lv_if_lt (tgt := 43) hx hb dX2_charactersIn_31 (by decide) (fun h31 => ?_) (fun h31 => ?_)
      · have q1 : y % 256 < 33 := (pk_lLT (b := 33) (by omega) (by decide)).mp ((lg_cmp_lt _ _).mp h31)
        rw [if_pos (Or.inl q1)] at hS
        refine lv_iconst (v := nI 0) hx hb dX2_charactersIn_43 (by decide) ?_
        exact retR F hr hlk rfl (by rw [← hS]) dX2_charactersIn_44
      · have q1 : ¬ y % 256 < 33 := fun q => h31 ((lg_cmp_lt _ _).mpr ((pk_lLT (b := 33) (by omega) (by decide)).mpr q))
        refine lv_lload hx hb dX2_charactersIn_34 (lv_at hl 0 rfl) ?_
        refine lv_ldc2 hx hb F.2.2.2.1 (F.2.2.2.2 _ m433) dX2_charactersIn_36 ?_
        refine W.lcmp hx hb dX2_charactersIn_39 ?_
        refine lv_if_le (tgt := 45) hx hb dX2_charactersIn_40 (by decide) (fun h40 => ?_) (fun h40 => ?_)
        · have q2 : ¬ 126 < y % 256 := by have := (pk_lLE (b := 126) (by omega) (by decide)).mp ((lg_cmp_le _ _).mp h40); omega
          rw [if_neg (fun q => q.elim q1 q2)] at hS
          refine lv_lload_n hx hb dX2_charactersIn_45 rfl (lv_at hl 1 rfl) ?_
          refine lv_bipush (v := nI 8) hx hb dX2_charactersIn_46 (by decide) ?_
          refine lv_lushr (v := lN (y / 256)) hx hb dX2_charactersIn_48 (shr8 hy) ?_
          refine lv_lstore_n (lv' := [(2, .long (lN (y / 256))), (5, .long (lN (y % 256))), (4, .int (nI cn))]) hx hb dX2_charactersIn_49 rfl hl (by decide) rfl (fun ls hl => ?_)
          refine lv_iinc (v := nI (cn + 1)) (lv' := [(4, .int (nI (cn + 1))), (2, .long (lN (y / 256))), (5, .long (lN (y % 256)))]) hx hb dX2_charactersIn_50 hl (k := 2) rfl (nI_add _ _) (by decide) rfl (fun ls hl => ?_)
          refine lv_goto (tgt := 5) hx hb dX2_charactersIn_53 (by decide) ?_
          exact ih k _ _ _ (Nat.lt_succ_self k) ⟨rfl, rfl, y / 256, cn + 1, by omega, by omega, hS, lv_sub hl [1, 0] rfl⟩
        · have q2 : 126 < y % 256 := by have := fun q => h40 ((lg_cmp_le _ _).mpr ((pk_lLE (a := y % 256) (b := 126) (by omega) (by decide)).mpr q)); exact Nat.not_le.mp this
          rw [if_pos (Or.inr q2)] at hS
          refine lv_iconst (v := nI 0) hx hb dX2_charactersIn_43 (by decide) ?_
          exact retR F hr hlk rfl (by rw [← hS]) dX2_charactersIn_44
set_option maxHeartbeats 4000000 in
set_option maxRecDepth 100000 in
theorem c_append (l : Launch) (D : va_G) (T : Nat → ClassId) (p0 p1 p2 : Nat) (t : Nat → Int32) {n cn x : Nat} (hx64 : x < 2 ^ 64) (hc8 : cn ≤ 8) (hnc : n + cn ≤ 60) : KV (S := Unit) l D T yX2_append cX2_append 5 0 [.ref p0, .long (lN x), .int (nI cn)] [(p0, .inr (2, [.ref p1, .ref p2, .int (nI n)])), (p1, .inl (T 1, 60, .inl t))] (fun _ => True) (fun u => [(p0, .inr (2, [.ref p1, .ref p2, .int (nI (n + cn))])), (p1, .inl (T 1, 60, .inl (apT t n cn x cn)))]) := by
  refine KV.of (by decide +kernel) (Nat.le_of_ble_eq_true rfl) (fun p e s m below meth c A F hr hlk hW ls hl => ?_)
  have hx := F.1
  have hb := F.2.1
  have hl : lv_has ls 5 [(0, .ref p0), (1, .long (lN x)), (3, .int (nI cn))] := hl
  refine lv_iload_n hx hb dX2_append_0 rfl (lv_at hl 2 rfl) ?_
  refine lv_iconst (v := nI 1) hx hb dX2_append_1 (by decide) ?_
  refine isubE (z := nI cn - 1) hx hb dX2_append_2 rfl ?_
  refine lv_istore (lv' := [(4, .int (nI cn - 1)), (0, .ref p0), (1, .long (lN x)), (3, .int (nI cn))]) hx hb dX2_append_3 hl (by decide) rfl (fun ls hl => ?_)
  have hW := Wd.arr hW 1 (apT t n cn x 0) rfl (fun j hj => (if_neg (by omega)).symm) (ws' := [(p0, .inr (2, [.ref p1, .ref p2, .int (nI n)])), (p1, .inl (T 1, 60, .inl (apT t n cn x 0)))]) rfl
  refine W.loop (fun r H2 locs2 ls2 => ∃ (m2 : Nat) (ix : Int32), m2 + r = cn ∧ ix = nI r - 1 ∧ Wd D T A s [(p0, .inr (2, [.ref p1, .ref p2, .int (nI (n + m2))])), (p1, .inl (T 1, 60, .inl (apT t n cn x m2)))] H2 locs2 ∧ lv_has ls2 5 [(0, .ref p0), (1, .long (lN x)), (4, .int ix)]) ?_ cn ⟨0, nI cn - 1, by omega, rfl, hW, lv_sub hl [1, 2, 0] rfl⟩
  rintro r H locs ls ⟨m2, ix, hr2, hix, hW, hl⟩ ih
  rcases r with - | r
  · have hix : ix = -1 := hix
    rw [hix] at hl
    have hm : m2 = cn := by omega
    rw [hm] at hW
    refine lv_iload hx hb dX2_append_5 (lv_at hl 2 rfl) ?_
    refine lv_if_lt (tgt := 57) hx hb dX2_append_7 (by decide) (fun _ => ?_) (fun h9 => absurd (by decide) h9)
    exact retV F hr hlk hW () trivial rfl dX2_append_57
  · rw [nI_pred] at hix
    rw [hix] at hl
    refine lv_iload hx hb dX2_append_5 (lv_at hl 2 rfl) ?_
    refine lv_if_lt (tgt := 57) hx hb dX2_append_7 (by decide) (fun h9 => absurd h9 (nI_pos (by omega))) (fun _ => ?_)
    refine lv_aload_n hx hb dX2_append_10 rfl (lv_at hl 0 rfl) ?_
    refine gf169 F hW 0 rfl rfl dX2_append_11 ?_
    refine lv_bipush (v := nI 60) hx hb dX2_append_14 (by decide) ?_
    refine lv_icmp_ge (tgt := 51) hx hb dX2_append_16 (by decide) (fun h9 => absurd h9 (by intro q; have := n_le q (by decide) (by omega); omega)) (fun _ => ?_)
    have hb8 : x / 2 ^ (8 * r) % 256 < 256 := Nat.mod_lt _ (by decide)
    have hx2 : x / 2 ^ (8 * r) < 2 ^ 64 := Nat.lt_of_le_of_lt (Nat.div_le_self _ _) hx64
    refine lv_aload_n hx hb dX2_append_19 rfl (lv_at hl 0 rfl) ?_
    refine gf166 F hW 0 rfl rfl dX2_append_20 ?_
    refine lv_aload_n hx hb dX2_append_23 rfl (lv_at hl 0 rfl) ?_
    refine gf169 F hW 0 rfl rfl dX2_append_24 ?_
    refine lv_lload_n hx hb dX2_append_27 rfl (lv_at hl 1 rfl) ?_
    refine lv_bipush (v := nI 8) hx hb dX2_append_28 (by decide) ?_
    refine lv_iload hx hb dX2_append_30 (lv_at hl 2 rfl) ?_
    refine imulE (z := nI (8 * r)) hx hb dX2_append_32 (pk_mul _ _) ?_
    refine lv_lushr (v := lN (x / 2 ^ (8 * r))) hx hb dX2_append_33 (wb_shr hx64 (by omega)) ?_
    refine lv_ldc2 hx hb F.2.2.2.1 (F.2.2.2.2 _ m431) dX2_append_34 ?_
    refine landE (z := lN (x / 2 ^ (8 * r) % 256)) hx hb dX2_append_37 (mask8 hx2) ?_
    refine lv_l2i (v := nI (x / 2 ^ (8 * r) % 256)) hx hb dX2_append_38 (lN_i _) ?_
    refine lv_i2c (v := nI (x / 2 ^ (8 * r) % 256)) hx hb dX2_append_39 (sb_byte _ hb8).2.1 ?_
    refine cast_ (ws' := [(p0, .inr (2, [.ref p1, .ref p2, .int (nI (n + m2))])), (p1, .inl (T 1, 60, .inl (apT t n cn x (m2 + 1))))]) F hW 1 (apT t n cn x (m2 + 1)) rfl (n + m2) rfl (by omega) (by decide) (nar_c (by omega)) (fun j hj => by unfold apT; by_cases q : j = n + m2; (rw [q, u_s, if_pos (by omega), show cn - 1 - (n + m2 - n) = r by omega]); (rw [u_n q]; by_cases q2 : n ≤ j ∧ j < n + m2; (rw [if_pos q2, if_pos (by omega)]); (rw [if_neg q2, if_neg (by omega)]))) rfl dX2_append_40 (fun H locs hW => ?_)
    refine lv_aload_n hx hb dX2_append_41 rfl (lv_at hl 0 rfl) ?_
    refine lv_dup hx hb dX2_append_42 rfl ?_
    refine gf169 F hW 0 rfl rfl dX2_append_43 ?_
    refine lv_iconst (v := nI 1) hx hb dX2_append_46 (by decide) ?_
    refine iaddE (z := nI (n + (m2 + 1))) hx hb dX2_append_47 (nI_add _ _) ?_
    refine pf169 (ws' := [(p0, .inr (2, [.ref p1, .ref p2, .int (nI (n + (m2 + 1)))])), (p1, .inl (T 1, 60, .inl (apT t n cn x (m2 + 1))))]) F hW 0 rfl rfl rfl dX2_append_48 (fun H locs hW => ?_)
    refine lv_iinc (v := nI r - 1) (lv' := [(4, .int (nI r - 1)), (0, .ref p0), (1, .long (lN x))]) hx hb dX2_append_51 hl (k := 2) rfl (by rw [Int32.sub_eq_add_neg]; rfl) (by decide) rfl (fun ls hl => ?_)
    refine lv_goto (tgt := 5) hx hb dX2_append_54 (by decide) ?_
    exact ih r _ _ _ (Nat.lt_succ_self r) ⟨m2 + 1, _, by omega, rfl, hW, lv_sub hl [1, 2, 0] rfl⟩
end
section
-- the reference: its static methods, over an int row with a position from A on
def put (f : Nat → Int32) (A : Nat) (P : Nat → Int32) : Nat → Int32 := fun j => if A ≤ j ∧ j < A + 40 then P (j - A) else f j
theorem put_r {f P : Nat → Int32} {A k j : Nat} (hk : k < 40) (hj : j = A + k) : put f A P j = P k := by
  subst hj
  unfold put
  rw [if_pos (by omega), show A + k - A = k by omega]
theorem put_w {f P : Nat → Int32} {A k i : Nat} {x : Int32} (hk : k < 40) (hi : i = A + k) (j : Nat) : upd (put f A P) i x j = put f A (upd P k x) j := by
  subst hi
  unfold put
  by_cases q : j = A + k
  · rw [q, u_s, if_pos (by omega), show A + k - A = k by omega, u_s]
  · rw [u_n q]
    by_cases q2 : A ≤ j ∧ j < A + 40
    · rw [if_pos q2, if_pos q2, u_n (by omega)]
    · rw [if_neg q2, if_neg q2]
theorem put_c {f P Q : Nat → Int32} {A : Nat} (h : ∀ j, j < 40 → P j = Q j) (j : Nat) : put f A P j = put f A Q j := by
  unfold put
  by_cases q2 : A ≤ j ∧ j < A + 40
  · rw [if_pos q2, if_pos q2, h _ (by omega)]
  · rw [if_neg q2, if_neg q2]
theorem put_wc {f P Q : Nat → Int32} {A k i : Nat} {x : Int32} (hk : k < 40) (hi : i = A + k) (h : ∀ j, j < 40 → upd P k x j = Q j) (j : Nat) : upd (put f A P) i x j = put f A Q j := (put_w hk hi j).trans (put_c h j)
def enM (P : Nat → Int32) : Nat → Int32 := if overM P then endsM P else upd P 27 0
/-- behind k houses of the ending -/
def stM (P : Nat → Int32) (k : Nat) : Nat → Int32 := fun j => if j < 12 ∧ j < k then 0 else if j = 24 then sm (P 24) P 0 (min k 6) else if j = 25 then sm (P 25) P 6 (k - 6) else P j
theorem stM_o {P : Nat → Int32} {k j : Nat} (h : ¬ (j < 12 ∧ j < k)) (h4 : j ≠ 24) (h5 : j ≠ 25) : stM P k j = P j := by
  unfold stM
  rw [if_neg h, if_neg h4, if_neg h5]
theorem stM_z {P : Nat → Int32} {k j : Nat} (h : j < 12 ∧ j < k) : stM P k j = 0 := if_pos h
theorem stM_24 (P : Nat → Int32) (k : Nat) : stM P k 24 = sm (P 24) P 0 (min k 6) := by
  unfold stM
  rw [if_neg (by omega), if_pos rfl]
theorem stM_25 (P : Nat → Int32) (k : Nat) : stM P k 25 = sm (P 25) P 6 (k - 6) := by
  unfold stM
  rw [if_neg (by omega), if_neg (by decide), if_pos rfl]
theorem stM_s {P : Nat → Int32} {k : Nat} (hk : k < 12) (j : Nat) : upd (upd (stM P k) (24 + own k) (stM P k (24 + own k) + stM P k k)) k 0 j = stM P (k + 1) j := by
  have ek : stM P k k = P k := stM_o (by omega) (by omega) (by omega)
  have eo : own k = k / 6 := rfl
  by_cases q : j = k
  · rw [q, u_s, stM_z ⟨hk, by omega⟩]
  · rw [u_n q, ek]
    rcases Nat.lt_or_ge k 6 with z | z
    · rw [show own k = 0 by omega]
      by_cases a : j = 24
      · rw [a, show 24 + 0 = 24 from rfl, u_s, stM_24, stM_24, show min k 6 = k by omega, show min (k + 1) 6 = k + 1 by omega, sm, Nat.zero_add]
      · rw [u_n a]
        by_cases b : j = 25
        · rw [b, stM_25, stM_25, show k - 6 = k + 1 - 6 by omega]
        · by_cases c : j < 12 ∧ j < k
          · rw [stM_z c, stM_z (by omega)]
          · rw [stM_o c a b, stM_o (by omega) a b]
    · rw [show own k = 1 by omega]
      by_cases a : j = 25
      · rw [a, show 24 + 1 = 25 from rfl, u_s, stM_25, stM_25, show k + 1 - 6 = (k - 6) + 1 by omega, sm, show 6 + (k - 6) = k by omega]
      · rw [u_n a]
        by_cases b : j = 24
        · rw [b, stM_24, stM_24, show min k 6 = min (k + 1) 6 by omega]
        · by_cases c : j < 12 ∧ j < k
          · rw [stM_z c, stM_z (by omega)]
          · rw [stM_o c b a, stM_o (by omega) b a]
theorem stM_0 (P : Nat → Int32) (j : Nat) : stM P 0 j = P j := by
  unfold stM
  rw [if_neg (by omega)]
  by_cases b : j = 24
  · rw [if_pos b, b]; rfl
  · rw [if_neg b]
    by_cases c : j = 25
    · rw [if_pos c, c]; rfl
    · rw [if_neg c]
theorem stM_e (P : Nat → Int32) (j : Nat) : upd (stM P 12) 27 1 j = endsM P j := by
  by_cases q : j = 27
  · rw [q, u_s]; rfl
  · rw [u_n q]
    unfold stM endsM
    by_cases a : j < 12
    · rw [if_pos ⟨a, a⟩, if_pos a]
    · rw [if_neg (by omega), if_neg a, if_neg q]
      rfl
set_option maxHeartbeats 4000000 in
set_option maxRecDepth 100000 in
theorem r_owner (l : Launch) (D : va_G) (T : Nat → ClassId) {h : Nat} (hh : h < 12) : KR l D T yX7_owner cX7_owner 1 (some .int) 0 [.int (nI h)] [] (fun r => r = nI (own h)) := by
  refine KR.of (by decide +kernel) (Nat.le_of_ble_eq_true rfl) (fun p e s m below meth c F hr hlk hW ls hl => ?_)
  have hx := F.1
  have hb := F.2.1
  have hl : lv_has ls 1 [(0, .int (nI h))] := hl
  refine lv_iload_n hx hb dX7_owner_0 rfl (lv_at hl 0 rfl) ?_
  refine lv_bipush (v := nI 6) hx hb dX7_owner_1 (by decide) ?_
  refine idivE (z := nI (own h)) hx hb dX7_owner_3 ⟨by decide, pk_div (by omega) (by decide) (by decide)⟩ ?_
  exact retR F hr hlk rfl rfl dX7_owner_4
set_option maxHeartbeats 4000000 in
set_option maxRecDepth 100000 in
theorem r_total (l : Launch) (D : va_G) (T : Nat → ClassId) (a N b0 : Nat) (hN : b0 + 40 ≤ N) (hN2 : N < 1048576) (f P : Nat → Int32) : KR l D T yX7_total cX7_total 4 (some .int) 0 [.ref a, .int (nI b0)] [(a, .inl (T 0, N, .inl (put f b0 P)))] (fun r => r = allM P) := by
  refine KR.of (by decide +kernel) (Nat.le_of_ble_eq_true rfl) (fun p e s m below meth c F hr hlk hW ls hl => ?_)
  have hx := F.1
  have hb := F.2.1
  have hl : lv_has ls 4 [(0, .ref a), (1, .int (nI b0))] := hl
  refine lv_aload_n hx hb dX7_total_0 rfl (lv_at hl 0 rfl) ?_
  refine lv_iload_n hx hb dX7_total_1 rfl (lv_at hl 1 rfl) ?_
  refine lv_bipush (v := nI 24) hx hb dX7_total_2 (by decide) ?_
  refine iaddE (z := nI (b0 + 24)) hx hb dX7_total_4 (nI_add _ _) ?_
  refine ald F hW 0 rfl (x := P 24) (b0 + 24) rfl (by omega) (by omega) (put_r (by omega) (by omega)) dX7_total_5 ?_
  refine lv_aload_n hx hb dX7_total_6 rfl (lv_at hl 0 rfl) ?_
  refine lv_iload_n hx hb dX7_total_7 rfl (lv_at hl 1 rfl) ?_
  refine lv_bipush (v := nI 24) hx hb dX7_total_8 (by decide) ?_
  refine iaddE (z := nI (b0 + 24)) hx hb dX7_total_10 (nI_add _ _) ?_
  refine lv_iconst (v := nI 1) hx hb dX7_total_11 (by decide) ?_
  refine iaddE (z := nI ((b0 + 24) + 1)) hx hb dX7_total_12 (nI_add _ _) ?_
  refine ald F hW 0 rfl (x := P 25) ((b0 + 24) + 1) rfl (by omega) (by omega) (put_r (by omega) (by omega)) dX7_total_13 ?_
  refine iaddE (z := (P 24) + (P 25)) hx hb dX7_total_14 rfl ?_
  refine lv_istore_n (lv' := [(2, .int ((P 24) + (P 25))), (0, .ref a), (1, .int (nI b0))]) hx hb dX7_total_15 rfl hl (by decide) rfl (fun ls hl => ?_)
  refine lv_iconst (v := nI 0) hx hb dX7_total_16 (by decide) ?_
  refine lv_istore_n (lv' := [(3, .int (nI 0)), (2, .int ((P 24) + (P 25))), (0, .ref a), (1, .int (nI b0))]) hx hb dX7_total_17 rfl hl (by decide) rfl (fun ls hl => ?_)
  refine W.loop (fun n H2 locs2 ls2 => H2 = s.heap ∧ locs2 = [] ∧ ∃ k, k ≤ 12 ∧ n = 12 - k ∧ lv_has ls2 4 [(0, .ref a), (1, .int (nI b0)), (2, .int (sm (P 24 + P 25) P 0 k)), (3, .int (nI k))]) ?_ 12 ⟨rfl, rfl, 0, by omega, rfl, lv_sub hl [2, 3, 1, 0] rfl⟩
  rintro n H2 locs2 ls ⟨rfl, rfl, k, hk, rfl, hl⟩ ih
  refine lv_iload_n hx hb dX7_total_18 rfl (lv_at hl 3 rfl) ?_
  refine lv_bipush (v := nI 12) hx hb dX7_total_19 (by decide) ?_
  refine lv_icmp_ge (tgt := 40) hx hb dX7_total_21 (by decide) (fun h21 => ?_) (fun h21 => ?_)
  · have h5 : k = 12 := by have := n_le h21 (by omega) (by omega); omega
    subst h5
    refine lv_iload_n hx hb dX7_total_40 rfl (lv_at hl 2 rfl) ?_
    exact retR F hr hlk rfl rfl dX7_total_41
  · have h5 : k < 12 := n_nle h21 (by decide) (by omega)
    refine lv_iload_n hx hb dX7_total_24 rfl (lv_at hl 2 rfl) ?_
    refine lv_aload_n hx hb dX7_total_25 rfl (lv_at hl 0 rfl) ?_
    refine lv_iload_n hx hb dX7_total_26 rfl (lv_at hl 1 rfl) ?_
    refine lv_iconst (v := nI 0) hx hb dX7_total_27 (by decide) ?_
    refine iaddE (z := nI (b0 + 0)) hx hb dX7_total_28 (nI_add _ _) ?_
    refine lv_iload_n hx hb dX7_total_29 rfl (lv_at hl 3 rfl) ?_
    refine iaddE (z := nI ((b0 + 0) + k)) hx hb dX7_total_30 (nI_add _ _) ?_
    refine ald F hW 0 rfl (x := P k) ((b0 + 0) + k) rfl (by omega) (by omega) (put_r (by omega) (by omega)) dX7_total_31 ?_
    refine iaddE (z := sm (P 24 + P 25) P 0 (k + 1)) hx hb dX7_total_32 (by rw [sm, Nat.zero_add]) ?_
    refine lv_istore_n (lv' := [(2, .int (sm (P 24 + P 25) P 0 (k + 1))), (0, .ref a), (1, .int (nI b0)), (3, .int (nI k))]) hx hb dX7_total_33 rfl hl (by decide) rfl (fun ls hl => ?_)
    refine lv_iinc (v := nI (k + 1)) (lv' := [(3, .int (nI (k + 1))), (2, .int (sm (P 24 + P 25) P 0 (k + 1))), (0, .ref a), (1, .int (nI b0))]) hx hb dX7_total_34 hl (k := 3) rfl (nI_add _ _) (by decide) rfl (fun ls hl => ?_)
    refine lv_goto (tgt := 18) hx hb dX7_total_37 (by decide) ?_
    exact ih (12 - (k + 1)) _ _ _ (by omega) ⟨rfl, rfl, k + 1, by omega, rfl, lv_sub hl [2, 3, 1, 0] rfl⟩
set_option maxHeartbeats 4000000 in
set_option maxRecDepth 100000 in
theorem r_seedsOf (l : Launch) (D : va_G) (T : Nat → ClassId) (a N b0 : Nat) (hN : b0 + 40 ≤ N) (hN2 : N < 1048576) (f P : Nat → Int32) {t : Nat} (ht : t < 2) : KR l D T yX7_seedsOf cX7_seedsOf 5 (some .int) 0 [.ref a, .int (nI b0), .int (nI t)] [(a, .inl (T 0, N, .inl (put f b0 P)))] (fun r => r = sm 0 P (6 * t) 6) := by
  refine KR.of (by decide +kernel) (Nat.le_of_ble_eq_true rfl) (fun p e s m below meth c F hr hlk hW ls hl => ?_)
  have hx := F.1
  have hb := F.2.1
  have hl : lv_has ls 5 [(0, .ref a), (1, .int (nI b0)), (2, .int (nI t))] := hl
  refine lv_iconst (v := 0) hx hb dX7_seedsOf_0 (by decide) ?_
  refine lv_istore_n (lv' := [(3, .int 0), (0, .ref a), (1, .int (nI b0)), (2, .int (nI t))]) hx hb dX7_seedsOf_1 rfl hl (by decide) rfl (fun ls hl => ?_)
  refine lv_bipush (v := nI 6) hx hb dX7_seedsOf_2 (by decide) ?_
  refine lv_iload_n hx hb dX7_seedsOf_4 rfl (lv_at hl 3 rfl) ?_
  refine imulE (z := nI (6 * t)) hx hb dX7_seedsOf_5 (pk_mul _ _) ?_
  refine lv_istore (lv' := [(4, .int (nI (6 * t))), (3, .int 0), (0, .ref a), (1, .int (nI b0)), (2, .int (nI t))]) hx hb dX7_seedsOf_6 hl (by decide) rfl (fun ls hl => ?_)
  refine W.loop (fun n H2 locs2 ls2 => H2 = s.heap ∧ locs2 = [] ∧ ∃ k, k ≤ 6 ∧ n = 6 - k ∧ lv_has ls2 5 [(0, .ref a), (1, .int (nI b0)), (2, .int (nI t)), (3, .int (sm 0 P (6 * t) k)), (4, .int (nI (6 * t + k)))]) ?_ 6 ⟨rfl, rfl, 0, by omega, rfl, lv_sub hl [2, 3, 4, 1, 0] rfl⟩
  rintro n H2 locs2 ls ⟨rfl, rfl, k, hk, rfl, hl⟩ ih
  refine lv_iload hx hb dX7_seedsOf_8 (lv_at hl 4 rfl) ?_
  refine lv_bipush (v := nI 6) hx hb dX7_seedsOf_10 (by decide) ?_
  refine lv_iload_n hx hb dX7_seedsOf_12 rfl (lv_at hl 2 rfl) ?_
  refine imulE (z := nI (6 * t)) hx hb dX7_seedsOf_13 (pk_mul _ _) ?_
  refine lv_bipush (v := nI 6) hx hb dX7_seedsOf_14 (by decide) ?_
  refine iaddE (z := nI ((6 * t) + 6)) hx hb dX7_seedsOf_16 (nI_add _ _) ?_
  refine lv_icmp_ge (tgt := 37) hx hb dX7_seedsOf_17 (by decide) (fun h17 => ?_) (fun h17 => ?_)
  · have h5 : k = 6 := by have := n_le h17 (by omega) (by omega); omega
    subst h5
    refine lv_iload_n hx hb dX7_seedsOf_37 rfl (lv_at hl 3 rfl) ?_
    exact retR F hr hlk rfl rfl dX7_seedsOf_38
  · have h5 : k < 6 := by have := n_nle h17 (by omega) (by omega); omega
    refine lv_iload_n hx hb dX7_seedsOf_20 rfl (lv_at hl 3 rfl) ?_
    refine lv_aload_n hx hb dX7_seedsOf_21 rfl (lv_at hl 0 rfl) ?_
    refine lv_iload_n hx hb dX7_seedsOf_22 rfl (lv_at hl 1 rfl) ?_
    refine lv_iconst (v := nI 0) hx hb dX7_seedsOf_23 (by decide) ?_
    refine iaddE (z := nI (b0 + 0)) hx hb dX7_seedsOf_24 (nI_add _ _) ?_
    refine lv_iload hx hb dX7_seedsOf_25 (lv_at hl 4 rfl) ?_
    refine iaddE (z := nI ((b0 + 0) + (6 * t + k))) hx hb dX7_seedsOf_27 (nI_add _ _) ?_
    refine ald F hW 0 rfl (x := P (6 * t + k)) ((b0 + 0) + (6 * t + k)) rfl (by omega) (by omega) (put_r (by omega) (by omega)) dX7_seedsOf_28 ?_
    refine iaddE (z := sm 0 P (6 * t) (k + 1)) hx hb dX7_seedsOf_29 rfl ?_
    refine lv_istore_n (lv' := [(3, .int (sm 0 P (6 * t) (k + 1))), (0, .ref a), (1, .int (nI b0)), (2, .int (nI t)), (4, .int (nI (6 * t + k)))]) hx hb dX7_seedsOf_30 rfl hl (by decide) rfl (fun ls hl => ?_)
    refine lv_iinc (v := nI (6 * t + (k + 1))) (lv' := [(4, .int (nI (6 * t + (k + 1)))), (3, .int (sm 0 P (6 * t) (k + 1))), (0, .ref a), (1, .int (nI b0)), (2, .int (nI t))]) hx hb dX7_seedsOf_31 hl (k := 4) rfl (nI_add _ _) (by decide) rfl (fun ls hl => ?_)
    refine lv_goto (tgt := 8) hx hb dX7_seedsOf_34 (by decide) ?_
    exact ih (6 - (k + 1)) _ _ _ (by omega) ⟨rfl, rfl, k + 1, by omega, rfl, lv_sub hl [2, 3, 4, 1, 0] rfl⟩
set_option maxHeartbeats 4000000 in
set_option maxRecDepth 100000 in
theorem r_isHostile (l : Launch) (D : va_G) (T : Nat → ClassId) (a N b0 : Nat) (hN : b0 + 40 ≤ N) (hN2 : N < 1048576) (f P : Nat → Int32) {h : Nat} (hh : h < 12) : KR l D T yX7_isHostile cX7_isHostile 3 (some .boolean) 0 [.ref a, .int (nI b0), .int (nI h)] [(a, .inl (T 0, N, .inl (put f b0 P)))] (fun r => r = if P 35 ≤ P (12 + h) then 1 else 0) := by
  refine KR.of (by decide +kernel) (Nat.le_of_ble_eq_true rfl) (fun p e s m below meth c F hr hlk hW ls hl => ?_)
  have hx := F.1
  have hb := F.2.1
  have hl : lv_has ls 3 [(0, .ref a), (1, .int (nI b0)), (2, .int (nI h))] := hl
  refine lv_aload_n hx hb dX7_isHostile_0 rfl (lv_at hl 0 rfl) ?_
  refine lv_iload_n hx hb dX7_isHostile_1 rfl (lv_at hl 1 rfl) ?_
  refine lv_bipush (v := nI 12) hx hb dX7_isHostile_2 (by decide) ?_
  refine iaddE (z := nI (b0 + 12)) hx hb dX7_isHostile_4 (nI_add _ _) ?_
  refine lv_iload_n hx hb dX7_isHostile_5 rfl (lv_at hl 2 rfl) ?_
  refine iaddE (z := nI ((b0 + 12) + h)) hx hb dX7_isHostile_6 (nI_add _ _) ?_
  refine ald F hW 0 rfl (x := P (12 + h)) ((b0 + 12) + h) rfl (by omega) (by omega) (put_r (by omega) (by omega)) dX7_isHostile_7 ?_
  refine lv_aload_n hx hb dX7_isHostile_8 rfl (lv_at hl 0 rfl) ?_
  refine lv_iload_n hx hb dX7_isHostile_9 rfl (lv_at hl 1 rfl) ?_
  refine lv_bipush (v := nI 34) hx hb dX7_isHostile_10 (by decide) ?_
  refine iaddE (z := nI (b0 + 34)) hx hb dX7_isHostile_12 (nI_add _ _) ?_
  refine lv_iconst (v := nI 1) hx hb dX7_isHostile_13 (by decide) ?_
  refine iaddE (z := nI ((b0 + 34) + 1)) hx hb dX7_isHostile_14 (nI_add _ _) ?_
  refine ald F hW 0 rfl (x := P 35) ((b0 + 34) + 1) rfl (by omega) (by omega) (put_r (by omega) (by omega)) dX7_isHostile_15 ?_
  refine lv_icmp_lt (tgt := 23) hx hb dX7_isHostile_16 (by decide) (fun h16 => ?_) (fun h16 => ?_)
  · refine lv_iconst (v := 0) hx hb dX7_isHostile_23 (by decide) ?_
    exact retR F hr hlk rfl (if_neg (Int32.not_le.mpr h16)).symm dX7_isHostile_24
  · refine lv_iconst (v := 1) hx hb dX7_isHostile_19 (by decide) ?_
    refine lv_goto (tgt := 24) hx hb dX7_isHostile_20 (by decide) ?_
    exact retR F hr hlk rfl (if_pos (Int32.not_lt.mp h16)).symm dX7_isHostile_24
set_option maxHeartbeats 4000000 in
set_option maxRecDepth 100000 in
theorem r_canMove (l : Launch) (D : va_G) (T : Nat → ClassId) (a N b0 : Nat) (hN : b0 + 40 ≤ N) (hN2 : N < 1048576) (f P : Nat → Int32) {h : Nat} (hh : h < 12) : KR l D T yX7_canMove cX7_canMove 3 (some .boolean) 1 [.ref a, .int (nI b0), .int (nI h)] [(a, .inl (T 0, N, .inl (put f b0 P)))] (fun r => r = if legM P h then 1 else 0) := by
  refine KR.of (by decide +kernel) (Nat.le_of_ble_eq_true rfl) (fun p e s m below meth c F hr hlk hW ls hl => ?_)
  have hx := F.1
  have hb := F.2.1
  have hl : lv_has ls 3 [(0, .ref a), (1, .int (nI b0)), (2, .int (nI h))] := hl
  refine lv_aload_n hx hb dX7_canMove_0 rfl (lv_at hl 0 rfl) ?_
  refine lv_iload_n hx hb dX7_canMove_1 rfl (lv_at hl 1 rfl) ?_
  refine lv_bipush (v := nI 27) hx hb dX7_canMove_2 (by decide) ?_
  refine iaddE (z := nI (b0 + 27)) hx hb dX7_canMove_4 (nI_add _ _) ?_
  refine ald F hW 0 rfl (x := P 27) (b0 + 27) rfl (by omega) (by omega) (put_r (by omega) (by omega)) dX7_canMove_5 ?_
  refine lv_if_ne (tgt := 36) hx hb dX7_canMove_6 (by decide) (fun h6 => ?_) (fun h6 => ?_)
  · refine lv_iconst (v := 0) hx hb dX7_canMove_36 (by decide) ?_
    exact retR F hr hlk rfl (if_neg (show ¬ legM P h from fun q => h6 q.1)).symm dX7_canMove_37
  · refine lv_iload_n hx hb dX7_canMove_9 rfl (lv_at hl 2 rfl) ?_
    refine cRS (As := [.int (nI h)]) (rest := []) F hW hl cs552 (r_owner l D T (h := h) (by omega)) [] rfl rfl rfl rfl (Nat.le_of_ble_eq_true rfl) ⟨Nat.le_of_ble_eq_true rfl, Nat.le_of_ble_eq_true rfl⟩ ⟨Nat.zero_le _, Nat.zero_le _⟩ dX7_canMove_10 (fun r10 hr10 => ?_)
    subst hr10
    refine lv_aload_n hx hb dX7_canMove_13 rfl (lv_at hl 0 rfl) ?_
    refine lv_iload_n hx hb dX7_canMove_14 rfl (lv_at hl 1 rfl) ?_
    refine lv_bipush (v := nI 26) hx hb dX7_canMove_15 (by decide) ?_
    refine iaddE (z := nI (b0 + 26)) hx hb dX7_canMove_17 (nI_add _ _) ?_
    refine ald F hW 0 rfl (x := P 26) (b0 + 26) rfl (by omega) (by omega) (put_r (by omega) (by omega)) dX7_canMove_18 ?_
    refine lv_icmp_ne (tgt := 36) hx hb dX7_canMove_19 (by decide) (fun h19 => ?_) (fun h19 => ?_)
    · refine lv_iconst (v := 0) hx hb dX7_canMove_36 (by decide) ?_
      exact retR F hr hlk rfl (if_neg (show ¬ legM P h from fun q => h19 q.2.1)).symm dX7_canMove_37
    · refine lv_aload_n hx hb dX7_canMove_22 rfl (lv_at hl 0 rfl) ?_
      refine lv_iload_n hx hb dX7_canMove_23 rfl (lv_at hl 1 rfl) ?_
      refine lv_iconst (v := nI 0) hx hb dX7_canMove_24 (by decide) ?_
      refine iaddE (z := nI (b0 + 0)) hx hb dX7_canMove_25 (nI_add _ _) ?_
      refine lv_iload_n hx hb dX7_canMove_26 rfl (lv_at hl 2 rfl) ?_
      refine iaddE (z := nI ((b0 + 0) + h)) hx hb dX7_canMove_27 (nI_add _ _) ?_
      refine ald F hW 0 rfl (x := P h) ((b0 + 0) + h) rfl (by omega) (by omega) (put_r (by omega) (by omega)) dX7_canMove_28 ?_
      refine lv_if_le (tgt := 36) hx hb dX7_canMove_29 (by decide) (fun h29 => ?_) (fun h29 => ?_)
      · refine lv_iconst (v := 0) hx hb dX7_canMove_36 (by decide) ?_
        exact retR F hr hlk rfl (if_neg (show ¬ legM P h from fun q => Int32.not_lt.mpr h29 q.2.2)).symm dX7_canMove_37
      · refine lv_iconst (v := 1) hx hb dX7_canMove_32 (by decide) ?_
        refine lv_goto (tgt := 37) hx hb dX7_canMove_33 (by decide) ?_
        exact retR F hr hlk rfl (if_pos (show legM P h from ⟨h6, h19, Int32.not_le.mp h29⟩)).symm dX7_canMove_37
set_option maxHeartbeats 4000000 in
set_option maxRecDepth 100000 in
theorem r_ends (l : Launch) (D : va_G) (T : Nat → ClassId) (a N b0 : Nat) (hN : b0 + 40 ≤ N) (hN2 : N < 1048576) (f P : Nat → Int32) : KI (S := Unit) l D T yX7_ends cX7_ends 5 (some .boolean) 1 [.ref a, .int (nI b0)] [(a, .inl (T 0, N, .inl (put f b0 P)))] (fun r _ => r = if overM P then 1 else 0) (fun u => [(a, .inl (T 0, N, .inl (put f b0 (enM P))))]) := by
  refine KI.of (by decide +kernel) (Nat.le_of_ble_eq_true rfl) (fun p e s m below meth c A F hr hlk hW ls hl => ?_)
  have hx := F.1
  have hb := F.2.1
  have hl : lv_has ls 5 [(0, .ref a), (1, .int (nI b0))] := hl
  refine lv_aload_n hx hb dX7_ends_0 rfl (lv_at hl 0 rfl) ?_
  refine lv_iload_n hx hb dX7_ends_1 rfl (lv_at hl 1 rfl) ?_
  refine cRS (As := [.ref a, .int (nI b0)]) (rest := []) F hW hl cs574 (r_total l D T a N b0 (by omega) (by omega) f P) [0] rfl rfl rfl rfl (Nat.le_of_ble_eq_true rfl) ⟨Nat.le_of_ble_eq_true rfl, Nat.le_of_ble_eq_true rfl⟩ ⟨Nat.zero_le _, Nat.zero_le _⟩ dX7_ends_2 (fun r2 hr2 => ?_)
  subst hr2
  refine lv_istore_n (lv' := [(2, .int (allM P)), (0, .ref a), (1, .int (nI b0))]) hx hb dX7_ends_5 rfl hl (by decide) rfl (fun ls hl => ?_)
  refine lv_aload_n hx hb dX7_ends_6 rfl (lv_at hl 1 rfl) ?_
  refine lv_iload_n hx hb dX7_ends_7 rfl (lv_at hl 2 rfl) ?_
  refine lv_iconst (v := nI 0) hx hb dX7_ends_8 (by decide) ?_
  refine cRS (As := [.ref a, .int (nI b0), .int (nI 0)]) (rest := []) F hW hl cs577 (r_seedsOf l D T a N b0 (by omega) (by omega) f P (t := 0) (by omega)) [0] rfl rfl rfl rfl (Nat.le_of_ble_eq_true rfl) ⟨Nat.le_of_ble_eq_true rfl, Nat.le_of_ble_eq_true rfl⟩ ⟨Nat.zero_le _, Nat.zero_le _⟩ dX7_ends_9 (fun r9 hr9 => ?_)
  subst hr9
  refine lv_aload_n hx hb dX7_ends_12 rfl (lv_at hl 1 rfl) ?_
  refine lv_iload_n hx hb dX7_ends_13 rfl (lv_at hl 2 rfl) ?_
  refine lv_iconst (v := nI 1) hx hb dX7_ends_14 (by decide) ?_
  refine cRS (As := [.ref a, .int (nI b0), .int (nI 1)]) (rest := [.int (sm 0 P (6 * 0) 6)]) F hW hl cs577 (r_seedsOf l D T a N b0 (by omega) (by omega) f P (t := 1) (by omega)) [0] rfl rfl rfl rfl (Nat.le_of_ble_eq_true rfl) ⟨Nat.le_of_ble_eq_true rfl, Nat.le_of_ble_eq_true rfl⟩ ⟨Nat.zero_le _, Nat.zero_le _⟩ dX7_ends_15 (fun r15 hr15 => ?_)
  subst hr15
  refine iaddE (z := (sm 0 P (6 * 0) 6) + (sm 0 P (6 * 1) 6)) hx hb dX7_ends_18 rfl ?_
  refine W.fork (X := Int32) 65 (fun ov => [.int ov]) (fun ov H2 locs2 ls2 => ov = (if overM P then (1 : Int32) else 0) ∧ H2 = s.heap ∧ locs2 = [] ∧ lv_has ls2 5 [(2, .int (allM P)), (0, .ref a), (1, .int (nI b0))]) (fun hJ => ?_) ?_
  · refine lv_if_eq (tgt := 60) hx hb dX7_ends_19 (by decide) (fun h19 => ?_) (fun h19 => ?_)
    · refine lv_iconst (v := 1) hx hb dX7_ends_60 (by decide) ?_
      refine lv_goto (tgt := 65) hx hb dX7_ends_61 (by decide) ?_
      exact hJ 1 _ _ _ ⟨(if_pos (show overM P from Or.inl h19)).symm, rfl, rfl, hl⟩
    · refine lv_aload_n hx hb dX7_ends_22 rfl (lv_at hl 1 rfl) ?_
      refine lv_iload_n hx hb dX7_ends_23 rfl (lv_at hl 2 rfl) ?_
      refine lv_bipush (v := nI 28) hx hb dX7_ends_24 (by decide) ?_
      refine iaddE (z := nI (b0 + 28)) hx hb dX7_ends_26 (nI_add _ _) ?_
      refine ald F hW 0 rfl (x := P 28) (b0 + 28) rfl (by omega) (by omega) (put_r (by omega) (by omega)) dX7_ends_27 ?_
      refine lv_sipush (v := nI 300) hx hb dX7_ends_28 (by decide) ?_
      refine lv_icmp_eq (tgt := 60) hx hb dX7_ends_31 (by decide) (fun h31 => ?_) (fun h31 => ?_)
      · refine lv_iconst (v := 1) hx hb dX7_ends_60 (by decide) ?_
        refine lv_goto (tgt := 65) hx hb dX7_ends_61 (by decide) ?_
        exact hJ 1 _ _ _ ⟨(if_pos (show overM P from Or.inr (Or.inl h31))).symm, rfl, rfl, hl⟩
      · refine lv_iconst (v := nI 2) hx hb dX7_ends_34 (by decide) ?_
        refine lv_aload_n hx hb dX7_ends_35 rfl (lv_at hl 1 rfl) ?_
        refine lv_iload_n hx hb dX7_ends_36 rfl (lv_at hl 2 rfl) ?_
        refine lv_bipush (v := nI 24) hx hb dX7_ends_37 (by decide) ?_
        refine iaddE (z := nI (b0 + 24)) hx hb dX7_ends_39 (nI_add _ _) ?_
        refine ald F hW 0 rfl (x := P 24) (b0 + 24) rfl (by omega) (by omega) (put_r (by omega) (by omega)) dX7_ends_40 ?_
        refine imulE (z := (nI 2) * (P 24)) hx hb dX7_ends_41 rfl ?_
        refine lv_iload_n hx hb dX7_ends_42 rfl (lv_at hl 0 rfl) ?_
        refine lv_icmp_gt (tgt := 60) hx hb dX7_ends_43 (by decide) (fun h43 => ?_) (fun h43 => ?_)
        · refine lv_iconst (v := 1) hx hb dX7_ends_60 (by decide) ?_
          refine lv_goto (tgt := 65) hx hb dX7_ends_61 (by decide) ?_
          exact hJ 1 _ _ _ ⟨(if_pos (show overM P from Or.inr (Or.inr (Or.inl h43)))).symm, rfl, rfl, hl⟩
        · refine lv_iconst (v := nI 2) hx hb dX7_ends_46 (by decide) ?_
          refine lv_aload_n hx hb dX7_ends_47 rfl (lv_at hl 1 rfl) ?_
          refine lv_iload_n hx hb dX7_ends_48 rfl (lv_at hl 2 rfl) ?_
          refine lv_bipush (v := nI 24) hx hb dX7_ends_49 (by decide) ?_
          refine iaddE (z := nI (b0 + 24)) hx hb dX7_ends_51 (nI_add _ _) ?_
          refine lv_iconst (v := nI 1) hx hb dX7_ends_52 (by decide) ?_
          refine iaddE (z := nI ((b0 + 24) + 1)) hx hb dX7_ends_53 (nI_add _ _) ?_
          refine ald F hW 0 rfl (x := P 25) ((b0 + 24) + 1) rfl (by omega) (by omega) (put_r (by omega) (by omega)) dX7_ends_54 ?_
          refine imulE (z := (nI 2) * (P 25)) hx hb dX7_ends_55 rfl ?_
          refine lv_iload_n hx hb dX7_ends_56 rfl (lv_at hl 0 rfl) ?_
          refine lv_icmp_le (tgt := 64) hx hb dX7_ends_57 (by decide) (fun h57 => ?_) (fun h57 => ?_)
          · refine lv_iconst (v := 0) hx hb dX7_ends_64 (by decide) ?_
            exact hJ 0 _ _ _ ⟨(if_neg (show ¬ overM P from fun q => q.elim h19 (fun q => q.elim h31 (fun q => q.elim h43 (Int32.not_lt.mpr h57))))).symm, rfl, rfl, hl⟩
          · refine lv_iconst (v := 1) hx hb dX7_ends_60 (by decide) ?_
            refine lv_goto (tgt := 65) hx hb dX7_ends_61 (by decide) ?_
            exact hJ 1 _ _ _ ⟨(if_pos (show overM P from Or.inr (Or.inr (Or.inr (Int32.not_le.mp h57))))).symm, rfl, rfl, hl⟩
  · rintro ov H2 locs2 ls ⟨hov, rfl, rfl, hl⟩
    refine lv_istore_n (lv' := [(3, .int ov), (2, .int (allM P)), (0, .ref a), (1, .int (nI b0))]) hx hb dX7_ends_65 rfl hl (by decide) rfl (fun ls hl => ?_)
    refine lv_iconst (v := nI 0) hx hb dX7_ends_66 (by decide) ?_
    refine lv_istore (lv' := [(4, .int (nI 0)), (3, .int ov), (2, .int (allM P)), (0, .ref a), (1, .int (nI b0))]) hx hb dX7_ends_67 hl (by decide) rfl (fun ls hl => ?_)
    by_cases ho : overM P
    · have e1 : ov = 1 := hov.trans (if_pos ho)
      rw [e1] at hl hov
      have hW := Wd.arr hW 0 (put f b0 (stM P 0)) rfl (fun j _ => put_c (fun j _ => (stM_0 P j).symm) j) (ws' := [(a, .inl (T 0, N, .inl (put f b0 (stM P 0))))]) rfl
      refine W.loop (fun n H2 locs2 ls2 => ∃ k, k ≤ 12 ∧ n = 12 - k ∧ Wd D T A s [(a, .inl (T 0, N, .inl (put f b0 (stM P k))))] H2 locs2 ∧ lv_has ls2 5 [(0, .ref a), (1, .int (nI b0)), (3, .int 1), (4, .int (nI k))]) ?_ 12 ⟨0, by omega, rfl, hW, lv_sub hl [3, 4, 1, 0] rfl⟩
      rintro n H locs ls ⟨k, hk, rfl, hW, hl⟩ ih
      refine lv_iload hx hb dX7_ends_69 (lv_at hl 3 rfl) ?_
      refine lv_bipush (v := nI 12) hx hb dX7_ends_71 (by decide) ?_
      refine lv_icmp_ge (tgt := 118) hx hb dX7_ends_73 (by decide) (fun h73 => ?_) (fun h73 => ?_)
      · have h5 : k = 12 := by have := n_le h73 (by omega) (by omega); omega
        subst h5
        refine lv_aload_n hx hb dX7_ends_118 rfl (lv_at hl 0 rfl) ?_
        refine lv_iload_n hx hb dX7_ends_119 rfl (lv_at hl 1 rfl) ?_
        refine lv_bipush (v := nI 27) hx hb dX7_ends_120 (by decide) ?_
        refine iaddE (z := nI (b0 + 27)) hx hb dX7_ends_122 (nI_add _ _) ?_
        refine lv_iload_n hx hb dX7_ends_123 rfl (lv_at hl 2 rfl) ?_
        refine lv_if_eq (tgt := 131) hx hb dX7_ends_124 (by decide) (fun h9 => absurd h9 (by decide)) (fun _ => ?_)
        refine lv_iconst (v := 1) hx hb dX7_ends_127 (by decide) ?_
        refine lv_goto (tgt := 132) hx hb dX7_ends_128 (by decide) ?_
        refine ast (ws' := [(a, .inl (T 0, N, .inl (put f b0 (endsM P))))]) F hW 0 (put f b0 (endsM P)) rfl (b0 + 27) rfl (by omega) (by omega) (fun j _ => put_wc (by omega) (by omega) (fun j _ => stM_e P j) j) rfl dX7_ends_132 (fun H locs hW => ?_)
        refine lv_iload_n hx hb dX7_ends_133 rfl (lv_at hl 2 rfl) ?_
        have e2 : enM P = endsM P := if_pos ho
        exact retI F hr hlk rfl hW () hov (by rw [e2]) dX7_ends_134
      · have h5 : k < 12 := n_nle h73 (by decide) (by omega)
        have hown := own_lt h5
        refine lv_iload_n hx hb dX7_ends_76 rfl (lv_at hl 2 rfl) ?_
        refine lv_if_eq (tgt := 118) hx hb dX7_ends_77 (by decide) (fun h9 => absurd h9 (by decide)) (fun _ => ?_)
        refine lv_aload_n hx hb dX7_ends_80 rfl (lv_at hl 0 rfl) ?_
        refine lv_iload_n hx hb dX7_ends_81 rfl (lv_at hl 1 rfl) ?_
        refine lv_bipush (v := nI 24) hx hb dX7_ends_82 (by decide) ?_
        refine iaddE (z := nI (b0 + 24)) hx hb dX7_ends_84 (nI_add _ _) ?_
        refine lv_iload hx hb dX7_ends_85 (lv_at hl 3 rfl) ?_
        refine cRS (As := [.int (nI k)]) (rest := [.int (nI (b0 + 24)), .ref a]) F hW hl cs552 (r_owner l D T (h := k) (by omega)) [] rfl rfl rfl rfl (Nat.le_of_ble_eq_true rfl) ⟨Nat.le_of_ble_eq_true rfl, Nat.le_of_ble_eq_true rfl⟩ ⟨Nat.zero_le _, Nat.zero_le _⟩ dX7_ends_87 (fun r87 hr87 => ?_)
        subst hr87
        refine iaddE (z := nI ((b0 + 24) + (own k))) hx hb dX7_ends_90 (nI_add _ _) ?_
        refine lv_dup2_11 hx hb dX7_ends_91 rfl rfl ?_
        refine ald F hW 0 rfl (x := (stM P k) (24 + (own k))) ((b0 + 24) + (own k)) rfl (by omega) (by omega) (put_r (by omega) (by omega)) dX7_ends_92 ?_
        refine lv_aload_n hx hb dX7_ends_93 rfl (lv_at hl 0 rfl) ?_
        refine lv_iload_n hx hb dX7_ends_94 rfl (lv_at hl 1 rfl) ?_
        refine lv_iconst (v := nI 0) hx hb dX7_ends_95 (by decide) ?_
        refine iaddE (z := nI (b0 + 0)) hx hb dX7_ends_96 (nI_add _ _) ?_
        refine lv_iload hx hb dX7_ends_97 (lv_at hl 3 rfl) ?_
        refine iaddE (z := nI ((b0 + 0) + k)) hx hb dX7_ends_99 (nI_add _ _) ?_
        refine ald F hW 0 rfl (x := (stM P k) k) ((b0 + 0) + k) rfl (by omega) (by omega) (put_r (by omega) (by omega)) dX7_ends_100 ?_
        refine iaddE (z := ((stM P k) (24 + (own k))) + ((stM P k) k)) hx hb dX7_ends_101 rfl ?_
        refine ast (ws' := [(a, .inl (T 0, N, .inl (put f b0 (upd (stM P k) (24 + (own k)) (((stM P k) (24 + (own k))) + ((stM P k) k))))))]) F hW 0 (put f b0 (upd (stM P k) (24 + (own k)) (((stM P k) (24 + (own k))) + ((stM P k) k)))) rfl ((b0 + 24) + (own k)) rfl (by omega) (by omega) (fun j _ => put_w (by omega) (by omega) j) rfl dX7_ends_102 (fun H locs hW => ?_)
        refine lv_aload_n hx hb dX7_ends_103 rfl (lv_at hl 0 rfl) ?_
        refine lv_iload_n hx hb dX7_ends_104 rfl (lv_at hl 1 rfl) ?_
        refine lv_iconst (v := nI 0) hx hb dX7_ends_105 (by decide) ?_
        refine iaddE (z := nI (b0 + 0)) hx hb dX7_ends_106 (nI_add _ _) ?_
        refine lv_iload hx hb dX7_ends_107 (lv_at hl 3 rfl) ?_
        refine iaddE (z := nI ((b0 + 0) + k)) hx hb dX7_ends_109 (nI_add _ _) ?_
        refine lv_iconst (v := nI 0) hx hb dX7_ends_110 (by decide) ?_
        refine ast (ws' := [(a, .inl (T 0, N, .inl (put f b0 (stM P (k + 1)))))]) F hW 0 (put f b0 (stM P (k + 1))) rfl ((b0 + 0) + k) rfl (by omega) (by omega) (fun j _ => put_wc (by omega) (by omega) (fun j _ => stM_s h5 j) j) rfl dX7_ends_111 (fun H locs hW => ?_)
        refine lv_iinc (v := nI (k + 1)) (lv' := [(4, .int (nI (k + 1))), (0, .ref a), (1, .int (nI b0)), (3, .int 1)]) hx hb dX7_ends_112 hl (k := 3) rfl (nI_add _ _) (by decide) rfl (fun ls hl => ?_)
        refine lv_goto (tgt := 69) hx hb dX7_ends_115 (by decide) ?_
        exact ih (12 - (k + 1)) _ _ _ (by omega) ⟨k + 1, by omega, rfl, hW, lv_sub hl [1, 2, 3, 0] rfl⟩
    · have e1 : ov = 0 := hov.trans (if_neg ho)
      rw [e1] at hl hov
      refine lv_iload hx hb dX7_ends_69 (lv_at hl 0 rfl) ?_
      refine lv_bipush (v := nI 12) hx hb dX7_ends_71 (by decide) ?_
      refine lv_icmp_ge (tgt := 118) hx hb dX7_ends_73 (by decide) (fun h9 => absurd h9 (by decide)) (fun _ => ?_)
      refine lv_iload_n hx hb dX7_ends_76 rfl (lv_at hl 1 rfl) ?_
      refine lv_if_eq (tgt := 118) hx hb dX7_ends_77 (by decide) (fun _ => ?_) (fun h9 => absurd rfl h9)
      refine lv_aload_n hx hb dX7_ends_118 rfl (lv_at hl 3 rfl) ?_
      refine lv_iload_n hx hb dX7_ends_119 rfl (lv_at hl 4 rfl) ?_
      refine lv_bipush (v := nI 27) hx hb dX7_ends_120 (by decide) ?_
      refine iaddE (z := nI (b0 + 27)) hx hb dX7_ends_122 (nI_add _ _) ?_
      refine lv_iload_n hx hb dX7_ends_123 rfl (lv_at hl 1 rfl) ?_
      refine lv_if_eq (tgt := 131) hx hb dX7_ends_124 (by decide) (fun _ => ?_) (fun h9 => absurd rfl h9)
      refine lv_iconst (v := 0) hx hb dX7_ends_131 (by decide) ?_
      refine ast (ws' := [(a, .inl (T 0, N, .inl (put f b0 (upd P 27 0))))]) F hW 0 (put f b0 (upd P 27 0)) rfl (b0 + 27) rfl (by omega) (by omega) (fun j _ => put_w (by omega) (by omega) j) rfl dX7_ends_132 (fun H locs hW => ?_)
      refine lv_iload_n hx hb dX7_ends_133 rfl (lv_at hl 1 rfl) ?_
      have e2 : enM P = upd P 27 0 := if_neg ho
      exact retI F hr hlk rfl hW () hov (by rw [e2]) dX7_ends_134
end

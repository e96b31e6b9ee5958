/-- the words that a callee keeps: every method here needs these, its own code first -/
def gtbl : List Cond := lw_tbl.filter goodWord
theorem m0 : (Cond.selects RX3 yX3_startGame yX3_startGame) ∈ gtbl := List.mem_filter.mpr ⟨List.mem_of_getElem? (i := 0) (by decide +kernel), by decide +kernel⟩
theorem m1 : (Cond.selects RX2 yX2_digitFits yX2_digitFits) ∈ gtbl := List.mem_filter.mpr ⟨List.mem_of_getElem? (i := 1) (by decide +kernel), by decide +kernel⟩
theorem m2 : (Cond.selects RX3 yX3_giveTurnTo yX3_giveTurnTo) ∈ gtbl := List.mem_filter.mpr ⟨List.mem_of_getElem? (i := 2) (by decide +kernel), by decide +kernel⟩
theorem m3 : (Cond.selects RX3 yX3_isDecided yX3_isDecided) ∈ gtbl := List.mem_filter.mpr ⟨List.mem_of_getElem? (i := 3) (by decide +kernel), by decide +kernel⟩
theorem m4 : (Cond.selects RX1 yX1_valueBehind yX1_valueBehind) ∈ gtbl := List.mem_filter.mpr ⟨List.mem_of_getElem? (i := 4) (by decide +kernel), by decide +kernel⟩
theorem m5 : (Cond.selects RX3 yX3_sowLap yX3_sowLap) ∈ gtbl := List.mem_filter.mpr ⟨List.mem_of_getElem? (i := 5) (by decide +kernel), by decide +kernel⟩
theorem m6 : (Cond.selects RX3 yX3_sowHand yX3_sowHand) ∈ gtbl := List.mem_filter.mpr ⟨List.mem_of_getElem? (i := 6) (by decide +kernel), by decide +kernel⟩
theorem m7 : (Cond.selects RX3 yX3_captureAcross yX3_captureAcross) ∈ gtbl := List.mem_filter.mpr ⟨List.mem_of_getElem? (i := 7) (by decide +kernel), by decide +kernel⟩
theorem m8 : (Cond.selects RX1 yX1_valueOf yX1_valueOf) ∈ gtbl := List.mem_filter.mpr ⟨List.mem_of_getElem? (i := 8) (by decide +kernel), by decide +kernel⟩
theorem m9 : (Cond.selects RX6 yX6_errorOfMove yX6_errorOfMove) ∈ gtbl := List.mem_filter.mpr ⟨List.mem_of_getElem? (i := 9) (by decide +kernel), by decide +kernel⟩
theorem m10 : (Cond.initialized RL) ∈ gtbl := List.mem_filter.mpr ⟨List.mem_of_getElem? (i := 10) (by decide +kernel), by decide +kernel⟩
theorem m11 : (Cond.initialized RX6) ∈ gtbl := List.mem_filter.mpr ⟨List.mem_of_getElem? (i := 11) (by decide +kernel), by decide +kernel⟩
theorem m12 : (Cond.initialized RX5) ∈ gtbl := List.mem_filter.mpr ⟨List.mem_of_getElem? (i := 12) (by decide +kernel), by decide +kernel⟩
theorem m13 : (Cond.initialized RX3) ∈ gtbl := List.mem_filter.mpr ⟨List.mem_of_getElem? (i := 13) (by decide +kernel), by decide +kernel⟩
theorem m14 : (Cond.initialized RX4) ∈ gtbl := List.mem_filter.mpr ⟨List.mem_of_getElem? (i := 14) (by decide +kernel), by decide +kernel⟩
theorem m15 : (Cond.initialized RX0) ∈ gtbl := List.mem_filter.mpr ⟨List.mem_of_getElem? (i := 15) (by decide +kernel), by decide +kernel⟩
theorem m16 : (Cond.initialized RX2) ∈ gtbl := List.mem_filter.mpr ⟨List.mem_of_getElem? (i := 16) (by decide +kernel), by decide +kernel⟩
theorem m17 : (Cond.initialized RX1) ∈ gtbl := List.mem_filter.mpr ⟨List.mem_of_getElem? (i := 17) (by decide +kernel), by decide +kernel⟩
theorem m18 : (Cond.initialized "java/lang/System") ∈ gtbl := List.mem_filter.mpr ⟨List.mem_of_getElem? (i := 18) (by decide +kernel), by decide +kernel⟩
theorem m19 : (Cond.initialized "java/lang/Math") ∈ gtbl := List.mem_filter.mpr ⟨List.mem_of_getElem? (i := 19) (by decide +kernel), by decide +kernel⟩
theorem m20 : (Cond.classLink RL 10 RX6) ∈ gtbl := List.mem_filter.mpr ⟨List.mem_of_getElem? (i := 20) (by decide +kernel), by decide +kernel⟩
theorem m21 : (Cond.instantiable RX6 6) ∈ gtbl := List.mem_filter.mpr ⟨List.mem_of_getElem? (i := 21) (by decide +kernel), by decide +kernel⟩
theorem m22 : (Cond.methodLink RL 72 yX6_init) ∈ gtbl := List.mem_filter.mpr ⟨List.mem_of_getElem? (i := 22) (by decide +kernel), by decide +kernel⟩
theorem m23 : (Cond.instanceMethod yX6_init) ∈ gtbl := List.mem_filter.mpr ⟨List.mem_of_getElem? (i := 23) (by decide +kernel), by decide +kernel⟩
theorem m24 : (Cond.code yX6_init cX6_init 2 none) ∈ gtbl := List.mem_filter.mpr ⟨List.mem_of_getElem? (i := 24) (by decide +kernel), by decide +kernel⟩
theorem m25 : (Cond.methodLink RX6 3 objectInit) ∈ gtbl := List.mem_filter.mpr ⟨List.mem_of_getElem? (i := 25) (by decide +kernel), by decide +kernel⟩
theorem m26 : (Cond.instanceMethod objectInit) ∈ gtbl := List.mem_filter.mpr ⟨List.mem_of_getElem? (i := 26) (by decide +kernel), by decide +kernel⟩
theorem m27 : (Cond.code objectInit object_method_1_code 1 none) ∈ gtbl := List.mem_filter.mpr ⟨List.mem_of_getElem? (i := 27) (by decide +kernel), by decide +kernel⟩
theorem m28 : (Cond.classLink RX6 9 RX5) ∈ gtbl := List.mem_filter.mpr ⟨List.mem_of_getElem? (i := 28) (by decide +kernel), by decide +kernel⟩
theorem m29 : (Cond.instantiable RX5 4) ∈ gtbl := List.mem_filter.mpr ⟨List.mem_of_getElem? (i := 29) (by decide +kernel), by decide +kernel⟩
theorem m31 : (Cond.instanceMethod yX5_init) ∈ gtbl := List.mem_filter.mpr ⟨List.mem_of_getElem? (i := 31) (by decide +kernel), by decide +kernel⟩
theorem m32 : (Cond.code yX5_init cX5_init 1 none) ∈ gtbl := List.mem_filter.mpr ⟨List.mem_of_getElem? (i := 32) (by decide +kernel), by decide +kernel⟩
theorem m33 : (Cond.methodLink RX5 3 objectInit) ∈ gtbl := List.mem_filter.mpr ⟨List.mem_of_getElem? (i := 33) (by decide +kernel), by decide +kernel⟩
theorem m34 : (Cond.classLink RX5 9 RX3) ∈ gtbl := List.mem_filter.mpr ⟨List.mem_of_getElem? (i := 34) (by decide +kernel), by decide +kernel⟩
theorem m35 : (Cond.instantiable RX3 6) ∈ gtbl := List.mem_filter.mpr ⟨List.mem_of_getElem? (i := 35) (by decide +kernel), by decide +kernel⟩
theorem m37 : (Cond.instanceMethod yX3_init) ∈ gtbl := List.mem_filter.mpr ⟨List.mem_of_getElem? (i := 37) (by decide +kernel), by decide +kernel⟩
theorem m38 : (Cond.code yX3_init cX3_init 1 none) ∈ gtbl := List.mem_filter.mpr ⟨List.mem_of_getElem? (i := 38) (by decide +kernel), by decide +kernel⟩
theorem m39 : (Cond.methodLink RX3 3 objectInit) ∈ gtbl := List.mem_filter.mpr ⟨List.mem_of_getElem? (i := 39) (by decide +kernel), by decide +kernel⟩
theorem m40 : (Cond.fieldLink RX3 9 "HostileHouses$Position" "seeds" "[I") ∈ gtbl := List.mem_filter.mpr ⟨List.mem_of_getElem? (i := 40) (by decide +kernel), by decide +kernel⟩
theorem m41 : (Cond.fieldLink RX6 114 "HostileHouses$Position" "seeds" "[I") ∈ gtbl := List.mem_filter.mpr ⟨List.mem_of_getElem? (i := 41) (by decide +kernel), by decide +kernel⟩
theorem m42 : (Cond.fieldLink RX3 15 "HostileHouses$Position" "visits" "[I") ∈ gtbl := List.mem_filter.mpr ⟨List.mem_of_getElem? (i := 42) (by decide +kernel), by decide +kernel⟩
theorem m43 : (Cond.fieldLink RX6 117 "HostileHouses$Position" "visits" "[I") ∈ gtbl := List.mem_filter.mpr ⟨List.mem_of_getElem? (i := 43) (by decide +kernel), by decide +kernel⟩
theorem m44 : (Cond.fieldLink RX3 18 "HostileHouses$Position" "stores" "[I") ∈ gtbl := List.mem_filter.mpr ⟨List.mem_of_getElem? (i := 44) (by decide +kernel), by decide +kernel⟩
theorem m45 : (Cond.fieldLink RX6 134 "HostileHouses$Position" "stores" "[I") ∈ gtbl := List.mem_filter.mpr ⟨List.mem_of_getElem? (i := 45) (by decide +kernel), by decide +kernel⟩
theorem m46 : (Cond.fieldLink RX3 27 "HostileHouses$Position" "player" "I") ∈ gtbl := List.mem_filter.mpr ⟨List.mem_of_getElem? (i := 46) (by decide +kernel), by decide +kernel⟩
theorem m47 : (Cond.fieldLink RX1 63 "HostileHouses$Position" "player" "I") ∈ gtbl := List.mem_filter.mpr ⟨List.mem_of_getElem? (i := 47) (by decide +kernel), by decide +kernel⟩
theorem m48 : (Cond.fieldLink RX6 124 "HostileHouses$Position" "player" "I") ∈ gtbl := List.mem_filter.mpr ⟨List.mem_of_getElem? (i := 48) (by decide +kernel), by decide +kernel⟩
theorem m49 : (Cond.fieldLink RX1 29 "HostileHouses$Position" "over" "Z") ∈ gtbl := List.mem_filter.mpr ⟨List.mem_of_getElem? (i := 49) (by decide +kernel), by decide +kernel⟩
theorem m50 : (Cond.fieldLink RX3 31 "HostileHouses$Position" "over" "Z") ∈ gtbl := List.mem_filter.mpr ⟨List.mem_of_getElem? (i := 50) (by decide +kernel), by decide +kernel⟩
theorem m51 : (Cond.fieldLink RX6 127 "HostileHouses$Position" "over" "Z") ∈ gtbl := List.mem_filter.mpr ⟨List.mem_of_getElem? (i := 51) (by decide +kernel), by decide +kernel⟩
theorem m52 : (Cond.fieldLink RX3 35 "HostileHouses$Position" "moves" "I") ∈ gtbl := List.mem_filter.mpr ⟨List.mem_of_getElem? (i := 52) (by decide +kernel), by decide +kernel⟩
theorem m53 : (Cond.fieldLink RX5 53 "HostileHouses$Position" "moves" "I") ∈ gtbl := List.mem_filter.mpr ⟨List.mem_of_getElem? (i := 53) (by decide +kernel), by decide +kernel⟩
theorem m54 : (Cond.fieldLink RX6 69 "HostileHouses$Position" "moves" "I") ∈ gtbl := List.mem_filter.mpr ⟨List.mem_of_getElem? (i := 54) (by decide +kernel), by decide +kernel⟩
theorem m68 : (Cond.arrayClass Jvm.ClassFile.FieldType.int) ∈ gtbl := List.mem_filter.mpr ⟨List.mem_of_getElem? (i := 68) (by decide +kernel), by decide +kernel⟩
theorem m71 : (Cond.methodLink RX5 22 ⟨"[I", "clone", "()Ljava/lang/Object;"⟩) ∈ gtbl := List.mem_filter.mpr ⟨List.mem_of_getElem? (i := 71) (by decide +kernel), by decide +kernel⟩
theorem m72 : (Cond.sameMethod "[I" "java/lang/Object" "clone" "()Ljava/lang/Object;") ∈ gtbl := List.mem_filter.mpr ⟨List.mem_of_getElem? (i := 72) (by decide +kernel), by decide +kernel⟩
theorem m73 : (Cond.native ⟨"java/lang/Object", "clone", "()Ljava/lang/Object;"⟩) ∈ gtbl := List.mem_filter.mpr ⟨List.mem_of_getElem? (i := 73) (by decide +kernel), by decide +kernel⟩
theorem m74 : (Cond.instanceMethod ⟨"java/lang/Object", "clone", "()Ljava/lang/Object;"⟩) ∈ gtbl := List.mem_filter.mpr ⟨List.mem_of_getElem? (i := 74) (by decide +kernel), by decide +kernel⟩
theorem m75 : (Cond.selects "[I" ⟨"[I", "clone", "()Ljava/lang/Object;"⟩ ⟨"java/lang/Object", "clone", "()Ljava/lang/Object;"⟩) ∈ gtbl := List.mem_filter.mpr ⟨List.mem_of_getElem? (i := 75) (by decide +kernel), by decide +kernel⟩
theorem m77 : (Cond.classLink RX5 23 "[I") ∈ gtbl := List.mem_filter.mpr ⟨List.mem_of_getElem? (i := 77) (by decide +kernel), by decide +kernel⟩
theorem m78 : (Cond.classLink RX5 30 RX4) ∈ gtbl := List.mem_filter.mpr ⟨List.mem_of_getElem? (i := 78) (by decide +kernel), by decide +kernel⟩
theorem m79 : (Cond.instantiable RX4 5) ∈ gtbl := List.mem_filter.mpr ⟨List.mem_of_getElem? (i := 79) (by decide +kernel), by decide +kernel⟩
theorem m81 : (Cond.instanceMethod yX4_init) ∈ gtbl := List.mem_filter.mpr ⟨List.mem_of_getElem? (i := 81) (by decide +kernel), by decide +kernel⟩
theorem m82 : (Cond.code yX4_init cX4_init 1 none) ∈ gtbl := List.mem_filter.mpr ⟨List.mem_of_getElem? (i := 82) (by decide +kernel), by decide +kernel⟩
theorem m83 : (Cond.methodLink RX4 1 objectInit) ∈ gtbl := List.mem_filter.mpr ⟨List.mem_of_getElem? (i := 83) (by decide +kernel), by decide +kernel⟩
theorem m84 : (Cond.fieldLink RX4 7 "HostileHouses$Report" "from" "I") ∈ gtbl := List.mem_filter.mpr ⟨List.mem_of_getElem? (i := 84) (by decide +kernel), by decide +kernel⟩
theorem m85 : (Cond.fieldLink RX6 144 "HostileHouses$Report" "from" "I") ∈ gtbl := List.mem_filter.mpr ⟨List.mem_of_getElem? (i := 85) (by decide +kernel), by decide +kernel⟩
theorem m86 : (Cond.fieldLink RX4 13 "HostileHouses$Report" "laps" "I") ∈ gtbl := List.mem_filter.mpr ⟨List.mem_of_getElem? (i := 86) (by decide +kernel), by decide +kernel⟩
theorem m87 : (Cond.fieldLink RX6 84 "HostileHouses$Report" "laps" "I") ∈ gtbl := List.mem_filter.mpr ⟨List.mem_of_getElem? (i := 87) (by decide +kernel), by decide +kernel⟩
theorem m88 : (Cond.fieldLink RX3 72 "HostileHouses$Report" "laps" "I") ∈ gtbl := List.mem_filter.mpr ⟨List.mem_of_getElem? (i := 88) (by decide +kernel), by decide +kernel⟩
theorem m89 : (Cond.fieldLink RX4 16 "HostileHouses$Report" "lastHouse" "I") ∈ gtbl := List.mem_filter.mpr ⟨List.mem_of_getElem? (i := 89) (by decide +kernel), by decide +kernel⟩
theorem m90 : (Cond.fieldLink RX6 147 "HostileHouses$Report" "lastHouse" "I") ∈ gtbl := List.mem_filter.mpr ⟨List.mem_of_getElem? (i := 90) (by decide +kernel), by decide +kernel⟩
theorem m91 : (Cond.fieldLink RX3 61 "HostileHouses$Report" "lastHouse" "I") ∈ gtbl := List.mem_filter.mpr ⟨List.mem_of_getElem? (i := 91) (by decide +kernel), by decide +kernel⟩
theorem m92 : (Cond.fieldLink RX4 19 "HostileHouses$Report" "captured" "I") ∈ gtbl := List.mem_filter.mpr ⟨List.mem_of_getElem? (i := 92) (by decide +kernel), by decide +kernel⟩
theorem m93 : (Cond.fieldLink RX6 150 "HostileHouses$Report" "captured" "I") ∈ gtbl := List.mem_filter.mpr ⟨List.mem_of_getElem? (i := 93) (by decide +kernel), by decide +kernel⟩
theorem m94 : (Cond.fieldLink RX3 91 "HostileHouses$Report" "captured" "I") ∈ gtbl := List.mem_filter.mpr ⟨List.mem_of_getElem? (i := 94) (by decide +kernel), by decide +kernel⟩
theorem m95 : (Cond.fieldLink RX4 22 "HostileHouses$Report" "tolls" "I") ∈ gtbl := List.mem_filter.mpr ⟨List.mem_of_getElem? (i := 95) (by decide +kernel), by decide +kernel⟩
theorem m96 : (Cond.fieldLink RX6 153 "HostileHouses$Report" "tolls" "I") ∈ gtbl := List.mem_filter.mpr ⟨List.mem_of_getElem? (i := 96) (by decide +kernel), by decide +kernel⟩
theorem m97 : (Cond.fieldLink RX3 88 "HostileHouses$Report" "tolls" "I") ∈ gtbl := List.mem_filter.mpr ⟨List.mem_of_getElem? (i := 97) (by decide +kernel), by decide +kernel⟩
theorem m109 : (Cond.fieldLink RX5 12 "HostileHouses$State" "position" "LHostileHouses$Position;") ∈ gtbl := List.mem_filter.mpr ⟨List.mem_of_getElem? (i := 109) (by decide +kernel), by decide +kernel⟩
theorem m110 : (Cond.fieldLink RX6 45 "HostileHouses$State" "position" "LHostileHouses$Position;") ∈ gtbl := List.mem_filter.mpr ⟨List.mem_of_getElem? (i := 110) (by decide +kernel), by decide +kernel⟩
theorem m111 : (Cond.fieldLink RX5 27 "HostileHouses$State" "settings" "[I") ∈ gtbl := List.mem_filter.mpr ⟨List.mem_of_getElem? (i := 111) (by decide +kernel), by decide +kernel⟩
theorem m112 : (Cond.fieldLink RX6 49 "HostileHouses$State" "settings" "[I") ∈ gtbl := List.mem_filter.mpr ⟨List.mem_of_getElem? (i := 112) (by decide +kernel), by decide +kernel⟩
theorem m113 : (Cond.fieldLink RX5 33 "HostileHouses$State" "latest" "LHostileHouses$Report;") ∈ gtbl := List.mem_filter.mpr ⟨List.mem_of_getElem? (i := 113) (by decide +kernel), by decide +kernel⟩
theorem m114 : (Cond.fieldLink RX6 80 "HostileHouses$State" "latest" "LHostileHouses$Report;") ∈ gtbl := List.mem_filter.mpr ⟨List.mem_of_getElem? (i := 114) (by decide +kernel), by decide +kernel⟩
theorem m115 : (Cond.fieldLink RX5 37 "HostileHouses$State" "record" "[I") ∈ gtbl := List.mem_filter.mpr ⟨List.mem_of_getElem? (i := 115) (by decide +kernel), by decide +kernel⟩
theorem m125 : (Cond.classLink RX6 16 RX0) ∈ gtbl := List.mem_filter.mpr ⟨List.mem_of_getElem? (i := 125) (by decide +kernel), by decide +kernel⟩
theorem m126 : (Cond.instantiable RX0 3) ∈ gtbl := List.mem_filter.mpr ⟨List.mem_of_getElem? (i := 126) (by decide +kernel), by decide +kernel⟩
theorem m127 : (Cond.methodLink RX6 18 yX0_init) ∈ gtbl := List.mem_filter.mpr ⟨List.mem_of_getElem? (i := 127) (by decide +kernel), by decide +kernel⟩
theorem m128 : (Cond.instanceMethod yX0_init) ∈ gtbl := List.mem_filter.mpr ⟨List.mem_of_getElem? (i := 128) (by decide +kernel), by decide +kernel⟩
theorem m129 : (Cond.code yX0_init cX0_init 2 none) ∈ gtbl := List.mem_filter.mpr ⟨List.mem_of_getElem? (i := 129) (by decide +kernel), by decide +kernel⟩
theorem m130 : (Cond.methodLink RX0 3 objectInit) ∈ gtbl := List.mem_filter.mpr ⟨List.mem_of_getElem? (i := 130) (by decide +kernel), by decide +kernel⟩
theorem m131 : (Cond.classLink RX0 9 RX5) ∈ gtbl := List.mem_filter.mpr ⟨List.mem_of_getElem? (i := 131) (by decide +kernel), by decide +kernel⟩
theorem m134 : (Cond.fieldLink RX0 11 "HostileHouses$History" "states" "[LHostileHouses$State;") ∈ gtbl := List.mem_filter.mpr ⟨List.mem_of_getElem? (i := 134) (by decide +kernel), by decide +kernel⟩
theorem m135 : (Cond.fieldLink RX0 18 "HostileHouses$History" "oldest" "I") ∈ gtbl := List.mem_filter.mpr ⟨List.mem_of_getElem? (i := 135) (by decide +kernel), by decide +kernel⟩
theorem m136 : (Cond.fieldLink RX0 22 "HostileHouses$History" "size" "I") ∈ gtbl := List.mem_filter.mpr ⟨List.mem_of_getElem? (i := 136) (by decide +kernel), by decide +kernel⟩
theorem m137 : (Cond.fieldLink RX6 141 "HostileHouses$History" "size" "I") ∈ gtbl := List.mem_filter.mpr ⟨List.mem_of_getElem? (i := 137) (by decide +kernel), by decide +kernel⟩
theorem m145 : (Cond.classLink RX6 31 RX2) ∈ gtbl := List.mem_filter.mpr ⟨List.mem_of_getElem? (i := 145) (by decide +kernel), by decide +kernel⟩
theorem m146 : (Cond.instantiable RX2 3) ∈ gtbl := List.mem_filter.mpr ⟨List.mem_of_getElem? (i := 146) (by decide +kernel), by decide +kernel⟩
theorem m148 : (Cond.instanceMethod yX2_init) ∈ gtbl := List.mem_filter.mpr ⟨List.mem_of_getElem? (i := 148) (by decide +kernel), by decide +kernel⟩
theorem m149 : (Cond.code yX2_init cX2_init 1 none) ∈ gtbl := List.mem_filter.mpr ⟨List.mem_of_getElem? (i := 149) (by decide +kernel), by decide +kernel⟩
theorem m150 : (Cond.methodLink RX2 3 objectInit) ∈ gtbl := List.mem_filter.mpr ⟨List.mem_of_getElem? (i := 150) (by decide +kernel), by decide +kernel⟩
theorem m151 : (Cond.fieldLink RX2 9 "HostileHouses$Pad" "text" "[C") ∈ gtbl := List.mem_filter.mpr ⟨List.mem_of_getElem? (i := 151) (by decide +kernel), by decide +kernel⟩
theorem m152 : (Cond.fieldLink RX2 15 "HostileHouses$Pad" "numbers" "[I") ∈ gtbl := List.mem_filter.mpr ⟨List.mem_of_getElem? (i := 152) (by decide +kernel), by decide +kernel⟩
theorem m153 : (Cond.fieldLink RX6 97 "HostileHouses$Pad" "numbers" "[I") ∈ gtbl := List.mem_filter.mpr ⟨List.mem_of_getElem? (i := 153) (by decide +kernel), by decide +kernel⟩
theorem m154 : (Cond.fieldLink RX2 25 "HostileHouses$Pad" "length" "I") ∈ gtbl := List.mem_filter.mpr ⟨List.mem_of_getElem? (i := 154) (by decide +kernel), by decide +kernel⟩
theorem m155 : (Cond.fieldLink RX6 104 "HostileHouses$Pad" "length" "I") ∈ gtbl := List.mem_filter.mpr ⟨List.mem_of_getElem? (i := 155) (by decide +kernel), by decide +kernel⟩
theorem m163 : (Cond.arrayClass Jvm.ClassFile.FieldType.boolean) ∈ gtbl := List.mem_filter.mpr ⟨List.mem_of_getElem? (i := 163) (by decide +kernel), by decide +kernel⟩
theorem m164 : (Cond.arrayClass Jvm.ClassFile.FieldType.char) ∈ gtbl := List.mem_filter.mpr ⟨List.mem_of_getElem? (i := 164) (by decide +kernel), by decide +kernel⟩
theorem m165 : (Cond.classLink RX6 38 RX1) ∈ gtbl := List.mem_filter.mpr ⟨List.mem_of_getElem? (i := 165) (by decide +kernel), by decide +kernel⟩
theorem m166 : (Cond.instantiable RX1 3) ∈ gtbl := List.mem_filter.mpr ⟨List.mem_of_getElem? (i := 166) (by decide +kernel), by decide +kernel⟩
theorem m167 : (Cond.methodLink RX6 40 yX1_init) ∈ gtbl := List.mem_filter.mpr ⟨List.mem_of_getElem? (i := 167) (by decide +kernel), by decide +kernel⟩
theorem m168 : (Cond.instanceMethod yX1_init) ∈ gtbl := List.mem_filter.mpr ⟨List.mem_of_getElem? (i := 168) (by decide +kernel), by decide +kernel⟩
theorem m169 : (Cond.code yX1_init cX1_init 2 none) ∈ gtbl := List.mem_filter.mpr ⟨List.mem_of_getElem? (i := 169) (by decide +kernel), by decide +kernel⟩
theorem m170 : (Cond.methodLink RX1 3 objectInit) ∈ gtbl := List.mem_filter.mpr ⟨List.mem_of_getElem? (i := 170) (by decide +kernel), by decide +kernel⟩
theorem m171 : (Cond.classLink RX1 9 RX3) ∈ gtbl := List.mem_filter.mpr ⟨List.mem_of_getElem? (i := 171) (by decide +kernel), by decide +kernel⟩
theorem m173 : (Cond.classLink RX1 18 RX4) ∈ gtbl := List.mem_filter.mpr ⟨List.mem_of_getElem? (i := 173) (by decide +kernel), by decide +kernel⟩
theorem m176 : (Cond.fieldLink RX1 12 "HostileHouses$Lookahead" "trial" "LHostileHouses$Position;") ∈ gtbl := List.mem_filter.mpr ⟨List.mem_of_getElem? (i := 176) (by decide +kernel), by decide +kernel⟩
theorem m177 : (Cond.fieldLink RX6 159 "HostileHouses$Lookahead" "trial" "LHostileHouses$Position;") ∈ gtbl := List.mem_filter.mpr ⟨List.mem_of_getElem? (i := 177) (by decide +kernel), by decide +kernel⟩
theorem m178 : (Cond.fieldLink RX1 21 "HostileHouses$Lookahead" "report" "LHostileHouses$Report;") ∈ gtbl := List.mem_filter.mpr ⟨List.mem_of_getElem? (i := 178) (by decide +kernel), by decide +kernel⟩
theorem m179 : (Cond.fieldLink RX6 162 "HostileHouses$Lookahead" "report" "LHostileHouses$Report;") ∈ gtbl := List.mem_filter.mpr ⟨List.mem_of_getElem? (i := 179) (by decide +kernel), by decide +kernel⟩
theorem m180 : (Cond.fieldLink RX1 25 "HostileHouses$Lookahead" "behind" "[LHostileHouses$Position;") ∈ gtbl := List.mem_filter.mpr ⟨List.mem_of_getElem? (i := 180) (by decide +kernel), by decide +kernel⟩
theorem m188 : (Cond.methodLink RX6 53 yX3_fill) ∈ gtbl := List.mem_filter.mpr ⟨List.mem_of_getElem? (i := 188) (by decide +kernel), by decide +kernel⟩
theorem m189 : (Cond.instanceMethod yX3_fill) ∈ gtbl := List.mem_filter.mpr ⟨List.mem_of_getElem? (i := 189) (by decide +kernel), by decide +kernel⟩
theorem m190 : (Cond.selects RX3 yX3_fill yX3_fill) ∈ gtbl := List.mem_filter.mpr ⟨List.mem_of_getElem? (i := 190) (by decide +kernel), by decide +kernel⟩
theorem m191 : (Cond.code yX3_fill cX3_fill 3 none) ∈ gtbl := List.mem_filter.mpr ⟨List.mem_of_getElem? (i := 191) (by decide +kernel), by decide +kernel⟩
theorem m192 : (Cond.methodLink RX3 38 yX3_startGame) ∈ gtbl := List.mem_filter.mpr ⟨List.mem_of_getElem? (i := 192) (by decide +kernel), by decide +kernel⟩
theorem m194 : (Cond.instanceMethod yX3_startGame) ∈ gtbl := List.mem_filter.mpr ⟨List.mem_of_getElem? (i := 194) (by decide +kernel), by decide +kernel⟩
theorem m195 : (Cond.code yX3_startGame cX3_startGame 2 none) ∈ gtbl := List.mem_filter.mpr ⟨List.mem_of_getElem? (i := 195) (by decide +kernel), by decide +kernel⟩
theorem m196 : (Cond.fieldLink RX6 12 "HostileHouses" "now" "LHostileHouses$State;") ∈ gtbl := List.mem_filter.mpr ⟨List.mem_of_getElem? (i := 196) (by decide +kernel), by decide +kernel⟩
theorem m197 : (Cond.fieldLink RX6 19 "HostileHouses" "history" "LHostileHouses$History;") ∈ gtbl := List.mem_filter.mpr ⟨List.mem_of_getElem? (i := 197) (by decide +kernel), by decide +kernel⟩
theorem m198 : (Cond.fieldLink RX6 23 "HostileHouses" "slots" "[LHostileHouses$State;") ∈ gtbl := List.mem_filter.mpr ⟨List.mem_of_getElem? (i := 198) (by decide +kernel), by decide +kernel⟩
theorem m199 : (Cond.fieldLink RX6 27 "HostileHouses" "saved" "[Z") ∈ gtbl := List.mem_filter.mpr ⟨List.mem_of_getElem? (i := 199) (by decide +kernel), by decide +kernel⟩
theorem m200 : (Cond.fieldLink RX6 34 "HostileHouses" "pad" "LHostileHouses$Pad;") ∈ gtbl := List.mem_filter.mpr ⟨List.mem_of_getElem? (i := 200) (by decide +kernel), by decide +kernel⟩
theorem m201 : (Cond.fieldLink RX6 41 "HostileHouses" "lookahead" "LHostileHouses$Lookahead;") ∈ gtbl := List.mem_filter.mpr ⟨List.mem_of_getElem? (i := 201) (by decide +kernel), by decide +kernel⟩
theorem m215 : (Cond.methodLink RL 42 yX6_count) ∈ gtbl := List.mem_filter.mpr ⟨List.mem_of_getElem? (i := 215) (by decide +kernel), by decide +kernel⟩
theorem m216 : (Cond.instanceMethod yX6_count) ∈ gtbl := List.mem_filter.mpr ⟨List.mem_of_getElem? (i := 216) (by decide +kernel), by decide +kernel⟩
theorem m217 : (Cond.selects RX6 yX6_count yX6_count) ∈ gtbl := List.mem_filter.mpr ⟨List.mem_of_getElem? (i := 217) (by decide +kernel), by decide +kernel⟩
theorem m218 : (Cond.code yX6_count cX6_count 3 (some .int)) ∈ gtbl := List.mem_filter.mpr ⟨List.mem_of_getElem? (i := 218) (by decide +kernel), by decide +kernel⟩
theorem m219 : (Cond.methodLink RX6 131 yX3_winner) ∈ gtbl := List.mem_filter.mpr ⟨List.mem_of_getElem? (i := 219) (by decide +kernel), by decide +kernel⟩
theorem m220 : (Cond.instanceMethod yX3_winner) ∈ gtbl := List.mem_filter.mpr ⟨List.mem_of_getElem? (i := 220) (by decide +kernel), by decide +kernel⟩
theorem m221 : (Cond.selects RX3 yX3_winner yX3_winner) ∈ gtbl := List.mem_filter.mpr ⟨List.mem_of_getElem? (i := 221) (by decide +kernel), by decide +kernel⟩
theorem m222 : (Cond.code yX3_winner cX3_winner 1 (some .int)) ∈ gtbl := List.mem_filter.mpr ⟨List.mem_of_getElem? (i := 222) (by decide +kernel), by decide +kernel⟩
theorem m223 : (Cond.methodLink RX6 107 yX3_allSeeds) ∈ gtbl := List.mem_filter.mpr ⟨List.mem_of_getElem? (i := 223) (by decide +kernel), by decide +kernel⟩
theorem m224 : (Cond.instanceMethod yX3_allSeeds) ∈ gtbl := List.mem_filter.mpr ⟨List.mem_of_getElem? (i := 224) (by decide +kernel), by decide +kernel⟩
theorem m225 : (Cond.selects RX3 yX3_allSeeds yX3_allSeeds) ∈ gtbl := List.mem_filter.mpr ⟨List.mem_of_getElem? (i := 225) (by decide +kernel), by decide +kernel⟩
theorem m226 : (Cond.code yX3_allSeeds cX3_allSeeds 1 (some .int)) ∈ gtbl := List.mem_filter.mpr ⟨List.mem_of_getElem? (i := 226) (by decide +kernel), by decide +kernel⟩
theorem m227 : (Cond.methodLink RX3 53 yX3_seedsInHousesOf) ∈ gtbl := List.mem_filter.mpr ⟨List.mem_of_getElem? (i := 227) (by decide +kernel), by decide +kernel⟩
theorem m228 : (Cond.instanceMethod yX3_seedsInHousesOf) ∈ gtbl := List.mem_filter.mpr ⟨List.mem_of_getElem? (i := 228) (by decide +kernel), by decide +kernel⟩
theorem m229 : (Cond.selects RX3 yX3_seedsInHousesOf yX3_seedsInHousesOf) ∈ gtbl := List.mem_filter.mpr ⟨List.mem_of_getElem? (i := 229) (by decide +kernel), by decide +kernel⟩
theorem m230 : (Cond.code yX3_seedsInHousesOf cX3_seedsInHousesOf 4 (some .int)) ∈ gtbl := List.mem_filter.mpr ⟨List.mem_of_getElem? (i := 230) (by decide +kernel), by decide +kernel⟩
theorem m231 : (Cond.methodLink RX6 137 yX3_hostileHouses) ∈ gtbl := List.mem_filter.mpr ⟨List.mem_of_getElem? (i := 231) (by decide +kernel), by decide +kernel⟩
theorem m232 : (Cond.instanceMethod yX3_hostileHouses) ∈ gtbl := List.mem_filter.mpr ⟨List.mem_of_getElem? (i := 232) (by decide +kernel), by decide +kernel⟩
theorem m233 : (Cond.selects RX3 yX3_hostileHouses yX3_hostileHouses) ∈ gtbl := List.mem_filter.mpr ⟨List.mem_of_getElem? (i := 233) (by decide +kernel), by decide +kernel⟩
theorem m234 : (Cond.code yX3_hostileHouses cX3_hostileHouses 4 (some .int)) ∈ gtbl := List.mem_filter.mpr ⟨List.mem_of_getElem? (i := 234) (by decide +kernel), by decide +kernel⟩
theorem m235 : (Cond.methodLink RX3 45 yX3_isHostile) ∈ gtbl := List.mem_filter.mpr ⟨List.mem_of_getElem? (i := 235) (by decide +kernel), by decide +kernel⟩
theorem m236 : (Cond.instanceMethod yX3_isHostile) ∈ gtbl := List.mem_filter.mpr ⟨List.mem_of_getElem? (i := 236) (by decide +kernel), by decide +kernel⟩
theorem m237 : (Cond.selects RX3 yX3_isHostile yX3_isHostile) ∈ gtbl := List.mem_filter.mpr ⟨List.mem_of_getElem? (i := 237) (by decide +kernel), by decide +kernel⟩
theorem m238 : (Cond.code yX3_isHostile cX3_isHostile 3 (some .boolean)) ∈ gtbl := List.mem_filter.mpr ⟨List.mem_of_getElem? (i := 238) (by decide +kernel), by decide +kernel⟩
theorem m239 : (Cond.methodLink RL 73 yL_cell) ∈ gtbl := List.mem_filter.mpr ⟨List.mem_of_getElem? (i := 239) (by decide +kernel), by decide +kernel⟩
theorem m240 : (Cond.static yL_cell) ∈ gtbl := List.mem_filter.mpr ⟨List.mem_of_getElem? (i := 240) (by decide +kernel), by decide +kernel⟩
theorem m241 : (Cond.code yL_cell cL_cell 2 (some .int)) ∈ gtbl := List.mem_filter.mpr ⟨List.mem_of_getElem? (i := 241) (by decide +kernel), by decide +kernel⟩
theorem m243 : (Cond.methodLink RL 77 yL_reads) ∈ gtbl := List.mem_filter.mpr ⟨List.mem_of_getElem? (i := 243) (by decide +kernel), by decide +kernel⟩
theorem m244 : (Cond.static yL_reads) ∈ gtbl := List.mem_filter.mpr ⟨List.mem_of_getElem? (i := 244) (by decide +kernel), by decide +kernel⟩
theorem m245 : (Cond.code yL_reads cL_reads 10 (some .boolean)) ∈ gtbl := List.mem_filter.mpr ⟨List.mem_of_getElem? (i := 245) (by decide +kernel), by decide +kernel⟩
theorem m246 : (Cond.methodLink RL 15 yL_up) ∈ gtbl := List.mem_filter.mpr ⟨List.mem_of_getElem? (i := 246) (by decide +kernel), by decide +kernel⟩
theorem m247 : (Cond.static yL_up) ∈ gtbl := List.mem_filter.mpr ⟨List.mem_of_getElem? (i := 247) (by decide +kernel), by decide +kernel⟩
theorem m248 : (Cond.code yL_up cL_up 2 (some .int)) ∈ gtbl := List.mem_filter.mpr ⟨List.mem_of_getElem? (i := 248) (by decide +kernel), by decide +kernel⟩
theorem m250 : (Cond.methodLink RL 21 yX6_wipe) ∈ gtbl := List.mem_filter.mpr ⟨List.mem_of_getElem? (i := 250) (by decide +kernel), by decide +kernel⟩
theorem m251 : (Cond.instanceMethod yX6_wipe) ∈ gtbl := List.mem_filter.mpr ⟨List.mem_of_getElem? (i := 251) (by decide +kernel), by decide +kernel⟩
theorem m252 : (Cond.selects RX6 yX6_wipe yX6_wipe) ∈ gtbl := List.mem_filter.mpr ⟨List.mem_of_getElem? (i := 252) (by decide +kernel), by decide +kernel⟩
theorem m253 : (Cond.code yX6_wipe cX6_wipe 2 (some .int)) ∈ gtbl := List.mem_filter.mpr ⟨List.mem_of_getElem? (i := 253) (by decide +kernel), by decide +kernel⟩
theorem m254 : (Cond.methodLink RL 25 yL_number) ∈ gtbl := List.mem_filter.mpr ⟨List.mem_of_getElem? (i := 254) (by decide +kernel), by decide +kernel⟩
theorem m255 : (Cond.static yL_number) ∈ gtbl := List.mem_filter.mpr ⟨List.mem_of_getElem? (i := 255) (by decide +kernel), by decide +kernel⟩
theorem m256 : (Cond.code yL_number cL_number 3 (some .boolean)) ∈ gtbl := List.mem_filter.mpr ⟨List.mem_of_getElem? (i := 256) (by decide +kernel), by decide +kernel⟩
theorem m257 : (Cond.methodLink RL 9 yX6_put) ∈ gtbl := List.mem_filter.mpr ⟨List.mem_of_getElem? (i := 257) (by decide +kernel), by decide +kernel⟩
theorem m258 : (Cond.instanceMethod yX6_put) ∈ gtbl := List.mem_filter.mpr ⟨List.mem_of_getElem? (i := 258) (by decide +kernel), by decide +kernel⟩
theorem m259 : (Cond.selects RX6 yX6_put yX6_put) ∈ gtbl := List.mem_filter.mpr ⟨List.mem_of_getElem? (i := 259) (by decide +kernel), by decide +kernel⟩
theorem m260 : (Cond.code yX6_put cX6_put 4 (some .int)) ∈ gtbl := List.mem_filter.mpr ⟨List.mem_of_getElem? (i := 260) (by decide +kernel), by decide +kernel⟩
theorem m261 : (Cond.methodLink RX6 182 yX2_charactersIn) ∈ gtbl := List.mem_filter.mpr ⟨List.mem_of_getElem? (i := 261) (by decide +kernel), by decide +kernel⟩
theorem m262 : (Cond.static yX2_charactersIn) ∈ gtbl := List.mem_filter.mpr ⟨List.mem_of_getElem? (i := 262) (by decide +kernel), by decide +kernel⟩
theorem m263 : (Cond.code yX2_charactersIn cX2_charactersIn 7 (some .int)) ∈ gtbl := List.mem_filter.mpr ⟨List.mem_of_getElem? (i := 263) (by decide +kernel), by decide +kernel⟩
theorem m264 : (Cond.constantLong RX2 19 (255)) ∈ gtbl := List.mem_filter.mpr ⟨List.mem_of_getElem? (i := 264) (by decide +kernel), by decide +kernel⟩
theorem m265 : (Cond.constantLong RX2 21 (33)) ∈ gtbl := List.mem_filter.mpr ⟨List.mem_of_getElem? (i := 265) (by decide +kernel), by decide +kernel⟩
theorem m266 : (Cond.constantLong RX2 23 (126)) ∈ gtbl := List.mem_filter.mpr ⟨List.mem_of_getElem? (i := 266) (by decide +kernel), by decide +kernel⟩
theorem m267 : (Cond.methodLink RX6 186 yX2_append) ∈ gtbl := List.mem_filter.mpr ⟨List.mem_of_getElem? (i := 267) (by decide +kernel), by decide +kernel⟩
theorem m268 : (Cond.instanceMethod yX2_append) ∈ gtbl := List.mem_filter.mpr ⟨List.mem_of_getElem? (i := 268) (by decide +kernel), by decide +kernel⟩
theorem m269 : (Cond.selects RX2 yX2_append yX2_append) ∈ gtbl := List.mem_filter.mpr ⟨List.mem_of_getElem? (i := 269) (by decide +kernel), by decide +kernel⟩
theorem m270 : (Cond.code yX2_append cX2_append 5 none) ∈ gtbl := List.mem_filter.mpr ⟨List.mem_of_getElem? (i := 270) (by decide +kernel), by decide +kernel⟩
theorem m271 : (Cond.methodLink RL 29 yX6_read) ∈ gtbl := List.mem_filter.mpr ⟨List.mem_of_getElem? (i := 271) (by decide +kernel), by decide +kernel⟩
theorem m272 : (Cond.instanceMethod yX6_read) ∈ gtbl := List.mem_filter.mpr ⟨List.mem_of_getElem? (i := 272) (by decide +kernel), by decide +kernel⟩
theorem m273 : (Cond.selects RX6 yX6_read yX6_read) ∈ gtbl := List.mem_filter.mpr ⟨List.mem_of_getElem? (i := 273) (by decide +kernel), by decide +kernel⟩
theorem m274 : (Cond.code yX6_read cX6_read 1 (some .int)) ∈ gtbl := List.mem_filter.mpr ⟨List.mem_of_getElem? (i := 274) (by decide +kernel), by decide +kernel⟩
theorem m275 : (Cond.methodLink RX6 93 yX2_scan) ∈ gtbl := List.mem_filter.mpr ⟨List.mem_of_getElem? (i := 275) (by decide +kernel), by decide +kernel⟩
theorem m276 : (Cond.instanceMethod yX2_scan) ∈ gtbl := List.mem_filter.mpr ⟨List.mem_of_getElem? (i := 276) (by decide +kernel), by decide +kernel⟩
theorem m277 : (Cond.selects RX2 yX2_scan yX2_scan) ∈ gtbl := List.mem_filter.mpr ⟨List.mem_of_getElem? (i := 277) (by decide +kernel), by decide +kernel⟩
theorem m278 : (Cond.code yX2_scan cX2_scan 6 (some .int)) ∈ gtbl := List.mem_filter.mpr ⟨List.mem_of_getElem? (i := 278) (by decide +kernel), by decide +kernel⟩
theorem m279 : (Cond.methodLink RX2 29 yX2_digitFits) ∈ gtbl := List.mem_filter.mpr ⟨List.mem_of_getElem? (i := 279) (by decide +kernel), by decide +kernel⟩
theorem m281 : (Cond.instanceMethod yX2_digitFits) ∈ gtbl := List.mem_filter.mpr ⟨List.mem_of_getElem? (i := 281) (by decide +kernel), by decide +kernel⟩
theorem m282 : (Cond.code yX2_digitFits cX2_digitFits 5 (some .boolean)) ∈ gtbl := List.mem_filter.mpr ⟨List.mem_of_getElem? (i := 282) (by decide +kernel), by decide +kernel⟩
theorem m283 : (Cond.methodLink RX2 33 yX2_signBehind) ∈ gtbl := List.mem_filter.mpr ⟨List.mem_of_getElem? (i := 283) (by decide +kernel), by decide +kernel⟩
theorem m284 : (Cond.static yX2_signBehind) ∈ gtbl := List.mem_filter.mpr ⟨List.mem_of_getElem? (i := 284) (by decide +kernel), by decide +kernel⟩
theorem m285 : (Cond.code yX2_signBehind cX2_signBehind 1 (some .char)) ∈ gtbl := List.mem_filter.mpr ⟨List.mem_of_getElem? (i := 285) (by decide +kernel), by decide +kernel⟩
theorem m286 : (Cond.methodLink RX6 65 yX0_remember) ∈ gtbl := List.mem_filter.mpr ⟨List.mem_of_getElem? (i := 286) (by decide +kernel), by decide +kernel⟩
theorem m287 : (Cond.instanceMethod yX0_remember) ∈ gtbl := List.mem_filter.mpr ⟨List.mem_of_getElem? (i := 287) (by decide +kernel), by decide +kernel⟩
theorem m288 : (Cond.selects RX0 yX0_remember yX0_remember) ∈ gtbl := List.mem_filter.mpr ⟨List.mem_of_getElem? (i := 288) (by decide +kernel), by decide +kernel⟩
theorem m289 : (Cond.code yX0_remember cX0_remember 2 none) ∈ gtbl := List.mem_filter.mpr ⟨List.mem_of_getElem? (i := 289) (by decide +kernel), by decide +kernel⟩
theorem m290 : (Cond.methodLink RX0 25 yX5_copyFrom) ∈ gtbl := List.mem_filter.mpr ⟨List.mem_of_getElem? (i := 290) (by decide +kernel), by decide +kernel⟩
theorem m291 : (Cond.instanceMethod yX5_copyFrom) ∈ gtbl := List.mem_filter.mpr ⟨List.mem_of_getElem? (i := 291) (by decide +kernel), by decide +kernel⟩
theorem m292 : (Cond.selects RX5 yX5_copyFrom yX5_copyFrom) ∈ gtbl := List.mem_filter.mpr ⟨List.mem_of_getElem? (i := 292) (by decide +kernel), by decide +kernel⟩
theorem m293 : (Cond.code yX5_copyFrom cX5_copyFrom 2 none) ∈ gtbl := List.mem_filter.mpr ⟨List.mem_of_getElem? (i := 293) (by decide +kernel), by decide +kernel⟩
theorem m294 : (Cond.methodLink RX5 40 yX3_copyFrom) ∈ gtbl := List.mem_filter.mpr ⟨List.mem_of_getElem? (i := 294) (by decide +kernel), by decide +kernel⟩
theorem m295 : (Cond.instanceMethod yX3_copyFrom) ∈ gtbl := List.mem_filter.mpr ⟨List.mem_of_getElem? (i := 295) (by decide +kernel), by decide +kernel⟩
theorem m296 : (Cond.selects RX3 yX3_copyFrom yX3_copyFrom) ∈ gtbl := List.mem_filter.mpr ⟨List.mem_of_getElem? (i := 296) (by decide +kernel), by decide +kernel⟩
theorem m297 : (Cond.code yX3_copyFrom cX3_copyFrom 2 none) ∈ gtbl := List.mem_filter.mpr ⟨List.mem_of_getElem? (i := 297) (by decide +kernel), by decide +kernel⟩
theorem m298 : (Cond.methodLink RX3 21 ⟨"java/lang/System", "arraycopy", "(Ljava/lang/Object;ILjava/lang/Object;II)V"⟩) ∈ gtbl := List.mem_filter.mpr ⟨List.mem_of_getElem? (i := 298) (by decide +kernel), by decide +kernel⟩
theorem m299 : (Cond.static ⟨"java/lang/System", "arraycopy", "(Ljava/lang/Object;ILjava/lang/Object;II)V"⟩) ∈ gtbl := List.mem_filter.mpr ⟨List.mem_of_getElem? (i := 299) (by decide +kernel), by decide +kernel⟩
theorem m300 : (Cond.native ⟨"java/lang/System", "arraycopy", "(Ljava/lang/Object;ILjava/lang/Object;II)V"⟩) ∈ gtbl := List.mem_filter.mpr ⟨List.mem_of_getElem? (i := 300) (by decide +kernel), by decide +kernel⟩
theorem m301 : (Cond.methodLink RX5 44 ⟨"java/lang/System", "arraycopy", "(Ljava/lang/Object;ILjava/lang/Object;II)V"⟩) ∈ gtbl := List.mem_filter.mpr ⟨List.mem_of_getElem? (i := 301) (by decide +kernel), by decide +kernel⟩
theorem m302 : (Cond.methodLink RX5 50 yX4_copyFrom) ∈ gtbl := List.mem_filter.mpr ⟨List.mem_of_getElem? (i := 302) (by decide +kernel), by decide +kernel⟩
theorem m303 : (Cond.instanceMethod yX4_copyFrom) ∈ gtbl := List.mem_filter.mpr ⟨List.mem_of_getElem? (i := 303) (by decide +kernel), by decide +kernel⟩
theorem m304 : (Cond.selects RX4 yX4_copyFrom yX4_copyFrom) ∈ gtbl := List.mem_filter.mpr ⟨List.mem_of_getElem? (i := 304) (by decide +kernel), by decide +kernel⟩
theorem m305 : (Cond.code yX4_copyFrom cX4_copyFrom 2 none) ∈ gtbl := List.mem_filter.mpr ⟨List.mem_of_getElem? (i := 305) (by decide +kernel), by decide +kernel⟩
theorem m306 : (Cond.methodLink RX6 100 yX3_fillFrom) ∈ gtbl := List.mem_filter.mpr ⟨List.mem_of_getElem? (i := 306) (by decide +kernel), by decide +kernel⟩
theorem m307 : (Cond.instanceMethod yX3_fillFrom) ∈ gtbl := List.mem_filter.mpr ⟨List.mem_of_getElem? (i := 307) (by decide +kernel), by decide +kernel⟩
theorem m308 : (Cond.selects RX3 yX3_fillFrom yX3_fillFrom) ∈ gtbl := List.mem_filter.mpr ⟨List.mem_of_getElem? (i := 308) (by decide +kernel), by decide +kernel⟩
theorem m309 : (Cond.code yX3_fillFrom cX3_fillFrom 3 none) ∈ gtbl := List.mem_filter.mpr ⟨List.mem_of_getElem? (i := 309) (by decide +kernel), by decide +kernel⟩
theorem m310 : (Cond.methodLink RX3 41 yX3_giveTurnTo) ∈ gtbl := List.mem_filter.mpr ⟨List.mem_of_getElem? (i := 310) (by decide +kernel), by decide +kernel⟩
theorem m312 : (Cond.instanceMethod yX3_giveTurnTo) ∈ gtbl := List.mem_filter.mpr ⟨List.mem_of_getElem? (i := 312) (by decide +kernel), by decide +kernel⟩
theorem m313 : (Cond.code yX3_giveTurnTo cX3_giveTurnTo 3 none) ∈ gtbl := List.mem_filter.mpr ⟨List.mem_of_getElem? (i := 313) (by decide +kernel), by decide +kernel⟩
theorem m314 : (Cond.methodLink RX3 94 yX3_isDecided) ∈ gtbl := List.mem_filter.mpr ⟨List.mem_of_getElem? (i := 314) (by decide +kernel), by decide +kernel⟩
theorem m316 : (Cond.instanceMethod yX3_isDecided) ∈ gtbl := List.mem_filter.mpr ⟨List.mem_of_getElem? (i := 316) (by decide +kernel), by decide +kernel⟩
theorem m317 : (Cond.code yX3_isDecided cX3_isDecided 3 (some .boolean)) ∈ gtbl := List.mem_filter.mpr ⟨List.mem_of_getElem? (i := 317) (by decide +kernel), by decide +kernel⟩
theorem m318 : (Cond.methodLink RL 81 yL_isStep) ∈ gtbl := List.mem_filter.mpr ⟨List.mem_of_getElem? (i := 318) (by decide +kernel), by decide +kernel⟩
theorem m319 : (Cond.static yL_isStep) ∈ gtbl := List.mem_filter.mpr ⟨List.mem_of_getElem? (i := 319) (by decide +kernel), by decide +kernel⟩
theorem m320 : (Cond.code yL_isStep cL_isStep 6 (some .boolean)) ∈ gtbl := List.mem_filter.mpr ⟨List.mem_of_getElem? (i := 320) (by decide +kernel), by decide +kernel⟩
theorem m321 : (Cond.methodLink RL 32 yX6_set) ∈ gtbl := List.mem_filter.mpr ⟨List.mem_of_getElem? (i := 321) (by decide +kernel), by decide +kernel⟩
theorem m322 : (Cond.instanceMethod yX6_set) ∈ gtbl := List.mem_filter.mpr ⟨List.mem_of_getElem? (i := 322) (by decide +kernel), by decide +kernel⟩
theorem m323 : (Cond.selects RX6 yX6_set yX6_set) ∈ gtbl := List.mem_filter.mpr ⟨List.mem_of_getElem? (i := 323) (by decide +kernel), by decide +kernel⟩
theorem m324 : (Cond.code yX6_set cX6_set 4 (some .int)) ∈ gtbl := List.mem_filter.mpr ⟨List.mem_of_getElem? (i := 324) (by decide +kernel), by decide +kernel⟩
theorem m325 : (Cond.fieldLink RX6 59 "HostileHouses" "LOWEST_VALUES" "[I") ∈ gtbl := List.mem_filter.mpr ⟨List.mem_of_getElem? (i := 325) (by decide +kernel), by decide +kernel⟩
theorem m327 : (Cond.fieldLink RX6 62 "HostileHouses" "HIGHEST_VALUES" "[I") ∈ gtbl := List.mem_filter.mpr ⟨List.mem_of_getElem? (i := 327) (by decide +kernel), by decide +kernel⟩
theorem m329 : (Cond.methodLink RL 35 yX6_play) ∈ gtbl := List.mem_filter.mpr ⟨List.mem_of_getElem? (i := 329) (by decide +kernel), by decide +kernel⟩
theorem m330 : (Cond.instanceMethod yX6_play) ∈ gtbl := List.mem_filter.mpr ⟨List.mem_of_getElem? (i := 330) (by decide +kernel), by decide +kernel⟩
theorem m331 : (Cond.selects RX6 yX6_play yX6_play) ∈ gtbl := List.mem_filter.mpr ⟨List.mem_of_getElem? (i := 331) (by decide +kernel), by decide +kernel⟩
theorem m332 : (Cond.code yX6_play cX6_play 3 (some .int)) ∈ gtbl := List.mem_filter.mpr ⟨List.mem_of_getElem? (i := 332) (by decide +kernel), by decide +kernel⟩
theorem m333 : (Cond.methodLink RX6 89 yX1_bestHouse) ∈ gtbl := List.mem_filter.mpr ⟨List.mem_of_getElem? (i := 333) (by decide +kernel), by decide +kernel⟩
theorem m334 : (Cond.instanceMethod yX1_bestHouse) ∈ gtbl := List.mem_filter.mpr ⟨List.mem_of_getElem? (i := 334) (by decide +kernel), by decide +kernel⟩
theorem m335 : (Cond.selects RX1 yX1_bestHouse yX1_bestHouse) ∈ gtbl := List.mem_filter.mpr ⟨List.mem_of_getElem? (i := 335) (by decide +kernel), by decide +kernel⟩
theorem m336 : (Cond.code yX1_bestHouse cX1_bestHouse 8 (some .int)) ∈ gtbl := List.mem_filter.mpr ⟨List.mem_of_getElem? (i := 336) (by decide +kernel), by decide +kernel⟩
theorem m337 : (Cond.methodLink RX1 37 yX3_canMoveFrom) ∈ gtbl := List.mem_filter.mpr ⟨List.mem_of_getElem? (i := 337) (by decide +kernel), by decide +kernel⟩
theorem m338 : (Cond.instanceMethod yX3_canMoveFrom) ∈ gtbl := List.mem_filter.mpr ⟨List.mem_of_getElem? (i := 338) (by decide +kernel), by decide +kernel⟩
theorem m339 : (Cond.selects RX3 yX3_canMoveFrom yX3_canMoveFrom) ∈ gtbl := List.mem_filter.mpr ⟨List.mem_of_getElem? (i := 339) (by decide +kernel), by decide +kernel⟩
theorem m340 : (Cond.code yX3_canMoveFrom cX3_canMoveFrom 2 (some .boolean)) ∈ gtbl := List.mem_filter.mpr ⟨List.mem_of_getElem? (i := 340) (by decide +kernel), by decide +kernel⟩
theorem m341 : (Cond.methodLink RX3 49 yX3_ownerOf) ∈ gtbl := List.mem_filter.mpr ⟨List.mem_of_getElem? (i := 341) (by decide +kernel), by decide +kernel⟩
theorem m342 : (Cond.static yX3_ownerOf) ∈ gtbl := List.mem_filter.mpr ⟨List.mem_of_getElem? (i := 342) (by decide +kernel), by decide +kernel⟩
theorem m343 : (Cond.code yX3_ownerOf cX3_ownerOf 1 (some .int)) ∈ gtbl := List.mem_filter.mpr ⟨List.mem_of_getElem? (i := 343) (by decide +kernel), by decide +kernel⟩
theorem m344 : (Cond.methodLink RX1 41 yX1_valueBehind) ∈ gtbl := List.mem_filter.mpr ⟨List.mem_of_getElem? (i := 344) (by decide +kernel), by decide +kernel⟩
theorem m346 : (Cond.instanceMethod yX1_valueBehind) ∈ gtbl := List.mem_filter.mpr ⟨List.mem_of_getElem? (i := 346) (by decide +kernel), by decide +kernel⟩
theorem m347 : (Cond.code yX1_valueBehind cX1_valueBehind 7 (some .int)) ∈ gtbl := List.mem_filter.mpr ⟨List.mem_of_getElem? (i := 347) (by decide +kernel), by decide +kernel⟩
theorem m348 : (Cond.methodLink RX1 33 yX3_lead) ∈ gtbl := List.mem_filter.mpr ⟨List.mem_of_getElem? (i := 348) (by decide +kernel), by decide +kernel⟩
theorem m349 : (Cond.instanceMethod yX3_lead) ∈ gtbl := List.mem_filter.mpr ⟨List.mem_of_getElem? (i := 349) (by decide +kernel), by decide +kernel⟩
theorem m350 : (Cond.selects RX3 yX3_lead yX3_lead) ∈ gtbl := List.mem_filter.mpr ⟨List.mem_of_getElem? (i := 350) (by decide +kernel), by decide +kernel⟩
theorem m351 : (Cond.code yX3_lead cX3_lead 1 (some .int)) ∈ gtbl := List.mem_filter.mpr ⟨List.mem_of_getElem? (i := 351) (by decide +kernel), by decide +kernel⟩
theorem m352 : (Cond.methodLink RX1 51 yX3_copyFrom) ∈ gtbl := List.mem_filter.mpr ⟨List.mem_of_getElem? (i := 352) (by decide +kernel), by decide +kernel⟩
theorem m353 : (Cond.methodLink RX1 55 yX3_makeMove) ∈ gtbl := List.mem_filter.mpr ⟨List.mem_of_getElem? (i := 353) (by decide +kernel), by decide +kernel⟩
theorem m354 : (Cond.instanceMethod yX3_makeMove) ∈ gtbl := List.mem_filter.mpr ⟨List.mem_of_getElem? (i := 354) (by decide +kernel), by decide +kernel⟩
theorem m355 : (Cond.selects RX3 yX3_makeMove yX3_makeMove) ∈ gtbl := List.mem_filter.mpr ⟨List.mem_of_getElem? (i := 355) (by decide +kernel), by decide +kernel⟩
theorem m356 : (Cond.code yX3_makeMove cX3_makeMove 6 none) ∈ gtbl := List.mem_filter.mpr ⟨List.mem_of_getElem? (i := 356) (by decide +kernel), by decide +kernel⟩
theorem m357 : (Cond.methodLink RX3 56 yX4_clear) ∈ gtbl := List.mem_filter.mpr ⟨List.mem_of_getElem? (i := 357) (by decide +kernel), by decide +kernel⟩
theorem m358 : (Cond.instanceMethod yX4_clear) ∈ gtbl := List.mem_filter.mpr ⟨List.mem_of_getElem? (i := 358) (by decide +kernel), by decide +kernel⟩
theorem m359 : (Cond.selects RX4 yX4_clear yX4_clear) ∈ gtbl := List.mem_filter.mpr ⟨List.mem_of_getElem? (i := 359) (by decide +kernel), by decide +kernel⟩
theorem m360 : (Cond.code yX4_clear cX4_clear 2 none) ∈ gtbl := List.mem_filter.mpr ⟨List.mem_of_getElem? (i := 360) (by decide +kernel), by decide +kernel⟩
theorem m361 : (Cond.methodLink RX3 64 yX3_sowLap) ∈ gtbl := List.mem_filter.mpr ⟨List.mem_of_getElem? (i := 361) (by decide +kernel), by decide +kernel⟩
theorem m363 : (Cond.instanceMethod yX3_sowLap) ∈ gtbl := List.mem_filter.mpr ⟨List.mem_of_getElem? (i := 363) (by decide +kernel), by decide +kernel⟩
theorem m364 : (Cond.code yX3_sowLap cX3_sowLap 7 (some .boolean)) ∈ gtbl := List.mem_filter.mpr ⟨List.mem_of_getElem? (i := 364) (by decide +kernel), by decide +kernel⟩
theorem m365 : (Cond.methodLink RX3 68 yX3_sowHand) ∈ gtbl := List.mem_filter.mpr ⟨List.mem_of_getElem? (i := 365) (by decide +kernel), by decide +kernel⟩
theorem m367 : (Cond.instanceMethod yX3_sowHand) ∈ gtbl := List.mem_filter.mpr ⟨List.mem_of_getElem? (i := 367) (by decide +kernel), by decide +kernel⟩
theorem m368 : (Cond.code yX3_sowHand cX3_sowHand 7 (some .int)) ∈ gtbl := List.mem_filter.mpr ⟨List.mem_of_getElem? (i := 368) (by decide +kernel), by decide +kernel⟩
theorem m369 : (Cond.methodLink RX3 79 ⟨"java/lang/Math", "max", "(II)I"⟩) ∈ gtbl := List.mem_filter.mpr ⟨List.mem_of_getElem? (i := 369) (by decide +kernel), by decide +kernel⟩
theorem m370 : (Cond.static ⟨"java/lang/Math", "max", "(II)I"⟩) ∈ gtbl := List.mem_filter.mpr ⟨List.mem_of_getElem? (i := 370) (by decide +kernel), by decide +kernel⟩
theorem m371 : (Cond.code ⟨"java/lang/Math", "max", "(II)I"⟩ prog_11_method_65_code 2 (some .int)) ∈ gtbl := List.mem_filter.mpr ⟨List.mem_of_getElem? (i := 371) (by decide +kernel), by decide +kernel⟩
theorem m372 : (Cond.methodLink RX3 85 yX3_houseBehind) ∈ gtbl := List.mem_filter.mpr ⟨List.mem_of_getElem? (i := 372) (by decide +kernel), by decide +kernel⟩
theorem m373 : (Cond.static yX3_houseBehind) ∈ gtbl := List.mem_filter.mpr ⟨List.mem_of_getElem? (i := 373) (by decide +kernel), by decide +kernel⟩
theorem m374 : (Cond.code yX3_houseBehind cX3_houseBehind 1 (some .int)) ∈ gtbl := List.mem_filter.mpr ⟨List.mem_of_getElem? (i := 374) (by decide +kernel), by decide +kernel⟩
theorem m375 : (Cond.methodLink RX3 75 yX3_captureAcross) ∈ gtbl := List.mem_filter.mpr ⟨List.mem_of_getElem? (i := 375) (by decide +kernel), by decide +kernel⟩
theorem m377 : (Cond.instanceMethod yX3_captureAcross) ∈ gtbl := List.mem_filter.mpr ⟨List.mem_of_getElem? (i := 377) (by decide +kernel), by decide +kernel⟩
theorem m378 : (Cond.code yX3_captureAcross cX3_captureAcross 5 none) ∈ gtbl := List.mem_filter.mpr ⟨List.mem_of_getElem? (i := 378) (by decide +kernel), by decide +kernel⟩
theorem m379 : (Cond.methodLink RX1 59 yX1_valueOf) ∈ gtbl := List.mem_filter.mpr ⟨List.mem_of_getElem? (i := 379) (by decide +kernel), by decide +kernel⟩
theorem m381 : (Cond.instanceMethod yX1_valueOf) ∈ gtbl := List.mem_filter.mpr ⟨List.mem_of_getElem? (i := 381) (by decide +kernel), by decide +kernel⟩
theorem m382 : (Cond.code yX1_valueOf cX1_valueOf 6 (some .int)) ∈ gtbl := List.mem_filter.mpr ⟨List.mem_of_getElem? (i := 382) (by decide +kernel), by decide +kernel⟩
theorem m383 : (Cond.methodLink RX1 45 ⟨"java/lang/Math", "max", "(II)I"⟩) ∈ gtbl := List.mem_filter.mpr ⟨List.mem_of_getElem? (i := 383) (by decide +kernel), by decide +kernel⟩
theorem m384 : (Cond.methodLink RX6 77 yX5_makeMove) ∈ gtbl := List.mem_filter.mpr ⟨List.mem_of_getElem? (i := 384) (by decide +kernel), by decide +kernel⟩
theorem m385 : (Cond.instanceMethod yX5_makeMove) ∈ gtbl := List.mem_filter.mpr ⟨List.mem_of_getElem? (i := 385) (by decide +kernel), by decide +kernel⟩
theorem m386 : (Cond.selects RX5 yX5_makeMove yX5_makeMove) ∈ gtbl := List.mem_filter.mpr ⟨List.mem_of_getElem? (i := 386) (by decide +kernel), by decide +kernel⟩
theorem m387 : (Cond.code yX5_makeMove cX5_makeMove 3 none) ∈ gtbl := List.mem_filter.mpr ⟨List.mem_of_getElem? (i := 387) (by decide +kernel), by decide +kernel⟩
theorem m388 : (Cond.methodLink RX5 57 yX3_makeMove) ∈ gtbl := List.mem_filter.mpr ⟨List.mem_of_getElem? (i := 388) (by decide +kernel), by decide +kernel⟩
theorem m389 : (Cond.methodLink RL 39 yL_other) ∈ gtbl := List.mem_filter.mpr ⟨List.mem_of_getElem? (i := 389) (by decide +kernel), by decide +kernel⟩
theorem m390 : (Cond.static yL_other) ∈ gtbl := List.mem_filter.mpr ⟨List.mem_of_getElem? (i := 390) (by decide +kernel), by decide +kernel⟩
theorem m391 : (Cond.code yL_other cL_other 1 (some .int)) ∈ gtbl := List.mem_filter.mpr ⟨List.mem_of_getElem? (i := 391) (by decide +kernel), by decide +kernel⟩
theorem m392 : (Cond.methodLink RL 45 yX6_undo) ∈ gtbl := List.mem_filter.mpr ⟨List.mem_of_getElem? (i := 392) (by decide +kernel), by decide +kernel⟩
theorem m393 : (Cond.instanceMethod yX6_undo) ∈ gtbl := List.mem_filter.mpr ⟨List.mem_of_getElem? (i := 393) (by decide +kernel), by decide +kernel⟩
theorem m394 : (Cond.selects RX6 yX6_undo yX6_undo) ∈ gtbl := List.mem_filter.mpr ⟨List.mem_of_getElem? (i := 394) (by decide +kernel), by decide +kernel⟩
theorem m395 : (Cond.code yX6_undo cX6_undo 1 (some .int)) ∈ gtbl := List.mem_filter.mpr ⟨List.mem_of_getElem? (i := 395) (by decide +kernel), by decide +kernel⟩
theorem m396 : (Cond.methodLink RX6 190 yX0_takeBack) ∈ gtbl := List.mem_filter.mpr ⟨List.mem_of_getElem? (i := 396) (by decide +kernel), by decide +kernel⟩
theorem m397 : (Cond.instanceMethod yX0_takeBack) ∈ gtbl := List.mem_filter.mpr ⟨List.mem_of_getElem? (i := 397) (by decide +kernel), by decide +kernel⟩
theorem m398 : (Cond.selects RX0 yX0_takeBack yX0_takeBack) ∈ gtbl := List.mem_filter.mpr ⟨List.mem_of_getElem? (i := 398) (by decide +kernel), by decide +kernel⟩
theorem m399 : (Cond.code yX0_takeBack cX0_takeBack 2 none) ∈ gtbl := List.mem_filter.mpr ⟨List.mem_of_getElem? (i := 399) (by decide +kernel), by decide +kernel⟩
theorem m400 : (Cond.methodLink RL 48 yX6_move) ∈ gtbl := List.mem_filter.mpr ⟨List.mem_of_getElem? (i := 400) (by decide +kernel), by decide +kernel⟩
theorem m401 : (Cond.instanceMethod yX6_move) ∈ gtbl := List.mem_filter.mpr ⟨List.mem_of_getElem? (i := 401) (by decide +kernel), by decide +kernel⟩
theorem m402 : (Cond.selects RX6 yX6_move yX6_move) ∈ gtbl := List.mem_filter.mpr ⟨List.mem_of_getElem? (i := 402) (by decide +kernel), by decide +kernel⟩
theorem m403 : (Cond.code yX6_move cX6_move 3 (some .int)) ∈ gtbl := List.mem_filter.mpr ⟨List.mem_of_getElem? (i := 403) (by decide +kernel), by decide +kernel⟩
theorem m404 : (Cond.methodLink RX6 73 yX6_errorOfMove) ∈ gtbl := List.mem_filter.mpr ⟨List.mem_of_getElem? (i := 404) (by decide +kernel), by decide +kernel⟩
theorem m406 : (Cond.instanceMethod yX6_errorOfMove) ∈ gtbl := List.mem_filter.mpr ⟨List.mem_of_getElem? (i := 406) (by decide +kernel), by decide +kernel⟩
theorem m407 : (Cond.code yX6_errorOfMove cX6_errorOfMove 2 (some .int)) ∈ gtbl := List.mem_filter.mpr ⟨List.mem_of_getElem? (i := 407) (by decide +kernel), by decide +kernel⟩
theorem m408 : (Cond.methodLink RX6 110 yX6_isHouse) ∈ gtbl := List.mem_filter.mpr ⟨List.mem_of_getElem? (i := 408) (by decide +kernel), by decide +kernel⟩
theorem m409 : (Cond.static yX6_isHouse) ∈ gtbl := List.mem_filter.mpr ⟨List.mem_of_getElem? (i := 409) (by decide +kernel), by decide +kernel⟩
theorem m410 : (Cond.code yX6_isHouse cX6_isHouse 1 (some .boolean)) ∈ gtbl := List.mem_filter.mpr ⟨List.mem_of_getElem? (i := 410) (by decide +kernel), by decide +kernel⟩
theorem m411 : (Cond.methodLink RX6 198 yX3_canMoveFrom) ∈ gtbl := List.mem_filter.mpr ⟨List.mem_of_getElem? (i := 411) (by decide +kernel), by decide +kernel⟩
theorem m412 : (Cond.methodLink RL 85 yL_areAlike) ∈ gtbl := List.mem_filter.mpr ⟨List.mem_of_getElem? (i := 412) (by decide +kernel), by decide +kernel⟩
theorem m413 : (Cond.static yL_areAlike) ∈ gtbl := List.mem_filter.mpr ⟨List.mem_of_getElem? (i := 413) (by decide +kernel), by decide +kernel⟩
theorem m414 : (Cond.code yL_areAlike cL_areAlike 9 (some .boolean)) ∈ gtbl := List.mem_filter.mpr ⟨List.mem_of_getElem? (i := 414) (by decide +kernel), by decide +kernel⟩
theorem m415 : (Cond.methodLink RL 51 yL_turned) ∈ gtbl := List.mem_filter.mpr ⟨List.mem_of_getElem? (i := 415) (by decide +kernel), by decide +kernel⟩
theorem m416 : (Cond.static yL_turned) ∈ gtbl := List.mem_filter.mpr ⟨List.mem_of_getElem? (i := 416) (by decide +kernel), by decide +kernel⟩
theorem m417 : (Cond.code yL_turned cL_turned 1 (some .int)) ∈ gtbl := List.mem_filter.mpr ⟨List.mem_of_getElem? (i := 417) (by decide +kernel), by decide +kernel⟩
theorem m418 : (Cond.methodLink RL 54 yX6_house) ∈ gtbl := List.mem_filter.mpr ⟨List.mem_of_getElem? (i := 418) (by decide +kernel), by decide +kernel⟩
theorem m419 : (Cond.instanceMethod yX6_house) ∈ gtbl := List.mem_filter.mpr ⟨List.mem_of_getElem? (i := 419) (by decide +kernel), by decide +kernel⟩
theorem m420 : (Cond.selects RX6 yX6_house yX6_house) ∈ gtbl := List.mem_filter.mpr ⟨List.mem_of_getElem? (i := 420) (by decide +kernel), by decide +kernel⟩
theorem m421 : (Cond.code yX6_house cX6_house 3 (some .int)) ∈ gtbl := List.mem_filter.mpr ⟨List.mem_of_getElem? (i := 421) (by decide +kernel), by decide +kernel⟩
theorem m422 : (Cond.methodLink RX6 120 yX3_isHostile) ∈ gtbl := List.mem_filter.mpr ⟨List.mem_of_getElem? (i := 422) (by decide +kernel), by decide +kernel⟩
theorem m423 : (Cond.methodLink RL 57 yX6_ifMove) ∈ gtbl := List.mem_filter.mpr ⟨List.mem_of_getElem? (i := 423) (by decide +kernel), by decide +kernel⟩
theorem m424 : (Cond.instanceMethod yX6_ifMove) ∈ gtbl := List.mem_filter.mpr ⟨List.mem_of_getElem? (i := 424) (by decide +kernel), by decide +kernel⟩
theorem m425 : (Cond.selects RX6 yX6_ifMove yX6_ifMove) ∈ gtbl := List.mem_filter.mpr ⟨List.mem_of_getElem? (i := 425) (by decide +kernel), by decide +kernel⟩
theorem m426 : (Cond.code yX6_ifMove cX6_ifMove 6 (some .int)) ∈ gtbl := List.mem_filter.mpr ⟨List.mem_of_getElem? (i := 426) (by decide +kernel), by decide +kernel⟩
theorem m427 : (Cond.methodLink RX6 165 yX3_copyFrom) ∈ gtbl := List.mem_filter.mpr ⟨List.mem_of_getElem? (i := 427) (by decide +kernel), by decide +kernel⟩
theorem m428 : (Cond.methodLink RX6 169 yX3_makeMove) ∈ gtbl := List.mem_filter.mpr ⟨List.mem_of_getElem? (i := 428) (by decide +kernel), by decide +kernel⟩
theorem m429 : (Cond.methodLink RX6 172 yX6_storeGain) ∈ gtbl := List.mem_filter.mpr ⟨List.mem_of_getElem? (i := 429) (by decide +kernel), by decide +kernel⟩
theorem m430 : (Cond.static yX6_storeGain) ∈ gtbl := List.mem_filter.mpr ⟨List.mem_of_getElem? (i := 430) (by decide +kernel), by decide +kernel⟩
theorem m431 : (Cond.code yX6_storeGain cX6_storeGain 2 (some .int)) ∈ gtbl := List.mem_filter.mpr ⟨List.mem_of_getElem? (i := 431) (by decide +kernel), by decide +kernel⟩
theorem m432 : (Cond.methodLink RL 60 yX6_last) ∈ gtbl := List.mem_filter.mpr ⟨List.mem_of_getElem? (i := 432) (by decide +kernel), by decide +kernel⟩
theorem m433 : (Cond.instanceMethod yX6_last) ∈ gtbl := List.mem_filter.mpr ⟨List.mem_of_getElem? (i := 433) (by decide +kernel), by decide +kernel⟩
theorem m434 : (Cond.selects RX6 yX6_last yX6_last) ∈ gtbl := List.mem_filter.mpr ⟨List.mem_of_getElem? (i := 434) (by decide +kernel), by decide +kernel⟩
theorem m435 : (Cond.code yX6_last cX6_last 2 (some .int)) ∈ gtbl := List.mem_filter.mpr ⟨List.mem_of_getElem? (i := 435) (by decide +kernel), by decide +kernel⟩
theorem m436 : (Cond.methodLink RL 63 yX6_worth) ∈ gtbl := List.mem_filter.mpr ⟨List.mem_of_getElem? (i := 436) (by decide +kernel), by decide +kernel⟩
theorem m437 : (Cond.instanceMethod yX6_worth) ∈ gtbl := List.mem_filter.mpr ⟨List.mem_of_getElem? (i := 437) (by decide +kernel), by decide +kernel⟩
theorem m438 : (Cond.selects RX6 yX6_worth yX6_worth) ∈ gtbl := List.mem_filter.mpr ⟨List.mem_of_getElem? (i := 438) (by decide +kernel), by decide +kernel⟩
theorem m439 : (Cond.code yX6_worth cX6_worth 2 (some .int)) ∈ gtbl := List.mem_filter.mpr ⟨List.mem_of_getElem? (i := 439) (by decide +kernel), by decide +kernel⟩
theorem m441 : (Cond.methodLink RL 66 yX6_best) ∈ gtbl := List.mem_filter.mpr ⟨List.mem_of_getElem? (i := 441) (by decide +kernel), by decide +kernel⟩
theorem m442 : (Cond.instanceMethod yX6_best) ∈ gtbl := List.mem_filter.mpr ⟨List.mem_of_getElem? (i := 442) (by decide +kernel), by decide +kernel⟩
theorem m443 : (Cond.selects RX6 yX6_best yX6_best) ∈ gtbl := List.mem_filter.mpr ⟨List.mem_of_getElem? (i := 443) (by decide +kernel), by decide +kernel⟩
theorem m444 : (Cond.code yX6_best cX6_best 2 (some .int)) ∈ gtbl := List.mem_filter.mpr ⟨List.mem_of_getElem? (i := 444) (by decide +kernel), by decide +kernel⟩
theorem m445 : (Cond.methodLink RL 88 yL_isBest) ∈ gtbl := List.mem_filter.mpr ⟨List.mem_of_getElem? (i := 445) (by decide +kernel), by decide +kernel⟩
theorem m446 : (Cond.static yL_isBest) ∈ gtbl := List.mem_filter.mpr ⟨List.mem_of_getElem? (i := 446) (by decide +kernel), by decide +kernel⟩
theorem m447 : (Cond.code yL_isBest cL_isBest 7 (some .boolean)) ∈ gtbl := List.mem_filter.mpr ⟨List.mem_of_getElem? (i := 447) (by decide +kernel), by decide +kernel⟩
theorem m448 : (Cond.methodLink RL 69 yX6_movesLeft) ∈ gtbl := List.mem_filter.mpr ⟨List.mem_of_getElem? (i := 448) (by decide +kernel), by decide +kernel⟩
theorem m449 : (Cond.instanceMethod yX6_movesLeft) ∈ gtbl := List.mem_filter.mpr ⟨List.mem_of_getElem? (i := 449) (by decide +kernel), by decide +kernel⟩
theorem m450 : (Cond.selects RX6 yX6_movesLeft yX6_movesLeft) ∈ gtbl := List.mem_filter.mpr ⟨List.mem_of_getElem? (i := 450) (by decide +kernel), by decide +kernel⟩
theorem m451 : (Cond.code yX6_movesLeft cX6_movesLeft 2 (some .int)) ∈ gtbl := List.mem_filter.mpr ⟨List.mem_of_getElem? (i := 451) (by decide +kernel), by decide +kernel⟩
theorem m452 : (Cond.methodLink RX6 179 yX1_movesToTheEnd) ∈ gtbl := List.mem_filter.mpr ⟨List.mem_of_getElem? (i := 452) (by decide +kernel), by decide +kernel⟩
theorem m453 : (Cond.instanceMethod yX1_movesToTheEnd) ∈ gtbl := List.mem_filter.mpr ⟨List.mem_of_getElem? (i := 453) (by decide +kernel), by decide +kernel⟩
theorem m454 : (Cond.selects RX1 yX1_movesToTheEnd yX1_movesToTheEnd) ∈ gtbl := List.mem_filter.mpr ⟨List.mem_of_getElem? (i := 454) (by decide +kernel), by decide +kernel⟩
theorem m455 : (Cond.code yX1_movesToTheEnd cX1_movesToTheEnd 6 (some .int)) ∈ gtbl := List.mem_filter.mpr ⟨List.mem_of_getElem? (i := 455) (by decide +kernel), by decide +kernel⟩
theorem m456 : (Cond.methodLink RX1 67 yX1_bestHouse) ∈ gtbl := List.mem_filter.mpr ⟨List.mem_of_getElem? (i := 456) (by decide +kernel), by decide +kernel⟩
theorem gX0 : ∀ w ∈ u_ws RX0 TX0 3, w ∈ gtbl := by decide +kernel
theorem gX1 : ∀ w ∈ u_ws RX1 TX1 3, w ∈ gtbl := by decide +kernel
theorem gX2 : ∀ w ∈ u_ws RX2 TX2 3, w ∈ gtbl := by decide +kernel
theorem gX3 : ∀ w ∈ u_ws RX3 TX3 6, w ∈ gtbl := by decide +kernel
theorem gX4 : ∀ w ∈ u_ws RX4 TX4 5, w ∈ gtbl := by decide +kernel
theorem gX5 : ∀ w ∈ u_ws RX5 TX5 4, w ∈ gtbl := by decide +kernel
theorem gX6 : ∀ w ∈ u_ws RX6 TX6 6, w ∈ gtbl := by decide +kernel

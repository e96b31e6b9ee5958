/-- the words that a callee keeps: every method here needs these, its own code first -/
def gtbl : List Cond := lw_tbl.filter goodWord
theorem m0 : (Cond.selects RX3 yX3_startGame yX3_startGame) ∈ gtbl := List.mem_filter.mpr ⟨List.mem_of_getElem? (i := 0) (by decide +kernel), by decide +kernel⟩
theorem m1 : (Cond.selects RX6 yX6_errorOfMove yX6_errorOfMove) ∈ gtbl := List.mem_filter.mpr ⟨List.mem_of_getElem? (i := 1) (by decide +kernel), by decide +kernel⟩
theorem m2 : (Cond.selects RX3 yX3_sowLap yX3_sowLap) ∈ gtbl := List.mem_filter.mpr ⟨List.mem_of_getElem? (i := 2) (by decide +kernel), by decide +kernel⟩
theorem m3 : (Cond.selects RX3 yX3_sowHand yX3_sowHand) ∈ gtbl := List.mem_filter.mpr ⟨List.mem_of_getElem? (i := 3) (by decide +kernel), by decide +kernel⟩
theorem m4 : (Cond.selects RX3 yX3_captureAcross yX3_captureAcross) ∈ gtbl := List.mem_filter.mpr ⟨List.mem_of_getElem? (i := 4) (by decide +kernel), by decide +kernel⟩
theorem m5 : (Cond.selects RX3 yX3_giveTurnTo yX3_giveTurnTo) ∈ gtbl := List.mem_filter.mpr ⟨List.mem_of_getElem? (i := 5) (by decide +kernel), by decide +kernel⟩
theorem m6 : (Cond.selects RX3 yX3_isDecided yX3_isDecided) ∈ gtbl := List.mem_filter.mpr ⟨List.mem_of_getElem? (i := 6) (by decide +kernel), by decide +kernel⟩
theorem m7 : (Cond.selects RX1 yX1_valueBehind yX1_valueBehind) ∈ gtbl := List.mem_filter.mpr ⟨List.mem_of_getElem? (i := 7) (by decide +kernel), by decide +kernel⟩
theorem m8 : (Cond.selects RX1 yX1_valueOf yX1_valueOf) ∈ gtbl := List.mem_filter.mpr ⟨List.mem_of_getElem? (i := 8) (by decide +kernel), by decide +kernel⟩
theorem m9 : (Cond.selects RX2 yX2_digitFits yX2_digitFits) ∈ gtbl := List.mem_filter.mpr ⟨List.mem_of_getElem? (i := 9) (by decide +kernel), by decide +kernel⟩
theorem m10 : (Cond.selects RX7 yX7_anew yX7_anew) ∈ gtbl := List.mem_filter.mpr ⟨List.mem_of_getElem? (i := 10) (by decide +kernel), by decide +kernel⟩
theorem m11 : (Cond.selects RX7 yX7_empties yX7_empties) ∈ gtbl := List.mem_filter.mpr ⟨List.mem_of_getElem? (i := 11) (by decide +kernel), by decide +kernel⟩
theorem m12 : (Cond.selects RX7 yX7_record yX7_record) ∈ gtbl := List.mem_filter.mpr ⟨List.mem_of_getElem? (i := 12) (by decide +kernel), by decide +kernel⟩
theorem m13 : (Cond.selects RX7 yX7_makes yX7_makes) ∈ gtbl := List.mem_filter.mpr ⟨List.mem_of_getElem? (i := 13) (by decide +kernel), by decide +kernel⟩
theorem m14 : (Cond.selects RX7 yX7_copy yX7_copy) ∈ gtbl := List.mem_filter.mpr ⟨List.mem_of_getElem? (i := 14) (by decide +kernel), by decide +kernel⟩
theorem m15 : (Cond.selects RX7 yX7_bestOf yX7_bestOf) ∈ gtbl := List.mem_filter.mpr ⟨List.mem_of_getElem? (i := 15) (by decide +kernel), by decide +kernel⟩
theorem m16 : (Cond.selects RX7 yX7_worthOf yX7_worthOf) ∈ gtbl := List.mem_filter.mpr ⟨List.mem_of_getElem? (i := 16) (by decide +kernel), by decide +kernel⟩
theorem m17 : (Cond.selects RX7 yX7_ahead yX7_ahead) ∈ gtbl := List.mem_filter.mpr ⟨List.mem_of_getElem? (i := 17) (by decide +kernel), by decide +kernel⟩
theorem m18 : (Cond.selects RX7 yX7_faultOf yX7_faultOf) ∈ gtbl := List.mem_filter.mpr ⟨List.mem_of_getElem? (i := 18) (by decide +kernel), by decide +kernel⟩
theorem m19 : (Cond.selects RX7 yX7_readsNumber yX7_readsNumber) ∈ gtbl := List.mem_filter.mpr ⟨List.mem_of_getElem? (i := 19) (by decide +kernel), by decide +kernel⟩
theorem m20 : (Cond.selects RX7 yX7_isDigit yX7_isDigit) ∈ gtbl := List.mem_filter.mpr ⟨List.mem_of_getElem? (i := 20) (by decide +kernel), by decide +kernel⟩
theorem m21 : (Cond.selects RX7 yX7_takes yX7_takes) ∈ gtbl := List.mem_filter.mpr ⟨List.mem_of_getElem? (i := 21) (by decide +kernel), by decide +kernel⟩
theorem m22 : (Cond.selects RX7 yX7_winner yX7_winner) ∈ gtbl := List.mem_filter.mpr ⟨List.mem_of_getElem? (i := 22) (by decide +kernel), by decide +kernel⟩
theorem m23 : (Cond.selects RX7 yX7_hostiles yX7_hostiles) ∈ gtbl := List.mem_filter.mpr ⟨List.mem_of_getElem? (i := 23) (by decide +kernel), by decide +kernel⟩
theorem m24 : (Cond.initialized RL) ∈ gtbl := List.mem_filter.mpr ⟨List.mem_of_getElem? (i := 24) (by decide +kernel), by decide +kernel⟩
theorem m25 : (Cond.initialized RX6) ∈ gtbl := List.mem_filter.mpr ⟨List.mem_of_getElem? (i := 25) (by decide +kernel), by decide +kernel⟩
theorem m26 : (Cond.initialized RX5) ∈ gtbl := List.mem_filter.mpr ⟨List.mem_of_getElem? (i := 26) (by decide +kernel), by decide +kernel⟩
theorem m27 : (Cond.initialized RX3) ∈ gtbl := List.mem_filter.mpr ⟨List.mem_of_getElem? (i := 27) (by decide +kernel), by decide +kernel⟩
theorem m28 : (Cond.initialized RX4) ∈ gtbl := List.mem_filter.mpr ⟨List.mem_of_getElem? (i := 28) (by decide +kernel), by decide +kernel⟩
theorem m29 : (Cond.initialized RX0) ∈ gtbl := List.mem_filter.mpr ⟨List.mem_of_getElem? (i := 29) (by decide +kernel), by decide +kernel⟩
theorem m30 : (Cond.initialized RX2) ∈ gtbl := List.mem_filter.mpr ⟨List.mem_of_getElem? (i := 30) (by decide +kernel), by decide +kernel⟩
theorem m31 : (Cond.initialized RX1) ∈ gtbl := List.mem_filter.mpr ⟨List.mem_of_getElem? (i := 31) (by decide +kernel), by decide +kernel⟩
theorem m32 : (Cond.initialized RX7) ∈ gtbl := List.mem_filter.mpr ⟨List.mem_of_getElem? (i := 32) (by decide +kernel), by decide +kernel⟩
theorem m33 : (Cond.initialized "java/lang/System") ∈ gtbl := List.mem_filter.mpr ⟨List.mem_of_getElem? (i := 33) (by decide +kernel), by decide +kernel⟩
theorem m34 : (Cond.initialized "java/lang/Math") ∈ gtbl := List.mem_filter.mpr ⟨List.mem_of_getElem? (i := 34) (by decide +kernel), by decide +kernel⟩
theorem m35 : (Cond.classLink RL 7 RX6) ∈ gtbl := List.mem_filter.mpr ⟨List.mem_of_getElem? (i := 35) (by decide +kernel), by decide +kernel⟩
theorem m36 : (Cond.instantiable RX6 6) ∈ gtbl := List.mem_filter.mpr ⟨List.mem_of_getElem? (i := 36) (by decide +kernel), by decide +kernel⟩
theorem m37 : (Cond.methodLink RL 9 yX6_init) ∈ gtbl := List.mem_filter.mpr ⟨List.mem_of_getElem? (i := 37) (by decide +kernel), by decide +kernel⟩
theorem m38 : (Cond.instanceMethod yX6_init) ∈ gtbl := List.mem_filter.mpr ⟨List.mem_of_getElem? (i := 38) (by decide +kernel), by decide +kernel⟩
theorem m39 : (Cond.code yX6_init cX6_init 2 none) ∈ gtbl := List.mem_filter.mpr ⟨List.mem_of_getElem? (i := 39) (by decide +kernel), by decide +kernel⟩
theorem m40 : (Cond.methodLink RX6 3 objectInit) ∈ gtbl := List.mem_filter.mpr ⟨List.mem_of_getElem? (i := 40) (by decide +kernel), by decide +kernel⟩
theorem m41 : (Cond.instanceMethod objectInit) ∈ gtbl := List.mem_filter.mpr ⟨List.mem_of_getElem? (i := 41) (by decide +kernel), by decide +kernel⟩
theorem m42 : (Cond.code objectInit object_method_1_code 1 none) ∈ gtbl := List.mem_filter.mpr ⟨List.mem_of_getElem? (i := 42) (by decide +kernel), by decide +kernel⟩
theorem m43 : (Cond.classLink RX6 9 RX5) ∈ gtbl := List.mem_filter.mpr ⟨List.mem_of_getElem? (i := 43) (by decide +kernel), by decide +kernel⟩
theorem m44 : (Cond.instantiable RX5 4) ∈ gtbl := List.mem_filter.mpr ⟨List.mem_of_getElem? (i := 44) (by decide +kernel), by decide +kernel⟩
theorem m46 : (Cond.instanceMethod yX5_init) ∈ gtbl := List.mem_filter.mpr ⟨List.mem_of_getElem? (i := 46) (by decide +kernel), by decide +kernel⟩
theorem m47 : (Cond.code yX5_init cX5_init 1 none) ∈ gtbl := List.mem_filter.mpr ⟨List.mem_of_getElem? (i := 47) (by decide +kernel), by decide +kernel⟩
theorem m48 : (Cond.methodLink RX5 3 objectInit) ∈ gtbl := List.mem_filter.mpr ⟨List.mem_of_getElem? (i := 48) (by decide +kernel), by decide +kernel⟩
theorem m49 : (Cond.classLink RX5 9 RX3) ∈ gtbl := List.mem_filter.mpr ⟨List.mem_of_getElem? (i := 49) (by decide +kernel), by decide +kernel⟩
theorem m50 : (Cond.instantiable RX3 6) ∈ gtbl := List.mem_filter.mpr ⟨List.mem_of_getElem? (i := 50) (by decide +kernel), by decide +kernel⟩
theorem m52 : (Cond.instanceMethod yX3_init) ∈ gtbl := List.mem_filter.mpr ⟨List.mem_of_getElem? (i := 52) (by decide +kernel), by decide +kernel⟩
theorem m53 : (Cond.code yX3_init cX3_init 1 none) ∈ gtbl := List.mem_filter.mpr ⟨List.mem_of_getElem? (i := 53) (by decide +kernel), by decide +kernel⟩
theorem m54 : (Cond.methodLink RX3 3 objectInit) ∈ gtbl := List.mem_filter.mpr ⟨List.mem_of_getElem? (i := 54) (by decide +kernel), by decide +kernel⟩
theorem m55 : (Cond.fieldLink RX3 9 "HostileHouses$Position" "seeds" "[I") ∈ gtbl := List.mem_filter.mpr ⟨List.mem_of_getElem? (i := 55) (by decide +kernel), by decide +kernel⟩
theorem m56 : (Cond.fieldLink RX6 114 "HostileHouses$Position" "seeds" "[I") ∈ gtbl := List.mem_filter.mpr ⟨List.mem_of_getElem? (i := 56) (by decide +kernel), by decide +kernel⟩
theorem m57 : (Cond.fieldLink RX3 15 "HostileHouses$Position" "visits" "[I") ∈ gtbl := List.mem_filter.mpr ⟨List.mem_of_getElem? (i := 57) (by decide +kernel), by decide +kernel⟩
theorem m58 : (Cond.fieldLink RX6 117 "HostileHouses$Position" "visits" "[I") ∈ gtbl := List.mem_filter.mpr ⟨List.mem_of_getElem? (i := 58) (by decide +kernel), by decide +kernel⟩
theorem m59 : (Cond.fieldLink RX3 18 "HostileHouses$Position" "stores" "[I") ∈ gtbl := List.mem_filter.mpr ⟨List.mem_of_getElem? (i := 59) (by decide +kernel), by decide +kernel⟩
theorem m60 : (Cond.fieldLink RX6 134 "HostileHouses$Position" "stores" "[I") ∈ gtbl := List.mem_filter.mpr ⟨List.mem_of_getElem? (i := 60) (by decide +kernel), by decide +kernel⟩
theorem m61 : (Cond.fieldLink RX3 27 "HostileHouses$Position" "player" "I") ∈ gtbl := List.mem_filter.mpr ⟨List.mem_of_getElem? (i := 61) (by decide +kernel), by decide +kernel⟩
theorem m62 : (Cond.fieldLink RX1 63 "HostileHouses$Position" "player" "I") ∈ gtbl := List.mem_filter.mpr ⟨List.mem_of_getElem? (i := 62) (by decide +kernel), by decide +kernel⟩
theorem m63 : (Cond.fieldLink RX6 124 "HostileHouses$Position" "player" "I") ∈ gtbl := List.mem_filter.mpr ⟨List.mem_of_getElem? (i := 63) (by decide +kernel), by decide +kernel⟩
theorem m64 : (Cond.fieldLink RX1 29 "HostileHouses$Position" "over" "Z") ∈ gtbl := List.mem_filter.mpr ⟨List.mem_of_getElem? (i := 64) (by decide +kernel), by decide +kernel⟩
theorem m65 : (Cond.fieldLink RX3 31 "HostileHouses$Position" "over" "Z") ∈ gtbl := List.mem_filter.mpr ⟨List.mem_of_getElem? (i := 65) (by decide +kernel), by decide +kernel⟩
theorem m66 : (Cond.fieldLink RX6 127 "HostileHouses$Position" "over" "Z") ∈ gtbl := List.mem_filter.mpr ⟨List.mem_of_getElem? (i := 66) (by decide +kernel), by decide +kernel⟩
theorem m67 : (Cond.fieldLink RX3 35 "HostileHouses$Position" "moves" "I") ∈ gtbl := List.mem_filter.mpr ⟨List.mem_of_getElem? (i := 67) (by decide +kernel), by decide +kernel⟩
theorem m68 : (Cond.fieldLink RX5 53 "HostileHouses$Position" "moves" "I") ∈ gtbl := List.mem_filter.mpr ⟨List.mem_of_getElem? (i := 68) (by decide +kernel), by decide +kernel⟩
theorem m69 : (Cond.fieldLink RX6 69 "HostileHouses$Position" "moves" "I") ∈ gtbl := List.mem_filter.mpr ⟨List.mem_of_getElem? (i := 69) (by decide +kernel), by decide +kernel⟩
theorem m83 : (Cond.arrayClass Jvm.ClassFile.FieldType.int) ∈ gtbl := List.mem_filter.mpr ⟨List.mem_of_getElem? (i := 83) (by decide +kernel), by decide +kernel⟩
theorem m86 : (Cond.methodLink RX5 22 ⟨"[I", "clone", "()Ljava/lang/Object;"⟩) ∈ gtbl := List.mem_filter.mpr ⟨List.mem_of_getElem? (i := 86) (by decide +kernel), by decide +kernel⟩
theorem m87 : (Cond.sameMethod "[I" "java/lang/Object" "clone" "()Ljava/lang/Object;") ∈ gtbl := List.mem_filter.mpr ⟨List.mem_of_getElem? (i := 87) (by decide +kernel), by decide +kernel⟩
theorem m88 : (Cond.native ⟨"java/lang/Object", "clone", "()Ljava/lang/Object;"⟩) ∈ gtbl := List.mem_filter.mpr ⟨List.mem_of_getElem? (i := 88) (by decide +kernel), by decide +kernel⟩
theorem m89 : (Cond.instanceMethod ⟨"java/lang/Object", "clone", "()Ljava/lang/Object;"⟩) ∈ gtbl := List.mem_filter.mpr ⟨List.mem_of_getElem? (i := 89) (by decide +kernel), by decide +kernel⟩
theorem m90 : (Cond.selects "[I" ⟨"[I", "clone", "()Ljava/lang/Object;"⟩ ⟨"java/lang/Object", "clone", "()Ljava/lang/Object;"⟩) ∈ gtbl := List.mem_filter.mpr ⟨List.mem_of_getElem? (i := 90) (by decide +kernel), by decide +kernel⟩
theorem m92 : (Cond.classLink RX5 23 "[I") ∈ gtbl := List.mem_filter.mpr ⟨List.mem_of_getElem? (i := 92) (by decide +kernel), by decide +kernel⟩
theorem m93 : (Cond.classLink RX5 30 RX4) ∈ gtbl := List.mem_filter.mpr ⟨List.mem_of_getElem? (i := 93) (by decide +kernel), by decide +kernel⟩
theorem m94 : (Cond.instantiable RX4 5) ∈ gtbl := List.mem_filter.mpr ⟨List.mem_of_getElem? (i := 94) (by decide +kernel), by decide +kernel⟩
theorem m96 : (Cond.instanceMethod yX4_init) ∈ gtbl := List.mem_filter.mpr ⟨List.mem_of_getElem? (i := 96) (by decide +kernel), by decide +kernel⟩
theorem m97 : (Cond.code yX4_init cX4_init 1 none) ∈ gtbl := List.mem_filter.mpr ⟨List.mem_of_getElem? (i := 97) (by decide +kernel), by decide +kernel⟩
theorem m98 : (Cond.methodLink RX4 1 objectInit) ∈ gtbl := List.mem_filter.mpr ⟨List.mem_of_getElem? (i := 98) (by decide +kernel), by decide +kernel⟩
theorem m99 : (Cond.fieldLink RX4 7 "HostileHouses$Report" "from" "I") ∈ gtbl := List.mem_filter.mpr ⟨List.mem_of_getElem? (i := 99) (by decide +kernel), by decide +kernel⟩
theorem m100 : (Cond.fieldLink RX6 144 "HostileHouses$Report" "from" "I") ∈ gtbl := List.mem_filter.mpr ⟨List.mem_of_getElem? (i := 100) (by decide +kernel), by decide +kernel⟩
theorem m101 : (Cond.fieldLink RX4 13 "HostileHouses$Report" "laps" "I") ∈ gtbl := List.mem_filter.mpr ⟨List.mem_of_getElem? (i := 101) (by decide +kernel), by decide +kernel⟩
theorem m102 : (Cond.fieldLink RX6 84 "HostileHouses$Report" "laps" "I") ∈ gtbl := List.mem_filter.mpr ⟨List.mem_of_getElem? (i := 102) (by decide +kernel), by decide +kernel⟩
theorem m103 : (Cond.fieldLink RX3 72 "HostileHouses$Report" "laps" "I") ∈ gtbl := List.mem_filter.mpr ⟨List.mem_of_getElem? (i := 103) (by decide +kernel), by decide +kernel⟩
theorem m104 : (Cond.fieldLink RX4 16 "HostileHouses$Report" "lastHouse" "I") ∈ gtbl := List.mem_filter.mpr ⟨List.mem_of_getElem? (i := 104) (by decide +kernel), by decide +kernel⟩
theorem m105 : (Cond.fieldLink RX6 147 "HostileHouses$Report" "lastHouse" "I") ∈ gtbl := List.mem_filter.mpr ⟨List.mem_of_getElem? (i := 105) (by decide +kernel), by decide +kernel⟩
theorem m106 : (Cond.fieldLink RX3 61 "HostileHouses$Report" "lastHouse" "I") ∈ gtbl := List.mem_filter.mpr ⟨List.mem_of_getElem? (i := 106) (by decide +kernel), by decide +kernel⟩
theorem m107 : (Cond.fieldLink RX4 19 "HostileHouses$Report" "captured" "I") ∈ gtbl := List.mem_filter.mpr ⟨List.mem_of_getElem? (i := 107) (by decide +kernel), by decide +kernel⟩
theorem m108 : (Cond.fieldLink RX6 150 "HostileHouses$Report" "captured" "I") ∈ gtbl := List.mem_filter.mpr ⟨List.mem_of_getElem? (i := 108) (by decide +kernel), by decide +kernel⟩
theorem m109 : (Cond.fieldLink RX3 91 "HostileHouses$Report" "captured" "I") ∈ gtbl := List.mem_filter.mpr ⟨List.mem_of_getElem? (i := 109) (by decide +kernel), by decide +kernel⟩
theorem m110 : (Cond.fieldLink RX4 22 "HostileHouses$Report" "tolls" "I") ∈ gtbl := List.mem_filter.mpr ⟨List.mem_of_getElem? (i := 110) (by decide +kernel), by decide +kernel⟩
theorem m111 : (Cond.fieldLink RX6 153 "HostileHouses$Report" "tolls" "I") ∈ gtbl := List.mem_filter.mpr ⟨List.mem_of_getElem? (i := 111) (by decide +kernel), by decide +kernel⟩
theorem m112 : (Cond.fieldLink RX3 88 "HostileHouses$Report" "tolls" "I") ∈ gtbl := List.mem_filter.mpr ⟨List.mem_of_getElem? (i := 112) (by decide +kernel), by decide +kernel⟩
theorem m124 : (Cond.fieldLink RX5 12 "HostileHouses$State" "position" "LHostileHouses$Position;") ∈ gtbl := List.mem_filter.mpr ⟨List.mem_of_getElem? (i := 124) (by decide +kernel), by decide +kernel⟩
theorem m125 : (Cond.fieldLink RX6 45 "HostileHouses$State" "position" "LHostileHouses$Position;") ∈ gtbl := List.mem_filter.mpr ⟨List.mem_of_getElem? (i := 125) (by decide +kernel), by decide +kernel⟩
theorem m126 : (Cond.fieldLink RX5 27 "HostileHouses$State" "settings" "[I") ∈ gtbl := List.mem_filter.mpr ⟨List.mem_of_getElem? (i := 126) (by decide +kernel), by decide +kernel⟩
theorem m127 : (Cond.fieldLink RX6 49 "HostileHouses$State" "settings" "[I") ∈ gtbl := List.mem_filter.mpr ⟨List.mem_of_getElem? (i := 127) (by decide +kernel), by decide +kernel⟩
theorem m128 : (Cond.fieldLink RX5 33 "HostileHouses$State" "latest" "LHostileHouses$Report;") ∈ gtbl := List.mem_filter.mpr ⟨List.mem_of_getElem? (i := 128) (by decide +kernel), by decide +kernel⟩
theorem m129 : (Cond.fieldLink RX6 80 "HostileHouses$State" "latest" "LHostileHouses$Report;") ∈ gtbl := List.mem_filter.mpr ⟨List.mem_of_getElem? (i := 129) (by decide +kernel), by decide +kernel⟩
theorem m130 : (Cond.fieldLink RX5 37 "HostileHouses$State" "record" "[I") ∈ gtbl := List.mem_filter.mpr ⟨List.mem_of_getElem? (i := 130) (by decide +kernel), by decide +kernel⟩
theorem m131 : (Cond.fieldLink RX6 156 "HostileHouses$State" "record" "[I") ∈ gtbl := List.mem_filter.mpr ⟨List.mem_of_getElem? (i := 131) (by decide +kernel), by decide +kernel⟩
theorem m141 : (Cond.classLink RX6 16 RX0) ∈ gtbl := List.mem_filter.mpr ⟨List.mem_of_getElem? (i := 141) (by decide +kernel), by decide +kernel⟩
theorem m142 : (Cond.instantiable RX0 3) ∈ gtbl := List.mem_filter.mpr ⟨List.mem_of_getElem? (i := 142) (by decide +kernel), by decide +kernel⟩
theorem m143 : (Cond.methodLink RX6 18 yX0_init) ∈ gtbl := List.mem_filter.mpr ⟨List.mem_of_getElem? (i := 143) (by decide +kernel), by decide +kernel⟩
theorem m144 : (Cond.instanceMethod yX0_init) ∈ gtbl := List.mem_filter.mpr ⟨List.mem_of_getElem? (i := 144) (by decide +kernel), by decide +kernel⟩
theorem m145 : (Cond.code yX0_init cX0_init 2 none) ∈ gtbl := List.mem_filter.mpr ⟨List.mem_of_getElem? (i := 145) (by decide +kernel), by decide +kernel⟩
theorem m146 : (Cond.methodLink RX0 3 objectInit) ∈ gtbl := List.mem_filter.mpr ⟨List.mem_of_getElem? (i := 146) (by decide +kernel), by decide +kernel⟩
theorem m147 : (Cond.classLink RX0 9 RX5) ∈ gtbl := List.mem_filter.mpr ⟨List.mem_of_getElem? (i := 147) (by decide +kernel), by decide +kernel⟩
theorem m150 : (Cond.fieldLink RX0 11 "HostileHouses$History" "states" "[LHostileHouses$State;") ∈ gtbl := List.mem_filter.mpr ⟨List.mem_of_getElem? (i := 150) (by decide +kernel), by decide +kernel⟩
theorem m151 : (Cond.fieldLink RX0 18 "HostileHouses$History" "oldest" "I") ∈ gtbl := List.mem_filter.mpr ⟨List.mem_of_getElem? (i := 151) (by decide +kernel), by decide +kernel⟩
theorem m152 : (Cond.fieldLink RX0 22 "HostileHouses$History" "size" "I") ∈ gtbl := List.mem_filter.mpr ⟨List.mem_of_getElem? (i := 152) (by decide +kernel), by decide +kernel⟩
theorem m153 : (Cond.fieldLink RX6 141 "HostileHouses$History" "size" "I") ∈ gtbl := List.mem_filter.mpr ⟨List.mem_of_getElem? (i := 153) (by decide +kernel), by decide +kernel⟩
theorem m161 : (Cond.classLink RX6 31 RX2) ∈ gtbl := List.mem_filter.mpr ⟨List.mem_of_getElem? (i := 161) (by decide +kernel), by decide +kernel⟩
theorem m162 : (Cond.instantiable RX2 3) ∈ gtbl := List.mem_filter.mpr ⟨List.mem_of_getElem? (i := 162) (by decide +kernel), by decide +kernel⟩
theorem m164 : (Cond.instanceMethod yX2_init) ∈ gtbl := List.mem_filter.mpr ⟨List.mem_of_getElem? (i := 164) (by decide +kernel), by decide +kernel⟩
theorem m165 : (Cond.code yX2_init cX2_init 1 none) ∈ gtbl := List.mem_filter.mpr ⟨List.mem_of_getElem? (i := 165) (by decide +kernel), by decide +kernel⟩
theorem m166 : (Cond.methodLink RX2 3 objectInit) ∈ gtbl := List.mem_filter.mpr ⟨List.mem_of_getElem? (i := 166) (by decide +kernel), by decide +kernel⟩
theorem m167 : (Cond.fieldLink RX2 9 "HostileHouses$Pad" "text" "[C") ∈ gtbl := List.mem_filter.mpr ⟨List.mem_of_getElem? (i := 167) (by decide +kernel), by decide +kernel⟩
theorem m168 : (Cond.fieldLink RX2 15 "HostileHouses$Pad" "numbers" "[I") ∈ gtbl := List.mem_filter.mpr ⟨List.mem_of_getElem? (i := 168) (by decide +kernel), by decide +kernel⟩
theorem m169 : (Cond.fieldLink RX6 97 "HostileHouses$Pad" "numbers" "[I") ∈ gtbl := List.mem_filter.mpr ⟨List.mem_of_getElem? (i := 169) (by decide +kernel), by decide +kernel⟩
theorem m170 : (Cond.fieldLink RX2 25 "HostileHouses$Pad" "length" "I") ∈ gtbl := List.mem_filter.mpr ⟨List.mem_of_getElem? (i := 170) (by decide +kernel), by decide +kernel⟩
theorem m171 : (Cond.fieldLink RX6 104 "HostileHouses$Pad" "length" "I") ∈ gtbl := List.mem_filter.mpr ⟨List.mem_of_getElem? (i := 171) (by decide +kernel), by decide +kernel⟩
theorem m179 : (Cond.arrayClass Jvm.ClassFile.FieldType.boolean) ∈ gtbl := List.mem_filter.mpr ⟨List.mem_of_getElem? (i := 179) (by decide +kernel), by decide +kernel⟩
theorem m180 : (Cond.arrayClass Jvm.ClassFile.FieldType.char) ∈ gtbl := List.mem_filter.mpr ⟨List.mem_of_getElem? (i := 180) (by decide +kernel), by decide +kernel⟩
theorem m181 : (Cond.classLink RX6 38 RX1) ∈ gtbl := List.mem_filter.mpr ⟨List.mem_of_getElem? (i := 181) (by decide +kernel), by decide +kernel⟩
theorem m182 : (Cond.instantiable RX1 3) ∈ gtbl := List.mem_filter.mpr ⟨List.mem_of_getElem? (i := 182) (by decide +kernel), by decide +kernel⟩
theorem m183 : (Cond.methodLink RX6 40 yX1_init) ∈ gtbl := List.mem_filter.mpr ⟨List.mem_of_getElem? (i := 183) (by decide +kernel), by decide +kernel⟩
theorem m184 : (Cond.instanceMethod yX1_init) ∈ gtbl := List.mem_filter.mpr ⟨List.mem_of_getElem? (i := 184) (by decide +kernel), by decide +kernel⟩
theorem m185 : (Cond.code yX1_init cX1_init 2 none) ∈ gtbl := List.mem_filter.mpr ⟨List.mem_of_getElem? (i := 185) (by decide +kernel), by decide +kernel⟩
theorem m186 : (Cond.methodLink RX1 3 objectInit) ∈ gtbl := List.mem_filter.mpr ⟨List.mem_of_getElem? (i := 186) (by decide +kernel), by decide +kernel⟩
theorem m187 : (Cond.classLink RX1 9 RX3) ∈ gtbl := List.mem_filter.mpr ⟨List.mem_of_getElem? (i := 187) (by decide +kernel), by decide +kernel⟩
theorem m189 : (Cond.classLink RX1 18 RX4) ∈ gtbl := List.mem_filter.mpr ⟨List.mem_of_getElem? (i := 189) (by decide +kernel), by decide +kernel⟩
theorem m192 : (Cond.fieldLink RX1 12 "HostileHouses$Lookahead" "trial" "LHostileHouses$Position;") ∈ gtbl := List.mem_filter.mpr ⟨List.mem_of_getElem? (i := 192) (by decide +kernel), by decide +kernel⟩
theorem m193 : (Cond.fieldLink RX6 159 "HostileHouses$Lookahead" "trial" "LHostileHouses$Position;") ∈ gtbl := List.mem_filter.mpr ⟨List.mem_of_getElem? (i := 193) (by decide +kernel), by decide +kernel⟩
theorem m194 : (Cond.fieldLink RX1 21 "HostileHouses$Lookahead" "report" "LHostileHouses$Report;") ∈ gtbl := List.mem_filter.mpr ⟨List.mem_of_getElem? (i := 194) (by decide +kernel), by decide +kernel⟩
theorem m195 : (Cond.fieldLink RX6 162 "HostileHouses$Lookahead" "report" "LHostileHouses$Report;") ∈ gtbl := List.mem_filter.mpr ⟨List.mem_of_getElem? (i := 195) (by decide +kernel), by decide +kernel⟩
theorem m196 : (Cond.fieldLink RX1 25 "HostileHouses$Lookahead" "behind" "[LHostileHouses$Position;") ∈ gtbl := List.mem_filter.mpr ⟨List.mem_of_getElem? (i := 196) (by decide +kernel), by decide +kernel⟩
theorem m204 : (Cond.methodLink RX6 53 yX3_fill) ∈ gtbl := List.mem_filter.mpr ⟨List.mem_of_getElem? (i := 204) (by decide +kernel), by decide +kernel⟩
theorem m205 : (Cond.instanceMethod yX3_fill) ∈ gtbl := List.mem_filter.mpr ⟨List.mem_of_getElem? (i := 205) (by decide +kernel), by decide +kernel⟩
theorem m206 : (Cond.selects RX3 yX3_fill yX3_fill) ∈ gtbl := List.mem_filter.mpr ⟨List.mem_of_getElem? (i := 206) (by decide +kernel), by decide +kernel⟩
theorem m207 : (Cond.code yX3_fill cX3_fill 3 none) ∈ gtbl := List.mem_filter.mpr ⟨List.mem_of_getElem? (i := 207) (by decide +kernel), by decide +kernel⟩
theorem m208 : (Cond.methodLink RX3 38 yX3_startGame) ∈ gtbl := List.mem_filter.mpr ⟨List.mem_of_getElem? (i := 208) (by decide +kernel), by decide +kernel⟩
theorem m210 : (Cond.instanceMethod yX3_startGame) ∈ gtbl := List.mem_filter.mpr ⟨List.mem_of_getElem? (i := 210) (by decide +kernel), by decide +kernel⟩
theorem m211 : (Cond.code yX3_startGame cX3_startGame 2 none) ∈ gtbl := List.mem_filter.mpr ⟨List.mem_of_getElem? (i := 211) (by decide +kernel), by decide +kernel⟩
theorem m212 : (Cond.fieldLink RX6 12 "HostileHouses" "now" "LHostileHouses$State;") ∈ gtbl := List.mem_filter.mpr ⟨List.mem_of_getElem? (i := 212) (by decide +kernel), by decide +kernel⟩
theorem m213 : (Cond.fieldLink RX6 19 "HostileHouses" "history" "LHostileHouses$History;") ∈ gtbl := List.mem_filter.mpr ⟨List.mem_of_getElem? (i := 213) (by decide +kernel), by decide +kernel⟩
theorem m214 : (Cond.fieldLink RX6 23 "HostileHouses" "slots" "[LHostileHouses$State;") ∈ gtbl := List.mem_filter.mpr ⟨List.mem_of_getElem? (i := 214) (by decide +kernel), by decide +kernel⟩
theorem m215 : (Cond.fieldLink RX6 27 "HostileHouses" "saved" "[Z") ∈ gtbl := List.mem_filter.mpr ⟨List.mem_of_getElem? (i := 215) (by decide +kernel), by decide +kernel⟩
theorem m216 : (Cond.fieldLink RX6 34 "HostileHouses" "pad" "LHostileHouses$Pad;") ∈ gtbl := List.mem_filter.mpr ⟨List.mem_of_getElem? (i := 216) (by decide +kernel), by decide +kernel⟩
theorem m217 : (Cond.fieldLink RX6 41 "HostileHouses" "lookahead" "LHostileHouses$Lookahead;") ∈ gtbl := List.mem_filter.mpr ⟨List.mem_of_getElem? (i := 217) (by decide +kernel), by decide +kernel⟩
theorem m231 : (Cond.methodLink RL 13 yX6_set) ∈ gtbl := List.mem_filter.mpr ⟨List.mem_of_getElem? (i := 231) (by decide +kernel), by decide +kernel⟩
theorem m232 : (Cond.instanceMethod yX6_set) ∈ gtbl := List.mem_filter.mpr ⟨List.mem_of_getElem? (i := 232) (by decide +kernel), by decide +kernel⟩
theorem m233 : (Cond.selects RX6 yX6_set yX6_set) ∈ gtbl := List.mem_filter.mpr ⟨List.mem_of_getElem? (i := 233) (by decide +kernel), by decide +kernel⟩
theorem m234 : (Cond.code yX6_set cX6_set 4 (some .int)) ∈ gtbl := List.mem_filter.mpr ⟨List.mem_of_getElem? (i := 234) (by decide +kernel), by decide +kernel⟩
theorem m235 : (Cond.fieldLink RX6 59 "HostileHouses" "LOWEST_VALUES" "[I") ∈ gtbl := List.mem_filter.mpr ⟨List.mem_of_getElem? (i := 235) (by decide +kernel), by decide +kernel⟩
theorem m237 : (Cond.fieldLink RX6 62 "HostileHouses" "HIGHEST_VALUES" "[I") ∈ gtbl := List.mem_filter.mpr ⟨List.mem_of_getElem? (i := 237) (by decide +kernel), by decide +kernel⟩
theorem m239 : (Cond.methodLink RX6 65 yX0_remember) ∈ gtbl := List.mem_filter.mpr ⟨List.mem_of_getElem? (i := 239) (by decide +kernel), by decide +kernel⟩
theorem m240 : (Cond.instanceMethod yX0_remember) ∈ gtbl := List.mem_filter.mpr ⟨List.mem_of_getElem? (i := 240) (by decide +kernel), by decide +kernel⟩
theorem m241 : (Cond.selects RX0 yX0_remember yX0_remember) ∈ gtbl := List.mem_filter.mpr ⟨List.mem_of_getElem? (i := 241) (by decide +kernel), by decide +kernel⟩
theorem m242 : (Cond.code yX0_remember cX0_remember 2 none) ∈ gtbl := List.mem_filter.mpr ⟨List.mem_of_getElem? (i := 242) (by decide +kernel), by decide +kernel⟩
theorem m243 : (Cond.methodLink RX0 25 yX5_copyFrom) ∈ gtbl := List.mem_filter.mpr ⟨List.mem_of_getElem? (i := 243) (by decide +kernel), by decide +kernel⟩
theorem m244 : (Cond.instanceMethod yX5_copyFrom) ∈ gtbl := List.mem_filter.mpr ⟨List.mem_of_getElem? (i := 244) (by decide +kernel), by decide +kernel⟩
theorem m245 : (Cond.selects RX5 yX5_copyFrom yX5_copyFrom) ∈ gtbl := List.mem_filter.mpr ⟨List.mem_of_getElem? (i := 245) (by decide +kernel), by decide +kernel⟩
theorem m246 : (Cond.code yX5_copyFrom cX5_copyFrom 2 none) ∈ gtbl := List.mem_filter.mpr ⟨List.mem_of_getElem? (i := 246) (by decide +kernel), by decide +kernel⟩
theorem m247 : (Cond.methodLink RX5 40 yX3_copyFrom) ∈ gtbl := List.mem_filter.mpr ⟨List.mem_of_getElem? (i := 247) (by decide +kernel), by decide +kernel⟩
theorem m248 : (Cond.instanceMethod yX3_copyFrom) ∈ gtbl := List.mem_filter.mpr ⟨List.mem_of_getElem? (i := 248) (by decide +kernel), by decide +kernel⟩
theorem m249 : (Cond.selects RX3 yX3_copyFrom yX3_copyFrom) ∈ gtbl := List.mem_filter.mpr ⟨List.mem_of_getElem? (i := 249) (by decide +kernel), by decide +kernel⟩
theorem m250 : (Cond.code yX3_copyFrom cX3_copyFrom 2 none) ∈ gtbl := List.mem_filter.mpr ⟨List.mem_of_getElem? (i := 250) (by decide +kernel), by decide +kernel⟩
theorem m251 : (Cond.methodLink RX3 21 ⟨"java/lang/System", "arraycopy", "(Ljava/lang/Object;ILjava/lang/Object;II)V"⟩) ∈ gtbl := List.mem_filter.mpr ⟨List.mem_of_getElem? (i := 251) (by decide +kernel), by decide +kernel⟩
theorem m252 : (Cond.static ⟨"java/lang/System", "arraycopy", "(Ljava/lang/Object;ILjava/lang/Object;II)V"⟩) ∈ gtbl := List.mem_filter.mpr ⟨List.mem_of_getElem? (i := 252) (by decide +kernel), by decide +kernel⟩
theorem m253 : (Cond.native ⟨"java/lang/System", "arraycopy", "(Ljava/lang/Object;ILjava/lang/Object;II)V"⟩) ∈ gtbl := List.mem_filter.mpr ⟨List.mem_of_getElem? (i := 253) (by decide +kernel), by decide +kernel⟩
theorem m254 : (Cond.methodLink RX5 44 ⟨"java/lang/System", "arraycopy", "(Ljava/lang/Object;ILjava/lang/Object;II)V"⟩) ∈ gtbl := List.mem_filter.mpr ⟨List.mem_of_getElem? (i := 254) (by decide +kernel), by decide +kernel⟩
theorem m255 : (Cond.methodLink RX5 50 yX4_copyFrom) ∈ gtbl := List.mem_filter.mpr ⟨List.mem_of_getElem? (i := 255) (by decide +kernel), by decide +kernel⟩
theorem m256 : (Cond.instanceMethod yX4_copyFrom) ∈ gtbl := List.mem_filter.mpr ⟨List.mem_of_getElem? (i := 256) (by decide +kernel), by decide +kernel⟩
theorem m257 : (Cond.selects RX4 yX4_copyFrom yX4_copyFrom) ∈ gtbl := List.mem_filter.mpr ⟨List.mem_of_getElem? (i := 257) (by decide +kernel), by decide +kernel⟩
theorem m258 : (Cond.code yX4_copyFrom cX4_copyFrom 2 none) ∈ gtbl := List.mem_filter.mpr ⟨List.mem_of_getElem? (i := 258) (by decide +kernel), by decide +kernel⟩
theorem m259 : (Cond.methodLink RL 18 yX6_begin) ∈ gtbl := List.mem_filter.mpr ⟨List.mem_of_getElem? (i := 259) (by decide +kernel), by decide +kernel⟩
theorem m260 : (Cond.instanceMethod yX6_begin) ∈ gtbl := List.mem_filter.mpr ⟨List.mem_of_getElem? (i := 260) (by decide +kernel), by decide +kernel⟩
theorem m261 : (Cond.selects RX6 yX6_begin yX6_begin) ∈ gtbl := List.mem_filter.mpr ⟨List.mem_of_getElem? (i := 261) (by decide +kernel), by decide +kernel⟩
theorem m262 : (Cond.code yX6_begin cX6_begin 2 (some .int)) ∈ gtbl := List.mem_filter.mpr ⟨List.mem_of_getElem? (i := 262) (by decide +kernel), by decide +kernel⟩
theorem m263 : (Cond.methodLink RL 23 yX6_move) ∈ gtbl := List.mem_filter.mpr ⟨List.mem_of_getElem? (i := 263) (by decide +kernel), by decide +kernel⟩
theorem m264 : (Cond.instanceMethod yX6_move) ∈ gtbl := List.mem_filter.mpr ⟨List.mem_of_getElem? (i := 264) (by decide +kernel), by decide +kernel⟩
theorem m265 : (Cond.selects RX6 yX6_move yX6_move) ∈ gtbl := List.mem_filter.mpr ⟨List.mem_of_getElem? (i := 265) (by decide +kernel), by decide +kernel⟩
theorem m266 : (Cond.code yX6_move cX6_move 3 (some .int)) ∈ gtbl := List.mem_filter.mpr ⟨List.mem_of_getElem? (i := 266) (by decide +kernel), by decide +kernel⟩
theorem m267 : (Cond.methodLink RX6 73 yX6_errorOfMove) ∈ gtbl := List.mem_filter.mpr ⟨List.mem_of_getElem? (i := 267) (by decide +kernel), by decide +kernel⟩
theorem m269 : (Cond.instanceMethod yX6_errorOfMove) ∈ gtbl := List.mem_filter.mpr ⟨List.mem_of_getElem? (i := 269) (by decide +kernel), by decide +kernel⟩
theorem m270 : (Cond.code yX6_errorOfMove cX6_errorOfMove 2 (some .int)) ∈ gtbl := List.mem_filter.mpr ⟨List.mem_of_getElem? (i := 270) (by decide +kernel), by decide +kernel⟩
theorem m271 : (Cond.methodLink RX6 110 yX6_isHouse) ∈ gtbl := List.mem_filter.mpr ⟨List.mem_of_getElem? (i := 271) (by decide +kernel), by decide +kernel⟩
theorem m272 : (Cond.static yX6_isHouse) ∈ gtbl := List.mem_filter.mpr ⟨List.mem_of_getElem? (i := 272) (by decide +kernel), by decide +kernel⟩
theorem m273 : (Cond.code yX6_isHouse cX6_isHouse 1 (some .boolean)) ∈ gtbl := List.mem_filter.mpr ⟨List.mem_of_getElem? (i := 273) (by decide +kernel), by decide +kernel⟩
theorem m274 : (Cond.methodLink RX6 198 yX3_canMoveFrom) ∈ gtbl := List.mem_filter.mpr ⟨List.mem_of_getElem? (i := 274) (by decide +kernel), by decide +kernel⟩
theorem m275 : (Cond.instanceMethod yX3_canMoveFrom) ∈ gtbl := List.mem_filter.mpr ⟨List.mem_of_getElem? (i := 275) (by decide +kernel), by decide +kernel⟩
theorem m276 : (Cond.selects RX3 yX3_canMoveFrom yX3_canMoveFrom) ∈ gtbl := List.mem_filter.mpr ⟨List.mem_of_getElem? (i := 276) (by decide +kernel), by decide +kernel⟩
theorem m277 : (Cond.code yX3_canMoveFrom cX3_canMoveFrom 2 (some .boolean)) ∈ gtbl := List.mem_filter.mpr ⟨List.mem_of_getElem? (i := 277) (by decide +kernel), by decide +kernel⟩
theorem m278 : (Cond.methodLink RX3 49 yX3_ownerOf) ∈ gtbl := List.mem_filter.mpr ⟨List.mem_of_getElem? (i := 278) (by decide +kernel), by decide +kernel⟩
theorem m279 : (Cond.static yX3_ownerOf) ∈ gtbl := List.mem_filter.mpr ⟨List.mem_of_getElem? (i := 279) (by decide +kernel), by decide +kernel⟩
theorem m280 : (Cond.code yX3_ownerOf cX3_ownerOf 1 (some .int)) ∈ gtbl := List.mem_filter.mpr ⟨List.mem_of_getElem? (i := 280) (by decide +kernel), by decide +kernel⟩
theorem m281 : (Cond.methodLink RX6 77 yX5_makeMove) ∈ gtbl := List.mem_filter.mpr ⟨List.mem_of_getElem? (i := 281) (by decide +kernel), by decide +kernel⟩
theorem m282 : (Cond.instanceMethod yX5_makeMove) ∈ gtbl := List.mem_filter.mpr ⟨List.mem_of_getElem? (i := 282) (by decide +kernel), by decide +kernel⟩
theorem m283 : (Cond.selects RX5 yX5_makeMove yX5_makeMove) ∈ gtbl := List.mem_filter.mpr ⟨List.mem_of_getElem? (i := 283) (by decide +kernel), by decide +kernel⟩
theorem m284 : (Cond.code yX5_makeMove cX5_makeMove 3 none) ∈ gtbl := List.mem_filter.mpr ⟨List.mem_of_getElem? (i := 284) (by decide +kernel), by decide +kernel⟩
theorem m285 : (Cond.methodLink RX5 57 yX3_makeMove) ∈ gtbl := List.mem_filter.mpr ⟨List.mem_of_getElem? (i := 285) (by decide +kernel), by decide +kernel⟩
theorem m286 : (Cond.instanceMethod yX3_makeMove) ∈ gtbl := List.mem_filter.mpr ⟨List.mem_of_getElem? (i := 286) (by decide +kernel), by decide +kernel⟩
theorem m287 : (Cond.selects RX3 yX3_makeMove yX3_makeMove) ∈ gtbl := List.mem_filter.mpr ⟨List.mem_of_getElem? (i := 287) (by decide +kernel), by decide +kernel⟩
theorem m288 : (Cond.code yX3_makeMove cX3_makeMove 6 none) ∈ gtbl := List.mem_filter.mpr ⟨List.mem_of_getElem? (i := 288) (by decide +kernel), by decide +kernel⟩
theorem m289 : (Cond.methodLink RX3 56 yX4_clear) ∈ gtbl := List.mem_filter.mpr ⟨List.mem_of_getElem? (i := 289) (by decide +kernel), by decide +kernel⟩
theorem m290 : (Cond.instanceMethod yX4_clear) ∈ gtbl := List.mem_filter.mpr ⟨List.mem_of_getElem? (i := 290) (by decide +kernel), by decide +kernel⟩
theorem m291 : (Cond.selects RX4 yX4_clear yX4_clear) ∈ gtbl := List.mem_filter.mpr ⟨List.mem_of_getElem? (i := 291) (by decide +kernel), by decide +kernel⟩
theorem m292 : (Cond.code yX4_clear cX4_clear 2 none) ∈ gtbl := List.mem_filter.mpr ⟨List.mem_of_getElem? (i := 292) (by decide +kernel), by decide +kernel⟩
theorem m293 : (Cond.methodLink RX3 64 yX3_sowLap) ∈ gtbl := List.mem_filter.mpr ⟨List.mem_of_getElem? (i := 293) (by decide +kernel), by decide +kernel⟩
theorem m295 : (Cond.instanceMethod yX3_sowLap) ∈ gtbl := List.mem_filter.mpr ⟨List.mem_of_getElem? (i := 295) (by decide +kernel), by decide +kernel⟩
theorem m296 : (Cond.code yX3_sowLap cX3_sowLap 7 (some .boolean)) ∈ gtbl := List.mem_filter.mpr ⟨List.mem_of_getElem? (i := 296) (by decide +kernel), by decide +kernel⟩
theorem m297 : (Cond.methodLink RX3 68 yX3_sowHand) ∈ gtbl := List.mem_filter.mpr ⟨List.mem_of_getElem? (i := 297) (by decide +kernel), by decide +kernel⟩
theorem m299 : (Cond.instanceMethod yX3_sowHand) ∈ gtbl := List.mem_filter.mpr ⟨List.mem_of_getElem? (i := 299) (by decide +kernel), by decide +kernel⟩
theorem m300 : (Cond.code yX3_sowHand cX3_sowHand 7 (some .int)) ∈ gtbl := List.mem_filter.mpr ⟨List.mem_of_getElem? (i := 300) (by decide +kernel), by decide +kernel⟩
theorem m301 : (Cond.methodLink RX3 79 ⟨"java/lang/Math", "max", "(II)I"⟩) ∈ gtbl := List.mem_filter.mpr ⟨List.mem_of_getElem? (i := 301) (by decide +kernel), by decide +kernel⟩
theorem m302 : (Cond.static ⟨"java/lang/Math", "max", "(II)I"⟩) ∈ gtbl := List.mem_filter.mpr ⟨List.mem_of_getElem? (i := 302) (by decide +kernel), by decide +kernel⟩
theorem m303 : (Cond.code ⟨"java/lang/Math", "max", "(II)I"⟩ prog_11_method_65_code 2 (some .int)) ∈ gtbl := List.mem_filter.mpr ⟨List.mem_of_getElem? (i := 303) (by decide +kernel), by decide +kernel⟩
theorem m304 : (Cond.methodLink RX3 85 yX3_houseBehind) ∈ gtbl := List.mem_filter.mpr ⟨List.mem_of_getElem? (i := 304) (by decide +kernel), by decide +kernel⟩
theorem m305 : (Cond.static yX3_houseBehind) ∈ gtbl := List.mem_filter.mpr ⟨List.mem_of_getElem? (i := 305) (by decide +kernel), by decide +kernel⟩
theorem m306 : (Cond.code yX3_houseBehind cX3_houseBehind 1 (some .int)) ∈ gtbl := List.mem_filter.mpr ⟨List.mem_of_getElem? (i := 306) (by decide +kernel), by decide +kernel⟩
theorem m307 : (Cond.methodLink RX3 45 yX3_isHostile) ∈ gtbl := List.mem_filter.mpr ⟨List.mem_of_getElem? (i := 307) (by decide +kernel), by decide +kernel⟩
theorem m308 : (Cond.instanceMethod yX3_isHostile) ∈ gtbl := List.mem_filter.mpr ⟨List.mem_of_getElem? (i := 308) (by decide +kernel), by decide +kernel⟩
theorem m309 : (Cond.selects RX3 yX3_isHostile yX3_isHostile) ∈ gtbl := List.mem_filter.mpr ⟨List.mem_of_getElem? (i := 309) (by decide +kernel), by decide +kernel⟩
theorem m310 : (Cond.code yX3_isHostile cX3_isHostile 3 (some .boolean)) ∈ gtbl := List.mem_filter.mpr ⟨List.mem_of_getElem? (i := 310) (by decide +kernel), by decide +kernel⟩
theorem m311 : (Cond.methodLink RX3 75 yX3_captureAcross) ∈ gtbl := List.mem_filter.mpr ⟨List.mem_of_getElem? (i := 311) (by decide +kernel), by decide +kernel⟩
theorem m313 : (Cond.instanceMethod yX3_captureAcross) ∈ gtbl := List.mem_filter.mpr ⟨List.mem_of_getElem? (i := 313) (by decide +kernel), by decide +kernel⟩
theorem m314 : (Cond.code yX3_captureAcross cX3_captureAcross 5 none) ∈ gtbl := List.mem_filter.mpr ⟨List.mem_of_getElem? (i := 314) (by decide +kernel), by decide +kernel⟩
theorem m315 : (Cond.methodLink RX3 41 yX3_giveTurnTo) ∈ gtbl := List.mem_filter.mpr ⟨List.mem_of_getElem? (i := 315) (by decide +kernel), by decide +kernel⟩
theorem m317 : (Cond.instanceMethod yX3_giveTurnTo) ∈ gtbl := List.mem_filter.mpr ⟨List.mem_of_getElem? (i := 317) (by decide +kernel), by decide +kernel⟩
theorem m318 : (Cond.code yX3_giveTurnTo cX3_giveTurnTo 3 none) ∈ gtbl := List.mem_filter.mpr ⟨List.mem_of_getElem? (i := 318) (by decide +kernel), by decide +kernel⟩
theorem m319 : (Cond.methodLink RX3 94 yX3_isDecided) ∈ gtbl := List.mem_filter.mpr ⟨List.mem_of_getElem? (i := 319) (by decide +kernel), by decide +kernel⟩
theorem m321 : (Cond.instanceMethod yX3_isDecided) ∈ gtbl := List.mem_filter.mpr ⟨List.mem_of_getElem? (i := 321) (by decide +kernel), by decide +kernel⟩
theorem m322 : (Cond.code yX3_isDecided cX3_isDecided 3 (some .boolean)) ∈ gtbl := List.mem_filter.mpr ⟨List.mem_of_getElem? (i := 322) (by decide +kernel), by decide +kernel⟩
theorem m323 : (Cond.methodLink RX3 53 yX3_seedsInHousesOf) ∈ gtbl := List.mem_filter.mpr ⟨List.mem_of_getElem? (i := 323) (by decide +kernel), by decide +kernel⟩
theorem m324 : (Cond.instanceMethod yX3_seedsInHousesOf) ∈ gtbl := List.mem_filter.mpr ⟨List.mem_of_getElem? (i := 324) (by decide +kernel), by decide +kernel⟩
theorem m325 : (Cond.selects RX3 yX3_seedsInHousesOf yX3_seedsInHousesOf) ∈ gtbl := List.mem_filter.mpr ⟨List.mem_of_getElem? (i := 325) (by decide +kernel), by decide +kernel⟩
theorem m326 : (Cond.code yX3_seedsInHousesOf cX3_seedsInHousesOf 4 (some .int)) ∈ gtbl := List.mem_filter.mpr ⟨List.mem_of_getElem? (i := 326) (by decide +kernel), by decide +kernel⟩
theorem m327 : (Cond.methodLink RL 28 yX6_play) ∈ gtbl := List.mem_filter.mpr ⟨List.mem_of_getElem? (i := 327) (by decide +kernel), by decide +kernel⟩
theorem m328 : (Cond.instanceMethod yX6_play) ∈ gtbl := List.mem_filter.mpr ⟨List.mem_of_getElem? (i := 328) (by decide +kernel), by decide +kernel⟩
theorem m329 : (Cond.selects RX6 yX6_play yX6_play) ∈ gtbl := List.mem_filter.mpr ⟨List.mem_of_getElem? (i := 329) (by decide +kernel), by decide +kernel⟩
theorem m330 : (Cond.code yX6_play cX6_play 3 (some .int)) ∈ gtbl := List.mem_filter.mpr ⟨List.mem_of_getElem? (i := 330) (by decide +kernel), by decide +kernel⟩
theorem m331 : (Cond.methodLink RX6 89 yX1_bestHouse) ∈ gtbl := List.mem_filter.mpr ⟨List.mem_of_getElem? (i := 331) (by decide +kernel), by decide +kernel⟩
theorem m332 : (Cond.instanceMethod yX1_bestHouse) ∈ gtbl := List.mem_filter.mpr ⟨List.mem_of_getElem? (i := 332) (by decide +kernel), by decide +kernel⟩
theorem m333 : (Cond.selects RX1 yX1_bestHouse yX1_bestHouse) ∈ gtbl := List.mem_filter.mpr ⟨List.mem_of_getElem? (i := 333) (by decide +kernel), by decide +kernel⟩
theorem m334 : (Cond.code yX1_bestHouse cX1_bestHouse 8 (some .int)) ∈ gtbl := List.mem_filter.mpr ⟨List.mem_of_getElem? (i := 334) (by decide +kernel), by decide +kernel⟩
theorem m335 : (Cond.methodLink RX1 37 yX3_canMoveFrom) ∈ gtbl := List.mem_filter.mpr ⟨List.mem_of_getElem? (i := 335) (by decide +kernel), by decide +kernel⟩
theorem m336 : (Cond.methodLink RX1 41 yX1_valueBehind) ∈ gtbl := List.mem_filter.mpr ⟨List.mem_of_getElem? (i := 336) (by decide +kernel), by decide +kernel⟩
theorem m338 : (Cond.instanceMethod yX1_valueBehind) ∈ gtbl := List.mem_filter.mpr ⟨List.mem_of_getElem? (i := 338) (by decide +kernel), by decide +kernel⟩
theorem m339 : (Cond.code yX1_valueBehind cX1_valueBehind 7 (some .int)) ∈ gtbl := List.mem_filter.mpr ⟨List.mem_of_getElem? (i := 339) (by decide +kernel), by decide +kernel⟩
theorem m340 : (Cond.methodLink RX1 33 yX3_lead) ∈ gtbl := List.mem_filter.mpr ⟨List.mem_of_getElem? (i := 340) (by decide +kernel), by decide +kernel⟩
theorem m341 : (Cond.instanceMethod yX3_lead) ∈ gtbl := List.mem_filter.mpr ⟨List.mem_of_getElem? (i := 341) (by decide +kernel), by decide +kernel⟩
theorem m342 : (Cond.selects RX3 yX3_lead yX3_lead) ∈ gtbl := List.mem_filter.mpr ⟨List.mem_of_getElem? (i := 342) (by decide +kernel), by decide +kernel⟩
theorem m343 : (Cond.code yX3_lead cX3_lead 1 (some .int)) ∈ gtbl := List.mem_filter.mpr ⟨List.mem_of_getElem? (i := 343) (by decide +kernel), by decide +kernel⟩
theorem m344 : (Cond.methodLink RX1 51 yX3_copyFrom) ∈ gtbl := List.mem_filter.mpr ⟨List.mem_of_getElem? (i := 344) (by decide +kernel), by decide +kernel⟩
theorem m345 : (Cond.methodLink RX1 55 yX3_makeMove) ∈ gtbl := List.mem_filter.mpr ⟨List.mem_of_getElem? (i := 345) (by decide +kernel), by decide +kernel⟩
theorem m346 : (Cond.methodLink RX1 59 yX1_valueOf) ∈ gtbl := List.mem_filter.mpr ⟨List.mem_of_getElem? (i := 346) (by decide +kernel), by decide +kernel⟩
theorem m348 : (Cond.instanceMethod yX1_valueOf) ∈ gtbl := List.mem_filter.mpr ⟨List.mem_of_getElem? (i := 348) (by decide +kernel), by decide +kernel⟩
theorem m349 : (Cond.code yX1_valueOf cX1_valueOf 6 (some .int)) ∈ gtbl := List.mem_filter.mpr ⟨List.mem_of_getElem? (i := 349) (by decide +kernel), by decide +kernel⟩
theorem m350 : (Cond.methodLink RX1 45 ⟨"java/lang/Math", "max", "(II)I"⟩) ∈ gtbl := List.mem_filter.mpr ⟨List.mem_of_getElem? (i := 350) (by decide +kernel), by decide +kernel⟩
theorem m351 : (Cond.methodLink RL 32 yX6_read) ∈ gtbl := List.mem_filter.mpr ⟨List.mem_of_getElem? (i := 351) (by decide +kernel), by decide +kernel⟩
theorem m352 : (Cond.instanceMethod yX6_read) ∈ gtbl := List.mem_filter.mpr ⟨List.mem_of_getElem? (i := 352) (by decide +kernel), by decide +kernel⟩
theorem m353 : (Cond.selects RX6 yX6_read yX6_read) ∈ gtbl := List.mem_filter.mpr ⟨List.mem_of_getElem? (i := 353) (by decide +kernel), by decide +kernel⟩
theorem m354 : (Cond.code yX6_read cX6_read 1 (some .int)) ∈ gtbl := List.mem_filter.mpr ⟨List.mem_of_getElem? (i := 354) (by decide +kernel), by decide +kernel⟩
theorem m355 : (Cond.methodLink RX6 93 yX2_scan) ∈ gtbl := List.mem_filter.mpr ⟨List.mem_of_getElem? (i := 355) (by decide +kernel), by decide +kernel⟩
theorem m356 : (Cond.instanceMethod yX2_scan) ∈ gtbl := List.mem_filter.mpr ⟨List.mem_of_getElem? (i := 356) (by decide +kernel), by decide +kernel⟩
theorem m357 : (Cond.selects RX2 yX2_scan yX2_scan) ∈ gtbl := List.mem_filter.mpr ⟨List.mem_of_getElem? (i := 357) (by decide +kernel), by decide +kernel⟩
theorem m358 : (Cond.code yX2_scan cX2_scan 6 (some .int)) ∈ gtbl := List.mem_filter.mpr ⟨List.mem_of_getElem? (i := 358) (by decide +kernel), by decide +kernel⟩
theorem m359 : (Cond.methodLink RX2 29 yX2_digitFits) ∈ gtbl := List.mem_filter.mpr ⟨List.mem_of_getElem? (i := 359) (by decide +kernel), by decide +kernel⟩
theorem m361 : (Cond.instanceMethod yX2_digitFits) ∈ gtbl := List.mem_filter.mpr ⟨List.mem_of_getElem? (i := 361) (by decide +kernel), by decide +kernel⟩
theorem m362 : (Cond.code yX2_digitFits cX2_digitFits 5 (some .boolean)) ∈ gtbl := List.mem_filter.mpr ⟨List.mem_of_getElem? (i := 362) (by decide +kernel), by decide +kernel⟩
theorem m363 : (Cond.methodLink RX2 33 yX2_signBehind) ∈ gtbl := List.mem_filter.mpr ⟨List.mem_of_getElem? (i := 363) (by decide +kernel), by decide +kernel⟩
theorem m364 : (Cond.static yX2_signBehind) ∈ gtbl := List.mem_filter.mpr ⟨List.mem_of_getElem? (i := 364) (by decide +kernel), by decide +kernel⟩
theorem m365 : (Cond.code yX2_signBehind cX2_signBehind 1 (some .char)) ∈ gtbl := List.mem_filter.mpr ⟨List.mem_of_getElem? (i := 365) (by decide +kernel), by decide +kernel⟩
theorem m366 : (Cond.methodLink RX6 100 yX3_fillFrom) ∈ gtbl := List.mem_filter.mpr ⟨List.mem_of_getElem? (i := 366) (by decide +kernel), by decide +kernel⟩
theorem m367 : (Cond.instanceMethod yX3_fillFrom) ∈ gtbl := List.mem_filter.mpr ⟨List.mem_of_getElem? (i := 367) (by decide +kernel), by decide +kernel⟩
theorem m368 : (Cond.selects RX3 yX3_fillFrom yX3_fillFrom) ∈ gtbl := List.mem_filter.mpr ⟨List.mem_of_getElem? (i := 368) (by decide +kernel), by decide +kernel⟩
theorem m369 : (Cond.code yX3_fillFrom cX3_fillFrom 3 none) ∈ gtbl := List.mem_filter.mpr ⟨List.mem_of_getElem? (i := 369) (by decide +kernel), by decide +kernel⟩
theorem m370 : (Cond.methodLink RX6 107 yX3_allSeeds) ∈ gtbl := List.mem_filter.mpr ⟨List.mem_of_getElem? (i := 370) (by decide +kernel), by decide +kernel⟩
theorem m371 : (Cond.instanceMethod yX3_allSeeds) ∈ gtbl := List.mem_filter.mpr ⟨List.mem_of_getElem? (i := 371) (by decide +kernel), by decide +kernel⟩
theorem m372 : (Cond.selects RX3 yX3_allSeeds yX3_allSeeds) ∈ gtbl := List.mem_filter.mpr ⟨List.mem_of_getElem? (i := 372) (by decide +kernel), by decide +kernel⟩
theorem m373 : (Cond.code yX3_allSeeds cX3_allSeeds 1 (some .int)) ∈ gtbl := List.mem_filter.mpr ⟨List.mem_of_getElem? (i := 373) (by decide +kernel), by decide +kernel⟩
theorem m374 : (Cond.methodLink RL 36 yX6_house) ∈ gtbl := List.mem_filter.mpr ⟨List.mem_of_getElem? (i := 374) (by decide +kernel), by decide +kernel⟩
theorem m375 : (Cond.instanceMethod yX6_house) ∈ gtbl := List.mem_filter.mpr ⟨List.mem_of_getElem? (i := 375) (by decide +kernel), by decide +kernel⟩
theorem m376 : (Cond.selects RX6 yX6_house yX6_house) ∈ gtbl := List.mem_filter.mpr ⟨List.mem_of_getElem? (i := 376) (by decide +kernel), by decide +kernel⟩
theorem m377 : (Cond.code yX6_house cX6_house 3 (some .int)) ∈ gtbl := List.mem_filter.mpr ⟨List.mem_of_getElem? (i := 377) (by decide +kernel), by decide +kernel⟩
theorem m378 : (Cond.methodLink RX6 120 yX3_isHostile) ∈ gtbl := List.mem_filter.mpr ⟨List.mem_of_getElem? (i := 378) (by decide +kernel), by decide +kernel⟩
theorem m379 : (Cond.methodLink RL 40 yX6_count) ∈ gtbl := List.mem_filter.mpr ⟨List.mem_of_getElem? (i := 379) (by decide +kernel), by decide +kernel⟩
theorem m380 : (Cond.instanceMethod yX6_count) ∈ gtbl := List.mem_filter.mpr ⟨List.mem_of_getElem? (i := 380) (by decide +kernel), by decide +kernel⟩
theorem m381 : (Cond.selects RX6 yX6_count yX6_count) ∈ gtbl := List.mem_filter.mpr ⟨List.mem_of_getElem? (i := 381) (by decide +kernel), by decide +kernel⟩
theorem m382 : (Cond.code yX6_count cX6_count 3 (some .int)) ∈ gtbl := List.mem_filter.mpr ⟨List.mem_of_getElem? (i := 382) (by decide +kernel), by decide +kernel⟩
theorem m383 : (Cond.methodLink RX6 131 yX3_winner) ∈ gtbl := List.mem_filter.mpr ⟨List.mem_of_getElem? (i := 383) (by decide +kernel), by decide +kernel⟩
theorem m384 : (Cond.instanceMethod yX3_winner) ∈ gtbl := List.mem_filter.mpr ⟨List.mem_of_getElem? (i := 384) (by decide +kernel), by decide +kernel⟩
theorem m385 : (Cond.selects RX3 yX3_winner yX3_winner) ∈ gtbl := List.mem_filter.mpr ⟨List.mem_of_getElem? (i := 385) (by decide +kernel), by decide +kernel⟩
theorem m386 : (Cond.code yX3_winner cX3_winner 1 (some .int)) ∈ gtbl := List.mem_filter.mpr ⟨List.mem_of_getElem? (i := 386) (by decide +kernel), by decide +kernel⟩
theorem m387 : (Cond.methodLink RX6 137 yX3_hostileHouses) ∈ gtbl := List.mem_filter.mpr ⟨List.mem_of_getElem? (i := 387) (by decide +kernel), by decide +kernel⟩
theorem m388 : (Cond.instanceMethod yX3_hostileHouses) ∈ gtbl := List.mem_filter.mpr ⟨List.mem_of_getElem? (i := 388) (by decide +kernel), by decide +kernel⟩
theorem m389 : (Cond.selects RX3 yX3_hostileHouses yX3_hostileHouses) ∈ gtbl := List.mem_filter.mpr ⟨List.mem_of_getElem? (i := 389) (by decide +kernel), by decide +kernel⟩
theorem m390 : (Cond.code yX3_hostileHouses cX3_hostileHouses 4 (some .int)) ∈ gtbl := List.mem_filter.mpr ⟨List.mem_of_getElem? (i := 390) (by decide +kernel), by decide +kernel⟩
theorem m391 : (Cond.methodLink RL 44 yX6_last) ∈ gtbl := List.mem_filter.mpr ⟨List.mem_of_getElem? (i := 391) (by decide +kernel), by decide +kernel⟩
theorem m392 : (Cond.instanceMethod yX6_last) ∈ gtbl := List.mem_filter.mpr ⟨List.mem_of_getElem? (i := 392) (by decide +kernel), by decide +kernel⟩
theorem m393 : (Cond.selects RX6 yX6_last yX6_last) ∈ gtbl := List.mem_filter.mpr ⟨List.mem_of_getElem? (i := 393) (by decide +kernel), by decide +kernel⟩
theorem m394 : (Cond.code yX6_last cX6_last 2 (some .int)) ∈ gtbl := List.mem_filter.mpr ⟨List.mem_of_getElem? (i := 394) (by decide +kernel), by decide +kernel⟩
theorem m395 : (Cond.methodLink RL 48 yX6_moved) ∈ gtbl := List.mem_filter.mpr ⟨List.mem_of_getElem? (i := 395) (by decide +kernel), by decide +kernel⟩
theorem m396 : (Cond.instanceMethod yX6_moved) ∈ gtbl := List.mem_filter.mpr ⟨List.mem_of_getElem? (i := 396) (by decide +kernel), by decide +kernel⟩
theorem m397 : (Cond.selects RX6 yX6_moved yX6_moved) ∈ gtbl := List.mem_filter.mpr ⟨List.mem_of_getElem? (i := 397) (by decide +kernel), by decide +kernel⟩
theorem m398 : (Cond.code yX6_moved cX6_moved 2 (some .int)) ∈ gtbl := List.mem_filter.mpr ⟨List.mem_of_getElem? (i := 398) (by decide +kernel), by decide +kernel⟩
theorem m399 : (Cond.methodLink RL 52 yX6_ifMove) ∈ gtbl := List.mem_filter.mpr ⟨List.mem_of_getElem? (i := 399) (by decide +kernel), by decide +kernel⟩
theorem m400 : (Cond.instanceMethod yX6_ifMove) ∈ gtbl := List.mem_filter.mpr ⟨List.mem_of_getElem? (i := 400) (by decide +kernel), by decide +kernel⟩
theorem m401 : (Cond.selects RX6 yX6_ifMove yX6_ifMove) ∈ gtbl := List.mem_filter.mpr ⟨List.mem_of_getElem? (i := 401) (by decide +kernel), by decide +kernel⟩
theorem m402 : (Cond.code yX6_ifMove cX6_ifMove 6 (some .int)) ∈ gtbl := List.mem_filter.mpr ⟨List.mem_of_getElem? (i := 402) (by decide +kernel), by decide +kernel⟩
theorem m403 : (Cond.methodLink RX6 165 yX3_copyFrom) ∈ gtbl := List.mem_filter.mpr ⟨List.mem_of_getElem? (i := 403) (by decide +kernel), by decide +kernel⟩
theorem m404 : (Cond.methodLink RX6 169 yX3_makeMove) ∈ gtbl := List.mem_filter.mpr ⟨List.mem_of_getElem? (i := 404) (by decide +kernel), by decide +kernel⟩
theorem m405 : (Cond.methodLink RX6 172 yX6_storeGain) ∈ gtbl := List.mem_filter.mpr ⟨List.mem_of_getElem? (i := 405) (by decide +kernel), by decide +kernel⟩
theorem m406 : (Cond.static yX6_storeGain) ∈ gtbl := List.mem_filter.mpr ⟨List.mem_of_getElem? (i := 406) (by decide +kernel), by decide +kernel⟩
theorem m407 : (Cond.code yX6_storeGain cX6_storeGain 2 (some .int)) ∈ gtbl := List.mem_filter.mpr ⟨List.mem_of_getElem? (i := 407) (by decide +kernel), by decide +kernel⟩
theorem m408 : (Cond.methodLink RL 56 yX6_worth) ∈ gtbl := List.mem_filter.mpr ⟨List.mem_of_getElem? (i := 408) (by decide +kernel), by decide +kernel⟩
theorem m409 : (Cond.instanceMethod yX6_worth) ∈ gtbl := List.mem_filter.mpr ⟨List.mem_of_getElem? (i := 409) (by decide +kernel), by decide +kernel⟩
theorem m410 : (Cond.selects RX6 yX6_worth yX6_worth) ∈ gtbl := List.mem_filter.mpr ⟨List.mem_of_getElem? (i := 410) (by decide +kernel), by decide +kernel⟩
theorem m411 : (Cond.code yX6_worth cX6_worth 2 (some .int)) ∈ gtbl := List.mem_filter.mpr ⟨List.mem_of_getElem? (i := 411) (by decide +kernel), by decide +kernel⟩
theorem m413 : (Cond.methodLink RL 60 yX6_best) ∈ gtbl := List.mem_filter.mpr ⟨List.mem_of_getElem? (i := 413) (by decide +kernel), by decide +kernel⟩
theorem m414 : (Cond.instanceMethod yX6_best) ∈ gtbl := List.mem_filter.mpr ⟨List.mem_of_getElem? (i := 414) (by decide +kernel), by decide +kernel⟩
theorem m415 : (Cond.selects RX6 yX6_best yX6_best) ∈ gtbl := List.mem_filter.mpr ⟨List.mem_of_getElem? (i := 415) (by decide +kernel), by decide +kernel⟩
theorem m416 : (Cond.code yX6_best cX6_best 2 (some .int)) ∈ gtbl := List.mem_filter.mpr ⟨List.mem_of_getElem? (i := 416) (by decide +kernel), by decide +kernel⟩
theorem m417 : (Cond.methodLink RL 64 yX6_movesLeft) ∈ gtbl := List.mem_filter.mpr ⟨List.mem_of_getElem? (i := 417) (by decide +kernel), by decide +kernel⟩
theorem m418 : (Cond.instanceMethod yX6_movesLeft) ∈ gtbl := List.mem_filter.mpr ⟨List.mem_of_getElem? (i := 418) (by decide +kernel), by decide +kernel⟩
theorem m419 : (Cond.selects RX6 yX6_movesLeft yX6_movesLeft) ∈ gtbl := List.mem_filter.mpr ⟨List.mem_of_getElem? (i := 419) (by decide +kernel), by decide +kernel⟩
theorem m420 : (Cond.code yX6_movesLeft cX6_movesLeft 2 (some .int)) ∈ gtbl := List.mem_filter.mpr ⟨List.mem_of_getElem? (i := 420) (by decide +kernel), by decide +kernel⟩
theorem m421 : (Cond.methodLink RX6 179 yX1_movesToTheEnd) ∈ gtbl := List.mem_filter.mpr ⟨List.mem_of_getElem? (i := 421) (by decide +kernel), by decide +kernel⟩
theorem m422 : (Cond.instanceMethod yX1_movesToTheEnd) ∈ gtbl := List.mem_filter.mpr ⟨List.mem_of_getElem? (i := 422) (by decide +kernel), by decide +kernel⟩
theorem m423 : (Cond.selects RX1 yX1_movesToTheEnd yX1_movesToTheEnd) ∈ gtbl := List.mem_filter.mpr ⟨List.mem_of_getElem? (i := 423) (by decide +kernel), by decide +kernel⟩
theorem m424 : (Cond.code yX1_movesToTheEnd cX1_movesToTheEnd 6 (some .int)) ∈ gtbl := List.mem_filter.mpr ⟨List.mem_of_getElem? (i := 424) (by decide +kernel), by decide +kernel⟩
theorem m425 : (Cond.methodLink RX1 67 yX1_bestHouse) ∈ gtbl := List.mem_filter.mpr ⟨List.mem_of_getElem? (i := 425) (by decide +kernel), by decide +kernel⟩
theorem m426 : (Cond.methodLink RL 70 yX6_put) ∈ gtbl := List.mem_filter.mpr ⟨List.mem_of_getElem? (i := 426) (by decide +kernel), by decide +kernel⟩
theorem m427 : (Cond.instanceMethod yX6_put) ∈ gtbl := List.mem_filter.mpr ⟨List.mem_of_getElem? (i := 427) (by decide +kernel), by decide +kernel⟩
theorem m428 : (Cond.selects RX6 yX6_put yX6_put) ∈ gtbl := List.mem_filter.mpr ⟨List.mem_of_getElem? (i := 428) (by decide +kernel), by decide +kernel⟩
theorem m429 : (Cond.code yX6_put cX6_put 4 (some .int)) ∈ gtbl := List.mem_filter.mpr ⟨List.mem_of_getElem? (i := 429) (by decide +kernel), by decide +kernel⟩
theorem m430 : (Cond.methodLink RX6 182 yX2_charactersIn) ∈ gtbl := List.mem_filter.mpr ⟨List.mem_of_getElem? (i := 430) (by decide +kernel), by decide +kernel⟩
theorem m431 : (Cond.static yX2_charactersIn) ∈ gtbl := List.mem_filter.mpr ⟨List.mem_of_getElem? (i := 431) (by decide +kernel), by decide +kernel⟩
theorem m432 : (Cond.code yX2_charactersIn cX2_charactersIn 7 (some .int)) ∈ gtbl := List.mem_filter.mpr ⟨List.mem_of_getElem? (i := 432) (by decide +kernel), by decide +kernel⟩
theorem m433 : (Cond.constantLong RX2 19 (255)) ∈ gtbl := List.mem_filter.mpr ⟨List.mem_of_getElem? (i := 433) (by decide +kernel), by decide +kernel⟩
theorem m434 : (Cond.constantLong RX2 21 (33)) ∈ gtbl := List.mem_filter.mpr ⟨List.mem_of_getElem? (i := 434) (by decide +kernel), by decide +kernel⟩
theorem m435 : (Cond.constantLong RX2 23 (126)) ∈ gtbl := List.mem_filter.mpr ⟨List.mem_of_getElem? (i := 435) (by decide +kernel), by decide +kernel⟩
theorem m436 : (Cond.methodLink RX6 186 yX2_append) ∈ gtbl := List.mem_filter.mpr ⟨List.mem_of_getElem? (i := 436) (by decide +kernel), by decide +kernel⟩
theorem m437 : (Cond.instanceMethod yX2_append) ∈ gtbl := List.mem_filter.mpr ⟨List.mem_of_getElem? (i := 437) (by decide +kernel), by decide +kernel⟩
theorem m438 : (Cond.selects RX2 yX2_append yX2_append) ∈ gtbl := List.mem_filter.mpr ⟨List.mem_of_getElem? (i := 438) (by decide +kernel), by decide +kernel⟩
theorem m439 : (Cond.code yX2_append cX2_append 5 none) ∈ gtbl := List.mem_filter.mpr ⟨List.mem_of_getElem? (i := 439) (by decide +kernel), by decide +kernel⟩
theorem m440 : (Cond.methodLink RL 75 yX6_wipe) ∈ gtbl := List.mem_filter.mpr ⟨List.mem_of_getElem? (i := 440) (by decide +kernel), by decide +kernel⟩
theorem m441 : (Cond.instanceMethod yX6_wipe) ∈ gtbl := List.mem_filter.mpr ⟨List.mem_of_getElem? (i := 441) (by decide +kernel), by decide +kernel⟩
theorem m442 : (Cond.selects RX6 yX6_wipe yX6_wipe) ∈ gtbl := List.mem_filter.mpr ⟨List.mem_of_getElem? (i := 442) (by decide +kernel), by decide +kernel⟩
theorem m443 : (Cond.code yX6_wipe cX6_wipe 2 (some .int)) ∈ gtbl := List.mem_filter.mpr ⟨List.mem_of_getElem? (i := 443) (by decide +kernel), by decide +kernel⟩
theorem m444 : (Cond.methodLink RL 79 yX6_fault) ∈ gtbl := List.mem_filter.mpr ⟨List.mem_of_getElem? (i := 444) (by decide +kernel), by decide +kernel⟩
theorem m445 : (Cond.instanceMethod yX6_fault) ∈ gtbl := List.mem_filter.mpr ⟨List.mem_of_getElem? (i := 445) (by decide +kernel), by decide +kernel⟩
theorem m446 : (Cond.selects RX6 yX6_fault yX6_fault) ∈ gtbl := List.mem_filter.mpr ⟨List.mem_of_getElem? (i := 446) (by decide +kernel), by decide +kernel⟩
theorem m447 : (Cond.code yX6_fault cX6_fault 1 (some .int)) ∈ gtbl := List.mem_filter.mpr ⟨List.mem_of_getElem? (i := 447) (by decide +kernel), by decide +kernel⟩
theorem m448 : (Cond.methodLink RL 83 yX6_undo) ∈ gtbl := List.mem_filter.mpr ⟨List.mem_of_getElem? (i := 448) (by decide +kernel), by decide +kernel⟩
theorem m449 : (Cond.instanceMethod yX6_undo) ∈ gtbl := List.mem_filter.mpr ⟨List.mem_of_getElem? (i := 449) (by decide +kernel), by decide +kernel⟩
theorem m450 : (Cond.selects RX6 yX6_undo yX6_undo) ∈ gtbl := List.mem_filter.mpr ⟨List.mem_of_getElem? (i := 450) (by decide +kernel), by decide +kernel⟩
theorem m451 : (Cond.code yX6_undo cX6_undo 1 (some .int)) ∈ gtbl := List.mem_filter.mpr ⟨List.mem_of_getElem? (i := 451) (by decide +kernel), by decide +kernel⟩
theorem m452 : (Cond.methodLink RX6 190 yX0_takeBack) ∈ gtbl := List.mem_filter.mpr ⟨List.mem_of_getElem? (i := 452) (by decide +kernel), by decide +kernel⟩
theorem m453 : (Cond.instanceMethod yX0_takeBack) ∈ gtbl := List.mem_filter.mpr ⟨List.mem_of_getElem? (i := 453) (by decide +kernel), by decide +kernel⟩
theorem m454 : (Cond.selects RX0 yX0_takeBack yX0_takeBack) ∈ gtbl := List.mem_filter.mpr ⟨List.mem_of_getElem? (i := 454) (by decide +kernel), by decide +kernel⟩
theorem m455 : (Cond.code yX0_takeBack cX0_takeBack 2 none) ∈ gtbl := List.mem_filter.mpr ⟨List.mem_of_getElem? (i := 455) (by decide +kernel), by decide +kernel⟩
theorem m456 : (Cond.methodLink RL 87 yX6_save) ∈ gtbl := List.mem_filter.mpr ⟨List.mem_of_getElem? (i := 456) (by decide +kernel), by decide +kernel⟩
theorem m457 : (Cond.instanceMethod yX6_save) ∈ gtbl := List.mem_filter.mpr ⟨List.mem_of_getElem? (i := 457) (by decide +kernel), by decide +kernel⟩
theorem m458 : (Cond.selects RX6 yX6_save yX6_save) ∈ gtbl := List.mem_filter.mpr ⟨List.mem_of_getElem? (i := 458) (by decide +kernel), by decide +kernel⟩
theorem m459 : (Cond.code yX6_save cX6_save 2 (some .int)) ∈ gtbl := List.mem_filter.mpr ⟨List.mem_of_getElem? (i := 459) (by decide +kernel), by decide +kernel⟩
theorem m460 : (Cond.methodLink RX6 193 yX6_isSlot) ∈ gtbl := List.mem_filter.mpr ⟨List.mem_of_getElem? (i := 460) (by decide +kernel), by decide +kernel⟩
theorem m461 : (Cond.static yX6_isSlot) ∈ gtbl := List.mem_filter.mpr ⟨List.mem_of_getElem? (i := 461) (by decide +kernel), by decide +kernel⟩
theorem m462 : (Cond.code yX6_isSlot cX6_isSlot 1 (some .boolean)) ∈ gtbl := List.mem_filter.mpr ⟨List.mem_of_getElem? (i := 462) (by decide +kernel), by decide +kernel⟩
theorem m463 : (Cond.methodLink RX6 196 yX5_copyFrom) ∈ gtbl := List.mem_filter.mpr ⟨List.mem_of_getElem? (i := 463) (by decide +kernel), by decide +kernel⟩
theorem m464 : (Cond.methodLink RL 91 yX6_restore) ∈ gtbl := List.mem_filter.mpr ⟨List.mem_of_getElem? (i := 464) (by decide +kernel), by decide +kernel⟩
theorem m465 : (Cond.instanceMethod yX6_restore) ∈ gtbl := List.mem_filter.mpr ⟨List.mem_of_getElem? (i := 465) (by decide +kernel), by decide +kernel⟩
theorem m466 : (Cond.selects RX6 yX6_restore yX6_restore) ∈ gtbl := List.mem_filter.mpr ⟨List.mem_of_getElem? (i := 466) (by decide +kernel), by decide +kernel⟩
theorem m467 : (Cond.code yX6_restore cX6_restore 2 (some .int)) ∈ gtbl := List.mem_filter.mpr ⟨List.mem_of_getElem? (i := 467) (by decide +kernel), by decide +kernel⟩
theorem m468 : (Cond.classLink RL 10 RX7) ∈ gtbl := List.mem_filter.mpr ⟨List.mem_of_getElem? (i := 468) (by decide +kernel), by decide +kernel⟩
theorem m469 : (Cond.instantiable RX7 13) ∈ gtbl := List.mem_filter.mpr ⟨List.mem_of_getElem? (i := 469) (by decide +kernel), by decide +kernel⟩
theorem m470 : (Cond.methodLink RL 12 yX7_init) ∈ gtbl := List.mem_filter.mpr ⟨List.mem_of_getElem? (i := 470) (by decide +kernel), by decide +kernel⟩
theorem m471 : (Cond.instanceMethod yX7_init) ∈ gtbl := List.mem_filter.mpr ⟨List.mem_of_getElem? (i := 471) (by decide +kernel), by decide +kernel⟩
theorem m472 : (Cond.code yX7_init cX7_init 1 none) ∈ gtbl := List.mem_filter.mpr ⟨List.mem_of_getElem? (i := 472) (by decide +kernel), by decide +kernel⟩
theorem m473 : (Cond.methodLink RX7 1 objectInit) ∈ gtbl := List.mem_filter.mpr ⟨List.mem_of_getElem? (i := 473) (by decide +kernel), by decide +kernel⟩
theorem m474 : (Cond.methodLink RX7 40 yX7_anew) ∈ gtbl := List.mem_filter.mpr ⟨List.mem_of_getElem? (i := 474) (by decide +kernel), by decide +kernel⟩
theorem m476 : (Cond.instanceMethod yX7_anew) ∈ gtbl := List.mem_filter.mpr ⟨List.mem_of_getElem? (i := 476) (by decide +kernel), by decide +kernel⟩
theorem m477 : (Cond.code yX7_anew cX7_anew 2 none) ∈ gtbl := List.mem_filter.mpr ⟨List.mem_of_getElem? (i := 477) (by decide +kernel), by decide +kernel⟩
theorem m478 : (Cond.methodLink RX7 47 yX7_empties) ∈ gtbl := List.mem_filter.mpr ⟨List.mem_of_getElem? (i := 478) (by decide +kernel), by decide +kernel⟩
theorem m480 : (Cond.instanceMethod yX7_empties) ∈ gtbl := List.mem_filter.mpr ⟨List.mem_of_getElem? (i := 480) (by decide +kernel), by decide +kernel⟩
theorem m481 : (Cond.code yX7_empties cX7_empties 2 none) ∈ gtbl := List.mem_filter.mpr ⟨List.mem_of_getElem? (i := 481) (by decide +kernel), by decide +kernel⟩
theorem m482 : (Cond.fieldLink RX7 7 "HostileHousesModel" "all" "[I") ∈ gtbl := List.mem_filter.mpr ⟨List.mem_of_getElem? (i := 482) (by decide +kernel), by decide +kernel⟩
theorem m483 : (Cond.fieldLink RX7 13 "HostileHousesModel" "history" "[I") ∈ gtbl := List.mem_filter.mpr ⟨List.mem_of_getElem? (i := 483) (by decide +kernel), by decide +kernel⟩
theorem m484 : (Cond.fieldLink RX7 43 "HostileHousesModel" "historyLong" "I") ∈ gtbl := List.mem_filter.mpr ⟨List.mem_of_getElem? (i := 484) (by decide +kernel), by decide +kernel⟩
theorem m485 : (Cond.fieldLink RX7 16 "HostileHousesModel" "slots" "[I") ∈ gtbl := List.mem_filter.mpr ⟨List.mem_of_getElem? (i := 485) (by decide +kernel), by decide +kernel⟩
theorem m486 : (Cond.fieldLink RX7 19 "HostileHousesModel" "isSaved" "[I") ∈ gtbl := List.mem_filter.mpr ⟨List.mem_of_getElem? (i := 486) (by decide +kernel), by decide +kernel⟩
theorem m487 : (Cond.fieldLink RX7 22 "HostileHousesModel" "tree" "[I") ∈ gtbl := List.mem_filter.mpr ⟨List.mem_of_getElem? (i := 487) (by decide +kernel), by decide +kernel⟩
theorem m488 : (Cond.fieldLink RX7 25 "HostileHousesModel" "tried" "[I") ∈ gtbl := List.mem_filter.mpr ⟨List.mem_of_getElem? (i := 488) (by decide +kernel), by decide +kernel⟩
theorem m489 : (Cond.fieldLink RX7 28 "HostileHousesModel" "most" "[I") ∈ gtbl := List.mem_filter.mpr ⟨List.mem_of_getElem? (i := 489) (by decide +kernel), by decide +kernel⟩
theorem m490 : (Cond.fieldLink RX7 31 "HostileHousesModel" "bestHouse" "[I") ∈ gtbl := List.mem_filter.mpr ⟨List.mem_of_getElem? (i := 490) (by decide +kernel), by decide +kernel⟩
theorem m491 : (Cond.fieldLink RX7 34 "HostileHousesModel" "pad" "[I") ∈ gtbl := List.mem_filter.mpr ⟨List.mem_of_getElem? (i := 491) (by decide +kernel), by decide +kernel⟩
theorem m492 : (Cond.fieldLink RX7 130 "HostileHousesModel" "padLong" "I") ∈ gtbl := List.mem_filter.mpr ⟨List.mem_of_getElem? (i := 492) (by decide +kernel), by decide +kernel⟩
theorem m493 : (Cond.fieldLink RX7 127 "HostileHousesModel" "spot" "I") ∈ gtbl := List.mem_filter.mpr ⟨List.mem_of_getElem? (i := 493) (by decide +kernel), by decide +kernel⟩
theorem m494 : (Cond.fieldLink RX7 37 "HostileHousesModel" "read" "[I") ∈ gtbl := List.mem_filter.mpr ⟨List.mem_of_getElem? (i := 494) (by decide +kernel), by decide +kernel⟩
theorem m522 : (Cond.methodLink RL 17 yX7_set) ∈ gtbl := List.mem_filter.mpr ⟨List.mem_of_getElem? (i := 522) (by decide +kernel), by decide +kernel⟩
theorem m523 : (Cond.instanceMethod yX7_set) ∈ gtbl := List.mem_filter.mpr ⟨List.mem_of_getElem? (i := 523) (by decide +kernel), by decide +kernel⟩
theorem m524 : (Cond.selects RX7 yX7_set yX7_set) ∈ gtbl := List.mem_filter.mpr ⟨List.mem_of_getElem? (i := 524) (by decide +kernel), by decide +kernel⟩
theorem m525 : (Cond.code yX7_set cX7_set 4 (some .int)) ∈ gtbl := List.mem_filter.mpr ⟨List.mem_of_getElem? (i := 525) (by decide +kernel), by decide +kernel⟩
theorem m526 : (Cond.methodLink RX7 105 yX7_isSetting) ∈ gtbl := List.mem_filter.mpr ⟨List.mem_of_getElem? (i := 526) (by decide +kernel), by decide +kernel⟩
theorem m527 : (Cond.static yX7_isSetting) ∈ gtbl := List.mem_filter.mpr ⟨List.mem_of_getElem? (i := 527) (by decide +kernel), by decide +kernel⟩
theorem m528 : (Cond.code yX7_isSetting cX7_isSetting 2 (some .boolean)) ∈ gtbl := List.mem_filter.mpr ⟨List.mem_of_getElem? (i := 528) (by decide +kernel), by decide +kernel⟩
theorem m529 : (Cond.constantLong RX7 95 (9)) ∈ gtbl := List.mem_filter.mpr ⟨List.mem_of_getElem? (i := 529) (by decide +kernel), by decide +kernel⟩
theorem m530 : (Cond.methodLink RX7 97 yX7_in) ∈ gtbl := List.mem_filter.mpr ⟨List.mem_of_getElem? (i := 530) (by decide +kernel), by decide +kernel⟩
theorem m531 : (Cond.static yX7_in) ∈ gtbl := List.mem_filter.mpr ⟨List.mem_of_getElem? (i := 531) (by decide +kernel), by decide +kernel⟩
theorem m532 : (Cond.code yX7_in cX7_in 6 (some .boolean)) ∈ gtbl := List.mem_filter.mpr ⟨List.mem_of_getElem? (i := 532) (by decide +kernel), by decide +kernel⟩
theorem m533 : (Cond.constantLong RX7 101 (20)) ∈ gtbl := List.mem_filter.mpr ⟨List.mem_of_getElem? (i := 533) (by decide +kernel), by decide +kernel⟩
theorem m534 : (Cond.constantLong RX7 103 (3)) ∈ gtbl := List.mem_filter.mpr ⟨List.mem_of_getElem? (i := 534) (by decide +kernel), by decide +kernel⟩
theorem m535 : (Cond.methodLink RX7 109 yX7_record) ∈ gtbl := List.mem_filter.mpr ⟨List.mem_of_getElem? (i := 535) (by decide +kernel), by decide +kernel⟩
theorem m537 : (Cond.instanceMethod yX7_record) ∈ gtbl := List.mem_filter.mpr ⟨List.mem_of_getElem? (i := 537) (by decide +kernel), by decide +kernel⟩
theorem m538 : (Cond.code yX7_record cX7_record 2 none) ∈ gtbl := List.mem_filter.mpr ⟨List.mem_of_getElem? (i := 538) (by decide +kernel), by decide +kernel⟩
theorem m539 : (Cond.methodLink RL 22 yX7_begin) ∈ gtbl := List.mem_filter.mpr ⟨List.mem_of_getElem? (i := 539) (by decide +kernel), by decide +kernel⟩
theorem m540 : (Cond.instanceMethod yX7_begin) ∈ gtbl := List.mem_filter.mpr ⟨List.mem_of_getElem? (i := 540) (by decide +kernel), by decide +kernel⟩
theorem m541 : (Cond.selects RX7 yX7_begin yX7_begin) ∈ gtbl := List.mem_filter.mpr ⟨List.mem_of_getElem? (i := 541) (by decide +kernel), by decide +kernel⟩
theorem m542 : (Cond.code yX7_begin cX7_begin 2 (some .int)) ∈ gtbl := List.mem_filter.mpr ⟨List.mem_of_getElem? (i := 542) (by decide +kernel), by decide +kernel⟩
theorem m543 : (Cond.methodLink RL 27 yX7_move) ∈ gtbl := List.mem_filter.mpr ⟨List.mem_of_getElem? (i := 543) (by decide +kernel), by decide +kernel⟩
theorem m544 : (Cond.instanceMethod yX7_move) ∈ gtbl := List.mem_filter.mpr ⟨List.mem_of_getElem? (i := 544) (by decide +kernel), by decide +kernel⟩
theorem m545 : (Cond.selects RX7 yX7_move yX7_move) ∈ gtbl := List.mem_filter.mpr ⟨List.mem_of_getElem? (i := 545) (by decide +kernel), by decide +kernel⟩
theorem m546 : (Cond.code yX7_move cX7_move 2 (some .int)) ∈ gtbl := List.mem_filter.mpr ⟨List.mem_of_getElem? (i := 546) (by decide +kernel), by decide +kernel⟩
theorem m547 : (Cond.methodLink RX7 114 yX7_isHouse) ∈ gtbl := List.mem_filter.mpr ⟨List.mem_of_getElem? (i := 547) (by decide +kernel), by decide +kernel⟩
theorem m548 : (Cond.static yX7_isHouse) ∈ gtbl := List.mem_filter.mpr ⟨List.mem_of_getElem? (i := 548) (by decide +kernel), by decide +kernel⟩
theorem m549 : (Cond.code yX7_isHouse cX7_isHouse 1 (some .boolean)) ∈ gtbl := List.mem_filter.mpr ⟨List.mem_of_getElem? (i := 549) (by decide +kernel), by decide +kernel⟩
theorem m550 : (Cond.constantLong RX7 112 (11)) ∈ gtbl := List.mem_filter.mpr ⟨List.mem_of_getElem? (i := 550) (by decide +kernel), by decide +kernel⟩
theorem m551 : (Cond.methodLink RX7 78 yX7_canMove) ∈ gtbl := List.mem_filter.mpr ⟨List.mem_of_getElem? (i := 551) (by decide +kernel), by decide +kernel⟩
theorem m552 : (Cond.static yX7_canMove) ∈ gtbl := List.mem_filter.mpr ⟨List.mem_of_getElem? (i := 552) (by decide +kernel), by decide +kernel⟩
theorem m553 : (Cond.code yX7_canMove cX7_canMove 3 (some .boolean)) ∈ gtbl := List.mem_filter.mpr ⟨List.mem_of_getElem? (i := 553) (by decide +kernel), by decide +kernel⟩
theorem m554 : (Cond.methodLink RX7 58 yX7_owner) ∈ gtbl := List.mem_filter.mpr ⟨List.mem_of_getElem? (i := 554) (by decide +kernel), by decide +kernel⟩
theorem m555 : (Cond.static yX7_owner) ∈ gtbl := List.mem_filter.mpr ⟨List.mem_of_getElem? (i := 555) (by decide +kernel), by decide +kernel⟩
theorem m556 : (Cond.code yX7_owner cX7_owner 1 (some .int)) ∈ gtbl := List.mem_filter.mpr ⟨List.mem_of_getElem? (i := 556) (by decide +kernel), by decide +kernel⟩
theorem m557 : (Cond.methodLink RX7 118 yX7_makes) ∈ gtbl := List.mem_filter.mpr ⟨List.mem_of_getElem? (i := 557) (by decide +kernel), by decide +kernel⟩
theorem m559 : (Cond.instanceMethod yX7_makes) ∈ gtbl := List.mem_filter.mpr ⟨List.mem_of_getElem? (i := 559) (by decide +kernel), by decide +kernel⟩
theorem m560 : (Cond.code yX7_makes cX7_makes 2 none) ∈ gtbl := List.mem_filter.mpr ⟨List.mem_of_getElem? (i := 560) (by decide +kernel), by decide +kernel⟩
theorem m561 : (Cond.methodLink RX7 85 yX7_moves) ∈ gtbl := List.mem_filter.mpr ⟨List.mem_of_getElem? (i := 561) (by decide +kernel), by decide +kernel⟩
theorem m562 : (Cond.static yX7_moves) ∈ gtbl := List.mem_filter.mpr ⟨List.mem_of_getElem? (i := 562) (by decide +kernel), by decide +kernel⟩
theorem m563 : (Cond.code yX7_moves cX7_moves 8 none) ∈ gtbl := List.mem_filter.mpr ⟨List.mem_of_getElem? (i := 563) (by decide +kernel), by decide +kernel⟩
theorem m564 : (Cond.methodLink RX7 66 yX7_sows) ∈ gtbl := List.mem_filter.mpr ⟨List.mem_of_getElem? (i := 564) (by decide +kernel), by decide +kernel⟩
theorem m565 : (Cond.static yX7_sows) ∈ gtbl := List.mem_filter.mpr ⟨List.mem_of_getElem? (i := 565) (by decide +kernel), by decide +kernel⟩
theorem m566 : (Cond.code yX7_sows cX7_sows 7 (some .int)) ∈ gtbl := List.mem_filter.mpr ⟨List.mem_of_getElem? (i := 566) (by decide +kernel), by decide +kernel⟩
theorem m567 : (Cond.methodLink RX7 62 yX7_isHostile) ∈ gtbl := List.mem_filter.mpr ⟨List.mem_of_getElem? (i := 567) (by decide +kernel), by decide +kernel⟩
theorem m568 : (Cond.static yX7_isHostile) ∈ gtbl := List.mem_filter.mpr ⟨List.mem_of_getElem? (i := 568) (by decide +kernel), by decide +kernel⟩
theorem m569 : (Cond.code yX7_isHostile cX7_isHostile 3 (some .boolean)) ∈ gtbl := List.mem_filter.mpr ⟨List.mem_of_getElem? (i := 569) (by decide +kernel), by decide +kernel⟩
theorem m570 : (Cond.methodLink RX7 70 yX7_captures) ∈ gtbl := List.mem_filter.mpr ⟨List.mem_of_getElem? (i := 570) (by decide +kernel), by decide +kernel⟩
theorem m571 : (Cond.static yX7_captures) ∈ gtbl := List.mem_filter.mpr ⟨List.mem_of_getElem? (i := 571) (by decide +kernel), by decide +kernel⟩
theorem m572 : (Cond.code yX7_captures cX7_captures 6 none) ∈ gtbl := List.mem_filter.mpr ⟨List.mem_of_getElem? (i := 572) (by decide +kernel), by decide +kernel⟩
theorem m573 : (Cond.methodLink RX7 74 yX7_ends) ∈ gtbl := List.mem_filter.mpr ⟨List.mem_of_getElem? (i := 573) (by decide +kernel), by decide +kernel⟩
theorem m574 : (Cond.static yX7_ends) ∈ gtbl := List.mem_filter.mpr ⟨List.mem_of_getElem? (i := 574) (by decide +kernel), by decide +kernel⟩
theorem m575 : (Cond.code yX7_ends cX7_ends 5 (some .boolean)) ∈ gtbl := List.mem_filter.mpr ⟨List.mem_of_getElem? (i := 575) (by decide +kernel), by decide +kernel⟩
theorem m576 : (Cond.methodLink RX7 50 yX7_total) ∈ gtbl := List.mem_filter.mpr ⟨List.mem_of_getElem? (i := 576) (by decide +kernel), by decide +kernel⟩
theorem m577 : (Cond.static yX7_total) ∈ gtbl := List.mem_filter.mpr ⟨List.mem_of_getElem? (i := 577) (by decide +kernel), by decide +kernel⟩
theorem m578 : (Cond.code yX7_total cX7_total 4 (some .int)) ∈ gtbl := List.mem_filter.mpr ⟨List.mem_of_getElem? (i := 578) (by decide +kernel), by decide +kernel⟩
theorem m579 : (Cond.methodLink RX7 54 yX7_seedsOf) ∈ gtbl := List.mem_filter.mpr ⟨List.mem_of_getElem? (i := 579) (by decide +kernel), by decide +kernel⟩
theorem m580 : (Cond.static yX7_seedsOf) ∈ gtbl := List.mem_filter.mpr ⟨List.mem_of_getElem? (i := 580) (by decide +kernel), by decide +kernel⟩
theorem m581 : (Cond.code yX7_seedsOf cX7_seedsOf 5 (some .int)) ∈ gtbl := List.mem_filter.mpr ⟨List.mem_of_getElem? (i := 581) (by decide +kernel), by decide +kernel⟩
theorem m582 : (Cond.methodLink RL 31 yX7_play) ∈ gtbl := List.mem_filter.mpr ⟨List.mem_of_getElem? (i := 582) (by decide +kernel), by decide +kernel⟩
theorem m583 : (Cond.instanceMethod yX7_play) ∈ gtbl := List.mem_filter.mpr ⟨List.mem_of_getElem? (i := 583) (by decide +kernel), by decide +kernel⟩
theorem m584 : (Cond.selects RX7 yX7_play yX7_play) ∈ gtbl := List.mem_filter.mpr ⟨List.mem_of_getElem? (i := 584) (by decide +kernel), by decide +kernel⟩
theorem m585 : (Cond.code yX7_play cX7_play 3 (some .int)) ∈ gtbl := List.mem_filter.mpr ⟨List.mem_of_getElem? (i := 585) (by decide +kernel), by decide +kernel⟩
theorem m586 : (Cond.constantLong RX7 122 (4)) ∈ gtbl := List.mem_filter.mpr ⟨List.mem_of_getElem? (i := 586) (by decide +kernel), by decide +kernel⟩
theorem m587 : (Cond.methodLink RX7 81 yX7_copy) ∈ gtbl := List.mem_filter.mpr ⟨List.mem_of_getElem? (i := 587) (by decide +kernel), by decide +kernel⟩
theorem m589 : (Cond.instanceMethod yX7_copy) ∈ gtbl := List.mem_filter.mpr ⟨List.mem_of_getElem? (i := 589) (by decide +kernel), by decide +kernel⟩
theorem m590 : (Cond.code yX7_copy cX7_copy 5 none) ∈ gtbl := List.mem_filter.mpr ⟨List.mem_of_getElem? (i := 590) (by decide +kernel), by decide +kernel⟩
theorem m591 : (Cond.methodLink RX7 124 yX7_bestOf) ∈ gtbl := List.mem_filter.mpr ⟨List.mem_of_getElem? (i := 591) (by decide +kernel), by decide +kernel⟩
theorem m593 : (Cond.instanceMethod yX7_bestOf) ∈ gtbl := List.mem_filter.mpr ⟨List.mem_of_getElem? (i := 593) (by decide +kernel), by decide +kernel⟩
theorem m594 : (Cond.code yX7_bestOf cX7_bestOf 4 (some .int)) ∈ gtbl := List.mem_filter.mpr ⟨List.mem_of_getElem? (i := 594) (by decide +kernel), by decide +kernel⟩
theorem m595 : (Cond.methodLink RX7 91 yX7_worthOf) ∈ gtbl := List.mem_filter.mpr ⟨List.mem_of_getElem? (i := 595) (by decide +kernel), by decide +kernel⟩
theorem m597 : (Cond.instanceMethod yX7_worthOf) ∈ gtbl := List.mem_filter.mpr ⟨List.mem_of_getElem? (i := 597) (by decide +kernel), by decide +kernel⟩
theorem m598 : (Cond.code yX7_worthOf cX7_worthOf 10 (some .int)) ∈ gtbl := List.mem_filter.mpr ⟨List.mem_of_getElem? (i := 598) (by decide +kernel), by decide +kernel⟩
theorem m599 : (Cond.methodLink RX7 88 yX7_ahead) ∈ gtbl := List.mem_filter.mpr ⟨List.mem_of_getElem? (i := 599) (by decide +kernel), by decide +kernel⟩
theorem m601 : (Cond.instanceMethod yX7_ahead) ∈ gtbl := List.mem_filter.mpr ⟨List.mem_of_getElem? (i := 601) (by decide +kernel), by decide +kernel⟩
theorem m602 : (Cond.code yX7_ahead cX7_ahead 4 (some .int)) ∈ gtbl := List.mem_filter.mpr ⟨List.mem_of_getElem? (i := 602) (by decide +kernel), by decide +kernel⟩
theorem m603 : (Cond.methodLink RL 35 yX7_read) ∈ gtbl := List.mem_filter.mpr ⟨List.mem_of_getElem? (i := 603) (by decide +kernel), by decide +kernel⟩
theorem m604 : (Cond.instanceMethod yX7_read) ∈ gtbl := List.mem_filter.mpr ⟨List.mem_of_getElem? (i := 604) (by decide +kernel), by decide +kernel⟩
theorem m605 : (Cond.selects RX7 yX7_read yX7_read) ∈ gtbl := List.mem_filter.mpr ⟨List.mem_of_getElem? (i := 605) (by decide +kernel), by decide +kernel⟩
theorem m606 : (Cond.code yX7_read cX7_read 2 (some .int)) ∈ gtbl := List.mem_filter.mpr ⟨List.mem_of_getElem? (i := 606) (by decide +kernel), by decide +kernel⟩
theorem m607 : (Cond.methodLink RX7 149 yX7_faultOf) ∈ gtbl := List.mem_filter.mpr ⟨List.mem_of_getElem? (i := 607) (by decide +kernel), by decide +kernel⟩
theorem m609 : (Cond.instanceMethod yX7_faultOf) ∈ gtbl := List.mem_filter.mpr ⟨List.mem_of_getElem? (i := 609) (by decide +kernel), by decide +kernel⟩
theorem m610 : (Cond.code yX7_faultOf cX7_faultOf 2 (some .int)) ∈ gtbl := List.mem_filter.mpr ⟨List.mem_of_getElem? (i := 610) (by decide +kernel), by decide +kernel⟩
theorem m611 : (Cond.methodLink RX7 141 yX7_readsNumber) ∈ gtbl := List.mem_filter.mpr ⟨List.mem_of_getElem? (i := 611) (by decide +kernel), by decide +kernel⟩
theorem m613 : (Cond.instanceMethod yX7_readsNumber) ∈ gtbl := List.mem_filter.mpr ⟨List.mem_of_getElem? (i := 613) (by decide +kernel), by decide +kernel⟩
theorem m614 : (Cond.code yX7_readsNumber cX7_readsNumber 2 (some .boolean)) ∈ gtbl := List.mem_filter.mpr ⟨List.mem_of_getElem? (i := 614) (by decide +kernel), by decide +kernel⟩
theorem m615 : (Cond.methodLink RX7 137 yX7_isDigit) ∈ gtbl := List.mem_filter.mpr ⟨List.mem_of_getElem? (i := 615) (by decide +kernel), by decide +kernel⟩
theorem m617 : (Cond.instanceMethod yX7_isDigit) ∈ gtbl := List.mem_filter.mpr ⟨List.mem_of_getElem? (i := 617) (by decide +kernel), by decide +kernel⟩
theorem m618 : (Cond.code yX7_isDigit cX7_isDigit 1 (some .boolean)) ∈ gtbl := List.mem_filter.mpr ⟨List.mem_of_getElem? (i := 618) (by decide +kernel), by decide +kernel⟩
theorem m619 : (Cond.constantLong RX7 133 (48)) ∈ gtbl := List.mem_filter.mpr ⟨List.mem_of_getElem? (i := 619) (by decide +kernel), by decide +kernel⟩
theorem m620 : (Cond.constantLong RX7 135 (57)) ∈ gtbl := List.mem_filter.mpr ⟨List.mem_of_getElem? (i := 620) (by decide +kernel), by decide +kernel⟩
theorem m621 : (Cond.methodLink RX7 144 yX7_takes) ∈ gtbl := List.mem_filter.mpr ⟨List.mem_of_getElem? (i := 621) (by decide +kernel), by decide +kernel⟩
theorem m623 : (Cond.instanceMethod yX7_takes) ∈ gtbl := List.mem_filter.mpr ⟨List.mem_of_getElem? (i := 623) (by decide +kernel), by decide +kernel⟩
theorem m624 : (Cond.code yX7_takes cX7_takes 3 (some .boolean)) ∈ gtbl := List.mem_filter.mpr ⟨List.mem_of_getElem? (i := 624) (by decide +kernel), by decide +kernel⟩
theorem m625 : (Cond.constantLong RX7 147 (49)) ∈ gtbl := List.mem_filter.mpr ⟨List.mem_of_getElem? (i := 625) (by decide +kernel), by decide +kernel⟩
theorem m626 : (Cond.methodLink RL 39 yX7_house) ∈ gtbl := List.mem_filter.mpr ⟨List.mem_of_getElem? (i := 626) (by decide +kernel), by decide +kernel⟩
theorem m627 : (Cond.instanceMethod yX7_house) ∈ gtbl := List.mem_filter.mpr ⟨List.mem_of_getElem? (i := 627) (by decide +kernel), by decide +kernel⟩
theorem m628 : (Cond.selects RX7 yX7_house yX7_house) ∈ gtbl := List.mem_filter.mpr ⟨List.mem_of_getElem? (i := 628) (by decide +kernel), by decide +kernel⟩
theorem m629 : (Cond.code yX7_house cX7_house 3 (some .int)) ∈ gtbl := List.mem_filter.mpr ⟨List.mem_of_getElem? (i := 629) (by decide +kernel), by decide +kernel⟩
theorem m630 : (Cond.constantLong RX7 153 (2)) ∈ gtbl := List.mem_filter.mpr ⟨List.mem_of_getElem? (i := 630) (by decide +kernel), by decide +kernel⟩
theorem m631 : (Cond.methodLink RL 43 yX7_count) ∈ gtbl := List.mem_filter.mpr ⟨List.mem_of_getElem? (i := 631) (by decide +kernel), by decide +kernel⟩
theorem m632 : (Cond.instanceMethod yX7_count) ∈ gtbl := List.mem_filter.mpr ⟨List.mem_of_getElem? (i := 632) (by decide +kernel), by decide +kernel⟩
theorem m633 : (Cond.selects RX7 yX7_count yX7_count) ∈ gtbl := List.mem_filter.mpr ⟨List.mem_of_getElem? (i := 633) (by decide +kernel), by decide +kernel⟩
theorem m634 : (Cond.code yX7_count cX7_count 2 (some .int)) ∈ gtbl := List.mem_filter.mpr ⟨List.mem_of_getElem? (i := 634) (by decide +kernel), by decide +kernel⟩
theorem m635 : (Cond.constantLong RX7 155 (7)) ∈ gtbl := List.mem_filter.mpr ⟨List.mem_of_getElem? (i := 635) (by decide +kernel), by decide +kernel⟩
theorem m636 : (Cond.constantLong RX7 157 (10)) ∈ gtbl := List.mem_filter.mpr ⟨List.mem_of_getElem? (i := 636) (by decide +kernel), by decide +kernel⟩
theorem m637 : (Cond.methodLink RX7 159 yX7_winner) ∈ gtbl := List.mem_filter.mpr ⟨List.mem_of_getElem? (i := 637) (by decide +kernel), by decide +kernel⟩
theorem m639 : (Cond.instanceMethod yX7_winner) ∈ gtbl := List.mem_filter.mpr ⟨List.mem_of_getElem? (i := 639) (by decide +kernel), by decide +kernel⟩
theorem m640 : (Cond.code yX7_winner cX7_winner 1 (some .int)) ∈ gtbl := List.mem_filter.mpr ⟨List.mem_of_getElem? (i := 640) (by decide +kernel), by decide +kernel⟩
theorem m641 : (Cond.methodLink RX7 162 yX7_hostiles) ∈ gtbl := List.mem_filter.mpr ⟨List.mem_of_getElem? (i := 641) (by decide +kernel), by decide +kernel⟩
theorem m643 : (Cond.instanceMethod yX7_hostiles) ∈ gtbl := List.mem_filter.mpr ⟨List.mem_of_getElem? (i := 643) (by decide +kernel), by decide +kernel⟩
theorem m644 : (Cond.code yX7_hostiles cX7_hostiles 3 (some .int)) ∈ gtbl := List.mem_filter.mpr ⟨List.mem_of_getElem? (i := 644) (by decide +kernel), by decide +kernel⟩
theorem m645 : (Cond.methodLink RL 47 yX7_last) ∈ gtbl := List.mem_filter.mpr ⟨List.mem_of_getElem? (i := 645) (by decide +kernel), by decide +kernel⟩
theorem m646 : (Cond.instanceMethod yX7_last) ∈ gtbl := List.mem_filter.mpr ⟨List.mem_of_getElem? (i := 646) (by decide +kernel), by decide +kernel⟩
theorem m647 : (Cond.selects RX7 yX7_last yX7_last) ∈ gtbl := List.mem_filter.mpr ⟨List.mem_of_getElem? (i := 647) (by decide +kernel), by decide +kernel⟩
theorem m648 : (Cond.code yX7_last cX7_last 2 (some .int)) ∈ gtbl := List.mem_filter.mpr ⟨List.mem_of_getElem? (i := 648) (by decide +kernel), by decide +kernel⟩
theorem m649 : (Cond.methodLink RL 51 yX7_moved) ∈ gtbl := List.mem_filter.mpr ⟨List.mem_of_getElem? (i := 649) (by decide +kernel), by decide +kernel⟩
theorem m650 : (Cond.instanceMethod yX7_moved) ∈ gtbl := List.mem_filter.mpr ⟨List.mem_of_getElem? (i := 650) (by decide +kernel), by decide +kernel⟩
theorem m651 : (Cond.selects RX7 yX7_moved yX7_moved) ∈ gtbl := List.mem_filter.mpr ⟨List.mem_of_getElem? (i := 651) (by decide +kernel), by decide +kernel⟩
theorem m652 : (Cond.code yX7_moved cX7_moved 2 (some .int)) ∈ gtbl := List.mem_filter.mpr ⟨List.mem_of_getElem? (i := 652) (by decide +kernel), by decide +kernel⟩
theorem m653 : (Cond.methodLink RL 55 yX7_ifMove) ∈ gtbl := List.mem_filter.mpr ⟨List.mem_of_getElem? (i := 653) (by decide +kernel), by decide +kernel⟩
theorem m654 : (Cond.instanceMethod yX7_ifMove) ∈ gtbl := List.mem_filter.mpr ⟨List.mem_of_getElem? (i := 654) (by decide +kernel), by decide +kernel⟩
theorem m655 : (Cond.selects RX7 yX7_ifMove yX7_ifMove) ∈ gtbl := List.mem_filter.mpr ⟨List.mem_of_getElem? (i := 655) (by decide +kernel), by decide +kernel⟩
theorem m656 : (Cond.code yX7_ifMove cX7_ifMove 4 (some .int)) ∈ gtbl := List.mem_filter.mpr ⟨List.mem_of_getElem? (i := 656) (by decide +kernel), by decide +kernel⟩
theorem m657 : (Cond.constantLong RX7 165 (6)) ∈ gtbl := List.mem_filter.mpr ⟨List.mem_of_getElem? (i := 657) (by decide +kernel), by decide +kernel⟩
theorem m658 : (Cond.methodLink RL 59 yX7_worth) ∈ gtbl := List.mem_filter.mpr ⟨List.mem_of_getElem? (i := 658) (by decide +kernel), by decide +kernel⟩
theorem m659 : (Cond.instanceMethod yX7_worth) ∈ gtbl := List.mem_filter.mpr ⟨List.mem_of_getElem? (i := 659) (by decide +kernel), by decide +kernel⟩
theorem m660 : (Cond.selects RX7 yX7_worth yX7_worth) ∈ gtbl := List.mem_filter.mpr ⟨List.mem_of_getElem? (i := 660) (by decide +kernel), by decide +kernel⟩
theorem m661 : (Cond.code yX7_worth cX7_worth 2 (some .int)) ∈ gtbl := List.mem_filter.mpr ⟨List.mem_of_getElem? (i := 661) (by decide +kernel), by decide +kernel⟩
theorem m662 : (Cond.methodLink RL 63 yX7_best) ∈ gtbl := List.mem_filter.mpr ⟨List.mem_of_getElem? (i := 662) (by decide +kernel), by decide +kernel⟩
theorem m663 : (Cond.instanceMethod yX7_best) ∈ gtbl := List.mem_filter.mpr ⟨List.mem_of_getElem? (i := 663) (by decide +kernel), by decide +kernel⟩
theorem m664 : (Cond.selects RX7 yX7_best yX7_best) ∈ gtbl := List.mem_filter.mpr ⟨List.mem_of_getElem? (i := 664) (by decide +kernel), by decide +kernel⟩
theorem m665 : (Cond.code yX7_best cX7_best 2 (some .int)) ∈ gtbl := List.mem_filter.mpr ⟨List.mem_of_getElem? (i := 665) (by decide +kernel), by decide +kernel⟩
theorem m666 : (Cond.methodLink RL 67 yX7_movesLeft) ∈ gtbl := List.mem_filter.mpr ⟨List.mem_of_getElem? (i := 666) (by decide +kernel), by decide +kernel⟩
theorem m667 : (Cond.instanceMethod yX7_movesLeft) ∈ gtbl := List.mem_filter.mpr ⟨List.mem_of_getElem? (i := 667) (by decide +kernel), by decide +kernel⟩
theorem m668 : (Cond.selects RX7 yX7_movesLeft yX7_movesLeft) ∈ gtbl := List.mem_filter.mpr ⟨List.mem_of_getElem? (i := 668) (by decide +kernel), by decide +kernel⟩
theorem m669 : (Cond.code yX7_movesLeft cX7_movesLeft 3 (some .int)) ∈ gtbl := List.mem_filter.mpr ⟨List.mem_of_getElem? (i := 669) (by decide +kernel), by decide +kernel⟩
theorem m670 : (Cond.methodLink RL 74 yX7_put) ∈ gtbl := List.mem_filter.mpr ⟨List.mem_of_getElem? (i := 670) (by decide +kernel), by decide +kernel⟩
theorem m671 : (Cond.instanceMethod yX7_put) ∈ gtbl := List.mem_filter.mpr ⟨List.mem_of_getElem? (i := 671) (by decide +kernel), by decide +kernel⟩
theorem m672 : (Cond.selects RX7 yX7_put yX7_put) ∈ gtbl := List.mem_filter.mpr ⟨List.mem_of_getElem? (i := 672) (by decide +kernel), by decide +kernel⟩
theorem m673 : (Cond.code yX7_put cX7_put 8 (some .int)) ∈ gtbl := List.mem_filter.mpr ⟨List.mem_of_getElem? (i := 673) (by decide +kernel), by decide +kernel⟩
theorem m674 : (Cond.constantLong RX7 167 (255)) ∈ gtbl := List.mem_filter.mpr ⟨List.mem_of_getElem? (i := 674) (by decide +kernel), by decide +kernel⟩
theorem m675 : (Cond.constantLong RX7 169 (33)) ∈ gtbl := List.mem_filter.mpr ⟨List.mem_of_getElem? (i := 675) (by decide +kernel), by decide +kernel⟩
theorem m676 : (Cond.constantLong RX7 171 (126)) ∈ gtbl := List.mem_filter.mpr ⟨List.mem_of_getElem? (i := 676) (by decide +kernel), by decide +kernel⟩
theorem m677 : (Cond.methodLink RL 78 yX7_wipe) ∈ gtbl := List.mem_filter.mpr ⟨List.mem_of_getElem? (i := 677) (by decide +kernel), by decide +kernel⟩
theorem m678 : (Cond.instanceMethod yX7_wipe) ∈ gtbl := List.mem_filter.mpr ⟨List.mem_of_getElem? (i := 678) (by decide +kernel), by decide +kernel⟩
theorem m679 : (Cond.selects RX7 yX7_wipe yX7_wipe) ∈ gtbl := List.mem_filter.mpr ⟨List.mem_of_getElem? (i := 679) (by decide +kernel), by decide +kernel⟩
theorem m680 : (Cond.code yX7_wipe cX7_wipe 2 (some .int)) ∈ gtbl := List.mem_filter.mpr ⟨List.mem_of_getElem? (i := 680) (by decide +kernel), by decide +kernel⟩
theorem m681 : (Cond.methodLink RL 82 yX7_fault) ∈ gtbl := List.mem_filter.mpr ⟨List.mem_of_getElem? (i := 681) (by decide +kernel), by decide +kernel⟩
theorem m682 : (Cond.instanceMethod yX7_fault) ∈ gtbl := List.mem_filter.mpr ⟨List.mem_of_getElem? (i := 682) (by decide +kernel), by decide +kernel⟩
theorem m683 : (Cond.selects RX7 yX7_fault yX7_fault) ∈ gtbl := List.mem_filter.mpr ⟨List.mem_of_getElem? (i := 683) (by decide +kernel), by decide +kernel⟩
theorem m684 : (Cond.code yX7_fault cX7_fault 1 (some .int)) ∈ gtbl := List.mem_filter.mpr ⟨List.mem_of_getElem? (i := 684) (by decide +kernel), by decide +kernel⟩
theorem m685 : (Cond.methodLink RL 86 yX7_undo) ∈ gtbl := List.mem_filter.mpr ⟨List.mem_of_getElem? (i := 685) (by decide +kernel), by decide +kernel⟩
theorem m686 : (Cond.instanceMethod yX7_undo) ∈ gtbl := List.mem_filter.mpr ⟨List.mem_of_getElem? (i := 686) (by decide +kernel), by decide +kernel⟩
theorem m687 : (Cond.selects RX7 yX7_undo yX7_undo) ∈ gtbl := List.mem_filter.mpr ⟨List.mem_of_getElem? (i := 687) (by decide +kernel), by decide +kernel⟩
theorem m688 : (Cond.code yX7_undo cX7_undo 2 (some .int)) ∈ gtbl := List.mem_filter.mpr ⟨List.mem_of_getElem? (i := 688) (by decide +kernel), by decide +kernel⟩
theorem m689 : (Cond.methodLink RL 90 yX7_save) ∈ gtbl := List.mem_filter.mpr ⟨List.mem_of_getElem? (i := 689) (by decide +kernel), by decide +kernel⟩
theorem m690 : (Cond.instanceMethod yX7_save) ∈ gtbl := List.mem_filter.mpr ⟨List.mem_of_getElem? (i := 690) (by decide +kernel), by decide +kernel⟩
theorem m691 : (Cond.selects RX7 yX7_save yX7_save) ∈ gtbl := List.mem_filter.mpr ⟨List.mem_of_getElem? (i := 691) (by decide +kernel), by decide +kernel⟩
theorem m692 : (Cond.code yX7_save cX7_save 3 (some .int)) ∈ gtbl := List.mem_filter.mpr ⟨List.mem_of_getElem? (i := 692) (by decide +kernel), by decide +kernel⟩
theorem m693 : (Cond.methodLink RL 94 yX7_restore) ∈ gtbl := List.mem_filter.mpr ⟨List.mem_of_getElem? (i := 693) (by decide +kernel), by decide +kernel⟩
theorem m694 : (Cond.instanceMethod yX7_restore) ∈ gtbl := List.mem_filter.mpr ⟨List.mem_of_getElem? (i := 694) (by decide +kernel), by decide +kernel⟩
theorem m695 : (Cond.selects RX7 yX7_restore yX7_restore) ∈ gtbl := List.mem_filter.mpr ⟨List.mem_of_getElem? (i := 695) (by decide +kernel), by decide +kernel⟩
theorem m696 : (Cond.code yX7_restore cX7_restore 3 (some .int)) ∈ gtbl := List.mem_filter.mpr ⟨List.mem_of_getElem? (i := 696) (by decide +kernel), by decide +kernel⟩
theorem m697 : (Cond.constantLong RL 68 (4294967295)) ∈ gtbl := List.mem_filter.mpr ⟨List.mem_of_getElem? (i := 697) (by decide +kernel), by decide +kernel⟩
theorem gX0 : ∀ w ∈ u_ws RX0 TX0 3, w ∈ gtbl := by decide +kernel
theorem gX1 : ∀ w ∈ u_ws RX1 TX1 3, w ∈ gtbl := by decide +kernel
theorem gX2 : ∀ w ∈ u_ws RX2 TX2 3, w ∈ gtbl := by decide +kernel
theorem gX3 : ∀ w ∈ u_ws RX3 TX3 6, w ∈ gtbl := by decide +kernel
theorem gX4 : ∀ w ∈ u_ws RX4 TX4 5, w ∈ gtbl := by decide +kernel
theorem gX5 : ∀ w ∈ u_ws RX5 TX5 4, w ∈ gtbl := by decide +kernel
theorem gX6 : ∀ w ∈ u_ws RX6 TX6 6, w ∈ gtbl := by decide +kernel
theorem gX7 : ∀ w ∈ u_ws RX7 TX7 13, w ∈ gtbl := by decide +kernel

theorem ks_0 : Cond.selects "java/lang/Throwable" ⟨"java/lang/Throwable", "fillInStackTrace", "(I)Ljava/lang/Throwable;"⟩ ⟨"java/lang/Throwable", "fillInStackTrace", "(I)Ljava/lang/Throwable;"⟩ ∈ W0 := W0_in (List.mem_of_getElem? (i := 0) (by decide +kernel)) (by decide +kernel)
theorem ks_1 : Cond.selects RX0 yX0_dropOldest yX0_dropOldest ∈ W0 := W0_in (List.mem_of_getElem? (i := 1) (by decide +kernel)) (by decide +kernel)
theorem ks_2 : Cond.selects RX1 yX1_reasonToWait yX1_reasonToWait ∈ W0 := W0_in (List.mem_of_getElem? (i := 2) (by decide +kernel)) (by decide +kernel)
theorem ks_3 : Cond.selects RX1 yX1_flushOut yX1_flushOut ∈ W0 := W0_in (List.mem_of_getElem? (i := 3) (by decide +kernel)) (by decide +kernel)
theorem ks_4 : Cond.selects RX1 yX1_carryOn yX1_carryOn ∈ W0 := W0_in (List.mem_of_getElem? (i := 4) (by decide +kernel)) (by decide +kernel)
theorem ks_5 : Cond.selects RX1 yX1_complain yX1_complain ∈ W0 := W0_in (List.mem_of_getElem? (i := 5) (by decide +kernel)) (by decide +kernel)
theorem kw_0 : Cond.initialized RL ∈ W0 := W0_in (List.mem_of_getElem? (i := 6) (by decide +kernel)) (by decide +kernel)
theorem kw_1 : Cond.initialized RX5 ∈ W0 := W0_in (List.mem_of_getElem? (i := 7) (by decide +kernel)) (by decide +kernel)
theorem kw_2 : Cond.initialized RX3 ∈ W0 := W0_in (List.mem_of_getElem? (i := 8) (by decide +kernel)) (by decide +kernel)
theorem kw_3 : Cond.initialized RJ7 ∈ W0 := W0_in (List.mem_of_getElem? (i := 9) (by decide +kernel)) (by decide +kernel)
theorem kw_4 : Cond.initialized RJ10 ∈ W0 := W0_in (List.mem_of_getElem? (i := 10) (by decide +kernel)) (by decide +kernel)
theorem kw_5 : Cond.initialized RX4 ∈ W0 := W0_in (List.mem_of_getElem? (i := 11) (by decide +kernel)) (by decide +kernel)
theorem kw_6 : Cond.initialized RX1 ∈ W0 := W0_in (List.mem_of_getElem? (i := 12) (by decide +kernel)) (by decide +kernel)
theorem kw_7 : Cond.initialized RX0 ∈ W0 := W0_in (List.mem_of_getElem? (i := 13) (by decide +kernel)) (by decide +kernel)
theorem kw_8 : Cond.initialized RX2 ∈ W0 := W0_in (List.mem_of_getElem? (i := 14) (by decide +kernel)) (by decide +kernel)
theorem kw_9 : Cond.initialized "java/lang/Throwable" ∈ W0 := W0_in (List.mem_of_getElem? (i := 15) (by decide +kernel)) (by decide +kernel)
theorem kw_10 : Cond.initialized "java/lang/Exception" ∈ W0 := W0_in (List.mem_of_getElem? (i := 16) (by decide +kernel)) (by decide +kernel)
theorem kw_11 : Cond.initialized "java/lang/RuntimeException" ∈ W0 := W0_in (List.mem_of_getElem? (i := 17) (by decide +kernel)) (by decide +kernel)
theorem kw_12 : Cond.initialized "java/lang/IllegalArgumentException" ∈ W0 := W0_in (List.mem_of_getElem? (i := 18) (by decide +kernel)) (by decide +kernel)
theorem kw_13 : Cond.initialized RJ9 ∈ W0 := W0_in (List.mem_of_getElem? (i := 19) (by decide +kernel)) (by decide +kernel)
theorem kw_14 : Cond.initialized "java/lang/IndexOutOfBoundsException" ∈ W0 := W0_in (List.mem_of_getElem? (i := 20) (by decide +kernel)) (by decide +kernel)
theorem kw_15 : Cond.initialized "java/lang/IllegalStateException" ∈ W0 := W0_in (List.mem_of_getElem? (i := 21) (by decide +kernel)) (by decide +kernel)
theorem kw_16 : Cond.classLink RL 10 RX5 ∈ W0 := W0_in (List.mem_of_getElem? (i := 22) (by decide +kernel)) (by decide +kernel)
theorem kw_17 : Cond.instantiable RX5 5 ∈ W0 := W0_in (List.mem_of_getElem? (i := 23) (by decide +kernel)) (by decide +kernel)
theorem kw_18 : Cond.methodLink RL 83 yX5_init ∈ W0 := W0_in (List.mem_of_getElem? (i := 24) (by decide +kernel)) (by decide +kernel)
theorem kw_19 : Cond.instanceMethod yX5_init ∈ W0 := W0_in (List.mem_of_getElem? (i := 25) (by decide +kernel)) (by decide +kernel)
theorem kw_20 : Cond.code yX5_init cX5_init 1 none ∈ W0 := W0_in (List.mem_of_getElem? (i := 26) (by decide +kernel)) (by decide +kernel)
theorem kw_21 : Cond.methodLink RX5 3 ⟨"java/lang/Object", "<init>", "()V"⟩ ∈ W0 := W0_in (List.mem_of_getElem? (i := 27) (by decide +kernel)) (by decide +kernel)
theorem kw_22 : Cond.instanceMethod ⟨"java/lang/Object", "<init>", "()V"⟩ ∈ W0 := W0_in (List.mem_of_getElem? (i := 28) (by decide +kernel)) (by decide +kernel)
theorem kw_24 : Cond.classLink RX5 9 RX3 ∈ W0 := W0_in (List.mem_of_getElem? (i := 30) (by decide +kernel)) (by decide +kernel)
theorem kw_25 : Cond.instantiable RX3 13 ∈ W0 := W0_in (List.mem_of_getElem? (i := 31) (by decide +kernel)) (by decide +kernel)
theorem kw_26 : Cond.methodLink RX5 11 yX3_init ∈ W0 := W0_in (List.mem_of_getElem? (i := 32) (by decide +kernel)) (by decide +kernel)
theorem kw_27 : Cond.instanceMethod yX3_init ∈ W0 := W0_in (List.mem_of_getElem? (i := 33) (by decide +kernel)) (by decide +kernel)
theorem kw_28 : Cond.code yX3_init cX3_init 2 none ∈ W0 := W0_in (List.mem_of_getElem? (i := 34) (by decide +kernel)) (by decide +kernel)
theorem kw_29 : Cond.methodLink RX3 3 ⟨"java/lang/Object", "<init>", "()V"⟩ ∈ W0 := W0_in (List.mem_of_getElem? (i := 35) (by decide +kernel)) (by decide +kernel)
theorem kw_30 : Cond.methodLink RX3 15 yJ7_fill_53178 ∈ W0 := W0_in (List.mem_of_getElem? (i := 36) (by decide +kernel)) (by decide +kernel)
theorem kw_31 : Cond.static yJ7_fill_53178 ∈ W0 := W0_in (List.mem_of_getElem? (i := 37) (by decide +kernel)) (by decide +kernel)
theorem kw_32 : Cond.code yJ7_fill_53178 cJ7_fill_53178 4 none ∈ W0 := W0_in (List.mem_of_getElem? (i := 38) (by decide +kernel)) (by decide +kernel)
theorem kw_35 : Cond.methodLink RX3 31 ⟨"java/lang/System", "arraycopy", "(Ljava/lang/Object;ILjava/lang/Object;II)V"⟩ ∈ W0 := W0_in (List.mem_of_getElem? (i := 41) (by decide +kernel)) (by decide +kernel)
theorem kw_36 : Cond.static ⟨"java/lang/System", "arraycopy", "(Ljava/lang/Object;ILjava/lang/Object;II)V"⟩ ∈ W0 := W0_in (List.mem_of_getElem? (i := 42) (by decide +kernel)) (by decide +kernel)
theorem kw_37 : Cond.native ⟨"java/lang/System", "arraycopy", "(Ljava/lang/Object;ILjava/lang/Object;II)V"⟩ ∈ W0 := W0_in (List.mem_of_getElem? (i := 43) (by decide +kernel)) (by decide +kernel)
theorem kw_38 : Cond.classLink RX3 55 RX4 ∈ W0 := W0_in (List.mem_of_getElem? (i := 44) (by decide +kernel)) (by decide +kernel)
theorem kw_40 : Cond.instantiable RX4 2 ∈ W0 := W0_in (List.mem_of_getElem? (i := 46) (by decide +kernel)) (by decide +kernel)
theorem kw_41 : Cond.methodLink RX3 61 yX4_init ∈ W0 := W0_in (List.mem_of_getElem? (i := 47) (by decide +kernel)) (by decide +kernel)
theorem kw_42 : Cond.instanceMethod yX4_init ∈ W0 := W0_in (List.mem_of_getElem? (i := 48) (by decide +kernel)) (by decide +kernel)
theorem kw_43 : Cond.code yX4_init cX4_init 1 none ∈ W0 := W0_in (List.mem_of_getElem? (i := 49) (by decide +kernel)) (by decide +kernel)
theorem kw_44 : Cond.methodLink RX4 3 ⟨"java/lang/Object", "<init>", "()V"⟩ ∈ W0 := W0_in (List.mem_of_getElem? (i := 50) (by decide +kernel)) (by decide +kernel)
theorem kw_45 : Cond.fieldLink RX4 9 "HydrantRounds$Tour" "streets" "[I" ∈ W0 := W0_in (List.mem_of_getElem? (i := 51) (by decide +kernel)) (by decide +kernel)
theorem kw_46 : Cond.fieldLink RX4 15 "HydrantRounds$Tour" "length" "I" ∈ W0 := W0_in (List.mem_of_getElem? (i := 52) (by decide +kernel)) (by decide +kernel)
theorem kw_54 : Cond.arrayClass Jvm.ClassFile.FieldType.int ∈ W0 := W0_in (List.mem_of_getElem? (i := 60) (by decide +kernel)) (by decide +kernel)
theorem kw_55 : Cond.arrayClass Jvm.ClassFile.FieldType.boolean ∈ W0 := W0_in (List.mem_of_getElem? (i := 61) (by decide +kernel)) (by decide +kernel)
theorem kw_56 : Cond.fieldLink RX3 9 "HydrantRounds$State" "zonePressure" "[I" ∈ W0 := W0_in (List.mem_of_getElem? (i := 62) (by decide +kernel)) (by decide +kernel)
theorem kw_58 : Cond.fieldLink RX3 21 "HydrantRounds$State" "valveOpen" "[Z" ∈ W0 := W0_in (List.mem_of_getElem? (i := 64) (by decide +kernel)) (by decide +kernel)
theorem kw_60 : Cond.fieldLink RX3 25 "HydrantRounds$State" "settings" "[I" ∈ W0 := W0_in (List.mem_of_getElem? (i := 66) (by decide +kernel)) (by decide +kernel)
theorem kw_63 : Cond.fieldLink RX3 37 "HydrantRounds$State" "dirtIn" "[I" ∈ W0 := W0_in (List.mem_of_getElem? (i := 69) (by decide +kernel)) (by decide +kernel)
theorem kw_66 : Cond.fieldLink RX3 40 "HydrantRounds$State" "takes" "[I" ∈ W0 := W0_in (List.mem_of_getElem? (i := 72) (by decide +kernel)) (by decide +kernel)
theorem kw_69 : Cond.fieldLink RX3 43 "HydrantRounds$State" "wasBrown" "[Z" ∈ W0 := W0_in (List.mem_of_getElem? (i := 75) (by decide +kernel)) (by decide +kernel)
theorem kw_71 : Cond.fieldLink RX3 46 "HydrantRounds$State" "complaints" "[I" ∈ W0 := W0_in (List.mem_of_getElem? (i := 77) (by decide +kernel)) (by decide +kernel)
theorem kw_74 : Cond.fieldLink RX3 49 "HydrantRounds$State" "flushed" "[I" ∈ W0 := W0_in (List.mem_of_getElem? (i := 80) (by decide +kernel)) (by decide +kernel)
theorem kw_77 : Cond.fieldLink RX3 52 "HydrantRounds$State" "openHours" "[I" ∈ W0 := W0_in (List.mem_of_getElem? (i := 83) (by decide +kernel)) (by decide +kernel)
theorem kw_80 : Cond.fieldLink RX3 57 "HydrantRounds$State" "tours" "[LHydrantRounds$Tour;" ∈ W0 := W0_in (List.mem_of_getElem? (i := 86) (by decide +kernel)) (by decide +kernel)
theorem kw_83 : Cond.fieldLink RX3 66 "HydrantRounds$State" "hours" "I" ∈ W0 := W0_in (List.mem_of_getElem? (i := 89) (by decide +kernel)) (by decide +kernel)
theorem kw_86 : Cond.fieldLink RX3 70 "HydrantRounds$State" "waitedHours" "I" ∈ W0 := W0_in (List.mem_of_getElem? (i := 92) (by decide +kernel)) (by decide +kernel)
theorem kw_89 : Cond.fieldLink RX3 73 "HydrantRounds$State" "lostDirt" "I" ∈ W0 := W0_in (List.mem_of_getElem? (i := 95) (by decide +kernel)) (by decide +kernel)
theorem kw_118 : Cond.classLink RX5 19 RX1 ∈ W0 := W0_in (List.mem_of_getElem? (i := 124) (by decide +kernel)) (by decide +kernel)
theorem kw_119 : Cond.instantiable RX1 3 ∈ W0 := W0_in (List.mem_of_getElem? (i := 125) (by decide +kernel)) (by decide +kernel)
theorem kw_120 : Cond.methodLink RX5 21 yX1_init ∈ W0 := W0_in (List.mem_of_getElem? (i := 126) (by decide +kernel)) (by decide +kernel)
theorem kw_121 : Cond.instanceMethod yX1_init ∈ W0 := W0_in (List.mem_of_getElem? (i := 127) (by decide +kernel)) (by decide +kernel)
theorem kw_122 : Cond.code yX1_init cX1_init 1 none ∈ W0 := W0_in (List.mem_of_getElem? (i := 128) (by decide +kernel)) (by decide +kernel)
theorem kw_123 : Cond.methodLink RX1 3 ⟨"java/lang/Object", "<init>", "()V"⟩ ∈ W0 := W0_in (List.mem_of_getElem? (i := 129) (by decide +kernel)) (by decide +kernel)
theorem kw_124 : Cond.fieldLink RX1 9 "HydrantRounds$Hour" "workers" "[I" ∈ W0 := W0_in (List.mem_of_getElem? (i := 130) (by decide +kernel)) (by decide +kernel)
theorem kw_125 : Cond.fieldLink RX1 15 "HydrantRounds$Hour" "drawn" "[I" ∈ W0 := W0_in (List.mem_of_getElem? (i := 131) (by decide +kernel)) (by decide +kernel)
theorem kw_127 : Cond.fieldLink RX1 18 "HydrantRounds$Hour" "reasons" "[I" ∈ W0 := W0_in (List.mem_of_getElem? (i := 133) (by decide +kernel)) (by decide +kernel)
theorem kw_136 : Cond.classLink RX5 26 RX0 ∈ W0 := W0_in (List.mem_of_getElem? (i := 142) (by decide +kernel)) (by decide +kernel)
theorem kw_137 : Cond.instantiable RX0 2 ∈ W0 := W0_in (List.mem_of_getElem? (i := 143) (by decide +kernel)) (by decide +kernel)
theorem kw_138 : Cond.methodLink RX5 28 yX0_init ∈ W0 := W0_in (List.mem_of_getElem? (i := 144) (by decide +kernel)) (by decide +kernel)
theorem kw_139 : Cond.instanceMethod yX0_init ∈ W0 := W0_in (List.mem_of_getElem? (i := 145) (by decide +kernel)) (by decide +kernel)
theorem kw_140 : Cond.code yX0_init cX0_init 2 none ∈ W0 := W0_in (List.mem_of_getElem? (i := 146) (by decide +kernel)) (by decide +kernel)
theorem kw_141 : Cond.methodLink RX0 3 ⟨"java/lang/Object", "<init>", "()V"⟩ ∈ W0 := W0_in (List.mem_of_getElem? (i := 147) (by decide +kernel)) (by decide +kernel)
theorem kw_142 : Cond.classLink RX0 9 RX3 ∈ W0 := W0_in (List.mem_of_getElem? (i := 148) (by decide +kernel)) (by decide +kernel)
theorem kw_144 : Cond.methodLink RX0 17 yX3_init ∈ W0 := W0_in (List.mem_of_getElem? (i := 150) (by decide +kernel)) (by decide +kernel)
theorem kw_145 : Cond.fieldLink RX0 11 "HydrantRounds$History" "states" "[LHydrantRounds$State;" ∈ W0 := W0_in (List.mem_of_getElem? (i := 151) (by decide +kernel)) (by decide +kernel)
theorem kw_146 : Cond.fieldLink RX0 18 "HydrantRounds$History" "kept" "I" ∈ W0 := W0_in (List.mem_of_getElem? (i := 152) (by decide +kernel)) (by decide +kernel)
theorem kw_153 : Cond.classLink RX5 33 RX2 ∈ W0 := W0_in (List.mem_of_getElem? (i := 159) (by decide +kernel)) (by decide +kernel)
theorem kw_154 : Cond.instantiable RX2 4 ∈ W0 := W0_in (List.mem_of_getElem? (i := 160) (by decide +kernel)) (by decide +kernel)
theorem kw_155 : Cond.methodLink RX5 35 yX2_init ∈ W0 := W0_in (List.mem_of_getElem? (i := 161) (by decide +kernel)) (by decide +kernel)
theorem kw_156 : Cond.instanceMethod yX2_init ∈ W0 := W0_in (List.mem_of_getElem? (i := 162) (by decide +kernel)) (by decide +kernel)
theorem kw_157 : Cond.code yX2_init cX2_init 1 none ∈ W0 := W0_in (List.mem_of_getElem? (i := 163) (by decide +kernel)) (by decide +kernel)
theorem kw_158 : Cond.methodLink RX2 3 ⟨"java/lang/Object", "<init>", "()V"⟩ ∈ W0 := W0_in (List.mem_of_getElem? (i := 164) (by decide +kernel)) (by decide +kernel)
theorem kw_159 : Cond.fieldLink RX2 9 "HydrantRounds$RoundsText" "codes" "[I" ∈ W0 := W0_in (List.mem_of_getElem? (i := 165) (by decide +kernel)) (by decide +kernel)
theorem kw_160 : Cond.fieldLink RX2 15 "HydrantRounds$RoundsText" "length" "I" ∈ W0 := W0_in (List.mem_of_getElem? (i := 166) (by decide +kernel)) (by decide +kernel)
theorem kw_161 : Cond.fieldLink RX2 19 "HydrantRounds$RoundsText" "place" "I" ∈ W0 := W0_in (List.mem_of_getElem? (i := 167) (by decide +kernel)) (by decide +kernel)
theorem kw_162 : Cond.fieldLink RX2 22 "HydrantRounds$RoundsText" "partStreets" "I" ∈ W0 := W0_in (List.mem_of_getElem? (i := 168) (by decide +kernel)) (by decide +kernel)
theorem kw_172 : Cond.fieldLink RX5 12 "HydrantRounds" "now" "LHydrantRounds$State;" ∈ W0 := W0_in (List.mem_of_getElem? (i := 178) (by decide +kernel)) (by decide +kernel)
theorem kw_173 : Cond.fieldLink RX5 16 "HydrantRounds" "trial" "LHydrantRounds$State;" ∈ W0 := W0_in (List.mem_of_getElem? (i := 179) (by decide +kernel)) (by decide +kernel)
theorem kw_174 : Cond.fieldLink RX5 22 "HydrantRounds" "hour" "LHydrantRounds$Hour;" ∈ W0 := W0_in (List.mem_of_getElem? (i := 180) (by decide +kernel)) (by decide +kernel)
theorem kw_175 : Cond.fieldLink RX5 29 "HydrantRounds" "history" "LHydrantRounds$History;" ∈ W0 := W0_in (List.mem_of_getElem? (i := 181) (by decide +kernel)) (by decide +kernel)
theorem kw_176 : Cond.fieldLink RX5 36 "HydrantRounds" "text" "LHydrantRounds$RoundsText;" ∈ W0 := W0_in (List.mem_of_getElem? (i := 182) (by decide +kernel)) (by decide +kernel)
theorem kw_188 : Cond.methodLink RL 77 yX5_pass ∈ W0 := W0_in (List.mem_of_getElem? (i := 194) (by decide +kernel)) (by decide +kernel)
theorem kw_189 : Cond.instanceMethod yX5_pass ∈ W0 := W0_in (List.mem_of_getElem? (i := 195) (by decide +kernel)) (by decide +kernel)
theorem kw_190 : Cond.selects RX5 yX5_pass yX5_pass ∈ W0 := W0_in (List.mem_of_getElem? (i := 196) (by decide +kernel)) (by decide +kernel)
theorem kw_191 : Cond.code yX5_pass cX5_pass 2 (some .int) ∈ W0 := W0_in (List.mem_of_getElem? (i := 197) (by decide +kernel)) (by decide +kernel)
theorem kw_192 : Cond.methodLink RX5 44 yX5_requireRange ∈ W0 := W0_in (List.mem_of_getElem? (i := 198) (by decide +kernel)) (by decide +kernel)
theorem kw_193 : Cond.static yX5_requireRange ∈ W0 := W0_in (List.mem_of_getElem? (i := 199) (by decide +kernel)) (by decide +kernel)
theorem kw_194 : Cond.code yX5_requireRange cX5_requireRange 3 none ∈ W0 := W0_in (List.mem_of_getElem? (i := 200) (by decide +kernel)) (by decide +kernel)
theorem kw_195 : Cond.classLink RX5 126 "java/lang/IllegalArgumentException" ∈ W0 := W0_in (List.mem_of_getElem? (i := 201) (by decide +kernel)) (by decide +kernel)
theorem kw_196 : Cond.instantiable "java/lang/IllegalArgumentException" 6 ∈ W0 := W0_in (List.mem_of_getElem? (i := 202) (by decide +kernel)) (by decide +kernel)
theorem kw_204 : Cond.selects "java/lang/IllegalArgumentException" ⟨"java/lang/Throwable", "fillInStackTrace", "(I)Ljava/lang/Throwable;"⟩ ⟨"java/lang/Throwable", "fillInStackTrace", "(I)Ljava/lang/Throwable;"⟩ ∈ W0 := W0_in (List.mem_of_getElem? (i := 210) (by decide +kernel)) (by decide +kernel)
theorem kw_205 : Cond.selects "java/lang/IllegalArgumentException" ⟨"java/lang/Throwable", "fillInStackTrace", "()Ljava/lang/Throwable;"⟩ ⟨"java/lang/Throwable", "fillInStackTrace", "()Ljava/lang/Throwable;"⟩ ∈ W0 := W0_in (List.mem_of_getElem? (i := 211) (by decide +kernel)) (by decide +kernel)
theorem kw_216 : Cond.fieldLink "java/lang/Throwable" 198 "java/lang/Throwable" "backtrace" "Ljava/lang/Object;" ∈ W0 := W0_in (List.mem_of_getElem? (i := 222) (by decide +kernel)) (by decide +kernel)
theorem kw_218 : Cond.instanceMethod ⟨"java/lang/Throwable", "<init>", "()V"⟩ ∈ W0 := W0_in (List.mem_of_getElem? (i := 224) (by decide +kernel)) (by decide +kernel)
theorem kw_220 : Cond.methodLink "java/lang/Throwable" 1 ⟨"java/lang/Object", "<init>", "()V"⟩ ∈ W0 := W0_in (List.mem_of_getElem? (i := 226) (by decide +kernel)) (by decide +kernel)
theorem kw_221 : Cond.fieldLink "java/lang/Throwable" 13 "java/lang/Throwable" "UNASSIGNED_STACK" "[Ljava/lang/StackTraceElement;" ∈ W0 := W0_in (List.mem_of_getElem? (i := 227) (by decide +kernel)) (by decide +kernel)
theorem kw_223 : Cond.fieldLink "java/lang/Throwable" 20 "java/lang/Throwable" "SUPPRESSED_SENTINEL" "Ljava/util/List;" ∈ W0 := W0_in (List.mem_of_getElem? (i := 229) (by decide +kernel)) (by decide +kernel)
theorem kw_225 : Cond.methodLink "java/lang/Throwable" 27 ⟨"java/lang/Throwable", "fillInStackTrace", "()Ljava/lang/Throwable;"⟩ ∈ W0 := W0_in (List.mem_of_getElem? (i := 231) (by decide +kernel)) (by decide +kernel)
theorem kw_226 : Cond.instanceMethod ⟨"java/lang/Throwable", "fillInStackTrace", "()Ljava/lang/Throwable;"⟩ ∈ W0 := W0_in (List.mem_of_getElem? (i := 232) (by decide +kernel)) (by decide +kernel)
theorem kw_228 : Cond.selects "java/lang/IllegalStateException" ⟨"java/lang/Throwable", "fillInStackTrace", "()Ljava/lang/Throwable;"⟩ ⟨"java/lang/Throwable", "fillInStackTrace", "()Ljava/lang/Throwable;"⟩ ∈ W0 := W0_in (List.mem_of_getElem? (i := 234) (by decide +kernel)) (by decide +kernel)
theorem kw_229 : Cond.selects "java/lang/IndexOutOfBoundsException" ⟨"java/lang/Throwable", "fillInStackTrace", "()Ljava/lang/Throwable;"⟩ ⟨"java/lang/Throwable", "fillInStackTrace", "()Ljava/lang/Throwable;"⟩ ∈ W0 := W0_in (List.mem_of_getElem? (i := 235) (by decide +kernel)) (by decide +kernel)
theorem kw_231 : Cond.methodLink "java/lang/Throwable" 202 ⟨"java/lang/Throwable", "fillInStackTrace", "(I)Ljava/lang/Throwable;"⟩ ∈ W0 := W0_in (List.mem_of_getElem? (i := 237) (by decide +kernel)) (by decide +kernel)
theorem kw_233 : Cond.instanceMethod ⟨"java/lang/Throwable", "fillInStackTrace", "(I)Ljava/lang/Throwable;"⟩ ∈ W0 := W0_in (List.mem_of_getElem? (i := 239) (by decide +kernel)) (by decide +kernel)
theorem kw_234 : Cond.instantiable "java/lang/Throwable" 6 ∈ W0 := W0_in (List.mem_of_getElem? (i := 240) (by decide +kernel)) (by decide +kernel)
theorem kw_235 : Cond.native ⟨"java/lang/Throwable", "fillInStackTrace", "(I)Ljava/lang/Throwable;"⟩ ∈ W0 := W0_in (List.mem_of_getElem? (i := 241) (by decide +kernel)) (by decide +kernel)
theorem kw_237 : Cond.methodLink RX5 130 ⟨"java/lang/IllegalArgumentException", "<init>", "(Ljava/lang/String;)V"⟩ ∈ W0 := W0_in (List.mem_of_getElem? (i := 243) (by decide +kernel)) (by decide +kernel)
theorem kw_238 : Cond.instanceMethod ⟨"java/lang/IllegalArgumentException", "<init>", "(Ljava/lang/String;)V"⟩ ∈ W0 := W0_in (List.mem_of_getElem? (i := 244) (by decide +kernel)) (by decide +kernel)
theorem kw_240 : Cond.methodLink "java/lang/IllegalArgumentException" 7 ⟨"java/lang/RuntimeException", "<init>", "(Ljava/lang/String;)V"⟩ ∈ W0 := W0_in (List.mem_of_getElem? (i := 246) (by decide +kernel)) (by decide +kernel)
theorem kw_241 : Cond.instanceMethod ⟨"java/lang/RuntimeException", "<init>", "(Ljava/lang/String;)V"⟩ ∈ W0 := W0_in (List.mem_of_getElem? (i := 247) (by decide +kernel)) (by decide +kernel)
theorem kw_243 : Cond.methodLink "java/lang/RuntimeException" 7 ⟨"java/lang/Exception", "<init>", "(Ljava/lang/String;)V"⟩ ∈ W0 := W0_in (List.mem_of_getElem? (i := 249) (by decide +kernel)) (by decide +kernel)
theorem kw_244 : Cond.instanceMethod ⟨"java/lang/Exception", "<init>", "(Ljava/lang/String;)V"⟩ ∈ W0 := W0_in (List.mem_of_getElem? (i := 250) (by decide +kernel)) (by decide +kernel)
theorem kw_246 : Cond.methodLink "java/lang/Exception" 7 ⟨"java/lang/Throwable", "<init>", "(Ljava/lang/String;)V"⟩ ∈ W0 := W0_in (List.mem_of_getElem? (i := 252) (by decide +kernel)) (by decide +kernel)
theorem kw_247 : Cond.instanceMethod ⟨"java/lang/Throwable", "<init>", "(Ljava/lang/String;)V"⟩ ∈ W0 := W0_in (List.mem_of_getElem? (i := 253) (by decide +kernel)) (by decide +kernel)
theorem kw_250 : Cond.fieldLink "java/lang/Throwable" 31 "java/lang/Throwable" "detailMessage" "Ljava/lang/String;" ∈ W0 := W0_in (List.mem_of_getElem? (i := 256) (by decide +kernel)) (by decide +kernel)
theorem kw_251 : Cond.fieldLink "java/lang/Throwable" 7 "java/lang/Throwable" "cause" "Ljava/lang/Throwable;" ∈ W0 := W0_in (List.mem_of_getElem? (i := 257) (by decide +kernel)) (by decide +kernel)
theorem kw_252 : Cond.fieldLink "java/lang/Throwable" 17 "java/lang/Throwable" "stackTrace" "[Ljava/lang/StackTraceElement;" ∈ W0 := W0_in (List.mem_of_getElem? (i := 258) (by decide +kernel)) (by decide +kernel)
theorem kw_253 : Cond.fieldLink "java/lang/Throwable" 24 "java/lang/Throwable" "suppressedExceptions" "Ljava/util/List;" ∈ W0 := W0_in (List.mem_of_getElem? (i := 259) (by decide +kernel)) (by decide +kernel)
theorem kw_262 : Cond.arrayClass Jvm.ClassFile.FieldType.byte ∈ W0 := W0_in (List.mem_of_getElem? (i := 268) (by decide +kernel)) (by decide +kernel)
theorem kw_263 : Cond.methodLink RX5 48 yX0_keep ∈ W0 := W0_in (List.mem_of_getElem? (i := 269) (by decide +kernel)) (by decide +kernel)
theorem kw_264 : Cond.instanceMethod yX0_keep ∈ W0 := W0_in (List.mem_of_getElem? (i := 270) (by decide +kernel)) (by decide +kernel)
theorem kw_265 : Cond.selects RX0 yX0_keep yX0_keep ∈ W0 := W0_in (List.mem_of_getElem? (i := 271) (by decide +kernel)) (by decide +kernel)
theorem kw_266 : Cond.code yX0_keep cX0_keep 2 none ∈ W0 := W0_in (List.mem_of_getElem? (i := 272) (by decide +kernel)) (by decide +kernel)
theorem kw_267 : Cond.methodLink RX0 22 yX0_dropOldest ∈ W0 := W0_in (List.mem_of_getElem? (i := 273) (by decide +kernel)) (by decide +kernel)
theorem kw_269 : Cond.instanceMethod yX0_dropOldest ∈ W0 := W0_in (List.mem_of_getElem? (i := 275) (by decide +kernel)) (by decide +kernel)
theorem kw_270 : Cond.code yX0_dropOldest cX0_dropOldest 3 none ∈ W0 := W0_in (List.mem_of_getElem? (i := 276) (by decide +kernel)) (by decide +kernel)
theorem kw_271 : Cond.methodLink RX0 25 yX3_copyFrom ∈ W0 := W0_in (List.mem_of_getElem? (i := 277) (by decide +kernel)) (by decide +kernel)
theorem kw_272 : Cond.instanceMethod yX3_copyFrom ∈ W0 := W0_in (List.mem_of_getElem? (i := 278) (by decide +kernel)) (by decide +kernel)
theorem kw_273 : Cond.selects RX3 yX3_copyFrom yX3_copyFrom ∈ W0 := W0_in (List.mem_of_getElem? (i := 279) (by decide +kernel)) (by decide +kernel)
theorem kw_274 : Cond.code yX3_copyFrom cX3_copyFrom 3 none ∈ W0 := W0_in (List.mem_of_getElem? (i := 280) (by decide +kernel)) (by decide +kernel)
theorem kw_275 : Cond.methodLink RX3 62 yX4_copyFrom ∈ W0 := W0_in (List.mem_of_getElem? (i := 281) (by decide +kernel)) (by decide +kernel)
theorem kw_276 : Cond.instanceMethod yX4_copyFrom ∈ W0 := W0_in (List.mem_of_getElem? (i := 282) (by decide +kernel)) (by decide +kernel)
theorem kw_277 : Cond.selects RX4 yX4_copyFrom yX4_copyFrom ∈ W0 := W0_in (List.mem_of_getElem? (i := 283) (by decide +kernel)) (by decide +kernel)
theorem kw_278 : Cond.code yX4_copyFrom cX4_copyFrom 2 none ∈ W0 := W0_in (List.mem_of_getElem? (i := 284) (by decide +kernel)) (by decide +kernel)
theorem kw_279 : Cond.methodLink RX4 19 ⟨"java/lang/System", "arraycopy", "(Ljava/lang/Object;ILjava/lang/Object;II)V"⟩ ∈ W0 := W0_in (List.mem_of_getElem? (i := 285) (by decide +kernel)) (by decide +kernel)
theorem kw_280 : Cond.methodLink RX5 107 yX1_playMany ∈ W0 := W0_in (List.mem_of_getElem? (i := 286) (by decide +kernel)) (by decide +kernel)
theorem kw_281 : Cond.instanceMethod yX1_playMany ∈ W0 := W0_in (List.mem_of_getElem? (i := 287) (by decide +kernel)) (by decide +kernel)
theorem kw_282 : Cond.selects RX1 yX1_playMany yX1_playMany ∈ W0 := W0_in (List.mem_of_getElem? (i := 288) (by decide +kernel)) (by decide +kernel)
theorem kw_283 : Cond.code yX1_playMany cX1_playMany 5 (some .int) ∈ W0 := W0_in (List.mem_of_getElem? (i := 289) (by decide +kernel)) (by decide +kernel)
theorem kw_285 : Cond.static yX5_sum ∈ W0 := W0_in (List.mem_of_getElem? (i := 291) (by decide +kernel)) (by decide +kernel)
theorem kw_286 : Cond.code yX5_sum cX5_sum 6 (some .int) ∈ W0 := W0_in (List.mem_of_getElem? (i := 292) (by decide +kernel)) (by decide +kernel)
theorem kw_287 : Cond.methodLink RX1 30 yX1_play ∈ W0 := W0_in (List.mem_of_getElem? (i := 293) (by decide +kernel)) (by decide +kernel)
theorem kw_288 : Cond.instanceMethod yX1_play ∈ W0 := W0_in (List.mem_of_getElem? (i := 294) (by decide +kernel)) (by decide +kernel)
theorem kw_289 : Cond.selects RX1 yX1_play yX1_play ∈ W0 := W0_in (List.mem_of_getElem? (i := 295) (by decide +kernel)) (by decide +kernel)
theorem kw_290 : Cond.code yX1_play cX1_play 3 none ∈ W0 := W0_in (List.mem_of_getElem? (i := 296) (by decide +kernel)) (by decide +kernel)
theorem kw_291 : Cond.methodLink RX1 34 yX1_openHydrants ∈ W0 := W0_in (List.mem_of_getElem? (i := 297) (by decide +kernel)) (by decide +kernel)
theorem kw_292 : Cond.instanceMethod yX1_openHydrants ∈ W0 := W0_in (List.mem_of_getElem? (i := 298) (by decide +kernel)) (by decide +kernel)
theorem kw_293 : Cond.selects RX1 yX1_openHydrants yX1_openHydrants ∈ W0 := W0_in (List.mem_of_getElem? (i := 299) (by decide +kernel)) (by decide +kernel)
theorem kw_294 : Cond.code yX1_openHydrants cX1_openHydrants 4 none ∈ W0 := W0_in (List.mem_of_getElem? (i := 300) (by decide +kernel)) (by decide +kernel)
theorem kw_295 : Cond.methodLink RX1 66 yX1_shutAll ∈ W0 := W0_in (List.mem_of_getElem? (i := 301) (by decide +kernel)) (by decide +kernel)
theorem kw_296 : Cond.instanceMethod yX1_shutAll ∈ W0 := W0_in (List.mem_of_getElem? (i := 302) (by decide +kernel)) (by decide +kernel)
theorem kw_297 : Cond.selects RX1 yX1_shutAll yX1_shutAll ∈ W0 := W0_in (List.mem_of_getElem? (i := 303) (by decide +kernel)) (by decide +kernel)
theorem kw_298 : Cond.code yX1_shutAll cX1_shutAll 1 none ∈ W0 := W0_in (List.mem_of_getElem? (i := 304) (by decide +kernel)) (by decide +kernel)
theorem kw_299 : Cond.methodLink RX1 60 yJ7_fill_53178 ∈ W0 := W0_in (List.mem_of_getElem? (i := 305) (by decide +kernel)) (by decide +kernel)
theorem kw_300 : Cond.methodLink RX1 73 yX4_at ∈ W0 := W0_in (List.mem_of_getElem? (i := 306) (by decide +kernel)) (by decide +kernel)
theorem kw_301 : Cond.instanceMethod yX4_at ∈ W0 := W0_in (List.mem_of_getElem? (i := 307) (by decide +kernel)) (by decide +kernel)
theorem kw_302 : Cond.selects RX4 yX4_at yX4_at ∈ W0 := W0_in (List.mem_of_getElem? (i := 308) (by decide +kernel)) (by decide +kernel)
theorem kw_303 : Cond.code yX4_at cX4_at 2 (some .int) ∈ W0 := W0_in (List.mem_of_getElem? (i := 309) (by decide +kernel)) (by decide +kernel)
theorem kw_304 : Cond.methodLink RX1 79 yX1_reasonToWait ∈ W0 := W0_in (List.mem_of_getElem? (i := 310) (by decide +kernel)) (by decide +kernel)
theorem kw_306 : Cond.instanceMethod yX1_reasonToWait ∈ W0 := W0_in (List.mem_of_getElem? (i := 312) (by decide +kernel)) (by decide +kernel)
theorem kw_307 : Cond.code yX1_reasonToWait cX1_reasonToWait 6 (some .int) ∈ W0 := W0_in (List.mem_of_getElem? (i := 313) (by decide +kernel)) (by decide +kernel)
theorem kw_308 : Cond.methodLink RX1 86 yX3_pressureAt ∈ W0 := W0_in (List.mem_of_getElem? (i := 314) (by decide +kernel)) (by decide +kernel)
theorem kw_309 : Cond.instanceMethod yX3_pressureAt ∈ W0 := W0_in (List.mem_of_getElem? (i := 315) (by decide +kernel)) (by decide +kernel)
theorem kw_310 : Cond.selects RX3 yX3_pressureAt yX3_pressureAt ∈ W0 := W0_in (List.mem_of_getElem? (i := 316) (by decide +kernel)) (by decide +kernel)
theorem kw_311 : Cond.code yX3_pressureAt cX3_pressureAt 7 (some .int) ∈ W0 := W0_in (List.mem_of_getElem? (i := 317) (by decide +kernel)) (by decide +kernel)
theorem kw_312 : Cond.methodLink RX1 90 yX3_sourceOf ∈ W0 := W0_in (List.mem_of_getElem? (i := 318) (by decide +kernel)) (by decide +kernel)
theorem kw_313 : Cond.instanceMethod yX3_sourceOf ∈ W0 := W0_in (List.mem_of_getElem? (i := 319) (by decide +kernel)) (by decide +kernel)
theorem kw_314 : Cond.selects RX3 yX3_sourceOf yX3_sourceOf ∈ W0 := W0_in (List.mem_of_getElem? (i := 320) (by decide +kernel)) (by decide +kernel)
theorem kw_315 : Cond.code yX3_sourceOf cX3_sourceOf 4 (some .int) ∈ W0 := W0_in (List.mem_of_getElem? (i := 321) (by decide +kernel)) (by decide +kernel)
theorem kw_316 : Cond.methodLink RX1 93 yX3_isBrown ∈ W0 := W0_in (List.mem_of_getElem? (i := 322) (by decide +kernel)) (by decide +kernel)
theorem kw_317 : Cond.instanceMethod yX3_isBrown ∈ W0 := W0_in (List.mem_of_getElem? (i := 323) (by decide +kernel)) (by decide +kernel)
theorem kw_318 : Cond.selects RX3 yX3_isBrown yX3_isBrown ∈ W0 := W0_in (List.mem_of_getElem? (i := 324) (by decide +kernel)) (by decide +kernel)
theorem kw_319 : Cond.code yX3_isBrown cX3_isBrown 2 (some .boolean) ∈ W0 := W0_in (List.mem_of_getElem? (i := 325) (by decide +kernel)) (by decide +kernel)
theorem kw_320 : Cond.methodLink RX1 41 yX1_flushOut ∈ W0 := W0_in (List.mem_of_getElem? (i := 326) (by decide +kernel)) (by decide +kernel)
theorem kw_322 : Cond.instanceMethod yX1_flushOut ∈ W0 := W0_in (List.mem_of_getElem? (i := 328) (by decide +kernel)) (by decide +kernel)
theorem kw_323 : Cond.code yX1_flushOut cX1_flushOut 6 none ∈ W0 := W0_in (List.mem_of_getElem? (i := 329) (by decide +kernel)) (by decide +kernel)
theorem kw_324 : Cond.methodLink RX1 100 yJ9_min_7cf53 ∈ W0 := W0_in (List.mem_of_getElem? (i := 330) (by decide +kernel)) (by decide +kernel)
theorem kw_325 : Cond.static yJ9_min_7cf53 ∈ W0 := W0_in (List.mem_of_getElem? (i := 331) (by decide +kernel)) (by decide +kernel)
theorem kw_326 : Cond.code yJ9_min_7cf53 cJ9_min_7cf53 2 (some .int) ∈ W0 := W0_in (List.mem_of_getElem? (i := 332) (by decide +kernel)) (by decide +kernel)
theorem kw_327 : Cond.methodLink RX1 112 yX4_dropFirst ∈ W0 := W0_in (List.mem_of_getElem? (i := 333) (by decide +kernel)) (by decide +kernel)
theorem kw_328 : Cond.instanceMethod yX4_dropFirst ∈ W0 := W0_in (List.mem_of_getElem? (i := 334) (by decide +kernel)) (by decide +kernel)
theorem kw_329 : Cond.selects RX4 yX4_dropFirst yX4_dropFirst ∈ W0 := W0_in (List.mem_of_getElem? (i := 335) (by decide +kernel)) (by decide +kernel)
theorem kw_330 : Cond.code yX4_dropFirst cX4_dropFirst 2 none ∈ W0 := W0_in (List.mem_of_getElem? (i := 336) (by decide +kernel)) (by decide +kernel)
theorem kw_331 : Cond.methodLink RX1 44 yX1_carryOn ∈ W0 := W0_in (List.mem_of_getElem? (i := 337) (by decide +kernel)) (by decide +kernel)
theorem kw_333 : Cond.instanceMethod yX1_carryOn ∈ W0 := W0_in (List.mem_of_getElem? (i := 339) (by decide +kernel)) (by decide +kernel)
theorem kw_334 : Cond.code yX1_carryOn cX1_carryOn 5 none ∈ W0 := W0_in (List.mem_of_getElem? (i := 340) (by decide +kernel)) (by decide +kernel)
theorem kw_335 : Cond.methodLink RX1 115 yX3_fedBy ∈ W0 := W0_in (List.mem_of_getElem? (i := 341) (by decide +kernel)) (by decide +kernel)
theorem kw_336 : Cond.instanceMethod yX3_fedBy ∈ W0 := W0_in (List.mem_of_getElem? (i := 342) (by decide +kernel)) (by decide +kernel)
theorem kw_337 : Cond.selects RX3 yX3_fedBy yX3_fedBy ∈ W0 := W0_in (List.mem_of_getElem? (i := 343) (by decide +kernel)) (by decide +kernel)
theorem kw_338 : Cond.code yX3_fedBy cX3_fedBy 3 (some .int) ∈ W0 := W0_in (List.mem_of_getElem? (i := 344) (by decide +kernel)) (by decide +kernel)
theorem kw_339 : Cond.methodLink RX3 83 yX3_sourceOf ∈ W0 := W0_in (List.mem_of_getElem? (i := 345) (by decide +kernel)) (by decide +kernel)
theorem kw_340 : Cond.methodLink RX1 50 yX3_addDirt ∈ W0 := W0_in (List.mem_of_getElem? (i := 346) (by decide +kernel)) (by decide +kernel)
theorem kw_341 : Cond.instanceMethod yX3_addDirt ∈ W0 := W0_in (List.mem_of_getElem? (i := 347) (by decide +kernel)) (by decide +kernel)
theorem kw_342 : Cond.selects RX3 yX3_addDirt yX3_addDirt ∈ W0 := W0_in (List.mem_of_getElem? (i := 348) (by decide +kernel)) (by decide +kernel)
theorem kw_343 : Cond.code yX3_addDirt cX3_addDirt 5 none ∈ W0 := W0_in (List.mem_of_getElem? (i := 349) (by decide +kernel)) (by decide +kernel)
theorem kw_344 : Cond.methodLink RX3 87 yJ9_min_7cf53 ∈ W0 := W0_in (List.mem_of_getElem? (i := 350) (by decide +kernel)) (by decide +kernel)
theorem kw_345 : Cond.methodLink RX1 54 yX1_complain ∈ W0 := W0_in (List.mem_of_getElem? (i := 351) (by decide +kernel)) (by decide +kernel)
theorem kw_347 : Cond.instanceMethod yX1_complain ∈ W0 := W0_in (List.mem_of_getElem? (i := 353) (by decide +kernel)) (by decide +kernel)
theorem kw_348 : Cond.code yX1_complain cX1_complain 4 none ∈ W0 := W0_in (List.mem_of_getElem? (i := 354) (by decide +kernel)) (by decide +kernel)
theorem kw_349 : Cond.methodLink RL 28 yX5_count ∈ W0 := W0_in (List.mem_of_getElem? (i := 355) (by decide +kernel)) (by decide +kernel)
theorem kw_350 : Cond.instanceMethod yX5_count ∈ W0 := W0_in (List.mem_of_getElem? (i := 356) (by decide +kernel)) (by decide +kernel)
theorem kw_351 : Cond.selects RX5 yX5_count yX5_count ∈ W0 := W0_in (List.mem_of_getElem? (i := 357) (by decide +kernel)) (by decide +kernel)
theorem kw_352 : Cond.code yX5_count cX5_count 2 (some .int) ∈ W0 := W0_in (List.mem_of_getElem? (i := 358) (by decide +kernel)) (by decide +kernel)
theorem kw_353 : Cond.methodLink RX5 176 yX5_sum ∈ W0 := W0_in (List.mem_of_getElem? (i := 359) (by decide +kernel)) (by decide +kernel)
theorem kw_354 : Cond.methodLink RX5 180 yX3_brownStreets ∈ W0 := W0_in (List.mem_of_getElem? (i := 360) (by decide +kernel)) (by decide +kernel)
theorem kw_355 : Cond.instanceMethod yX3_brownStreets ∈ W0 := W0_in (List.mem_of_getElem? (i := 361) (by decide +kernel)) (by decide +kernel)
theorem kw_356 : Cond.selects RX3 yX3_brownStreets yX3_brownStreets ∈ W0 := W0_in (List.mem_of_getElem? (i := 362) (by decide +kernel)) (by decide +kernel)
theorem kw_357 : Cond.code yX3_brownStreets cX3_brownStreets 3 (some .int) ∈ W0 := W0_in (List.mem_of_getElem? (i := 363) (by decide +kernel)) (by decide +kernel)
theorem kw_358 : Cond.methodLink RX3 76 yX3_isBrown ∈ W0 := W0_in (List.mem_of_getElem? (i := 364) (by decide +kernel)) (by decide +kernel)
theorem kw_359 : Cond.methodLink RX5 134 yX3_streetsInTours ∈ W0 := W0_in (List.mem_of_getElem? (i := 365) (by decide +kernel)) (by decide +kernel)
theorem kw_360 : Cond.instanceMethod yX3_streetsInTours ∈ W0 := W0_in (List.mem_of_getElem? (i := 366) (by decide +kernel)) (by decide +kernel)
theorem kw_361 : Cond.selects RX3 yX3_streetsInTours yX3_streetsInTours ∈ W0 := W0_in (List.mem_of_getElem? (i := 367) (by decide +kernel)) (by decide +kernel)
theorem kw_362 : Cond.code yX3_streetsInTours cX3_streetsInTours 3 (some .int) ∈ W0 := W0_in (List.mem_of_getElem? (i := 368) (by decide +kernel)) (by decide +kernel)
theorem kw_363 : Cond.methodLink RL 24 yX5_setting ∈ W0 := W0_in (List.mem_of_getElem? (i := 369) (by decide +kernel)) (by decide +kernel)
theorem kw_364 : Cond.instanceMethod yX5_setting ∈ W0 := W0_in (List.mem_of_getElem? (i := 370) (by decide +kernel)) (by decide +kernel)
theorem kw_365 : Cond.selects RX5 yX5_setting yX5_setting ∈ W0 := W0_in (List.mem_of_getElem? (i := 371) (by decide +kernel)) (by decide +kernel)
theorem kw_366 : Cond.code yX5_setting cX5_setting 2 (some .int) ∈ W0 := W0_in (List.mem_of_getElem? (i := 372) (by decide +kernel)) (by decide +kernel)
theorem kw_367 : Cond.methodLink RX5 40 yX5_requireIndex ∈ W0 := W0_in (List.mem_of_getElem? (i := 373) (by decide +kernel)) (by decide +kernel)
theorem kw_368 : Cond.static yX5_requireIndex ∈ W0 := W0_in (List.mem_of_getElem? (i := 374) (by decide +kernel)) (by decide +kernel)
theorem kw_369 : Cond.code yX5_requireIndex cX5_requireIndex 2 none ∈ W0 := W0_in (List.mem_of_getElem? (i := 375) (by decide +kernel)) (by decide +kernel)
theorem kw_370 : Cond.classLink RX5 265 "java/lang/IndexOutOfBoundsException" ∈ W0 := W0_in (List.mem_of_getElem? (i := 376) (by decide +kernel)) (by decide +kernel)
theorem kw_371 : Cond.instantiable "java/lang/IndexOutOfBoundsException" 6 ∈ W0 := W0_in (List.mem_of_getElem? (i := 377) (by decide +kernel)) (by decide +kernel)
theorem kw_373 : Cond.selects "java/lang/IndexOutOfBoundsException" ⟨"java/lang/Throwable", "fillInStackTrace", "(I)Ljava/lang/Throwable;"⟩ ⟨"java/lang/Throwable", "fillInStackTrace", "(I)Ljava/lang/Throwable;"⟩ ∈ W0 := W0_in (List.mem_of_getElem? (i := 379) (by decide +kernel)) (by decide +kernel)
theorem kw_380 : Cond.methodLink RX5 269 ⟨"java/lang/IndexOutOfBoundsException", "<init>", "(Ljava/lang/String;)V"⟩ ∈ W0 := W0_in (List.mem_of_getElem? (i := 386) (by decide +kernel)) (by decide +kernel)
theorem kw_381 : Cond.instanceMethod ⟨"java/lang/IndexOutOfBoundsException", "<init>", "(Ljava/lang/String;)V"⟩ ∈ W0 := W0_in (List.mem_of_getElem? (i := 387) (by decide +kernel)) (by decide +kernel)
theorem kw_383 : Cond.methodLink "java/lang/IndexOutOfBoundsException" 7 ⟨"java/lang/RuntimeException", "<init>", "(Ljava/lang/String;)V"⟩ ∈ W0 := W0_in (List.mem_of_getElem? (i := 389) (by decide +kernel)) (by decide +kernel)
theorem kw_386 : Cond.methodLink RL 84 yX5_ifPassed ∈ W0 := W0_in (List.mem_of_getElem? (i := 392) (by decide +kernel)) (by decide +kernel)
theorem kw_387 : Cond.instanceMethod yX5_ifPassed ∈ W0 := W0_in (List.mem_of_getElem? (i := 393) (by decide +kernel)) (by decide +kernel)
theorem kw_388 : Cond.selects RX5 yX5_ifPassed yX5_ifPassed ∈ W0 := W0_in (List.mem_of_getElem? (i := 394) (by decide +kernel)) (by decide +kernel)
theorem kw_389 : Cond.code yX5_ifPassed cX5_ifPassed 4 (some .int) ∈ W0 := W0_in (List.mem_of_getElem? (i := 395) (by decide +kernel)) (by decide +kernel)
theorem kw_390 : Cond.methodLink RX5 195 yX3_copyFrom ∈ W0 := W0_in (List.mem_of_getElem? (i := 396) (by decide +kernel)) (by decide +kernel)
theorem kw_391 : Cond.methodLink RL 95 yX5_clearIn ∈ W0 := W0_in (List.mem_of_getElem? (i := 397) (by decide +kernel)) (by decide +kernel)
theorem kw_392 : Cond.instanceMethod yX5_clearIn ∈ W0 := W0_in (List.mem_of_getElem? (i := 398) (by decide +kernel)) (by decide +kernel)
theorem kw_393 : Cond.selects RX5 yX5_clearIn yX5_clearIn ∈ W0 := W0_in (List.mem_of_getElem? (i := 399) (by decide +kernel)) (by decide +kernel)
theorem kw_394 : Cond.code yX5_clearIn cX5_clearIn 2 (some .int) ∈ W0 := W0_in (List.mem_of_getElem? (i := 400) (by decide +kernel)) (by decide +kernel)
theorem kw_395 : Cond.methodLink RX5 201 yX1_play ∈ W0 := W0_in (List.mem_of_getElem? (i := 401) (by decide +kernel)) (by decide +kernel)
theorem kw_396 : Cond.methodLink RL 52 yL_low ∈ W0 := W0_in (List.mem_of_getElem? (i := 402) (by decide +kernel)) (by decide +kernel)
theorem kw_397 : Cond.static yL_low ∈ W0 := W0_in (List.mem_of_getElem? (i := 403) (by decide +kernel)) (by decide +kernel)
theorem kw_398 : Cond.code yL_low cL_low 2 (some .int) ∈ W0 := W0_in (List.mem_of_getElem? (i := 404) (by decide +kernel)) (by decide +kernel)
theorem kw_400 : Cond.methodLink RL 46 yL_cell ∈ W0 := W0_in (List.mem_of_getElem? (i := 406) (by decide +kernel)) (by decide +kernel)
theorem kw_401 : Cond.static yL_cell ∈ W0 := W0_in (List.mem_of_getElem? (i := 407) (by decide +kernel)) (by decide +kernel)
theorem kw_402 : Cond.code yL_cell cL_cell 2 (some .int) ∈ W0 := W0_in (List.mem_of_getElem? (i := 408) (by decide +kernel)) (by decide +kernel)
theorem kw_404 : Cond.methodLink RL 91 yL_town ∈ W0 := W0_in (List.mem_of_getElem? (i := 410) (by decide +kernel)) (by decide +kernel)
theorem kw_405 : Cond.static yL_town ∈ W0 := W0_in (List.mem_of_getElem? (i := 411) (by decide +kernel)) (by decide +kernel)
theorem kw_406 : Cond.code yL_town cL_town 11 (some .boolean) ∈ W0 := W0_in (List.mem_of_getElem? (i := 412) (by decide +kernel)) (by decide +kernel)
theorem kw_407 : Cond.methodLink RL 21 yX5_street ∈ W0 := W0_in (List.mem_of_getElem? (i := 413) (by decide +kernel)) (by decide +kernel)
theorem kw_408 : Cond.instanceMethod yX5_street ∈ W0 := W0_in (List.mem_of_getElem? (i := 414) (by decide +kernel)) (by decide +kernel)
theorem kw_409 : Cond.selects RX5 yX5_street yX5_street ∈ W0 := W0_in (List.mem_of_getElem? (i := 415) (by decide +kernel)) (by decide +kernel)
theorem kw_410 : Cond.code yX5_street cX5_street 3 (some .int) ∈ W0 := W0_in (List.mem_of_getElem? (i := 416) (by decide +kernel)) (by decide +kernel)
theorem kw_411 : Cond.methodLink RX5 145 yX3_isBrown ∈ W0 := W0_in (List.mem_of_getElem? (i := 417) (by decide +kernel)) (by decide +kernel)
theorem kw_412 : Cond.methodLink RX5 149 yX1_shutAll ∈ W0 := W0_in (List.mem_of_getElem? (i := 418) (by decide +kernel)) (by decide +kernel)
theorem kw_413 : Cond.methodLink RX5 155 yX3_pressureAt ∈ W0 := W0_in (List.mem_of_getElem? (i := 419) (by decide +kernel)) (by decide +kernel)
theorem kw_414 : Cond.methodLink RX5 159 yX3_sourceOf ∈ W0 := W0_in (List.mem_of_getElem? (i := 420) (by decide +kernel)) (by decide +kernel)
theorem kw_415 : Cond.methodLink RL 31 yX5_leastPressure ∈ W0 := W0_in (List.mem_of_getElem? (i := 421) (by decide +kernel)) (by decide +kernel)
theorem kw_416 : Cond.instanceMethod yX5_leastPressure ∈ W0 := W0_in (List.mem_of_getElem? (i := 422) (by decide +kernel)) (by decide +kernel)
theorem kw_417 : Cond.selects RX5 yX5_leastPressure yX5_leastPressure ∈ W0 := W0_in (List.mem_of_getElem? (i := 423) (by decide +kernel)) (by decide +kernel)
theorem kw_418 : Cond.code yX5_leastPressure cX5_leastPressure 3 (some .int) ∈ W0 := W0_in (List.mem_of_getElem? (i := 424) (by decide +kernel)) (by decide +kernel)
theorem kw_419 : Cond.methodLink RL 34 yX5_round ∈ W0 := W0_in (List.mem_of_getElem? (i := 425) (by decide +kernel)) (by decide +kernel)
theorem kw_420 : Cond.instanceMethod yX5_round ∈ W0 := W0_in (List.mem_of_getElem? (i := 426) (by decide +kernel)) (by decide +kernel)
theorem kw_421 : Cond.selects RX5 yX5_round yX5_round ∈ W0 := W0_in (List.mem_of_getElem? (i := 427) (by decide +kernel)) (by decide +kernel)
theorem kw_422 : Cond.code yX5_round cX5_round 3 (some .int) ∈ W0 := W0_in (List.mem_of_getElem? (i := 428) (by decide +kernel)) (by decide +kernel)
theorem kw_424 : Cond.methodLink RX5 91 yX4_at ∈ W0 := W0_in (List.mem_of_getElem? (i := 430) (by decide +kernel)) (by decide +kernel)
theorem kw_425 : Cond.methodLink RL 37 yX5_waits ∈ W0 := W0_in (List.mem_of_getElem? (i := 431) (by decide +kernel)) (by decide +kernel)
theorem kw_426 : Cond.instanceMethod yX5_waits ∈ W0 := W0_in (List.mem_of_getElem? (i := 432) (by decide +kernel)) (by decide +kernel)
theorem kw_427 : Cond.selects RX5 yX5_waits yX5_waits ∈ W0 := W0_in (List.mem_of_getElem? (i := 433) (by decide +kernel)) (by decide +kernel)
theorem kw_428 : Cond.code yX5_waits cX5_waits 2 (some .int) ∈ W0 := W0_in (List.mem_of_getElem? (i := 434) (by decide +kernel)) (by decide +kernel)
theorem kw_429 : Cond.methodLink RX5 189 yX1_openHydrants ∈ W0 := W0_in (List.mem_of_getElem? (i := 435) (by decide +kernel)) (by decide +kernel)
theorem kw_430 : Cond.methodLink RL 40 yX5_cleanShare ∈ W0 := W0_in (List.mem_of_getElem? (i := 436) (by decide +kernel)) (by decide +kernel)
theorem kw_431 : Cond.instanceMethod yX5_cleanShare ∈ W0 := W0_in (List.mem_of_getElem? (i := 437) (by decide +kernel)) (by decide +kernel)
theorem kw_432 : Cond.selects RX5 yX5_cleanShare yX5_cleanShare ∈ W0 := W0_in (List.mem_of_getElem? (i := 438) (by decide +kernel)) (by decide +kernel)
theorem kw_433 : Cond.code yX5_cleanShare cX5_cleanShare 1 (some .double) ∈ W0 := W0_in (List.mem_of_getElem? (i := 439) (by decide +kernel)) (by decide +kernel)
theorem kw_434 : Cond.constantDouble "HydrantRounds" (204 : Nat) (4622945017495814144 : UInt64) ∈ W0 := W0_in (List.mem_of_getElem? (i := 440) (by decide +kernel)) (by decide +kernel)
theorem kw_435 : Cond.constantDouble "HydrantRoundsLaw" (44 : Nat) (4622945017495814144 : UInt64) ∈ W0 := W0_in (List.mem_of_getElem? (i := 441) (by decide +kernel)) (by decide +kernel)
theorem kw_436 : Cond.methodLink RL 87 yL_act ∈ W0 := W0_in (List.mem_of_getElem? (i := 442) (by decide +kernel)) (by decide +kernel)
theorem kw_437 : Cond.static yL_act ∈ W0 := W0_in (List.mem_of_getElem? (i := 443) (by decide +kernel)) (by decide +kernel)
theorem kw_438 : Cond.code yL_act cL_act 5 (some .int) ∈ W0 := W0_in (List.mem_of_getElem? (i := 444) (by decide +kernel)) (by decide +kernel)
theorem kw_439 : Cond.methodLink RL 55 yX5_pressure ∈ W0 := W0_in (List.mem_of_getElem? (i := 445) (by decide +kernel)) (by decide +kernel)
theorem kw_440 : Cond.instanceMethod yX5_pressure ∈ W0 := W0_in (List.mem_of_getElem? (i := 446) (by decide +kernel)) (by decide +kernel)
theorem kw_441 : Cond.selects RX5 yX5_pressure yX5_pressure ∈ W0 := W0_in (List.mem_of_getElem? (i := 447) (by decide +kernel)) (by decide +kernel)
theorem kw_442 : Cond.code yX5_pressure cX5_pressure 4 (some .int) ∈ W0 := W0_in (List.mem_of_getElem? (i := 448) (by decide +kernel)) (by decide +kernel)
theorem kw_443 : Cond.methodLink RL 58 yX5_valve ∈ W0 := W0_in (List.mem_of_getElem? (i := 449) (by decide +kernel)) (by decide +kernel)
theorem kw_444 : Cond.instanceMethod yX5_valve ∈ W0 := W0_in (List.mem_of_getElem? (i := 450) (by decide +kernel)) (by decide +kernel)
theorem kw_445 : Cond.selects RX5 yX5_valve yX5_valve ∈ W0 := W0_in (List.mem_of_getElem? (i := 451) (by decide +kernel)) (by decide +kernel)
theorem kw_446 : Cond.code yX5_valve cX5_valve 4 (some .int) ∈ W0 := W0_in (List.mem_of_getElem? (i := 452) (by decide +kernel)) (by decide +kernel)
theorem kw_447 : Cond.methodLink RL 62 yX5_dirt ∈ W0 := W0_in (List.mem_of_getElem? (i := 453) (by decide +kernel)) (by decide +kernel)
theorem kw_448 : Cond.instanceMethod yX5_dirt ∈ W0 := W0_in (List.mem_of_getElem? (i := 454) (by decide +kernel)) (by decide +kernel)
theorem kw_449 : Cond.selects RX5 yX5_dirt yX5_dirt ∈ W0 := W0_in (List.mem_of_getElem? (i := 455) (by decide +kernel)) (by decide +kernel)
theorem kw_450 : Cond.code yX5_dirt cX5_dirt 4 (some .int) ∈ W0 := W0_in (List.mem_of_getElem? (i := 456) (by decide +kernel)) (by decide +kernel)
theorem kw_451 : Cond.methodLink RL 65 yX5_hydrant ∈ W0 := W0_in (List.mem_of_getElem? (i := 457) (by decide +kernel)) (by decide +kernel)
theorem kw_452 : Cond.instanceMethod yX5_hydrant ∈ W0 := W0_in (List.mem_of_getElem? (i := 458) (by decide +kernel)) (by decide +kernel)
theorem kw_453 : Cond.selects RX5 yX5_hydrant yX5_hydrant ∈ W0 := W0_in (List.mem_of_getElem? (i := 459) (by decide +kernel)) (by decide +kernel)
theorem kw_454 : Cond.code yX5_hydrant cX5_hydrant 4 (some .int) ∈ W0 := W0_in (List.mem_of_getElem? (i := 460) (by decide +kernel)) (by decide +kernel)
theorem kw_455 : Cond.methodLink RL 68 yL_send ∈ W0 := W0_in (List.mem_of_getElem? (i := 461) (by decide +kernel)) (by decide +kernel)
theorem kw_456 : Cond.static yL_send ∈ W0 := W0_in (List.mem_of_getElem? (i := 462) (by decide +kernel)) (by decide +kernel)
theorem kw_458 : Cond.classLink RL 15 "java/lang/IllegalStateException" ∈ W0 := W0_in (List.mem_of_getElem? (i := 464) (by decide +kernel)) (by decide +kernel)
theorem kw_459 : Cond.methodLink RL 9 yX5_send ∈ W0 := W0_in (List.mem_of_getElem? (i := 465) (by decide +kernel)) (by decide +kernel)
theorem kw_460 : Cond.instanceMethod yX5_send ∈ W0 := W0_in (List.mem_of_getElem? (i := 466) (by decide +kernel)) (by decide +kernel)
theorem kw_461 : Cond.selects RX5 yX5_send yX5_send ∈ W0 := W0_in (List.mem_of_getElem? (i := 467) (by decide +kernel)) (by decide +kernel)
theorem kw_462 : Cond.code yX5_send cX5_send 3 (some .int) ∈ W0 := W0_in (List.mem_of_getElem? (i := 468) (by decide +kernel)) (by decide +kernel)
theorem kw_463 : Cond.methodLink RX5 70 yX4_isFull ∈ W0 := W0_in (List.mem_of_getElem? (i := 469) (by decide +kernel)) (by decide +kernel)
theorem kw_464 : Cond.instanceMethod yX4_isFull ∈ W0 := W0_in (List.mem_of_getElem? (i := 470) (by decide +kernel)) (by decide +kernel)
theorem kw_465 : Cond.selects RX4 yX4_isFull yX4_isFull ∈ W0 := W0_in (List.mem_of_getElem? (i := 471) (by decide +kernel)) (by decide +kernel)
theorem kw_466 : Cond.code yX4_isFull cX4_isFull 1 (some .boolean) ∈ W0 := W0_in (List.mem_of_getElem? (i := 472) (by decide +kernel)) (by decide +kernel)
theorem kw_467 : Cond.classLink RX5 76 "java/lang/IllegalStateException" ∈ W0 := W0_in (List.mem_of_getElem? (i := 473) (by decide +kernel)) (by decide +kernel)
theorem kw_468 : Cond.instantiable "java/lang/IllegalStateException" 6 ∈ W0 := W0_in (List.mem_of_getElem? (i := 474) (by decide +kernel)) (by decide +kernel)
theorem kw_470 : Cond.selects "java/lang/IllegalStateException" ⟨"java/lang/Throwable", "fillInStackTrace", "(I)Ljava/lang/Throwable;"⟩ ⟨"java/lang/Throwable", "fillInStackTrace", "(I)Ljava/lang/Throwable;"⟩ ∈ W0 := W0_in (List.mem_of_getElem? (i := 476) (by decide +kernel)) (by decide +kernel)
theorem kw_477 : Cond.methodLink RX5 80 ⟨"java/lang/IllegalStateException", "<init>", "(Ljava/lang/String;)V"⟩ ∈ W0 := W0_in (List.mem_of_getElem? (i := 483) (by decide +kernel)) (by decide +kernel)
theorem kw_478 : Cond.instanceMethod ⟨"java/lang/IllegalStateException", "<init>", "(Ljava/lang/String;)V"⟩ ∈ W0 := W0_in (List.mem_of_getElem? (i := 484) (by decide +kernel)) (by decide +kernel)
theorem kw_480 : Cond.methodLink "java/lang/IllegalStateException" 7 ⟨"java/lang/RuntimeException", "<init>", "(Ljava/lang/String;)V"⟩ ∈ W0 := W0_in (List.mem_of_getElem? (i := 486) (by decide +kernel)) (by decide +kernel)
theorem kw_483 : Cond.methodLink RX5 83 yX4_putLast ∈ W0 := W0_in (List.mem_of_getElem? (i := 489) (by decide +kernel)) (by decide +kernel)
theorem kw_484 : Cond.instanceMethod yX4_putLast ∈ W0 := W0_in (List.mem_of_getElem? (i := 490) (by decide +kernel)) (by decide +kernel)
theorem kw_485 : Cond.selects RX4 yX4_putLast yX4_putLast ∈ W0 := W0_in (List.mem_of_getElem? (i := 491) (by decide +kernel)) (by decide +kernel)
theorem kw_486 : Cond.code yX4_putLast cX4_putLast 2 none ∈ W0 := W0_in (List.mem_of_getElem? (i := 492) (by decide +kernel)) (by decide +kernel)
theorem kw_487 : Cond.methodLink RL 71 yX5_skip ∈ W0 := W0_in (List.mem_of_getElem? (i := 493) (by decide +kernel)) (by decide +kernel)
theorem kw_488 : Cond.instanceMethod yX5_skip ∈ W0 := W0_in (List.mem_of_getElem? (i := 494) (by decide +kernel)) (by decide +kernel)
theorem kw_489 : Cond.selects RX5 yX5_skip yX5_skip ∈ W0 := W0_in (List.mem_of_getElem? (i := 495) (by decide +kernel)) (by decide +kernel)
theorem kw_490 : Cond.code yX5_skip cX5_skip 3 (some .int) ∈ W0 := W0_in (List.mem_of_getElem? (i := 496) (by decide +kernel)) (by decide +kernel)
theorem kw_491 : Cond.methodLink RX5 95 yX4_dropFirst ∈ W0 := W0_in (List.mem_of_getElem? (i := 497) (by decide +kernel)) (by decide +kernel)
theorem kw_492 : Cond.methodLink RL 74 yX5_set ∈ W0 := W0_in (List.mem_of_getElem? (i := 498) (by decide +kernel)) (by decide +kernel)
theorem kw_493 : Cond.instanceMethod yX5_set ∈ W0 := W0_in (List.mem_of_getElem? (i := 499) (by decide +kernel)) (by decide +kernel)
theorem kw_494 : Cond.selects RX5 yX5_set yX5_set ∈ W0 := W0_in (List.mem_of_getElem? (i := 500) (by decide +kernel)) (by decide +kernel)
theorem kw_495 : Cond.code yX5_set cX5_set 4 (some .int) ∈ W0 := W0_in (List.mem_of_getElem? (i := 501) (by decide +kernel)) (by decide +kernel)
theorem kw_496 : Cond.fieldLink RX5 98 "HydrantRounds" "LEAST_SETTINGS" "[I" ∈ W0 := W0_in (List.mem_of_getElem? (i := 502) (by decide +kernel)) (by decide +kernel)
theorem kw_498 : Cond.fieldLink RX5 101 "HydrantRounds" "MOST_SETTINGS" "[I" ∈ W0 := W0_in (List.mem_of_getElem? (i := 504) (by decide +kernel)) (by decide +kernel)
theorem kw_500 : Cond.methodLink RL 80 yL_undo ∈ W0 := W0_in (List.mem_of_getElem? (i := 506) (by decide +kernel)) (by decide +kernel)
theorem kw_501 : Cond.static yL_undo ∈ W0 := W0_in (List.mem_of_getElem? (i := 507) (by decide +kernel)) (by decide +kernel)
theorem kw_503 : Cond.methodLink RL 17 yX5_undo ∈ W0 := W0_in (List.mem_of_getElem? (i := 509) (by decide +kernel)) (by decide +kernel)
theorem kw_504 : Cond.instanceMethod yX5_undo ∈ W0 := W0_in (List.mem_of_getElem? (i := 510) (by decide +kernel)) (by decide +kernel)
theorem kw_505 : Cond.selects RX5 yX5_undo yX5_undo ∈ W0 := W0_in (List.mem_of_getElem? (i := 511) (by decide +kernel)) (by decide +kernel)
theorem kw_506 : Cond.code yX5_undo cX5_undo 1 (some .int) ∈ W0 := W0_in (List.mem_of_getElem? (i := 512) (by decide +kernel)) (by decide +kernel)
theorem kw_508 : Cond.methodLink RX5 142 yX0_restore ∈ W0 := W0_in (List.mem_of_getElem? (i := 514) (by decide +kernel)) (by decide +kernel)
theorem kw_509 : Cond.instanceMethod yX0_restore ∈ W0 := W0_in (List.mem_of_getElem? (i := 515) (by decide +kernel)) (by decide +kernel)
theorem kw_510 : Cond.selects RX0 yX0_restore yX0_restore ∈ W0 := W0_in (List.mem_of_getElem? (i := 516) (by decide +kernel)) (by decide +kernel)
theorem kw_511 : Cond.code yX0_restore cX0_restore 2 none ∈ W0 := W0_in (List.mem_of_getElem? (i := 517) (by decide +kernel)) (by decide +kernel)
theorem okJ7_fill_53178 : yOk yJ7_fill_53178 cJ7_fill_53178 4 none 2 := ⟨kw_32, kw_3, ⟨by decide +kernel, by decide +kernel⟩, by decide +kernel⟩
theorem okX4_init : yOk yX4_init cX4_init 1 none 0 := ⟨kw_43, kw_5, ⟨by decide +kernel, by decide +kernel⟩, by decide +kernel⟩
theorem okX3_init : yOk yX3_init cX3_init 2 none 0 := ⟨kw_28, kw_2, ⟨by decide +kernel, by decide +kernel⟩, by decide +kernel⟩
theorem okX0_init : yOk yX0_init cX0_init 2 none 0 := ⟨kw_140, kw_7, ⟨by decide +kernel, by decide +kernel⟩, by decide +kernel⟩
theorem okX0_dropOldest : yOk yX0_dropOldest cX0_dropOldest 3 none 0 := ⟨kw_270, kw_7, ⟨by decide +kernel, by decide +kernel⟩, by decide +kernel⟩
theorem okX4_copyFrom : yOk yX4_copyFrom cX4_copyFrom 2 none 1 := ⟨kw_278, kw_5, ⟨by decide +kernel, by decide +kernel⟩, by decide +kernel⟩
theorem okX3_copyFrom : yOk yX3_copyFrom cX3_copyFrom 3 none 1 := ⟨kw_274, kw_2, ⟨by decide +kernel, by decide +kernel⟩, by decide +kernel⟩
theorem okX0_keep : yOk yX0_keep cX0_keep 2 none 1 := ⟨kw_266, kw_7, ⟨by decide +kernel, by decide +kernel⟩, by decide +kernel⟩
theorem okX0_restore : yOk yX0_restore cX0_restore 2 none 1 := ⟨kw_511, kw_7, ⟨by decide +kernel, by decide +kernel⟩, by decide +kernel⟩
theorem okX1_init : yOk yX1_init cX1_init 1 none 0 := ⟨kw_122, kw_6, ⟨by decide +kernel, by decide +kernel⟩, by decide +kernel⟩
theorem okX5_sum : yOk yX5_sum cX5_sum 6 (some .int) 1 := ⟨kw_286, kw_1, ⟨by decide +kernel, by decide +kernel⟩, by decide +kernel⟩
theorem okX1_shutAll : yOk yX1_shutAll cX1_shutAll 1 none 0 := ⟨kw_298, kw_6, ⟨by decide +kernel, by decide +kernel⟩, by decide +kernel⟩
theorem okX4_at : yOk yX4_at cX4_at 2 (some .int) 1 := ⟨kw_303, kw_5, ⟨by decide +kernel, by decide +kernel⟩, by decide +kernel⟩
theorem okX3_pressureAt : yOk yX3_pressureAt cX3_pressureAt 7 (some .int) 2 := ⟨kw_311, kw_2, ⟨by decide +kernel, by decide +kernel⟩, by decide +kernel⟩
theorem okX3_sourceOf : yOk yX3_sourceOf cX3_sourceOf 4 (some .int) 1 := ⟨kw_315, kw_2, ⟨by decide +kernel, by decide +kernel⟩, by decide +kernel⟩
theorem okX3_isBrown : yOk yX3_isBrown cX3_isBrown 2 (some .boolean) 1 := ⟨kw_319, kw_2, ⟨by decide +kernel, by decide +kernel⟩, by decide +kernel⟩
theorem okX1_reasonToWait : yOk yX1_reasonToWait cX1_reasonToWait 6 (some .int) 2 := ⟨kw_307, kw_6, ⟨by decide +kernel, by decide +kernel⟩, by decide +kernel⟩
theorem okX1_openHydrants : yOk yX1_openHydrants cX1_openHydrants 4 none 1 := ⟨kw_294, kw_6, ⟨by decide +kernel, by decide +kernel⟩, by decide +kernel⟩
theorem okX4_dropFirst : yOk yX4_dropFirst cX4_dropFirst 2 none 0 := ⟨kw_330, kw_5, ⟨by decide +kernel, by decide +kernel⟩, by decide +kernel⟩
theorem okX1_flushOut : yOk yX1_flushOut cX1_flushOut 6 none 1 := ⟨kw_323, kw_6, ⟨by decide +kernel, by decide +kernel⟩, by decide +kernel⟩
theorem okX3_fedBy : yOk yX3_fedBy cX3_fedBy 3 (some .int) 1 := ⟨kw_338, kw_2, ⟨by decide +kernel, by decide +kernel⟩, by decide +kernel⟩
theorem okX3_addDirt : yOk yX3_addDirt cX3_addDirt 5 none 2 := ⟨kw_343, kw_2, ⟨by decide +kernel, by decide +kernel⟩, by decide +kernel⟩
theorem okX1_carryOn : yOk yX1_carryOn cX1_carryOn 5 none 1 := ⟨kw_334, kw_6, ⟨by decide +kernel, by decide +kernel⟩, by decide +kernel⟩
theorem okX1_complain : yOk yX1_complain cX1_complain 4 none 1 := ⟨kw_348, kw_6, ⟨by decide +kernel, by decide +kernel⟩, by decide +kernel⟩
theorem okX1_play : yOk yX1_play cX1_play 3 none 1 := ⟨kw_290, kw_6, ⟨by decide +kernel, by decide +kernel⟩, by decide +kernel⟩
theorem okX1_playMany : yOk yX1_playMany cX1_playMany 5 (some .int) 2 := ⟨kw_283, kw_6, ⟨by decide +kernel, by decide +kernel⟩, by decide +kernel⟩
theorem okX2_init : yOk yX2_init cX2_init 1 none 0 := ⟨kw_157, kw_8, ⟨by decide +kernel, by decide +kernel⟩, by decide +kernel⟩
theorem okX3_brownStreets : yOk yX3_brownStreets cX3_brownStreets 3 (some .int) 0 := ⟨kw_357, kw_2, ⟨by decide +kernel, by decide +kernel⟩, by decide +kernel⟩
theorem okX3_streetsInTours : yOk yX3_streetsInTours cX3_streetsInTours 3 (some .int) 0 := ⟨kw_362, kw_2, ⟨by decide +kernel, by decide +kernel⟩, by decide +kernel⟩
theorem okX4_isFull : yOk yX4_isFull cX4_isFull 1 (some .boolean) 0 := ⟨kw_466, kw_5, ⟨by decide +kernel, by decide +kernel⟩, by decide +kernel⟩
theorem okX4_putLast : yOk yX4_putLast cX4_putLast 2 none 1 := ⟨kw_486, kw_5, ⟨by decide +kernel, by decide +kernel⟩, by decide +kernel⟩
theorem okX5_init : yOk yX5_init cX5_init 1 none 0 := ⟨kw_20, kw_1, ⟨by decide +kernel, by decide +kernel⟩, by decide +kernel⟩
theorem okX5_requireIndex : yOk yX5_requireIndex cX5_requireIndex 2 none 2 := ⟨kw_369, kw_1, ⟨by decide +kernel, by decide +kernel⟩, by decide +kernel⟩
theorem okX5_requireRange : yOk yX5_requireRange cX5_requireRange 3 none 3 := ⟨kw_194, kw_1, ⟨by decide +kernel, by decide +kernel⟩, by decide +kernel⟩
theorem okX5_pressure : yOk yX5_pressure cX5_pressure 4 (some .int) 2 := ⟨kw_442, kw_1, ⟨by decide +kernel, by decide +kernel⟩, by decide +kernel⟩
theorem okX5_valve : yOk yX5_valve cX5_valve 4 (some .int) 2 := ⟨kw_446, kw_1, ⟨by decide +kernel, by decide +kernel⟩, by decide +kernel⟩
theorem okX5_dirt : yOk yX5_dirt cX5_dirt 4 (some .int) 2 := ⟨kw_450, kw_1, ⟨by decide +kernel, by decide +kernel⟩, by decide +kernel⟩
theorem okX5_hydrant : yOk yX5_hydrant cX5_hydrant 4 (some .int) 2 := ⟨kw_454, kw_1, ⟨by decide +kernel, by decide +kernel⟩, by decide +kernel⟩
theorem okX5_send : yOk yX5_send cX5_send 3 (some .int) 2 := ⟨kw_462, kw_1, ⟨by decide +kernel, by decide +kernel⟩, by decide +kernel⟩
theorem okX5_skip : yOk yX5_skip cX5_skip 3 (some .int) 1 := ⟨kw_490, kw_1, ⟨by decide +kernel, by decide +kernel⟩, by decide +kernel⟩
theorem okX5_set : yOk yX5_set cX5_set 4 (some .int) 2 := ⟨kw_495, kw_1, ⟨by decide +kernel, by decide +kernel⟩, by decide +kernel⟩
theorem okX5_pass : yOk yX5_pass cX5_pass 2 (some .int) 1 := ⟨kw_191, kw_1, ⟨by decide +kernel, by decide +kernel⟩, by decide +kernel⟩
theorem okX5_undo : yOk yX5_undo cX5_undo 1 (some .int) 0 := ⟨kw_506, kw_1, ⟨by decide +kernel, by decide +kernel⟩, by decide +kernel⟩
theorem okX5_street : yOk yX5_street cX5_street 3 (some .int) 2 := ⟨kw_410, kw_1, ⟨by decide +kernel, by decide +kernel⟩, by decide +kernel⟩
theorem okX5_round : yOk yX5_round cX5_round 3 (some .int) 2 := ⟨kw_422, kw_1, ⟨by decide +kernel, by decide +kernel⟩, by decide +kernel⟩
theorem okX5_count : yOk yX5_count cX5_count 2 (some .int) 1 := ⟨kw_352, kw_1, ⟨by decide +kernel, by decide +kernel⟩, by decide +kernel⟩
theorem okX5_setting : yOk yX5_setting cX5_setting 2 (some .int) 1 := ⟨kw_366, kw_1, ⟨by decide +kernel, by decide +kernel⟩, by decide +kernel⟩
theorem okX5_waits : yOk yX5_waits cX5_waits 2 (some .int) 1 := ⟨kw_428, kw_1, ⟨by decide +kernel, by decide +kernel⟩, by decide +kernel⟩
theorem okX5_ifPassed : yOk yX5_ifPassed cX5_ifPassed 4 (some .int) 2 := ⟨kw_389, kw_1, ⟨by decide +kernel, by decide +kernel⟩, by decide +kernel⟩
theorem okX5_clearIn : yOk yX5_clearIn cX5_clearIn 2 (some .int) 0 := ⟨kw_394, kw_1, ⟨by decide +kernel, by decide +kernel⟩, by decide +kernel⟩
theorem okX5_leastPressure : yOk yX5_leastPressure cX5_leastPressure 3 (some .int) 1 := ⟨kw_418, kw_1, ⟨by decide +kernel, by decide +kernel⟩, by decide +kernel⟩
theorem okX5_cleanShare : yOk yX5_cleanShare cX5_cleanShare 1 (some .double) 0 := ⟨kw_433, kw_1, ⟨by decide +kernel, by decide +kernel⟩, by decide +kernel⟩
theorem okJ9_min_7cf53 : yOk yJ9_min_7cf53 cJ9_min_7cf53 2 (some .int) 2 := ⟨kw_326, kw_13, ⟨by decide +kernel, by decide +kernel⟩, by decide +kernel⟩
theorem okL_low : yOk yL_low cL_low 2 (some .int) 2 := ⟨kw_398, kw_0, ⟨by decide +kernel, by decide +kernel⟩, by decide +kernel⟩
theorem okL_cell : yOk yL_cell cL_cell 2 (some .int) 2 := ⟨kw_402, kw_0, ⟨by decide +kernel, by decide +kernel⟩, by decide +kernel⟩
theorem okL_town : yOk yL_town cL_town 11 (some .boolean) 1 := ⟨kw_406, kw_0, ⟨by decide +kernel, by decide +kernel⟩, by decide +kernel⟩
theorem okL_act : yOk yL_act cL_act 5 (some .int) 3 := ⟨kw_438, kw_0, ⟨by decide +kernel, by decide +kernel⟩, by decide +kernel⟩
theorem in_X0 : ∀ w ∈ u_ws RX0 TX0 2, w ∈ W0 := by decide +kernel
theorem in_X1 : ∀ w ∈ u_ws RX1 TX1 3, w ∈ W0 := by decide +kernel
theorem in_X2 : ∀ w ∈ u_ws RX2 TX2 4, w ∈ W0 := by decide +kernel
theorem in_X3 : ∀ w ∈ u_ws RX3 TX3 13, w ∈ W0 := by decide +kernel
theorem in_X4 : ∀ w ∈ u_ws RX4 TX4 2, w ∈ W0 := by decide +kernel
theorem in_X5 : ∀ w ∈ u_ws RX5 TX5 5, w ∈ W0 := by decide +kernel
theorem kn_0 : (Jvm.Cond.fieldLinkNest "HydrantRounds$State" (28 : Nat) "HydrantRounds" "FIRST_SETTINGS" "[I" "HydrantRounds") ∈ NWS := List.mem_of_getElem? (i := 0) rfl
theorem kn_1 : (Jvm.Cond.fieldLinkNest "HydrantRounds$State" (80 : Nat) "HydrantRounds$Tour" "length" "I" "HydrantRounds") ∈ NWS := List.mem_of_getElem? (i := 1) rfl
theorem kn_2 : (Jvm.Cond.fieldLinkNest "HydrantRounds" (87 : Nat) "HydrantRounds$Tour" "length" "I" "HydrantRounds") ∈ NWS := List.mem_of_getElem? (i := 2) rfl
theorem kn_3 : (Jvm.Cond.fieldLinkNest "HydrantRounds" (52 : Nat) "HydrantRounds$State" "zonePressure" "[I" "HydrantRounds") ∈ NWS := List.mem_of_getElem? (i := 3) rfl
theorem kn_4 : (Jvm.Cond.fieldLinkNest "HydrantRounds" (56 : Nat) "HydrantRounds$State" "valveOpen" "[Z" "HydrantRounds") ∈ NWS := List.mem_of_getElem? (i := 4) rfl
theorem kn_5 : (Jvm.Cond.fieldLinkNest "HydrantRounds$Hour" (47 : Nat) "HydrantRounds$State" "settings" "[I" "HydrantRounds") ∈ NWS := List.mem_of_getElem? (i := 5) rfl
theorem kn_6 : (Jvm.Cond.fieldLinkNest "HydrantRounds" (104 : Nat) "HydrantRounds$State" "settings" "[I" "HydrantRounds") ∈ NWS := List.mem_of_getElem? (i := 6) rfl
theorem kn_7 : (Jvm.Cond.fieldLinkNest "HydrantRounds" (60 : Nat) "HydrantRounds$State" "dirtIn" "[I" "HydrantRounds") ∈ NWS := List.mem_of_getElem? (i := 7) rfl
theorem kn_8 : (Jvm.Cond.fieldLinkNest "HydrantRounds$Hour" (97 : Nat) "HydrantRounds$State" "dirtIn" "[I" "HydrantRounds") ∈ NWS := List.mem_of_getElem? (i := 8) rfl
theorem kn_9 : (Jvm.Cond.fieldLinkNest "HydrantRounds" (63 : Nat) "HydrantRounds$State" "takes" "[I" "HydrantRounds") ∈ NWS := List.mem_of_getElem? (i := 9) rfl
theorem kn_10 : (Jvm.Cond.fieldLinkNest "HydrantRounds$Hour" (83 : Nat) "HydrantRounds$State" "takes" "[I" "HydrantRounds") ∈ NWS := List.mem_of_getElem? (i := 10) rfl
theorem kn_11 : (Jvm.Cond.fieldLinkNest "HydrantRounds$Hour" (118 : Nat) "HydrantRounds$State" "wasBrown" "[Z" "HydrantRounds") ∈ NWS := List.mem_of_getElem? (i := 11) rfl
theorem kn_12 : (Jvm.Cond.fieldLinkNest "HydrantRounds$Hour" (21 : Nat) "HydrantRounds$State" "complaints" "[I" "HydrantRounds") ∈ NWS := List.mem_of_getElem? (i := 12) rfl
theorem kn_13 : (Jvm.Cond.fieldLinkNest "HydrantRounds" (162 : Nat) "HydrantRounds$State" "complaints" "[I" "HydrantRounds") ∈ NWS := List.mem_of_getElem? (i := 13) rfl
theorem kn_14 : (Jvm.Cond.fieldLinkNest "HydrantRounds$Hour" (106 : Nat) "HydrantRounds$State" "flushed" "[I" "HydrantRounds") ∈ NWS := List.mem_of_getElem? (i := 14) rfl
theorem kn_15 : (Jvm.Cond.fieldLinkNest "HydrantRounds" (165 : Nat) "HydrantRounds$State" "flushed" "[I" "HydrantRounds") ∈ NWS := List.mem_of_getElem? (i := 15) rfl
theorem kn_16 : (Jvm.Cond.fieldLinkNest "HydrantRounds$Hour" (109 : Nat) "HydrantRounds$State" "openHours" "[I" "HydrantRounds") ∈ NWS := List.mem_of_getElem? (i := 16) rfl
theorem kn_17 : (Jvm.Cond.fieldLinkNest "HydrantRounds" (168 : Nat) "HydrantRounds$State" "openHours" "[I" "HydrantRounds") ∈ NWS := List.mem_of_getElem? (i := 17) rfl
theorem kn_18 : (Jvm.Cond.fieldLinkNest "HydrantRounds$Hour" (69 : Nat) "HydrantRounds$State" "tours" "[LHydrantRounds$Tour;" "HydrantRounds") ∈ NWS := List.mem_of_getElem? (i := 18) rfl
theorem kn_19 : (Jvm.Cond.fieldLinkNest "HydrantRounds" (66 : Nat) "HydrantRounds$State" "tours" "[LHydrantRounds$Tour;" "HydrantRounds") ∈ NWS := List.mem_of_getElem? (i := 19) rfl
theorem kn_20 : (Jvm.Cond.fieldLinkNest "HydrantRounds$Hour" (57 : Nat) "HydrantRounds$State" "hours" "I" "HydrantRounds") ∈ NWS := List.mem_of_getElem? (i := 20) rfl
theorem kn_21 : (Jvm.Cond.fieldLinkNest "HydrantRounds" (173 : Nat) "HydrantRounds$State" "hours" "I" "HydrantRounds") ∈ NWS := List.mem_of_getElem? (i := 21) rfl
theorem kn_22 : (Jvm.Cond.fieldLinkNest "HydrantRounds$Hour" (37 : Nat) "HydrantRounds$State" "waitedHours" "I" "HydrantRounds") ∈ NWS := List.mem_of_getElem? (i := 22) rfl
theorem kn_23 : (Jvm.Cond.fieldLinkNest "HydrantRounds" (183 : Nat) "HydrantRounds$State" "waitedHours" "I" "HydrantRounds") ∈ NWS := List.mem_of_getElem? (i := 23) rfl
theorem kn_24 : (Jvm.Cond.fieldLinkNest "HydrantRounds" (186 : Nat) "HydrantRounds$State" "lostDirt" "I" "HydrantRounds") ∈ NWS := List.mem_of_getElem? (i := 24) rfl
theorem kn_25 : (Jvm.Cond.fieldLinkNest "HydrantRounds" (152 : Nat) "HydrantRounds$Hour" "drawn" "[I" "HydrantRounds") ∈ NWS := List.mem_of_getElem? (i := 25) rfl
theorem kn_26 : (Jvm.Cond.fieldLinkNest "HydrantRounds" (192 : Nat) "HydrantRounds$Hour" "reasons" "[I" "HydrantRounds") ∈ NWS := List.mem_of_getElem? (i := 26) rfl
theorem kn_27 : (Jvm.Cond.fieldLinkNest "HydrantRounds" (137 : Nat) "HydrantRounds$History" "kept" "I" "HydrantRounds") ∈ NWS := List.mem_of_getElem? (i := 27) rfl
theorem kn_28 : (Jvm.Cond.methodLinkNest "HydrantRounds$Hour" (26 : Nat) ({ cls := "HydrantRounds", name := "sum", desc := "([I)I" } : Jvm.MethodName) "HydrantRounds") ∈ NWS := List.mem_of_getElem? (i := 28) rfl

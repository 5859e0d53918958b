abbrev b_WA_makeRows : ByteArray := prog_7_method_3_code
def y_WA_makeRows : MethodName := ⟨R_WA, "makeRows", "(I)V"⟩
abbrev b_WA_come : ByteArray := prog_7_method_4_code
def y_WA_come : MethodName := ⟨R_WA, "come", "(I)V"⟩
abbrev b_WA_enter : ByteArray := prog_7_method_6_code
def y_WA_enter : MethodName := ⟨R_WA, "enter", "(I)V"⟩
abbrev b_WA_goOn : ByteArray := prog_7_method_5_code
def y_WA_goOn : MethodName := ⟨R_WA, "goOn", "(LSmallExhaust$Machine;II)V"⟩
abbrev b_WA_run : ByteArray := prog_7_method_2_code
def y_WA_run : MethodName := ⟨R_WA, "run", "(LSmallExhaust$Machine;II)V"⟩
theorem k_185 : Cond.fieldLink R_WA 18 R_WA "order" "[I" ∈ wsG := by decide +kernel
theorem k_186 : Cond.fieldLink R_WA 22 R_WA "numberOf" "[I" ∈ wsG := by decide +kernel
theorem k_187 : Cond.fieldLink R_WA 42 R_WA "entered" "[I" ∈ wsG := by decide +kernel
theorem k_188 : Cond.fieldLink R_WA 12 R_WA "ways" "LSmallExhaust$Trail;" ∈ wsG := by decide +kernel
theorem k_189 : Cond.fieldLink R_WA 25 R_WA "size" "I" ∈ wsG := by decide +kernel
theorem k_190 : Cond.fieldLink R_WA 36 R_WA "joined" "I" ∈ wsG := by decide +kernel
theorem k_191 : Cond.fieldLink R_WA 72 R_MA "inputs" "I" ∈ wsG := by decide +kernel
theorem k_192 : Cond.fieldLink R_WA 39 R_WA "resting" "I" ∈ wsG := by decide +kernel
theorem k_193 : Cond.fieldLink R_WA 33 R_WA "fits" "Z" ∈ wsG := by decide +kernel
theorem k_194 : Cond.fieldLink R_WA 29 R_WA "stands" "Z" ∈ wsG := by decide +kernel
theorem k_195 : Cond.code y_TR_makeRows b_TR_makeRows 2 none ∈ wsG := by decide +kernel
theorem k_196 : Cond.methodLink R_WA 71 y_TR_makeRows ∈ wsG := by decide +kernel
theorem k_197 : Cond.instanceMethod y_TR_makeRows ∈ wsG := by decide +kernel
theorem k_198 : Cond.selects R_TR y_TR_makeRows y_TR_makeRows ∈ wsG := by decide +kernel
theorem k_199 : Cond.code y_MA_next b_MA_next 3 (some .int) ∈ wsG := by decide +kernel
theorem k_200 : Cond.methodLink R_WA 75 y_MA_next ∈ wsG := by decide +kernel
theorem k_201 : Cond.instanceMethod y_MA_next ∈ wsG := by decide +kernel
theorem k_202 : Cond.selects R_MA y_MA_next y_MA_next ∈ wsG := by decide +kernel
theorem k_203 : Cond.code y_WA_enter b_WA_enter 2 none ∈ wsG := by decide +kernel
theorem k_204 : Cond.methodLink R_WA 83 y_WA_enter ∈ wsG := by decide +kernel
theorem k_205 : Cond.initialized R_WA ∈ wsG := by decide +kernel
theorem k_206 : Cond.instanceMethod y_WA_enter ∈ wsG := by decide +kernel
theorem k_207 : Cond.selects R_WA y_WA_enter y_WA_enter ∈ wsG := by decide +kernel
theorem k_208 : Cond.code y_TR_lead b_TR_lead 4 none ∈ wsG := by decide +kernel
theorem k_209 : Cond.methodLink R_WA 79 y_TR_lead ∈ wsG := by decide +kernel
theorem k_210 : Cond.instanceMethod y_TR_lead ∈ wsG := by decide +kernel
theorem k_211 : Cond.selects R_TR y_TR_lead y_TR_lead ∈ wsG := by decide +kernel
theorem k_212 : Cond.code y_WA_come b_WA_come 2 none ∈ wsG := by decide +kernel
theorem k_213 : Cond.methodLink R_WA 61 y_WA_come ∈ wsG := by decide +kernel
theorem k_214 : Cond.instanceMethod y_WA_come ∈ wsG := by decide +kernel
theorem k_215 : Cond.selects R_WA y_WA_come y_WA_come ∈ wsG := by decide +kernel
theorem k_216 : Cond.methodLink R_WA 45 y_MA_states ∈ wsG := by decide +kernel
theorem k_217 : Cond.code y_WA_makeRows b_WA_makeRows 2 none ∈ wsG := by decide +kernel
theorem k_218 : Cond.methodLink R_WA 51 y_WA_makeRows ∈ wsG := by decide +kernel
theorem k_219 : Cond.instanceMethod y_WA_makeRows ∈ wsG := by decide +kernel
theorem k_220 : Cond.selects R_WA y_WA_makeRows y_WA_makeRows ∈ wsG := by decide +kernel
theorem k_221 : Cond.methodLink R_WA 55 y_AR_fill ∈ wsG := by decide +kernel
theorem k_222 : Cond.code y_TR_start b_TR_start 2 none ∈ wsG := by decide +kernel
theorem k_223 : Cond.methodLink R_WA 64 y_TR_start ∈ wsG := by decide +kernel
theorem k_224 : Cond.instanceMethod y_TR_start ∈ wsG := by decide +kernel
theorem k_225 : Cond.selects R_TR y_TR_start y_TR_start ∈ wsG := by decide +kernel
theorem k_226 : Cond.code y_WA_goOn b_WA_goOn 8 none ∈ wsG := by decide +kernel
theorem k_227 : Cond.methodLink R_WA 67 y_WA_goOn ∈ wsG := by decide +kernel
theorem k_228 : Cond.instanceMethod y_WA_goOn ∈ wsG := by decide +kernel
theorem k_229 : Cond.selects R_WA y_WA_goOn y_WA_goOn ∈ wsG := by decide +kernel
theorem d_WA_makeRows_0 : decode b_WA_makeRows 0 = .ok (.aload_n 0, 1) := by decide +kernel
theorem d_WA_makeRows_1 : decode b_WA_makeRows 1 = .ok (.getfield 18, 3) := by decide +kernel
theorem d_WA_makeRows_4 : decode b_WA_makeRows 4 = .ok (.arraylength, 1) := by decide +kernel
theorem d_WA_makeRows_5 : decode b_WA_makeRows 5 = .ok (.iload_n 1, 1) := by decide +kernel
theorem d_WA_makeRows_6 : decode b_WA_makeRows 6 = .ok (.if_icmp .ge 32, 3) := by decide +kernel
theorem d_WA_makeRows_9 : decode b_WA_makeRows 9 = .ok (.aload_n 0, 1) := by decide +kernel
theorem d_WA_makeRows_10 : decode b_WA_makeRows 10 = .ok (.iload_n 1, 1) := by decide +kernel
theorem d_WA_makeRows_11 : decode b_WA_makeRows 11 = .ok (.newarray .int, 2) := by decide +kernel
theorem d_WA_makeRows_13 : decode b_WA_makeRows 13 = .ok (.putfield 18, 3) := by decide +kernel
theorem d_WA_makeRows_16 : decode b_WA_makeRows 16 = .ok (.aload_n 0, 1) := by decide +kernel
theorem d_WA_makeRows_17 : decode b_WA_makeRows 17 = .ok (.iload_n 1, 1) := by decide +kernel
theorem d_WA_makeRows_18 : decode b_WA_makeRows 18 = .ok (.newarray .int, 2) := by decide +kernel
theorem d_WA_makeRows_20 : decode b_WA_makeRows 20 = .ok (.putfield 22, 3) := by decide +kernel
theorem d_WA_makeRows_23 : decode b_WA_makeRows 23 = .ok (.aload_n 0, 1) := by decide +kernel
theorem d_WA_makeRows_24 : decode b_WA_makeRows 24 = .ok (.iload_n 1, 1) := by decide +kernel
theorem d_WA_makeRows_25 : decode b_WA_makeRows 25 = .ok (.newarray .int, 2) := by decide +kernel
theorem d_WA_makeRows_27 : decode b_WA_makeRows 27 = .ok (.putfield 42, 3) := by decide +kernel
theorem d_WA_makeRows_30 : decode b_WA_makeRows 30 = .ok (.aload_n 0, 1) := by decide +kernel
theorem d_WA_makeRows_31 : decode b_WA_makeRows 31 = .ok (.getfield 12, 3) := by decide +kernel
theorem d_WA_makeRows_34 : decode b_WA_makeRows 34 = .ok (.iload_n 1, 1) := by decide +kernel
theorem d_WA_makeRows_35 : decode b_WA_makeRows 35 = .ok (.invokevirtual 71, 3) := by decide +kernel
theorem d_WA_makeRows_38 : decode b_WA_makeRows 38 = .ok (.return_, 1) := by decide +kernel
theorem d_WA_come_0 : decode b_WA_come 0 = .ok (.aload_n 0, 1) := by decide +kernel
theorem d_WA_come_1 : decode b_WA_come 1 = .ok (.getfield 22, 3) := by decide +kernel
theorem d_WA_come_4 : decode b_WA_come 4 = .ok (.iload_n 1, 1) := by decide +kernel
theorem d_WA_come_5 : decode b_WA_come 5 = .ok (.aload_n 0, 1) := by decide +kernel
theorem d_WA_come_6 : decode b_WA_come 6 = .ok (.getfield 25, 3) := by decide +kernel
theorem d_WA_come_9 : decode b_WA_come 9 = .ok (.iastore, 1) := by decide +kernel
theorem d_WA_come_10 : decode b_WA_come 10 = .ok (.aload_n 0, 1) := by decide +kernel
theorem d_WA_come_11 : decode b_WA_come 11 = .ok (.getfield 18, 3) := by decide +kernel
theorem d_WA_come_14 : decode b_WA_come 14 = .ok (.aload_n 0, 1) := by decide +kernel
theorem d_WA_come_15 : decode b_WA_come 15 = .ok (.getfield 25, 3) := by decide +kernel
theorem d_WA_come_18 : decode b_WA_come 18 = .ok (.iload_n 1, 1) := by decide +kernel
theorem d_WA_come_19 : decode b_WA_come 19 = .ok (.iastore, 1) := by decide +kernel
theorem d_WA_come_20 : decode b_WA_come 20 = .ok (.aload_n 0, 1) := by decide +kernel
theorem d_WA_come_21 : decode b_WA_come 21 = .ok (.getfield 42, 3) := by decide +kernel
theorem d_WA_come_24 : decode b_WA_come 24 = .ok (.aload_n 0, 1) := by decide +kernel
theorem d_WA_come_25 : decode b_WA_come 25 = .ok (.getfield 25, 3) := by decide +kernel
theorem d_WA_come_28 : decode b_WA_come 28 = .ok (.iconst 0, 1) := by decide +kernel
theorem d_WA_come_29 : decode b_WA_come 29 = .ok (.iastore, 1) := by decide +kernel
theorem d_WA_come_30 : decode b_WA_come 30 = .ok (.aload_n 0, 1) := by decide +kernel
theorem d_WA_come_31 : decode b_WA_come 31 = .ok (.dup, 1) := by decide +kernel
theorem d_WA_come_32 : decode b_WA_come 32 = .ok (.getfield 25, 3) := by decide +kernel
theorem d_WA_come_35 : decode b_WA_come 35 = .ok (.iconst 1, 1) := by decide +kernel
theorem d_WA_come_36 : decode b_WA_come 36 = .ok (.iadd, 1) := by decide +kernel
theorem d_WA_come_37 : decode b_WA_come 37 = .ok (.putfield 25, 3) := by decide +kernel
theorem d_WA_come_40 : decode b_WA_come 40 = .ok (.return_, 1) := by decide +kernel
theorem d_WA_enter_0 : decode b_WA_enter 0 = .ok (.aload_n 0, 1) := by decide +kernel
theorem d_WA_enter_1 : decode b_WA_enter 1 = .ok (.getfield 42, 3) := by decide +kernel
theorem d_WA_enter_4 : decode b_WA_enter 4 = .ok (.iload_n 1, 1) := by decide +kernel
theorem d_WA_enter_5 : decode b_WA_enter 5 = .ok (.dup2, 1) := by decide +kernel
theorem d_WA_enter_6 : decode b_WA_enter 6 = .ok (.iaload, 1) := by decide +kernel
theorem d_WA_enter_7 : decode b_WA_enter 7 = .ok (.iconst 1, 1) := by decide +kernel
theorem d_WA_enter_8 : decode b_WA_enter 8 = .ok (.iadd, 1) := by decide +kernel
theorem d_WA_enter_9 : decode b_WA_enter 9 = .ok (.iastore, 1) := by decide +kernel
theorem d_WA_enter_10 : decode b_WA_enter 10 = .ok (.aload_n 0, 1) := by decide +kernel
theorem d_WA_enter_11 : decode b_WA_enter 11 = .ok (.getfield 42, 3) := by decide +kernel
theorem d_WA_enter_14 : decode b_WA_enter 14 = .ok (.iload_n 1, 1) := by decide +kernel
theorem d_WA_enter_15 : decode b_WA_enter 15 = .ok (.iaload, 1) := by decide +kernel
theorem d_WA_enter_16 : decode b_WA_enter 16 = .ok (.iconst 2, 1) := by decide +kernel
theorem d_WA_enter_17 : decode b_WA_enter 17 = .ok (.if_icmp .ne 13, 3) := by decide +kernel
theorem d_WA_enter_20 : decode b_WA_enter 20 = .ok (.aload_n 0, 1) := by decide +kernel
theorem d_WA_enter_21 : decode b_WA_enter 21 = .ok (.dup, 1) := by decide +kernel
theorem d_WA_enter_22 : decode b_WA_enter 22 = .ok (.getfield 36, 3) := by decide +kernel
theorem d_WA_enter_25 : decode b_WA_enter 25 = .ok (.iconst 1, 1) := by decide +kernel
theorem d_WA_enter_26 : decode b_WA_enter 26 = .ok (.iadd, 1) := by decide +kernel
theorem d_WA_enter_27 : decode b_WA_enter 27 = .ok (.putfield 36, 3) := by decide +kernel
theorem d_WA_enter_30 : decode b_WA_enter 30 = .ok (.return_, 1) := by decide +kernel
theorem d_WA_goOn_0 : decode b_WA_goOn 0 = .ok (.aload_n 0, 1) := by decide +kernel
theorem d_WA_goOn_1 : decode b_WA_goOn 1 = .ok (.getfield 18, 3) := by decide +kernel
theorem d_WA_goOn_4 : decode b_WA_goOn 4 = .ok (.iload_n 2, 1) := by decide +kernel
theorem d_WA_goOn_5 : decode b_WA_goOn 5 = .ok (.iaload, 1) := by decide +kernel
theorem d_WA_goOn_6 : decode b_WA_goOn 6 = .ok (.istore 4, 2) := by decide +kernel
theorem d_WA_goOn_8 : decode b_WA_goOn 8 = .ok (.iconst 1, 1) := by decide +kernel
theorem d_WA_goOn_9 : decode b_WA_goOn 9 = .ok (.istore 5, 2) := by decide +kernel
theorem d_WA_goOn_11 : decode b_WA_goOn 11 = .ok (.iconst 0, 1) := by decide +kernel
theorem d_WA_goOn_12 : decode b_WA_goOn 12 = .ok (.istore 6, 2) := by decide +kernel
theorem d_WA_goOn_14 : decode b_WA_goOn 14 = .ok (.iload 6, 2) := by decide +kernel
theorem d_WA_goOn_16 : decode b_WA_goOn 16 = .ok (.aload_n 1, 1) := by decide +kernel
theorem d_WA_goOn_17 : decode b_WA_goOn 17 = .ok (.getfield 72, 3) := by decide +kernel
theorem d_WA_goOn_20 : decode b_WA_goOn 20 = .ok (.if_icmp .ge 94, 3) := by decide +kernel
theorem d_WA_goOn_23 : decode b_WA_goOn 23 = .ok (.aload_n 1, 1) := by decide +kernel
theorem d_WA_goOn_24 : decode b_WA_goOn 24 = .ok (.iload 4, 2) := by decide +kernel
theorem d_WA_goOn_26 : decode b_WA_goOn 26 = .ok (.iload 6, 2) := by decide +kernel
theorem d_WA_goOn_28 : decode b_WA_goOn 28 = .ok (.invokevirtual 75, 3) := by decide +kernel
theorem d_WA_goOn_31 : decode b_WA_goOn 31 = .ok (.istore 7, 2) := by decide +kernel
theorem d_WA_goOn_33 : decode b_WA_goOn 33 = .ok (.aload_n 0, 1) := by decide +kernel
theorem d_WA_goOn_34 : decode b_WA_goOn 34 = .ok (.getfield 22, 3) := by decide +kernel
theorem d_WA_goOn_37 : decode b_WA_goOn 37 = .ok (.iload 7, 2) := by decide +kernel
theorem d_WA_goOn_39 : decode b_WA_goOn 39 = .ok (.iaload, 1) := by decide +kernel
theorem d_WA_goOn_40 : decode b_WA_goOn 40 = .ok (.iconst (-1), 1) := by decide +kernel
theorem d_WA_goOn_41 : decode b_WA_goOn 41 = .ok (.if_icmp .ne 37, 3) := by decide +kernel
theorem d_WA_goOn_44 : decode b_WA_goOn 44 = .ok (.aload_n 0, 1) := by decide +kernel
theorem d_WA_goOn_45 : decode b_WA_goOn 45 = .ok (.getfield 25, 3) := by decide +kernel
theorem d_WA_goOn_48 : decode b_WA_goOn 48 = .ok (.iload_n 3, 1) := by decide +kernel
theorem d_WA_goOn_49 : decode b_WA_goOn 49 = .ok (.if_icmp .lt 9, 3) := by decide +kernel
theorem d_WA_goOn_52 : decode b_WA_goOn 52 = .ok (.aload_n 0, 1) := by decide +kernel
theorem d_WA_goOn_53 : decode b_WA_goOn 53 = .ok (.iconst 0, 1) := by decide +kernel
theorem d_WA_goOn_54 : decode b_WA_goOn 54 = .ok (.putfield 33, 3) := by decide +kernel
theorem d_WA_goOn_57 : decode b_WA_goOn 57 = .ok (.return_, 1) := by decide +kernel
theorem d_WA_goOn_58 : decode b_WA_goOn 58 = .ok (.aload_n 0, 1) := by decide +kernel
theorem d_WA_goOn_59 : decode b_WA_goOn 59 = .ok (.getfield 12, 3) := by decide +kernel
theorem d_WA_goOn_62 : decode b_WA_goOn 62 = .ok (.iload_n 2, 1) := by decide +kernel
theorem d_WA_goOn_63 : decode b_WA_goOn 63 = .ok (.iload 6, 2) := by decide +kernel
theorem d_WA_goOn_65 : decode b_WA_goOn 65 = .ok (.aload_n 0, 1) := by decide +kernel
theorem d_WA_goOn_66 : decode b_WA_goOn 66 = .ok (.getfield 25, 3) := by decide +kernel
theorem d_WA_goOn_69 : decode b_WA_goOn 69 = .ok (.invokevirtual 79, 3) := by decide +kernel
theorem d_WA_goOn_72 : decode b_WA_goOn 72 = .ok (.aload_n 0, 1) := by decide +kernel
theorem d_WA_goOn_73 : decode b_WA_goOn 73 = .ok (.iload 7, 2) := by decide +kernel
theorem d_WA_goOn_75 : decode b_WA_goOn 75 = .ok (.invokevirtual 61, 3) := by decide +kernel
theorem d_WA_goOn_78 : decode b_WA_goOn 78 = .ok (.aload_n 0, 1) := by decide +kernel
theorem d_WA_goOn_79 : decode b_WA_goOn 79 = .ok (.aload_n 0, 1) := by decide +kernel
theorem d_WA_goOn_80 : decode b_WA_goOn 80 = .ok (.getfield 22, 3) := by decide +kernel
theorem d_WA_goOn_83 : decode b_WA_goOn 83 = .ok (.iload 7, 2) := by decide +kernel
theorem d_WA_goOn_85 : decode b_WA_goOn 85 = .ok (.iaload, 1) := by decide +kernel
theorem d_WA_goOn_86 : decode b_WA_goOn 86 = .ok (.invokevirtual 83, 3) := by decide +kernel
theorem d_WA_goOn_89 : decode b_WA_goOn 89 = .ok (.iload 5, 2) := by decide +kernel
theorem d_WA_goOn_91 : decode b_WA_goOn 91 = .ok (.ifCond .eq 14, 3) := by decide +kernel
theorem d_WA_goOn_94 : decode b_WA_goOn 94 = .ok (.iload 7, 2) := by decide +kernel
theorem d_WA_goOn_96 : decode b_WA_goOn 96 = .ok (.iload 4, 2) := by decide +kernel
theorem d_WA_goOn_98 : decode b_WA_goOn 98 = .ok (.if_icmp .ne 7, 3) := by decide +kernel
theorem d_WA_goOn_101 : decode b_WA_goOn 101 = .ok (.iconst 1, 1) := by decide +kernel
theorem d_WA_goOn_102 : decode b_WA_goOn 102 = .ok (.goto 4, 3) := by decide +kernel
theorem d_WA_goOn_105 : decode b_WA_goOn 105 = .ok (.iconst 0, 1) := by decide +kernel
theorem d_WA_goOn_106 : decode b_WA_goOn 106 = .ok (.istore 5, 2) := by decide +kernel
theorem d_WA_goOn_108 : decode b_WA_goOn 108 = .ok (.iinc 6 1, 3) := by decide +kernel
theorem d_WA_goOn_111 : decode b_WA_goOn 111 = .ok (.goto (-97), 3) := by decide +kernel
theorem d_WA_goOn_114 : decode b_WA_goOn 114 = .ok (.iload 5, 2) := by decide +kernel
theorem d_WA_goOn_116 : decode b_WA_goOn 116 = .ok (.ifCond .eq 13, 3) := by decide +kernel
theorem d_WA_goOn_119 : decode b_WA_goOn 119 = .ok (.aload_n 0, 1) := by decide +kernel
theorem d_WA_goOn_120 : decode b_WA_goOn 120 = .ok (.dup, 1) := by decide +kernel
theorem d_WA_goOn_121 : decode b_WA_goOn 121 = .ok (.getfield 39, 3) := by decide +kernel
theorem d_WA_goOn_124 : decode b_WA_goOn 124 = .ok (.iconst 1, 1) := by decide +kernel
theorem d_WA_goOn_125 : decode b_WA_goOn 125 = .ok (.iadd, 1) := by decide +kernel
theorem d_WA_goOn_126 : decode b_WA_goOn 126 = .ok (.putfield 39, 3) := by decide +kernel
theorem d_WA_goOn_129 : decode b_WA_goOn 129 = .ok (.return_, 1) := by decide +kernel
theorem d_WA_run_0 : decode b_WA_run 0 = .ok (.aload_n 0, 1) := by decide +kernel
theorem d_WA_run_1 : decode b_WA_run 1 = .ok (.getfield 29, 3) := by decide +kernel
theorem d_WA_run_4 : decode b_WA_run 4 = .ok (.ifCond .eq 4, 3) := by decide +kernel
theorem d_WA_run_7 : decode b_WA_run 7 = .ok (.return_, 1) := by decide +kernel
theorem d_WA_run_8 : decode b_WA_run 8 = .ok (.aload_n 0, 1) := by decide +kernel
theorem d_WA_run_9 : decode b_WA_run 9 = .ok (.iconst 1, 1) := by decide +kernel
theorem d_WA_run_10 : decode b_WA_run 10 = .ok (.putfield 29, 3) := by decide +kernel
theorem d_WA_run_13 : decode b_WA_run 13 = .ok (.aload_n 1, 1) := by decide +kernel
theorem d_WA_run_14 : decode b_WA_run 14 = .ok (.invokevirtual 45, 3) := by decide +kernel
theorem d_WA_run_17 : decode b_WA_run 17 = .ok (.istore 4, 2) := by decide +kernel
theorem d_WA_run_19 : decode b_WA_run 19 = .ok (.aload_n 0, 1) := by decide +kernel
theorem d_WA_run_20 : decode b_WA_run 20 = .ok (.iload 4, 2) := by decide +kernel
theorem d_WA_run_22 : decode b_WA_run 22 = .ok (.invokevirtual 51, 3) := by decide +kernel
theorem d_WA_run_25 : decode b_WA_run 25 = .ok (.aload_n 0, 1) := by decide +kernel
theorem d_WA_run_26 : decode b_WA_run 26 = .ok (.getfield 22, 3) := by decide +kernel
theorem d_WA_run_29 : decode b_WA_run 29 = .ok (.iconst (-1), 1) := by decide +kernel
theorem d_WA_run_30 : decode b_WA_run 30 = .ok (.invokestatic 55, 3) := by decide +kernel
theorem d_WA_run_33 : decode b_WA_run 33 = .ok (.aload_n 0, 1) := by decide +kernel
theorem d_WA_run_34 : decode b_WA_run 34 = .ok (.iconst 0, 1) := by decide +kernel
theorem d_WA_run_35 : decode b_WA_run 35 = .ok (.putfield 25, 3) := by decide +kernel
theorem d_WA_run_38 : decode b_WA_run 38 = .ok (.aload_n 0, 1) := by decide +kernel
theorem d_WA_run_39 : decode b_WA_run 39 = .ok (.iconst 1, 1) := by decide +kernel
theorem d_WA_run_40 : decode b_WA_run 40 = .ok (.putfield 33, 3) := by decide +kernel
theorem d_WA_run_43 : decode b_WA_run 43 = .ok (.aload_n 0, 1) := by decide +kernel
theorem d_WA_run_44 : decode b_WA_run 44 = .ok (.iconst 0, 1) := by decide +kernel
theorem d_WA_run_45 : decode b_WA_run 45 = .ok (.putfield 36, 3) := by decide +kernel
theorem d_WA_run_48 : decode b_WA_run 48 = .ok (.aload_n 0, 1) := by decide +kernel
theorem d_WA_run_49 : decode b_WA_run 49 = .ok (.iconst 0, 1) := by decide +kernel
theorem d_WA_run_50 : decode b_WA_run 50 = .ok (.putfield 39, 3) := by decide +kernel
theorem d_WA_run_53 : decode b_WA_run 53 = .ok (.aload_n 0, 1) := by decide +kernel
theorem d_WA_run_54 : decode b_WA_run 54 = .ok (.iload_n 2, 1) := by decide +kernel
theorem d_WA_run_55 : decode b_WA_run 55 = .ok (.invokevirtual 61, 3) := by decide +kernel
theorem d_WA_run_58 : decode b_WA_run 58 = .ok (.aload_n 0, 1) := by decide +kernel
theorem d_WA_run_59 : decode b_WA_run 59 = .ok (.getfield 12, 3) := by decide +kernel
theorem d_WA_run_62 : decode b_WA_run 62 = .ok (.iconst 0, 1) := by decide +kernel
theorem d_WA_run_63 : decode b_WA_run 63 = .ok (.invokevirtual 64, 3) := by decide +kernel
theorem d_WA_run_66 : decode b_WA_run 66 = .ok (.iconst 0, 1) := by decide +kernel
theorem d_WA_run_67 : decode b_WA_run 67 = .ok (.istore 5, 2) := by decide +kernel
theorem d_WA_run_69 : decode b_WA_run 69 = .ok (.iload 5, 2) := by decide +kernel
theorem d_WA_run_71 : decode b_WA_run 71 = .ok (.iload 4, 2) := by decide +kernel
theorem d_WA_run_73 : decode b_WA_run 73 = .ok (.if_icmp .ge 33, 3) := by decide +kernel
theorem d_WA_run_76 : decode b_WA_run 76 = .ok (.iload 5, 2) := by decide +kernel
theorem d_WA_run_78 : decode b_WA_run 78 = .ok (.aload_n 0, 1) := by decide +kernel
theorem d_WA_run_79 : decode b_WA_run 79 = .ok (.getfield 25, 3) := by decide +kernel
theorem d_WA_run_82 : decode b_WA_run 82 = .ok (.if_icmp .ge 24, 3) := by decide +kernel
theorem d_WA_run_85 : decode b_WA_run 85 = .ok (.aload_n 0, 1) := by decide +kernel
theorem d_WA_run_86 : decode b_WA_run 86 = .ok (.getfield 33, 3) := by decide +kernel
theorem d_WA_run_89 : decode b_WA_run 89 = .ok (.ifCond .eq 17, 3) := by decide +kernel
theorem d_WA_run_92 : decode b_WA_run 92 = .ok (.aload_n 0, 1) := by decide +kernel
theorem d_WA_run_93 : decode b_WA_run 93 = .ok (.aload_n 1, 1) := by decide +kernel
theorem d_WA_run_94 : decode b_WA_run 94 = .ok (.iload 5, 2) := by decide +kernel
theorem d_WA_run_96 : decode b_WA_run 96 = .ok (.iload_n 3, 1) := by decide +kernel
theorem d_WA_run_97 : decode b_WA_run 97 = .ok (.invokevirtual 67, 3) := by decide +kernel
theorem d_WA_run_100 : decode b_WA_run 100 = .ok (.iinc 5 1, 3) := by decide +kernel
theorem d_WA_run_103 : decode b_WA_run 103 = .ok (.goto (-34), 3) := by decide +kernel
theorem d_WA_run_106 : decode b_WA_run 106 = .ok (.return_, 1) := by decide +kernel
section Sites
variable {p : Program} {l : Launch} {e : Env} {R : Room} {s : State} {m : MethodId} {args : Array Value} {below : List Frame} {meth : Method} {c : Code} {H H0 : Heap} {locs : List Loc} {cells slots : Nat} {Q : State → Prop} {cc : ByteArray} {pc : Nat} {ls : Array Slot} {rest : List Value} {D : va_G} {A : Nat → Prop} {a : Nat} {TY : List (ClassId × FieldType)} {ws : va_W}
theorem gf_WA_18 (hx : p.tables.exec = Jvm.exec) (hb : c.code = cc) (hts : ∀ w ∈ wsG, w.before args s = true) (hown : s.vm.findClass R_WA = some m.cls) (hK : va_K D vwCl TY s) (hP : va_P D vwCl ws H) (q0 : Nat) {fs : List Value} (he : ws[q0]? = some (a, .inr (3, fs))) {v : Value} (hv : fs[1]? = some v) (hdg : decode cc pc = .ok (.getfield 18, 3)) (kk : W p l e R s m args below meth c H locs cells slots Q (F0 m (pc + 3) ls (v :: rest))) : W p l e R s m args below meth c H locs cells slots Q (F0 m pc ls (.ref a :: rest)) :=
  va_get (D := D) (ci := 3) (C := R_WA) (T := F_WA) (N := 9) hx hb hts i_WA hown hK hP q0 he rfl 1 (by decide) (hts _ k_185) (fun _ h9 => h9) hv hdg kk
theorem pf_WA_18 (hx : p.tables.exec = Jvm.exec) (hb : c.code = cc) (hts : ∀ w ∈ wsG, w.before args s = true) (hown : s.vm.findClass R_WA = some m.cls) (hK : va_K D vwCl TY s) (hP : va_P D vwCl ws H) (hD : va_D A ws) (hS : va_S A H0 H locs) (q0 : Nat) {fs : List Value} {v : Value} (he : ws[q0]? = some (a, .inr (3, fs))) (hn : narrow (.array (.int)) v = v) (hfit : fits (.array (.int)) v = true) (hl : 1 < fs.length) (hdg : decode cc pc = .ok (.putfield 18, 3)) (kk : ∀ (H1 : Heap) (locs1 : List Loc), va_P D vwCl (ws.set q0 (a, .inr (3, fs.set 1 v))) H1 → va_D A (ws.set q0 (a, .inr (3, fs.set 1 v))) → va_S A H0 H1 locs1 → W p l e R s m args below meth c H1 locs1 cells slots Q (F0 m (pc + 3) ls rest)) : W p l e R s m args below meth c H locs cells slots Q (F0 m pc ls (v :: .ref a :: rest)) :=
  va_put (D := D) (ci := 3) (v := v) (ty := .array (.int)) (C := R_WA) (T := F_WA) (N := 9) hx hb hts i_WA t_WA t_WA_ok n_WA hown hK hP hD hS q0 he rfl 1 (by decide) (hts _ k_185) (fun _ h9 => h9) rfl (by decide +kernel) hn hfit hl hdg kk
theorem pf_WA_22 (hx : p.tables.exec = Jvm.exec) (hb : c.code = cc) (hts : ∀ w ∈ wsG, w.before args s = true) (hown : s.vm.findClass R_WA = some m.cls) (hK : va_K D vwCl TY s) (hP : va_P D vwCl ws H) (hD : va_D A ws) (hS : va_S A H0 H locs) (q0 : Nat) {fs : List Value} {v : Value} (he : ws[q0]? = some (a, .inr (3, fs))) (hn : narrow (.array (.int)) v = v) (hfit : fits (.array (.int)) v = true) (hl : 2 < fs.length) (hdg : decode cc pc = .ok (.putfield 22, 3)) (kk : ∀ (H1 : Heap) (locs1 : List Loc), va_P D vwCl (ws.set q0 (a, .inr (3, fs.set 2 v))) H1 → va_D A (ws.set q0 (a, .inr (3, fs.set 2 v))) → va_S A H0 H1 locs1 → W p l e R s m args below meth c H1 locs1 cells slots Q (F0 m (pc + 3) ls rest)) : W p l e R s m args below meth c H locs cells slots Q (F0 m pc ls (v :: .ref a :: rest)) :=
  va_put (D := D) (ci := 3) (v := v) (ty := .array (.int)) (C := R_WA) (T := F_WA) (N := 9) hx hb hts i_WA t_WA t_WA_ok n_WA hown hK hP hD hS q0 he rfl 2 (by decide) (hts _ k_186) (fun _ h9 => h9) rfl (by decide +kernel) hn hfit hl hdg kk
theorem pf_WA_42 (hx : p.tables.exec = Jvm.exec) (hb : c.code = cc) (hts : ∀ w ∈ wsG, w.before args s = true) (hown : s.vm.findClass R_WA = some m.cls) (hK : va_K D vwCl TY s) (hP : va_P D vwCl ws H) (hD : va_D A ws) (hS : va_S A H0 H locs) (q0 : Nat) {fs : List Value} {v : Value} (he : ws[q0]? = some (a, .inr (3, fs))) (hn : narrow (.array (.int)) v = v) (hfit : fits (.array (.int)) v = true) (hl : 8 < fs.length) (hdg : decode cc pc = .ok (.putfield 42, 3)) (kk : ∀ (H1 : Heap) (locs1 : List Loc), va_P D vwCl (ws.set q0 (a, .inr (3, fs.set 8 v))) H1 → va_D A (ws.set q0 (a, .inr (3, fs.set 8 v))) → va_S A H0 H1 locs1 → W p l e R s m args below meth c H1 locs1 cells slots Q (F0 m (pc + 3) ls rest)) : W p l e R s m args below meth c H locs cells slots Q (F0 m pc ls (v :: .ref a :: rest)) :=
  va_put (D := D) (ci := 3) (v := v) (ty := .array (.int)) (C := R_WA) (T := F_WA) (N := 9) hx hb hts i_WA t_WA t_WA_ok n_WA hown hK hP hD hS q0 he rfl 8 (by decide) (hts _ k_187) (fun _ h9 => h9) rfl (by decide +kernel) hn hfit hl hdg kk
theorem gf_WA_12 (hx : p.tables.exec = Jvm.exec) (hb : c.code = cc) (hts : ∀ w ∈ wsG, w.before args s = true) (hown : s.vm.findClass R_WA = some m.cls) (hK : va_K D vwCl TY s) (hP : va_P D vwCl ws H) (q0 : Nat) {fs : List Value} (he : ws[q0]? = some (a, .inr (3, fs))) {v : Value} (hv : fs[0]? = some v) (hdg : decode cc pc = .ok (.getfield 12, 3)) (kk : W p l e R s m args below meth c H locs cells slots Q (F0 m (pc + 3) ls (v :: rest))) : W p l e R s m args below meth c H locs cells slots Q (F0 m pc ls (.ref a :: rest)) :=
  va_get (D := D) (ci := 3) (C := R_WA) (T := F_WA) (N := 9) hx hb hts i_WA hown hK hP q0 he rfl 0 (by decide) (hts _ k_188) (fun _ h9 => h9) hv hdg kk
theorem gf_WA_22 (hx : p.tables.exec = Jvm.exec) (hb : c.code = cc) (hts : ∀ w ∈ wsG, w.before args s = true) (hown : s.vm.findClass R_WA = some m.cls) (hK : va_K D vwCl TY s) (hP : va_P D vwCl ws H) (q0 : Nat) {fs : List Value} (he : ws[q0]? = some (a, .inr (3, fs))) {v : Value} (hv : fs[2]? = some v) (hdg : decode cc pc = .ok (.getfield 22, 3)) (kk : W p l e R s m args below meth c H locs cells slots Q (F0 m (pc + 3) ls (v :: rest))) : W p l e R s m args below meth c H locs cells slots Q (F0 m pc ls (.ref a :: rest)) :=
  va_get (D := D) (ci := 3) (C := R_WA) (T := F_WA) (N := 9) hx hb hts i_WA hown hK hP q0 he rfl 2 (by decide) (hts _ k_186) (fun _ h9 => h9) hv hdg kk
theorem gf_WA_25 (hx : p.tables.exec = Jvm.exec) (hb : c.code = cc) (hts : ∀ w ∈ wsG, w.before args s = true) (hown : s.vm.findClass R_WA = some m.cls) (hK : va_K D vwCl TY s) (hP : va_P D vwCl ws H) (q0 : Nat) {fs : List Value} (he : ws[q0]? = some (a, .inr (3, fs))) {v : Value} (hv : fs[3]? = some v) (hdg : decode cc pc = .ok (.getfield 25, 3)) (kk : W p l e R s m args below meth c H locs cells slots Q (F0 m (pc + 3) ls (v :: rest))) : W p l e R s m args below meth c H locs cells slots Q (F0 m pc ls (.ref a :: rest)) :=
  va_get (D := D) (ci := 3) (C := R_WA) (T := F_WA) (N := 9) hx hb hts i_WA hown hK hP q0 he rfl 3 (by decide) (hts _ k_189) (fun _ h9 => h9) hv hdg kk
theorem gf_WA_42 (hx : p.tables.exec = Jvm.exec) (hb : c.code = cc) (hts : ∀ w ∈ wsG, w.before args s = true) (hown : s.vm.findClass R_WA = some m.cls) (hK : va_K D vwCl TY s) (hP : va_P D vwCl ws H) (q0 : Nat) {fs : List Value} (he : ws[q0]? = some (a, .inr (3, fs))) {v : Value} (hv : fs[8]? = some v) (hdg : decode cc pc = .ok (.getfield 42, 3)) (kk : W p l e R s m args below meth c H locs cells slots Q (F0 m (pc + 3) ls (v :: rest))) : W p l e R s m args below meth c H locs cells slots Q (F0 m pc ls (.ref a :: rest)) :=
  va_get (D := D) (ci := 3) (C := R_WA) (T := F_WA) (N := 9) hx hb hts i_WA hown hK hP q0 he rfl 8 (by decide) (hts _ k_187) (fun _ h9 => h9) hv hdg kk
theorem pf_WA_25 (hx : p.tables.exec = Jvm.exec) (hb : c.code = cc) (hts : ∀ w ∈ wsG, w.before args s = true) (hown : s.vm.findClass R_WA = some m.cls) (hK : va_K D vwCl TY s) (hP : va_P D vwCl ws H) (hD : va_D A ws) (hS : va_S A H0 H locs) (q0 : Nat) {fs : List Value} {v : Value} (he : ws[q0]? = some (a, .inr (3, fs))) (hn : narrow (.int) v = v) (hfit : fits (.int) v = true) (hl : 3 < fs.length) (hdg : decode cc pc = .ok (.putfield 25, 3)) (kk : ∀ (H1 : Heap) (locs1 : List Loc), va_P D vwCl (ws.set q0 (a, .inr (3, fs.set 3 v))) H1 → va_D A (ws.set q0 (a, .inr (3, fs.set 3 v))) → va_S A H0 H1 locs1 → W p l e R s m args below meth c H1 locs1 cells slots Q (F0 m (pc + 3) ls rest)) : W p l e R s m args below meth c H locs cells slots Q (F0 m pc ls (v :: .ref a :: rest)) :=
  va_put (D := D) (ci := 3) (v := v) (ty := .int) (C := R_WA) (T := F_WA) (N := 9) hx hb hts i_WA t_WA t_WA_ok n_WA hown hK hP hD hS q0 he rfl 3 (by decide) (hts _ k_189) (fun _ h9 => h9) rfl (by decide +kernel) hn hfit hl hdg kk
theorem gf_WA_36 (hx : p.tables.exec = Jvm.exec) (hb : c.code = cc) (hts : ∀ w ∈ wsG, w.before args s = true) (hown : s.vm.findClass R_WA = some m.cls) (hK : va_K D vwCl TY s) (hP : va_P D vwCl ws H) (q0 : Nat) {fs : List Value} (he : ws[q0]? = some (a, .inr (3, fs))) {v : Value} (hv : fs[6]? = some v) (hdg : decode cc pc = .ok (.getfield 36, 3)) (kk : W p l e R s m args below meth c H locs cells slots Q (F0 m (pc + 3) ls (v :: rest))) : W p l e R s m args below meth c H locs cells slots Q (F0 m pc ls (.ref a :: rest)) :=
  va_get (D := D) (ci := 3) (C := R_WA) (T := F_WA) (N := 9) hx hb hts i_WA hown hK hP q0 he rfl 6 (by decide) (hts _ k_190) (fun _ h9 => h9) hv hdg kk
theorem pf_WA_36 (hx : p.tables.exec = Jvm.exec) (hb : c.code = cc) (hts : ∀ w ∈ wsG, w.before args s = true) (hown : s.vm.findClass R_WA = some m.cls) (hK : va_K D vwCl TY s) (hP : va_P D vwCl ws H) (hD : va_D A ws) (hS : va_S A H0 H locs) (q0 : Nat) {fs : List Value} {v : Value} (he : ws[q0]? = some (a, .inr (3, fs))) (hn : narrow (.int) v = v) (hfit : fits (.int) v = true) (hl : 6 < fs.length) (hdg : decode cc pc = .ok (.putfield 36, 3)) (kk : ∀ (H1 : Heap) (locs1 : List Loc), va_P D vwCl (ws.set q0 (a, .inr (3, fs.set 6 v))) H1 → va_D A (ws.set q0 (a, .inr (3, fs.set 6 v))) → va_S A H0 H1 locs1 → W p l e R s m args below meth c H1 locs1 cells slots Q (F0 m (pc + 3) ls rest)) : W p l e R s m args below meth c H locs cells slots Q (F0 m pc ls (v :: .ref a :: rest)) :=
  va_put (D := D) (ci := 3) (v := v) (ty := .int) (C := R_WA) (T := F_WA) (N := 9) hx hb hts i_WA t_WA t_WA_ok n_WA hown hK hP hD hS q0 he rfl 6 (by decide) (hts _ k_190) (fun _ h9 => h9) rfl (by decide +kernel) hn hfit hl hdg kk
theorem gf_WA_72 (hx : p.tables.exec = Jvm.exec) (hb : c.code = cc) (hts : ∀ w ∈ wsG, w.before args s = true) (hown : s.vm.findClass R_WA = some m.cls) (hK : va_K D vwCl TY s) (hP : va_P D vwCl ws H) (q0 : Nat) {fs : List Value} (he : ws[q0]? = some (a, .inr (2, fs))) {v : Value} (hv : fs[5]? = some v) (hdg : decode cc pc = .ok (.getfield 72, 3)) (kk : W p l e R s m args below meth c H locs cells slots Q (F0 m (pc + 3) ls (v :: rest))) : W p l e R s m args below meth c H locs cells slots Q (F0 m pc ls (.ref a :: rest)) :=
  va_get (D := D) (ci := 2) (C := R_MA) (T := F_MA) (N := 7) hx hb hts i_MA hown hK hP q0 he rfl 5 (by decide) (hts _ k_191) (fun _ h9 => h9) hv hdg kk
theorem gf_WA_39 (hx : p.tables.exec = Jvm.exec) (hb : c.code = cc) (hts : ∀ w ∈ wsG, w.before args s = true) (hown : s.vm.findClass R_WA = some m.cls) (hK : va_K D vwCl TY s) (hP : va_P D vwCl ws H) (q0 : Nat) {fs : List Value} (he : ws[q0]? = some (a, .inr (3, fs))) {v : Value} (hv : fs[7]? = some v) (hdg : decode cc pc = .ok (.getfield 39, 3)) (kk : W p l e R s m args below meth c H locs cells slots Q (F0 m (pc + 3) ls (v :: rest))) : W p l e R s m args below meth c H locs cells slots Q (F0 m pc ls (.ref a :: rest)) :=
  va_get (D := D) (ci := 3) (C := R_WA) (T := F_WA) (N := 9) hx hb hts i_WA hown hK hP q0 he rfl 7 (by decide) (hts _ k_192) (fun _ h9 => h9) hv hdg kk
theorem pf_WA_39 (hx : p.tables.exec = Jvm.exec) (hb : c.code = cc) (hts : ∀ w ∈ wsG, w.before args s = true) (hown : s.vm.findClass R_WA = some m.cls) (hK : va_K D vwCl TY s) (hP : va_P D vwCl ws H) (hD : va_D A ws) (hS : va_S A H0 H locs) (q0 : Nat) {fs : List Value} {v : Value} (he : ws[q0]? = some (a, .inr (3, fs))) (hn : narrow (.int) v = v) (hfit : fits (.int) v = true) (hl : 7 < fs.length) (hdg : decode cc pc = .ok (.putfield 39, 3)) (kk : ∀ (H1 : Heap) (locs1 : List Loc), va_P D vwCl (ws.set q0 (a, .inr (3, fs.set 7 v))) H1 → va_D A (ws.set q0 (a, .inr (3, fs.set 7 v))) → va_S A H0 H1 locs1 → W p l e R s m args below meth c H1 locs1 cells slots Q (F0 m (pc + 3) ls rest)) : W p l e R s m args below meth c H locs cells slots Q (F0 m pc ls (v :: .ref a :: rest)) :=
  va_put (D := D) (ci := 3) (v := v) (ty := .int) (C := R_WA) (T := F_WA) (N := 9) hx hb hts i_WA t_WA t_WA_ok n_WA hown hK hP hD hS q0 he rfl 7 (by decide) (hts _ k_192) (fun _ h9 => h9) rfl (by decide +kernel) hn hfit hl hdg kk
theorem pf_WA_33 (hx : p.tables.exec = Jvm.exec) (hb : c.code = cc) (hts : ∀ w ∈ wsG, w.before args s = true) (hown : s.vm.findClass R_WA = some m.cls) (hK : va_K D vwCl TY s) (hP : va_P D vwCl ws H) (hD : va_D A ws) (hS : va_S A H0 H locs) (q0 : Nat) {fs : List Value} {v : Value} (he : ws[q0]? = some (a, .inr (3, fs))) (hn : narrow (.boolean) v = v) (hfit : fits (.boolean) v = true) (hl : 5 < fs.length) (hdg : decode cc pc = .ok (.putfield 33, 3)) (kk : ∀ (H1 : Heap) (locs1 : List Loc), va_P D vwCl (ws.set q0 (a, .inr (3, fs.set 5 v))) H1 → va_D A (ws.set q0 (a, .inr (3, fs.set 5 v))) → va_S A H0 H1 locs1 → W p l e R s m args below meth c H1 locs1 cells slots Q (F0 m (pc + 3) ls rest)) : W p l e R s m args below meth c H locs cells slots Q (F0 m pc ls (v :: .ref a :: rest)) :=
  va_put (D := D) (ci := 3) (v := v) (ty := .boolean) (C := R_WA) (T := F_WA) (N := 9) hx hb hts i_WA t_WA t_WA_ok n_WA hown hK hP hD hS q0 he rfl 5 (by decide) (hts _ k_193) (fun _ h9 => h9) rfl (by decide +kernel) hn hfit hl hdg kk
theorem gf_WA_29 (hx : p.tables.exec = Jvm.exec) (hb : c.code = cc) (hts : ∀ w ∈ wsG, w.before args s = true) (hown : s.vm.findClass R_WA = some m.cls) (hK : va_K D vwCl TY s) (hP : va_P D vwCl ws H) (q0 : Nat) {fs : List Value} (he : ws[q0]? = some (a, .inr (3, fs))) {v : Value} (hv : fs[4]? = some v) (hdg : decode cc pc = .ok (.getfield 29, 3)) (kk : W p l e R s m args below meth c H locs cells slots Q (F0 m (pc + 3) ls (v :: rest))) : W p l e R s m args below meth c H locs cells slots Q (F0 m pc ls (.ref a :: rest)) :=
  va_get (D := D) (ci := 3) (C := R_WA) (T := F_WA) (N := 9) hx hb hts i_WA hown hK hP q0 he rfl 4 (by decide) (hts _ k_194) (fun _ h9 => h9) hv hdg kk
theorem pf_WA_29 (hx : p.tables.exec = Jvm.exec) (hb : c.code = cc) (hts : ∀ w ∈ wsG, w.before args s = true) (hown : s.vm.findClass R_WA = some m.cls) (hK : va_K D vwCl TY s) (hP : va_P D vwCl ws H) (hD : va_D A ws) (hS : va_S A H0 H locs) (q0 : Nat) {fs : List Value} {v : Value} (he : ws[q0]? = some (a, .inr (3, fs))) (hn : narrow (.boolean) v = v) (hfit : fits (.boolean) v = true) (hl : 4 < fs.length) (hdg : decode cc pc = .ok (.putfield 29, 3)) (kk : ∀ (H1 : Heap) (locs1 : List Loc), va_P D vwCl (ws.set q0 (a, .inr (3, fs.set 4 v))) H1 → va_D A (ws.set q0 (a, .inr (3, fs.set 4 v))) → va_S A H0 H1 locs1 → W p l e R s m args below meth c H1 locs1 cells slots Q (F0 m (pc + 3) ls rest)) : W p l e R s m args below meth c H locs cells slots Q (F0 m pc ls (v :: .ref a :: rest)) :=
  va_put (D := D) (ci := 3) (v := v) (ty := .boolean) (C := R_WA) (T := F_WA) (N := 9) hx hb hts i_WA t_WA t_WA_ok n_WA hown hK hP hD hS q0 he rfl 4 (by decide) (hts _ k_194) (fun _ h9 => h9) rfl (by decide +kernel) hn hfit hl hdg kk
theorem gf_WA_33 (hx : p.tables.exec = Jvm.exec) (hb : c.code = cc) (hts : ∀ w ∈ wsG, w.before args s = true) (hown : s.vm.findClass R_WA = some m.cls) (hK : va_K D vwCl TY s) (hP : va_P D vwCl ws H) (q0 : Nat) {fs : List Value} (he : ws[q0]? = some (a, .inr (3, fs))) {v : Value} (hv : fs[5]? = some v) (hdg : decode cc pc = .ok (.getfield 33, 3)) (kk : W p l e R s m args below meth c H locs cells slots Q (F0 m (pc + 3) ls (v :: rest))) : W p l e R s m args below meth c H locs cells slots Q (F0 m pc ls (.ref a :: rest)) :=
  va_get (D := D) (ci := 3) (C := R_WA) (T := F_WA) (N := 9) hx hb hts i_WA hown hK hP q0 he rfl 5 (by decide) (hts _ k_193) (fun _ h9 => h9) hv hdg kk
theorem cw_WA_71 {rm : Room} (hts : ∀ w ∈ wsG, w.before args s = true) (hR : rm.frames + 1 ≤ R.frames ∧ 8 + (2 + 11) + rm.locals ≤ R.locals) : CallW R s args R_WA R_TR 71 y_TR_makeRows b_TR_makeRows 2 none (.code y_TR_makeRows b_TR_makeRows 2 none :: wsG) rm rm.cells rm.slots 1 :=
  ky_cwV 1 hts k_195 k_196 k_197 k_198 k_12 (by decide +kernel) hR
theorem cw_WA_75 {rm : Room} (hts : ∀ w ∈ wsG, w.before args s = true) (hR : rm.frames + 1 ≤ R.frames ∧ 8 + (3 + 11) + rm.locals ≤ R.locals) : CallW R s args R_WA R_MA 75 y_MA_next b_MA_next 3 (some .int) (.code y_MA_next b_MA_next 3 (some .int) :: wsG) rm rm.cells rm.slots 2 :=
  ky_cwV 2 hts k_199 k_200 k_201 k_202 k_17 (by decide +kernel) hR
theorem cw_WA_83 {rm : Room} (hts : ∀ w ∈ wsG, w.before args s = true) (hR : rm.frames + 1 ≤ R.frames ∧ 8 + (2 + 11) + rm.locals ≤ R.locals) : CallW R s args R_WA R_WA 83 y_WA_enter b_WA_enter 2 none (.code y_WA_enter b_WA_enter 2 none :: wsG) rm rm.cells rm.slots 1 :=
  ky_cwV 1 hts k_203 k_204 k_206 k_207 k_205 (by decide +kernel) hR
theorem cw_WA_79 {rm : Room} (hts : ∀ w ∈ wsG, w.before args s = true) (hR : rm.frames + 1 ≤ R.frames ∧ 8 + (4 + 11) + rm.locals ≤ R.locals) : CallW R s args R_WA R_TR 79 y_TR_lead b_TR_lead 4 none (.code y_TR_lead b_TR_lead 4 none :: wsG) rm rm.cells rm.slots 3 :=
  ky_cwV 3 hts k_208 k_209 k_210 k_211 k_12 (by decide +kernel) hR
theorem cw_WA_61 {rm : Room} (hts : ∀ w ∈ wsG, w.before args s = true) (hR : rm.frames + 1 ≤ R.frames ∧ 8 + (2 + 11) + rm.locals ≤ R.locals) : CallW R s args R_WA R_WA 61 y_WA_come b_WA_come 2 none (.code y_WA_come b_WA_come 2 none :: wsG) rm rm.cells rm.slots 1 :=
  ky_cwV 1 hts k_212 k_213 k_214 k_215 k_205 (by decide +kernel) hR
theorem cw_WA_45 {rm : Room} (hts : ∀ w ∈ wsG, w.before args s = true) (hR : rm.frames + 1 ≤ R.frames ∧ 8 + (1 + 11) + rm.locals ≤ R.locals) : CallW R s args R_WA R_MA 45 y_MA_states b_MA_states 1 (some .int) (.code y_MA_states b_MA_states 1 (some .int) :: wsG) rm rm.cells rm.slots 0 :=
  ky_cwV 0 hts k_15 k_216 k_18 k_19 k_17 (by decide +kernel) hR
theorem cw_WA_51 {rm : Room} (hts : ∀ w ∈ wsG, w.before args s = true) (hR : rm.frames + 1 ≤ R.frames ∧ 8 + (2 + 11) + rm.locals ≤ R.locals) : CallW R s args R_WA R_WA 51 y_WA_makeRows b_WA_makeRows 2 none (.code y_WA_makeRows b_WA_makeRows 2 none :: wsG) rm rm.cells rm.slots 1 :=
  ky_cwV 1 hts k_217 k_218 k_219 k_220 k_205 (by decide +kernel) hR
theorem cw_WA_55 {rm : Room} (hts : ∀ w ∈ wsG, w.before args s = true) (hR : rm.frames + 1 ≤ R.frames ∧ 8 + (4 + 11) + rm.locals ≤ R.locals) : CallB R s args R_WA 55 y_AR_fill b_AR_fill 4 none (.code y_AR_fill b_AR_fill 4 none :: wsG) rm rm.cells rm.slots 2 ∧ (Cond.static y_AR_fill).before args s = true :=
  ky_cwS 2 hts k_166 k_221 k_169 k_168 (by decide +kernel) hR
theorem cw_WA_64 {rm : Room} (hts : ∀ w ∈ wsG, w.before args s = true) (hR : rm.frames + 1 ≤ R.frames ∧ 8 + (2 + 11) + rm.locals ≤ R.locals) : CallW R s args R_WA R_TR 64 y_TR_start b_TR_start 2 none (.code y_TR_start b_TR_start 2 none :: wsG) rm rm.cells rm.slots 1 :=
  ky_cwV 1 hts k_222 k_223 k_224 k_225 k_12 (by decide +kernel) hR
theorem cw_WA_67 {rm : Room} (hts : ∀ w ∈ wsG, w.before args s = true) (hR : rm.frames + 1 ≤ R.frames ∧ 8 + (8 + 11) + rm.locals ≤ R.locals) : CallW R s args R_WA R_WA 67 y_WA_goOn b_WA_goOn 8 none (.code y_WA_goOn b_WA_goOn 8 none :: wsG) rm rm.cells rm.slots 3 :=
  ky_cwV 3 hts k_226 k_227 k_228 k_229 k_205 (by decide +kernel) hR
end Sites

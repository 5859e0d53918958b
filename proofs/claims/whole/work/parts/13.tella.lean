abbrev b_TE_makeRows : ByteArray := prog_5_method_4_code
def y_TE_makeRows : MethodName := ⟨R_TE, "makeRows", "(I)V"⟩
abbrev b_TE_rootOf : ByteArray := prog_5_method_7_code
def y_TE_rootOf : MethodName := ⟨R_TE, "rootOf", "(I)I"⟩
abbrev b_TE_join : ByteArray := prog_5_method_6_code
def y_TE_join : MethodName := ⟨R_TE, "join", "(II)Z"⟩
abbrev b_TE_goOn : ByteArray := prog_5_method_5_code
def y_TE_goOn : MethodName := ⟨R_TE, "goOn", "(LSmallExhaust$Machine;I)V"⟩
abbrev b_TE_run : ByteArray := prog_5_method_2_code
def y_TE_run : MethodName := ⟨R_TE, "run", "(LSmallExhaust$Machine;II)V"⟩
abbrev b_TE_letter : ByteArray := prog_5_method_3_code
def y_TE_letter : MethodName := ⟨R_TE, "letter", "(I)I"⟩
theorem k_274 : Cond.fieldLink R_TE 25 R_TE "lefts" "[I" ∈ wsG := by decide +kernel
theorem k_275 : Cond.fieldLink R_TE 29 R_TE "rights" "[I" ∈ wsG := by decide +kernel
theorem k_276 : Cond.fieldLink R_TE 32 R_TE "joinedTo" "[I" ∈ wsG := by decide +kernel
theorem k_277 : Cond.fieldLink R_TE 21 R_TE "words" "LSmallExhaust$Trail;" ∈ wsG := by decide +kernel
theorem k_278 : Cond.fieldLink R_TE 42 R_TE "size" "I" ∈ wsG := by decide +kernel
theorem k_279 : Cond.fieldLink R_TE 71 R_MA "inputs" "I" ∈ wsG := by decide +kernel
theorem k_280 : Cond.fieldLink R_TE 15 R_TE "apart" "Z" ∈ wsG := by decide +kernel
theorem k_281 : Cond.fieldLink R_TE 9 R_TE "stands" "Z" ∈ wsG := by decide +kernel
theorem k_282 : Cond.fieldLink R_TE 35 R_TE "left" "I" ∈ wsG := by decide +kernel
theorem k_283 : Cond.fieldLink R_TE 39 R_TE "right" "I" ∈ wsG := by decide +kernel
theorem k_284 : Cond.methodLink R_TE 70 y_TR_makeRows ∈ wsG := by decide +kernel
theorem k_285 : Cond.code y_TE_rootOf b_TE_rootOf 4 (some .int) ∈ wsG := by decide +kernel
theorem k_286 : Cond.methodLink R_TE 84 y_TE_rootOf ∈ wsG := by decide +kernel
theorem k_287 : Cond.initialized R_TE ∈ wsG := by decide +kernel
theorem k_288 : Cond.instanceMethod y_TE_rootOf ∈ wsG := by decide +kernel
theorem k_289 : Cond.selects R_TE y_TE_rootOf y_TE_rootOf ∈ wsG := by decide +kernel
theorem k_290 : Cond.methodLink R_TE 74 y_MA_given ∈ wsG := by decide +kernel
theorem k_291 : Cond.methodLink R_TE 81 y_MA_next ∈ wsG := by decide +kernel
theorem k_292 : Cond.code y_TE_join b_TE_join 5 (some .boolean) ∈ wsG := by decide +kernel
theorem k_293 : Cond.methodLink R_TE 55 y_TE_join ∈ wsG := by decide +kernel
theorem k_294 : Cond.instanceMethod y_TE_join ∈ wsG := by decide +kernel
theorem k_295 : Cond.selects R_TE y_TE_join y_TE_join ∈ wsG := by decide +kernel
theorem k_296 : Cond.methodLink R_TE 77 y_TR_lead ∈ wsG := by decide +kernel
theorem k_297 : Cond.methodLink R_TE 45 y_MA_states ∈ wsG := by decide +kernel
theorem k_298 : Cond.code y_TE_makeRows b_TE_makeRows 2 none ∈ wsG := by decide +kernel
theorem k_299 : Cond.methodLink R_TE 51 y_TE_makeRows ∈ wsG := by decide +kernel
theorem k_300 : Cond.instanceMethod y_TE_makeRows ∈ wsG := by decide +kernel
theorem k_301 : Cond.selects R_TE y_TE_makeRows y_TE_makeRows ∈ wsG := by decide +kernel
theorem k_302 : Cond.code y_TE_goOn b_TE_goOn 7 none ∈ wsG := by decide +kernel
theorem k_303 : Cond.methodLink R_TE 62 y_TE_goOn ∈ wsG := by decide +kernel
theorem k_304 : Cond.instanceMethod y_TE_goOn ∈ wsG := by decide +kernel
theorem k_305 : Cond.selects R_TE y_TE_goOn y_TE_goOn ∈ wsG := by decide +kernel
theorem k_306 : Cond.methodLink R_TE 59 y_TR_start ∈ wsG := by decide +kernel
theorem k_307 : Cond.code y_TR_letter b_TR_letter 6 (some .int) ∈ wsG := by decide +kernel
theorem k_308 : Cond.methodLink R_TE 66 y_TR_letter ∈ wsG := by decide +kernel
theorem k_309 : Cond.instanceMethod y_TR_letter ∈ wsG := by decide +kernel
theorem k_310 : Cond.selects R_TR y_TR_letter y_TR_letter ∈ wsG := by decide +kernel
theorem d_TE_makeRows_0 : decode b_TE_makeRows 0 = .ok (.aload_n 0, 1) := by decide +kernel
theorem d_TE_makeRows_1 : decode b_TE_makeRows 1 = .ok (.getfield 25, 3) := by decide +kernel
theorem d_TE_makeRows_4 : decode b_TE_makeRows 4 = .ok (.arraylength, 1) := by decide +kernel
theorem d_TE_makeRows_5 : decode b_TE_makeRows 5 = .ok (.iload_n 1, 1) := by decide +kernel
theorem d_TE_makeRows_6 : decode b_TE_makeRows 6 = .ok (.if_icmp .ge 32, 3) := by decide +kernel
theorem d_TE_makeRows_9 : decode b_TE_makeRows 9 = .ok (.aload_n 0, 1) := by decide +kernel
theorem d_TE_makeRows_10 : decode b_TE_makeRows 10 = .ok (.iload_n 1, 1) := by decide +kernel
theorem d_TE_makeRows_11 : decode b_TE_makeRows 11 = .ok (.newarray .int, 2) := by decide +kernel
theorem d_TE_makeRows_13 : decode b_TE_makeRows 13 = .ok (.putfield 25, 3) := by decide +kernel
theorem d_TE_makeRows_16 : decode b_TE_makeRows 16 = .ok (.aload_n 0, 1) := by decide +kernel
theorem d_TE_makeRows_17 : decode b_TE_makeRows 17 = .ok (.iload_n 1, 1) := by decide +kernel
theorem d_TE_makeRows_18 : decode b_TE_makeRows 18 = .ok (.newarray .int, 2) := by decide +kernel
theorem d_TE_makeRows_20 : decode b_TE_makeRows 20 = .ok (.putfield 29, 3) := by decide +kernel
theorem d_TE_makeRows_23 : decode b_TE_makeRows 23 = .ok (.aload_n 0, 1) := by decide +kernel
theorem d_TE_makeRows_24 : decode b_TE_makeRows 24 = .ok (.iload_n 1, 1) := by decide +kernel
theorem d_TE_makeRows_25 : decode b_TE_makeRows 25 = .ok (.newarray .int, 2) := by decide +kernel
theorem d_TE_makeRows_27 : decode b_TE_makeRows 27 = .ok (.putfield 32, 3) := by decide +kernel
theorem d_TE_makeRows_30 : decode b_TE_makeRows 30 = .ok (.aload_n 0, 1) := by decide +kernel
theorem d_TE_makeRows_31 : decode b_TE_makeRows 31 = .ok (.getfield 21, 3) := by decide +kernel
theorem d_TE_makeRows_34 : decode b_TE_makeRows 34 = .ok (.iload_n 1, 1) := by decide +kernel
theorem d_TE_makeRows_35 : decode b_TE_makeRows 35 = .ok (.invokevirtual 70, 3) := by decide +kernel
theorem d_TE_makeRows_38 : decode b_TE_makeRows 38 = .ok (.return_, 1) := by decide +kernel
theorem d_TE_rootOf_0 : decode b_TE_rootOf 0 = .ok (.iload_n 1, 1) := by decide +kernel
theorem d_TE_rootOf_1 : decode b_TE_rootOf 1 = .ok (.istore_n 2, 1) := by decide +kernel
theorem d_TE_rootOf_2 : decode b_TE_rootOf 2 = .ok (.iconst 0, 1) := by decide +kernel
theorem d_TE_rootOf_3 : decode b_TE_rootOf 3 = .ok (.istore_n 3, 1) := by decide +kernel
theorem d_TE_rootOf_4 : decode b_TE_rootOf 4 = .ok (.iload_n 3, 1) := by decide +kernel
theorem d_TE_rootOf_5 : decode b_TE_rootOf 5 = .ok (.aload_n 0, 1) := by decide +kernel
theorem d_TE_rootOf_6 : decode b_TE_rootOf 6 = .ok (.getfield 32, 3) := by decide +kernel
theorem d_TE_rootOf_9 : decode b_TE_rootOf 9 = .ok (.arraylength, 1) := by decide +kernel
theorem d_TE_rootOf_10 : decode b_TE_rootOf 10 = .ok (.if_icmp .ge 43, 3) := by decide +kernel
theorem d_TE_rootOf_13 : decode b_TE_rootOf 13 = .ok (.aload_n 0, 1) := by decide +kernel
theorem d_TE_rootOf_14 : decode b_TE_rootOf 14 = .ok (.getfield 32, 3) := by decide +kernel
theorem d_TE_rootOf_17 : decode b_TE_rootOf 17 = .ok (.iload_n 2, 1) := by decide +kernel
theorem d_TE_rootOf_18 : decode b_TE_rootOf 18 = .ok (.iaload, 1) := by decide +kernel
theorem d_TE_rootOf_19 : decode b_TE_rootOf 19 = .ok (.iload_n 2, 1) := by decide +kernel
theorem d_TE_rootOf_20 : decode b_TE_rootOf 20 = .ok (.if_icmp .eq 33, 3) := by decide +kernel
theorem d_TE_rootOf_23 : decode b_TE_rootOf 23 = .ok (.aload_n 0, 1) := by decide +kernel
theorem d_TE_rootOf_24 : decode b_TE_rootOf 24 = .ok (.getfield 32, 3) := by decide +kernel
theorem d_TE_rootOf_27 : decode b_TE_rootOf 27 = .ok (.iload_n 2, 1) := by decide +kernel
theorem d_TE_rootOf_28 : decode b_TE_rootOf 28 = .ok (.aload_n 0, 1) := by decide +kernel
theorem d_TE_rootOf_29 : decode b_TE_rootOf 29 = .ok (.getfield 32, 3) := by decide +kernel
theorem d_TE_rootOf_32 : decode b_TE_rootOf 32 = .ok (.aload_n 0, 1) := by decide +kernel
theorem d_TE_rootOf_33 : decode b_TE_rootOf 33 = .ok (.getfield 32, 3) := by decide +kernel
theorem d_TE_rootOf_36 : decode b_TE_rootOf 36 = .ok (.iload_n 2, 1) := by decide +kernel
theorem d_TE_rootOf_37 : decode b_TE_rootOf 37 = .ok (.iaload, 1) := by decide +kernel
theorem d_TE_rootOf_38 : decode b_TE_rootOf 38 = .ok (.iaload, 1) := by decide +kernel
theorem d_TE_rootOf_39 : decode b_TE_rootOf 39 = .ok (.iastore, 1) := by decide +kernel
theorem d_TE_rootOf_40 : decode b_TE_rootOf 40 = .ok (.aload_n 0, 1) := by decide +kernel
theorem d_TE_rootOf_41 : decode b_TE_rootOf 41 = .ok (.getfield 32, 3) := by decide +kernel
theorem d_TE_rootOf_44 : decode b_TE_rootOf 44 = .ok (.iload_n 2, 1) := by decide +kernel
theorem d_TE_rootOf_45 : decode b_TE_rootOf 45 = .ok (.iaload, 1) := by decide +kernel
theorem d_TE_rootOf_46 : decode b_TE_rootOf 46 = .ok (.istore_n 2, 1) := by decide +kernel
theorem d_TE_rootOf_47 : decode b_TE_rootOf 47 = .ok (.iinc 3 1, 3) := by decide +kernel
theorem d_TE_rootOf_50 : decode b_TE_rootOf 50 = .ok (.goto (-46), 3) := by decide +kernel
theorem d_TE_rootOf_53 : decode b_TE_rootOf 53 = .ok (.iload_n 2, 1) := by decide +kernel
theorem d_TE_rootOf_54 : decode b_TE_rootOf 54 = .ok (.ireturn, 1) := by decide +kernel
theorem d_TE_join_0 : decode b_TE_join 0 = .ok (.aload_n 0, 1) := by decide +kernel
theorem d_TE_join_1 : decode b_TE_join 1 = .ok (.iload_n 1, 1) := by decide +kernel
theorem d_TE_join_2 : decode b_TE_join 2 = .ok (.invokevirtual 84, 3) := by decide +kernel
theorem d_TE_join_5 : decode b_TE_join 5 = .ok (.istore_n 3, 1) := by decide +kernel
theorem d_TE_join_6 : decode b_TE_join 6 = .ok (.aload_n 0, 1) := by decide +kernel
theorem d_TE_join_7 : decode b_TE_join 7 = .ok (.iload_n 2, 1) := by decide +kernel
theorem d_TE_join_8 : decode b_TE_join 8 = .ok (.invokevirtual 84, 3) := by decide +kernel
theorem d_TE_join_11 : decode b_TE_join 11 = .ok (.istore 4, 2) := by decide +kernel
theorem d_TE_join_13 : decode b_TE_join 13 = .ok (.iload_n 3, 1) := by decide +kernel
theorem d_TE_join_14 : decode b_TE_join 14 = .ok (.iload 4, 2) := by decide +kernel
theorem d_TE_join_16 : decode b_TE_join 16 = .ok (.if_icmp .ne 5, 3) := by decide +kernel
theorem d_TE_join_19 : decode b_TE_join 19 = .ok (.iconst 0, 1) := by decide +kernel
theorem d_TE_join_20 : decode b_TE_join 20 = .ok (.ireturn, 1) := by decide +kernel
theorem d_TE_join_21 : decode b_TE_join 21 = .ok (.aload_n 0, 1) := by decide +kernel
theorem d_TE_join_22 : decode b_TE_join 22 = .ok (.getfield 32, 3) := by decide +kernel
theorem d_TE_join_25 : decode b_TE_join 25 = .ok (.iload_n 3, 1) := by decide +kernel
theorem d_TE_join_26 : decode b_TE_join 26 = .ok (.iload 4, 2) := by decide +kernel
theorem d_TE_join_28 : decode b_TE_join 28 = .ok (.iastore, 1) := by decide +kernel
theorem d_TE_join_29 : decode b_TE_join 29 = .ok (.aload_n 0, 1) := by decide +kernel
theorem d_TE_join_30 : decode b_TE_join 30 = .ok (.getfield 25, 3) := by decide +kernel
theorem d_TE_join_33 : decode b_TE_join 33 = .ok (.aload_n 0, 1) := by decide +kernel
theorem d_TE_join_34 : decode b_TE_join 34 = .ok (.getfield 42, 3) := by decide +kernel
theorem d_TE_join_37 : decode b_TE_join 37 = .ok (.iload_n 1, 1) := by decide +kernel
theorem d_TE_join_38 : decode b_TE_join 38 = .ok (.iastore, 1) := by decide +kernel
theorem d_TE_join_39 : decode b_TE_join 39 = .ok (.aload_n 0, 1) := by decide +kernel
theorem d_TE_join_40 : decode b_TE_join 40 = .ok (.getfield 29, 3) := by decide +kernel
theorem d_TE_join_43 : decode b_TE_join 43 = .ok (.aload_n 0, 1) := by decide +kernel
theorem d_TE_join_44 : decode b_TE_join 44 = .ok (.getfield 42, 3) := by decide +kernel
theorem d_TE_join_47 : decode b_TE_join 47 = .ok (.iload_n 2, 1) := by decide +kernel
theorem d_TE_join_48 : decode b_TE_join 48 = .ok (.iastore, 1) := by decide +kernel
theorem d_TE_join_49 : decode b_TE_join 49 = .ok (.aload_n 0, 1) := by decide +kernel
theorem d_TE_join_50 : decode b_TE_join 50 = .ok (.dup, 1) := by decide +kernel
theorem d_TE_join_51 : decode b_TE_join 51 = .ok (.getfield 42, 3) := by decide +kernel
theorem d_TE_join_54 : decode b_TE_join 54 = .ok (.iconst 1, 1) := by decide +kernel
theorem d_TE_join_55 : decode b_TE_join 55 = .ok (.iadd, 1) := by decide +kernel
theorem d_TE_join_56 : decode b_TE_join 56 = .ok (.putfield 42, 3) := by decide +kernel
theorem d_TE_join_59 : decode b_TE_join 59 = .ok (.iconst 1, 1) := by decide +kernel
theorem d_TE_join_60 : decode b_TE_join 60 = .ok (.ireturn, 1) := by decide +kernel
theorem d_TE_goOn_0 : decode b_TE_goOn 0 = .ok (.aload_n 0, 1) := by decide +kernel
theorem d_TE_goOn_1 : decode b_TE_goOn 1 = .ok (.getfield 25, 3) := by decide +kernel
theorem d_TE_goOn_4 : decode b_TE_goOn 4 = .ok (.iload_n 2, 1) := by decide +kernel
theorem d_TE_goOn_5 : decode b_TE_goOn 5 = .ok (.iaload, 1) := by decide +kernel
theorem d_TE_goOn_6 : decode b_TE_goOn 6 = .ok (.istore_n 3, 1) := by decide +kernel
theorem d_TE_goOn_7 : decode b_TE_goOn 7 = .ok (.aload_n 0, 1) := by decide +kernel
theorem d_TE_goOn_8 : decode b_TE_goOn 8 = .ok (.getfield 29, 3) := by decide +kernel
theorem d_TE_goOn_11 : decode b_TE_goOn 11 = .ok (.iload_n 2, 1) := by decide +kernel
theorem d_TE_goOn_12 : decode b_TE_goOn 12 = .ok (.iaload, 1) := by decide +kernel
theorem d_TE_goOn_13 : decode b_TE_goOn 13 = .ok (.istore 4, 2) := by decide +kernel
theorem d_TE_goOn_15 : decode b_TE_goOn 15 = .ok (.iconst 0, 1) := by decide +kernel
theorem d_TE_goOn_16 : decode b_TE_goOn 16 = .ok (.istore 5, 2) := by decide +kernel
theorem d_TE_goOn_18 : decode b_TE_goOn 18 = .ok (.iload 5, 2) := by decide +kernel
theorem d_TE_goOn_20 : decode b_TE_goOn 20 = .ok (.aload_n 1, 1) := by decide +kernel
theorem d_TE_goOn_21 : decode b_TE_goOn 21 = .ok (.getfield 71, 3) := by decide +kernel
theorem d_TE_goOn_24 : decode b_TE_goOn 24 = .ok (.if_icmp .ge 87, 3) := by decide +kernel
theorem d_TE_goOn_27 : decode b_TE_goOn 27 = .ok (.aload_n 1, 1) := by decide +kernel
theorem d_TE_goOn_28 : decode b_TE_goOn 28 = .ok (.iload_n 3, 1) := by decide +kernel
theorem d_TE_goOn_29 : decode b_TE_goOn 29 = .ok (.iload 5, 2) := by decide +kernel
theorem d_TE_goOn_31 : decode b_TE_goOn 31 = .ok (.invokevirtual 74, 3) := by decide +kernel
theorem d_TE_goOn_34 : decode b_TE_goOn 34 = .ok (.aload_n 1, 1) := by decide +kernel
theorem d_TE_goOn_35 : decode b_TE_goOn 35 = .ok (.iload 4, 2) := by decide +kernel
theorem d_TE_goOn_37 : decode b_TE_goOn 37 = .ok (.iload 5, 2) := by decide +kernel
theorem d_TE_goOn_39 : decode b_TE_goOn 39 = .ok (.invokevirtual 74, 3) := by decide +kernel
theorem d_TE_goOn_42 : decode b_TE_goOn 42 = .ok (.if_icmp .eq 23, 3) := by decide +kernel
theorem d_TE_goOn_45 : decode b_TE_goOn 45 = .ok (.aload_n 0, 1) := by decide +kernel
theorem d_TE_goOn_46 : decode b_TE_goOn 46 = .ok (.iconst 1, 1) := by decide +kernel
theorem d_TE_goOn_47 : decode b_TE_goOn 47 = .ok (.putfield 15, 3) := by decide +kernel
theorem d_TE_goOn_50 : decode b_TE_goOn 50 = .ok (.aload_n 0, 1) := by decide +kernel
theorem d_TE_goOn_51 : decode b_TE_goOn 51 = .ok (.getfield 21, 3) := by decide +kernel
theorem d_TE_goOn_54 : decode b_TE_goOn 54 = .ok (.iload_n 2, 1) := by decide +kernel
theorem d_TE_goOn_55 : decode b_TE_goOn 55 = .ok (.iload 5, 2) := by decide +kernel
theorem d_TE_goOn_57 : decode b_TE_goOn 57 = .ok (.aload_n 0, 1) := by decide +kernel
theorem d_TE_goOn_58 : decode b_TE_goOn 58 = .ok (.getfield 42, 3) := by decide +kernel
theorem d_TE_goOn_61 : decode b_TE_goOn 61 = .ok (.invokevirtual 77, 3) := by decide +kernel
theorem d_TE_goOn_64 : decode b_TE_goOn 64 = .ok (.return_, 1) := by decide +kernel
theorem d_TE_goOn_65 : decode b_TE_goOn 65 = .ok (.aload_n 0, 1) := by decide +kernel
theorem d_TE_goOn_66 : decode b_TE_goOn 66 = .ok (.getfield 42, 3) := by decide +kernel
theorem d_TE_goOn_69 : decode b_TE_goOn 69 = .ok (.istore 6, 2) := by decide +kernel
theorem d_TE_goOn_71 : decode b_TE_goOn 71 = .ok (.aload_n 0, 1) := by decide +kernel
theorem d_TE_goOn_72 : decode b_TE_goOn 72 = .ok (.aload_n 1, 1) := by decide +kernel
theorem d_TE_goOn_73 : decode b_TE_goOn 73 = .ok (.iload_n 3, 1) := by decide +kernel
theorem d_TE_goOn_74 : decode b_TE_goOn 74 = .ok (.iload 5, 2) := by decide +kernel
theorem d_TE_goOn_76 : decode b_TE_goOn 76 = .ok (.invokevirtual 81, 3) := by decide +kernel
theorem d_TE_goOn_79 : decode b_TE_goOn 79 = .ok (.aload_n 1, 1) := by decide +kernel
theorem d_TE_goOn_80 : decode b_TE_goOn 80 = .ok (.iload 4, 2) := by decide +kernel
theorem d_TE_goOn_82 : decode b_TE_goOn 82 = .ok (.iload 5, 2) := by decide +kernel
theorem d_TE_goOn_84 : decode b_TE_goOn 84 = .ok (.invokevirtual 81, 3) := by decide +kernel
theorem d_TE_goOn_87 : decode b_TE_goOn 87 = .ok (.invokevirtual 55, 3) := by decide +kernel
theorem d_TE_goOn_90 : decode b_TE_goOn 90 = .ok (.ifCond .eq 15, 3) := by decide +kernel
theorem d_TE_goOn_93 : decode b_TE_goOn 93 = .ok (.aload_n 0, 1) := by decide +kernel
theorem d_TE_goOn_94 : decode b_TE_goOn 94 = .ok (.getfield 21, 3) := by decide +kernel
theorem d_TE_goOn_97 : decode b_TE_goOn 97 = .ok (.iload_n 2, 1) := by decide +kernel
theorem d_TE_goOn_98 : decode b_TE_goOn 98 = .ok (.iload 5, 2) := by decide +kernel
theorem d_TE_goOn_100 : decode b_TE_goOn 100 = .ok (.iload 6, 2) := by decide +kernel
theorem d_TE_goOn_102 : decode b_TE_goOn 102 = .ok (.invokevirtual 77, 3) := by decide +kernel
theorem d_TE_goOn_105 : decode b_TE_goOn 105 = .ok (.iinc 5 1, 3) := by decide +kernel
theorem d_TE_goOn_108 : decode b_TE_goOn 108 = .ok (.goto (-90), 3) := by decide +kernel
theorem d_TE_goOn_111 : decode b_TE_goOn 111 = .ok (.return_, 1) := by decide +kernel
theorem d_TE_run_0 : decode b_TE_run 0 = .ok (.aload_n 0, 1) := by decide +kernel
theorem d_TE_run_1 : decode b_TE_run 1 = .ok (.getfield 9, 3) := by decide +kernel
theorem d_TE_run_4 : decode b_TE_run 4 = .ok (.ifCond .eq 20, 3) := by decide +kernel
theorem d_TE_run_7 : decode b_TE_run 7 = .ok (.aload_n 0, 1) := by decide +kernel
theorem d_TE_run_8 : decode b_TE_run 8 = .ok (.getfield 35, 3) := by decide +kernel
theorem d_TE_run_11 : decode b_TE_run 11 = .ok (.iload_n 2, 1) := by decide +kernel
theorem d_TE_run_12 : decode b_TE_run 12 = .ok (.if_icmp .ne 12, 3) := by decide +kernel
theorem d_TE_run_15 : decode b_TE_run 15 = .ok (.aload_n 0, 1) := by decide +kernel
theorem d_TE_run_16 : decode b_TE_run 16 = .ok (.getfield 39, 3) := by decide +kernel
theorem d_TE_run_19 : decode b_TE_run 19 = .ok (.iload_n 3, 1) := by decide +kernel
theorem d_TE_run_20 : decode b_TE_run 20 = .ok (.if_icmp .ne 4, 3) := by decide +kernel
theorem d_TE_run_23 : decode b_TE_run 23 = .ok (.return_, 1) := by decide +kernel
theorem d_TE_run_24 : decode b_TE_run 24 = .ok (.aload_n 0, 1) := by decide +kernel
theorem d_TE_run_25 : decode b_TE_run 25 = .ok (.iconst 1, 1) := by decide +kernel
theorem d_TE_run_26 : decode b_TE_run 26 = .ok (.putfield 9, 3) := by decide +kernel
theorem d_TE_run_29 : decode b_TE_run 29 = .ok (.aload_n 1, 1) := by decide +kernel
theorem d_TE_run_30 : decode b_TE_run 30 = .ok (.invokevirtual 45, 3) := by decide +kernel
theorem d_TE_run_33 : decode b_TE_run 33 = .ok (.istore 4, 2) := by decide +kernel
theorem d_TE_run_35 : decode b_TE_run 35 = .ok (.aload_n 0, 1) := by decide +kernel
theorem d_TE_run_36 : decode b_TE_run 36 = .ok (.iload 4, 2) := by decide +kernel
theorem d_TE_run_38 : decode b_TE_run 38 = .ok (.invokevirtual 51, 3) := by decide +kernel
theorem d_TE_run_41 : decode b_TE_run 41 = .ok (.iconst 0, 1) := by decide +kernel
theorem d_TE_run_42 : decode b_TE_run 42 = .ok (.istore 5, 2) := by decide +kernel
theorem d_TE_run_44 : decode b_TE_run 44 = .ok (.iload 5, 2) := by decide +kernel
theorem d_TE_run_46 : decode b_TE_run 46 = .ok (.iload 4, 2) := by decide +kernel
theorem d_TE_run_48 : decode b_TE_run 48 = .ok (.if_icmp .ge 18, 3) := by decide +kernel
theorem d_TE_run_51 : decode b_TE_run 51 = .ok (.aload_n 0, 1) := by decide +kernel
theorem d_TE_run_52 : decode b_TE_run 52 = .ok (.getfield 32, 3) := by decide +kernel
theorem d_TE_run_55 : decode b_TE_run 55 = .ok (.iload 5, 2) := by decide +kernel
theorem d_TE_run_57 : decode b_TE_run 57 = .ok (.iload 5, 2) := by decide +kernel
theorem d_TE_run_59 : decode b_TE_run 59 = .ok (.iastore, 1) := by decide +kernel
theorem d_TE_run_60 : decode b_TE_run 60 = .ok (.iinc 5 1, 3) := by decide +kernel
theorem d_TE_run_63 : decode b_TE_run 63 = .ok (.goto (-19), 3) := by decide +kernel
theorem d_TE_run_66 : decode b_TE_run 66 = .ok (.aload_n 0, 1) := by decide +kernel
theorem d_TE_run_67 : decode b_TE_run 67 = .ok (.iload_n 2, 1) := by decide +kernel
theorem d_TE_run_68 : decode b_TE_run 68 = .ok (.putfield 35, 3) := by decide +kernel
theorem d_TE_run_71 : decode b_TE_run 71 = .ok (.aload_n 0, 1) := by decide +kernel
theorem d_TE_run_72 : decode b_TE_run 72 = .ok (.iload_n 3, 1) := by decide +kernel
theorem d_TE_run_73 : decode b_TE_run 73 = .ok (.putfield 39, 3) := by decide +kernel
theorem d_TE_run_76 : decode b_TE_run 76 = .ok (.aload_n 0, 1) := by decide +kernel
theorem d_TE_run_77 : decode b_TE_run 77 = .ok (.iconst 0, 1) := by decide +kernel
theorem d_TE_run_78 : decode b_TE_run 78 = .ok (.putfield 15, 3) := by decide +kernel
theorem d_TE_run_81 : decode b_TE_run 81 = .ok (.aload_n 0, 1) := by decide +kernel
theorem d_TE_run_82 : decode b_TE_run 82 = .ok (.iconst 0, 1) := by decide +kernel
theorem d_TE_run_83 : decode b_TE_run 83 = .ok (.putfield 42, 3) := by decide +kernel
theorem d_TE_run_86 : decode b_TE_run 86 = .ok (.aload_n 0, 1) := by decide +kernel
theorem d_TE_run_87 : decode b_TE_run 87 = .ok (.iload_n 2, 1) := by decide +kernel
theorem d_TE_run_88 : decode b_TE_run 88 = .ok (.iload_n 3, 1) := by decide +kernel
theorem d_TE_run_89 : decode b_TE_run 89 = .ok (.invokevirtual 55, 3) := by decide +kernel
theorem d_TE_run_92 : decode b_TE_run 92 = .ok (.ifCond .eq 11, 3) := by decide +kernel
theorem d_TE_run_95 : decode b_TE_run 95 = .ok (.aload_n 0, 1) := by decide +kernel
theorem d_TE_run_96 : decode b_TE_run 96 = .ok (.getfield 21, 3) := by decide +kernel
theorem d_TE_run_99 : decode b_TE_run 99 = .ok (.iconst 0, 1) := by decide +kernel
theorem d_TE_run_100 : decode b_TE_run 100 = .ok (.invokevirtual 59, 3) := by decide +kernel
theorem d_TE_run_103 : decode b_TE_run 103 = .ok (.iconst 0, 1) := by decide +kernel
theorem d_TE_run_104 : decode b_TE_run 104 = .ok (.istore 5, 2) := by decide +kernel
theorem d_TE_run_106 : decode b_TE_run 106 = .ok (.iload 5, 2) := by decide +kernel
theorem d_TE_run_108 : decode b_TE_run 108 = .ok (.iload 4, 2) := by decide +kernel
theorem d_TE_run_110 : decode b_TE_run 110 = .ok (.if_icmp .ge 32, 3) := by decide +kernel
theorem d_TE_run_113 : decode b_TE_run 113 = .ok (.iload 5, 2) := by decide +kernel
theorem d_TE_run_115 : decode b_TE_run 115 = .ok (.aload_n 0, 1) := by decide +kernel
theorem d_TE_run_116 : decode b_TE_run 116 = .ok (.getfield 42, 3) := by decide +kernel
theorem d_TE_run_119 : decode b_TE_run 119 = .ok (.if_icmp .ge 23, 3) := by decide +kernel
theorem d_TE_run_122 : decode b_TE_run 122 = .ok (.aload_n 0, 1) := by decide +kernel
theorem d_TE_run_123 : decode b_TE_run 123 = .ok (.getfield 15, 3) := by decide +kernel
theorem d_TE_run_126 : decode b_TE_run 126 = .ok (.ifCond .ne 16, 3) := by decide +kernel
theorem d_TE_run_129 : decode b_TE_run 129 = .ok (.aload_n 0, 1) := by decide +kernel
theorem d_TE_run_130 : decode b_TE_run 130 = .ok (.aload_n 1, 1) := by decide +kernel
theorem d_TE_run_131 : decode b_TE_run 131 = .ok (.iload 5, 2) := by decide +kernel
theorem d_TE_run_133 : decode b_TE_run 133 = .ok (.invokevirtual 62, 3) := by decide +kernel
theorem d_TE_run_136 : decode b_TE_run 136 = .ok (.iinc 5 1, 3) := by decide +kernel
theorem d_TE_run_139 : decode b_TE_run 139 = .ok (.goto (-33), 3) := by decide +kernel
theorem d_TE_run_142 : decode b_TE_run 142 = .ok (.return_, 1) := by decide +kernel
theorem d_TE_letter_0 : decode b_TE_letter 0 = .ok (.aload_n 0, 1) := by decide +kernel
theorem d_TE_letter_1 : decode b_TE_letter 1 = .ok (.getfield 15, 3) := by decide +kernel
theorem d_TE_letter_4 : decode b_TE_letter 4 = .ok (.ifCond .eq 18, 3) := by decide +kernel
theorem d_TE_letter_7 : decode b_TE_letter 7 = .ok (.aload_n 0, 1) := by decide +kernel
theorem d_TE_letter_8 : decode b_TE_letter 8 = .ok (.getfield 21, 3) := by decide +kernel
theorem d_TE_letter_11 : decode b_TE_letter 11 = .ok (.aload_n 0, 1) := by decide +kernel
theorem d_TE_letter_12 : decode b_TE_letter 12 = .ok (.getfield 42, 3) := by decide +kernel
theorem d_TE_letter_15 : decode b_TE_letter 15 = .ok (.iload_n 1, 1) := by decide +kernel
theorem d_TE_letter_16 : decode b_TE_letter 16 = .ok (.invokevirtual 66, 3) := by decide +kernel
theorem d_TE_letter_19 : decode b_TE_letter 19 = .ok (.goto 4, 3) := by decide +kernel
theorem d_TE_letter_22 : decode b_TE_letter 22 = .ok (.iconst (-1), 1) := by decide +kernel
theorem d_TE_letter_23 : decode b_TE_letter 23 = .ok (.ireturn, 1) := by decide +kernel
section Sites
variable {p : Program} {l : Launch} {e : Env} {R : Room} {s : State} {m : MethodId} {args : Array Value} {below : List Frame} {meth : Method} {c : Code} {H H0 : Heap} {locs : List Loc} {cells slots : Nat} {Q : State → Prop} {cc : ByteArray} {pc : Nat} {ls : Array Slot} {rest : List Value} {D : va_G} {A : Nat → Prop} {a : Nat} {TY : List (ClassId × FieldType)} {ws : va_W}
theorem gf_TE_25 (hx : p.tables.exec = Jvm.exec) (hb : c.code = cc) (hts : ∀ w ∈ wsG, w.before args s = true) (hown : s.vm.findClass R_TE = some m.cls) (hK : va_K D vwCl TY s) (hP : va_P D vwCl ws H) (q0 : Nat) {fs : List Value} (he : ws[q0]? = some (a, .inr (5, fs))) {v : Value} (hv : fs[3]? = some v) (hdg : decode cc pc = .ok (.getfield 25, 3)) (kk : W p l e R s m args below meth c H locs cells slots Q (F0 m (pc + 3) ls (v :: rest))) : W p l e R s m args below meth c H locs cells slots Q (F0 m pc ls (.ref a :: rest)) :=
  va_get (D := D) (ci := 5) (C := R_TE) (T := F_TE) (N := 9) hx hb hts i_TE hown hK hP q0 he rfl 3 (by decide) (hts _ k_274) (fun _ h9 => h9) hv hdg kk
theorem pf_TE_25 (hx : p.tables.exec = Jvm.exec) (hb : c.code = cc) (hts : ∀ w ∈ wsG, w.before args s = true) (hown : s.vm.findClass R_TE = some m.cls) (hK : va_K D vwCl TY s) (hP : va_P D vwCl ws H) (hD : va_D A ws) (hS : va_S A H0 H locs) (q0 : Nat) {fs : List Value} {v : Value} (he : ws[q0]? = some (a, .inr (5, fs))) (hn : narrow (.array (.int)) v = v) (hfit : fits (.array (.int)) v = true) (hl : 3 < fs.length) (hdg : decode cc pc = .ok (.putfield 25, 3)) (kk : ∀ (H1 : Heap) (locs1 : List Loc), va_P D vwCl (ws.set q0 (a, .inr (5, fs.set 3 v))) H1 → va_D A (ws.set q0 (a, .inr (5, fs.set 3 v))) → va_S A H0 H1 locs1 → W p l e R s m args below meth c H1 locs1 cells slots Q (F0 m (pc + 3) ls rest)) : W p l e R s m args below meth c H locs cells slots Q (F0 m pc ls (v :: .ref a :: rest)) :=
  va_put (D := D) (ci := 5) (v := v) (ty := .array (.int)) (C := R_TE) (T := F_TE) (N := 9) hx hb hts i_TE t_TE t_TE_ok n_TE hown hK hP hD hS q0 he rfl 3 (by decide) (hts _ k_274) (fun _ h9 => h9) rfl (by decide +kernel) hn hfit hl hdg kk
theorem pf_TE_29 (hx : p.tables.exec = Jvm.exec) (hb : c.code = cc) (hts : ∀ w ∈ wsG, w.before args s = true) (hown : s.vm.findClass R_TE = some m.cls) (hK : va_K D vwCl TY s) (hP : va_P D vwCl ws H) (hD : va_D A ws) (hS : va_S A H0 H locs) (q0 : Nat) {fs : List Value} {v : Value} (he : ws[q0]? = some (a, .inr (5, fs))) (hn : narrow (.array (.int)) v = v) (hfit : fits (.array (.int)) v = true) (hl : 4 < fs.length) (hdg : decode cc pc = .ok (.putfield 29, 3)) (kk : ∀ (H1 : Heap) (locs1 : List Loc), va_P D vwCl (ws.set q0 (a, .inr (5, fs.set 4 v))) H1 → va_D A (ws.set q0 (a, .inr (5, fs.set 4 v))) → va_S A H0 H1 locs1 → W p l e R s m args below meth c H1 locs1 cells slots Q (F0 m (pc + 3) ls rest)) : W p l e R s m args below meth c H locs cells slots Q (F0 m pc ls (v :: .ref a :: rest)) :=
  va_put (D := D) (ci := 5) (v := v) (ty := .array (.int)) (C := R_TE) (T := F_TE) (N := 9) hx hb hts i_TE t_TE t_TE_ok n_TE hown hK hP hD hS q0 he rfl 4 (by decide) (hts _ k_275) (fun _ h9 => h9) rfl (by decide +kernel) hn hfit hl hdg kk
theorem pf_TE_32 (hx : p.tables.exec = Jvm.exec) (hb : c.code = cc) (hts : ∀ w ∈ wsG, w.before args s = true) (hown : s.vm.findClass R_TE = some m.cls) (hK : va_K D vwCl TY s) (hP : va_P D vwCl ws H) (hD : va_D A ws) (hS : va_S A H0 H locs) (q0 : Nat) {fs : List Value} {v : Value} (he : ws[q0]? = some (a, .inr (5, fs))) (hn : narrow (.array (.int)) v = v) (hfit : fits (.array (.int)) v = true) (hl : 5 < fs.length) (hdg : decode cc pc = .ok (.putfield 32, 3)) (kk : ∀ (H1 : Heap) (locs1 : List Loc), va_P D vwCl (ws.set q0 (a, .inr (5, fs.set 5 v))) H1 → va_D A (ws.set q0 (a, .inr (5, fs.set 5 v))) → va_S A H0 H1 locs1 → W p l e R s m args below meth c H1 locs1 cells slots Q (F0 m (pc + 3) ls rest)) : W p l e R s m args below meth c H locs cells slots Q (F0 m pc ls (v :: .ref a :: rest)) :=
  va_put (D := D) (ci := 5) (v := v) (ty := .array (.int)) (C := R_TE) (T := F_TE) (N := 9) hx hb hts i_TE t_TE t_TE_ok n_TE hown hK hP hD hS q0 he rfl 5 (by decide) (hts _ k_276) (fun _ h9 => h9) rfl (by decide +kernel) hn hfit hl hdg kk
theorem gf_TE_21 (hx : p.tables.exec = Jvm.exec) (hb : c.code = cc) (hts : ∀ w ∈ wsG, w.before args s = true) (hown : s.vm.findClass R_TE = some m.cls) (hK : va_K D vwCl TY s) (hP : va_P D vwCl ws H) (q0 : Nat) {fs : List Value} (he : ws[q0]? = some (a, .inr (5, fs))) {v : Value} (hv : fs[2]? = some v) (hdg : decode cc pc = .ok (.getfield 21, 3)) (kk : W p l e R s m args below meth c H locs cells slots Q (F0 m (pc + 3) ls (v :: rest))) : W p l e R s m args below meth c H locs cells slots Q (F0 m pc ls (.ref a :: rest)) :=
  va_get (D := D) (ci := 5) (C := R_TE) (T := F_TE) (N := 9) hx hb hts i_TE hown hK hP q0 he rfl 2 (by decide) (hts _ k_277) (fun _ h9 => h9) hv hdg kk
theorem gf_TE_32 (hx : p.tables.exec = Jvm.exec) (hb : c.code = cc) (hts : ∀ w ∈ wsG, w.before args s = true) (hown : s.vm.findClass R_TE = some m.cls) (hK : va_K D vwCl TY s) (hP : va_P D vwCl ws H) (q0 : Nat) {fs : List Value} (he : ws[q0]? = some (a, .inr (5, fs))) {v : Value} (hv : fs[5]? = some v) (hdg : decode cc pc = .ok (.getfield 32, 3)) (kk : W p l e R s m args below meth c H locs cells slots Q (F0 m (pc + 3) ls (v :: rest))) : W p l e R s m args below meth c H locs cells slots Q (F0 m pc ls (.ref a :: rest)) :=
  va_get (D := D) (ci := 5) (C := R_TE) (T := F_TE) (N := 9) hx hb hts i_TE hown hK hP q0 he rfl 5 (by decide) (hts _ k_276) (fun _ h9 => h9) hv hdg kk
theorem gf_TE_42 (hx : p.tables.exec = Jvm.exec) (hb : c.code = cc) (hts : ∀ w ∈ wsG, w.before args s = true) (hown : s.vm.findClass R_TE = some m.cls) (hK : va_K D vwCl TY s) (hP : va_P D vwCl ws H) (q0 : Nat) {fs : List Value} (he : ws[q0]? = some (a, .inr (5, fs))) {v : Value} (hv : fs[8]? = some v) (hdg : decode cc pc = .ok (.getfield 42, 3)) (kk : W p l e R s m args below meth c H locs cells slots Q (F0 m (pc + 3) ls (v :: rest))) : W p l e R s m args below meth c H locs cells slots Q (F0 m pc ls (.ref a :: rest)) :=
  va_get (D := D) (ci := 5) (C := R_TE) (T := F_TE) (N := 9) hx hb hts i_TE hown hK hP q0 he rfl 8 (by decide) (hts _ k_278) (fun _ h9 => h9) hv hdg kk
theorem gf_TE_29 (hx : p.tables.exec = Jvm.exec) (hb : c.code = cc) (hts : ∀ w ∈ wsG, w.before args s = true) (hown : s.vm.findClass R_TE = some m.cls) (hK : va_K D vwCl TY s) (hP : va_P D vwCl ws H) (q0 : Nat) {fs : List Value} (he : ws[q0]? = some (a, .inr (5, fs))) {v : Value} (hv : fs[4]? = some v) (hdg : decode cc pc = .ok (.getfield 29, 3)) (kk : W p l e R s m args below meth c H locs cells slots Q (F0 m (pc + 3) ls (v :: rest))) : W p l e R s m args below meth c H locs cells slots Q (F0 m pc ls (.ref a :: rest)) :=
  va_get (D := D) (ci := 5) (C := R_TE) (T := F_TE) (N := 9) hx hb hts i_TE hown hK hP q0 he rfl 4 (by decide) (hts _ k_275) (fun _ h9 => h9) hv hdg kk
theorem pf_TE_42 (hx : p.tables.exec = Jvm.exec) (hb : c.code = cc) (hts : ∀ w ∈ wsG, w.before args s = true) (hown : s.vm.findClass R_TE = some m.cls) (hK : va_K D vwCl TY s) (hP : va_P D vwCl ws H) (hD : va_D A ws) (hS : va_S A H0 H locs) (q0 : Nat) {fs : List Value} {v : Value} (he : ws[q0]? = some (a, .inr (5, fs))) (hn : narrow (.int) v = v) (hfit : fits (.int) v = true) (hl : 8 < fs.length) (hdg : decode cc pc = .ok (.putfield 42, 3)) (kk : ∀ (H1 : Heap) (locs1 : List Loc), va_P D vwCl (ws.set q0 (a, .inr (5, fs.set 8 v))) H1 → va_D A (ws.set q0 (a, .inr (5, fs.set 8 v))) → va_S A H0 H1 locs1 → W p l e R s m args below meth c H1 locs1 cells slots Q (F0 m (pc + 3) ls rest)) : W p l e R s m args below meth c H locs cells slots Q (F0 m pc ls (v :: .ref a :: rest)) :=
  va_put (D := D) (ci := 5) (v := v) (ty := .int) (C := R_TE) (T := F_TE) (N := 9) hx hb hts i_TE t_TE t_TE_ok n_TE hown hK hP hD hS q0 he rfl 8 (by decide) (hts _ k_278) (fun _ h9 => h9) rfl (by decide +kernel) hn hfit hl hdg kk
theorem gf_TE_71 (hx : p.tables.exec = Jvm.exec) (hb : c.code = cc) (hts : ∀ w ∈ wsG, w.before args s = true) (hown : s.vm.findClass R_TE = some m.cls) (hK : va_K D vwCl TY s) (hP : va_P D vwCl ws H) (q0 : Nat) {fs : List Value} (he : ws[q0]? = some (a, .inr (2, fs))) {v : Value} (hv : fs[5]? = some v) (hdg : decode cc pc = .ok (.getfield 71, 3)) (kk : W p l e R s m args below meth c H locs cells slots Q (F0 m (pc + 3) ls (v :: rest))) : W p l e R s m args below meth c H locs cells slots Q (F0 m pc ls (.ref a :: rest)) :=
  va_get (D := D) (ci := 2) (C := R_MA) (T := F_MA) (N := 7) hx hb hts i_MA hown hK hP q0 he rfl 5 (by decide) (hts _ k_279) (fun _ h9 => h9) hv hdg kk
theorem pf_TE_15 (hx : p.tables.exec = Jvm.exec) (hb : c.code = cc) (hts : ∀ w ∈ wsG, w.before args s = true) (hown : s.vm.findClass R_TE = some m.cls) (hK : va_K D vwCl TY s) (hP : va_P D vwCl ws H) (hD : va_D A ws) (hS : va_S A H0 H locs) (q0 : Nat) {fs : List Value} {v : Value} (he : ws[q0]? = some (a, .inr (5, fs))) (hn : narrow (.boolean) v = v) (hfit : fits (.boolean) v = true) (hl : 1 < fs.length) (hdg : decode cc pc = .ok (.putfield 15, 3)) (kk : ∀ (H1 : Heap) (locs1 : List Loc), va_P D vwCl (ws.set q0 (a, .inr (5, fs.set 1 v))) H1 → va_D A (ws.set q0 (a, .inr (5, fs.set 1 v))) → va_S A H0 H1 locs1 → W p l e R s m args below meth c H1 locs1 cells slots Q (F0 m (pc + 3) ls rest)) : W p l e R s m args below meth c H locs cells slots Q (F0 m pc ls (v :: .ref a :: rest)) :=
  va_put (D := D) (ci := 5) (v := v) (ty := .boolean) (C := R_TE) (T := F_TE) (N := 9) hx hb hts i_TE t_TE t_TE_ok n_TE hown hK hP hD hS q0 he rfl 1 (by decide) (hts _ k_280) (fun _ h9 => h9) rfl (by decide +kernel) hn hfit hl hdg kk
theorem gf_TE_9 (hx : p.tables.exec = Jvm.exec) (hb : c.code = cc) (hts : ∀ w ∈ wsG, w.before args s = true) (hown : s.vm.findClass R_TE = some m.cls) (hK : va_K D vwCl TY s) (hP : va_P D vwCl ws H) (q0 : Nat) {fs : List Value} (he : ws[q0]? = some (a, .inr (5, fs))) {v : Value} (hv : fs[0]? = some v) (hdg : decode cc pc = .ok (.getfield 9, 3)) (kk : W p l e R s m args below meth c H locs cells slots Q (F0 m (pc + 3) ls (v :: rest))) : W p l e R s m args below meth c H locs cells slots Q (F0 m pc ls (.ref a :: rest)) :=
  va_get (D := D) (ci := 5) (C := R_TE) (T := F_TE) (N := 9) hx hb hts i_TE hown hK hP q0 he rfl 0 (by decide) (hts _ k_281) (fun _ h9 => h9) hv hdg kk
theorem pf_TE_9 (hx : p.tables.exec = Jvm.exec) (hb : c.code = cc) (hts : ∀ w ∈ wsG, w.before args s = true) (hown : s.vm.findClass R_TE = some m.cls) (hK : va_K D vwCl TY s) (hP : va_P D vwCl ws H) (hD : va_D A ws) (hS : va_S A H0 H locs) (q0 : Nat) {fs : List Value} {v : Value} (he : ws[q0]? = some (a, .inr (5, fs))) (hn : narrow (.boolean) v = v) (hfit : fits (.boolean) v = true) (hl : 0 < fs.length) (hdg : decode cc pc = .ok (.putfield 9, 3)) (kk : ∀ (H1 : Heap) (locs1 : List Loc), va_P D vwCl (ws.set q0 (a, .inr (5, fs.set 0 v))) H1 → va_D A (ws.set q0 (a, .inr (5, fs.set 0 v))) → va_S A H0 H1 locs1 → W p l e R s m args below meth c H1 locs1 cells slots Q (F0 m (pc + 3) ls rest)) : W p l e R s m args below meth c H locs cells slots Q (F0 m pc ls (v :: .ref a :: rest)) :=
  va_put (D := D) (ci := 5) (v := v) (ty := .boolean) (C := R_TE) (T := F_TE) (N := 9) hx hb hts i_TE t_TE t_TE_ok n_TE hown hK hP hD hS q0 he rfl 0 (by decide) (hts _ k_281) (fun _ h9 => h9) rfl (by decide +kernel) hn hfit hl hdg kk
theorem pf_TE_35 (hx : p.tables.exec = Jvm.exec) (hb : c.code = cc) (hts : ∀ w ∈ wsG, w.before args s = true) (hown : s.vm.findClass R_TE = some m.cls) (hK : va_K D vwCl TY s) (hP : va_P D vwCl ws H) (hD : va_D A ws) (hS : va_S A H0 H locs) (q0 : Nat) {fs : List Value} {v : Value} (he : ws[q0]? = some (a, .inr (5, fs))) (hn : narrow (.int) v = v) (hfit : fits (.int) v = true) (hl : 6 < fs.length) (hdg : decode cc pc = .ok (.putfield 35, 3)) (kk : ∀ (H1 : Heap) (locs1 : List Loc), va_P D vwCl (ws.set q0 (a, .inr (5, fs.set 6 v))) H1 → va_D A (ws.set q0 (a, .inr (5, fs.set 6 v))) → va_S A H0 H1 locs1 → W p l e R s m args below meth c H1 locs1 cells slots Q (F0 m (pc + 3) ls rest)) : W p l e R s m args below meth c H locs cells slots Q (F0 m pc ls (v :: .ref a :: rest)) :=
  va_put (D := D) (ci := 5) (v := v) (ty := .int) (C := R_TE) (T := F_TE) (N := 9) hx hb hts i_TE t_TE t_TE_ok n_TE hown hK hP hD hS q0 he rfl 6 (by decide) (hts _ k_282) (fun _ h9 => h9) rfl (by decide +kernel) hn hfit hl hdg kk
theorem pf_TE_39 (hx : p.tables.exec = Jvm.exec) (hb : c.code = cc) (hts : ∀ w ∈ wsG, w.before args s = true) (hown : s.vm.findClass R_TE = some m.cls) (hK : va_K D vwCl TY s) (hP : va_P D vwCl ws H) (hD : va_D A ws) (hS : va_S A H0 H locs) (q0 : Nat) {fs : List Value} {v : Value} (he : ws[q0]? = some (a, .inr (5, fs))) (hn : narrow (.int) v = v) (hfit : fits (.int) v = true) (hl : 7 < fs.length) (hdg : decode cc pc = .ok (.putfield 39, 3)) (kk : ∀ (H1 : Heap) (locs1 : List Loc), va_P D vwCl (ws.set q0 (a, .inr (5, fs.set 7 v))) H1 → va_D A (ws.set q0 (a, .inr (5, fs.set 7 v))) → va_S A H0 H1 locs1 → W p l e R s m args below meth c H1 locs1 cells slots Q (F0 m (pc + 3) ls rest)) : W p l e R s m args below meth c H locs cells slots Q (F0 m pc ls (v :: .ref a :: rest)) :=
  va_put (D := D) (ci := 5) (v := v) (ty := .int) (C := R_TE) (T := F_TE) (N := 9) hx hb hts i_TE t_TE t_TE_ok n_TE hown hK hP hD hS q0 he rfl 7 (by decide) (hts _ k_283) (fun _ h9 => h9) rfl (by decide +kernel) hn hfit hl hdg kk
theorem gf_TE_15 (hx : p.tables.exec = Jvm.exec) (hb : c.code = cc) (hts : ∀ w ∈ wsG, w.before args s = true) (hown : s.vm.findClass R_TE = some m.cls) (hK : va_K D vwCl TY s) (hP : va_P D vwCl ws H) (q0 : Nat) {fs : List Value} (he : ws[q0]? = some (a, .inr (5, fs))) {v : Value} (hv : fs[1]? = some v) (hdg : decode cc pc = .ok (.getfield 15, 3)) (kk : W p l e R s m args below meth c H locs cells slots Q (F0 m (pc + 3) ls (v :: rest))) : W p l e R s m args below meth c H locs cells slots Q (F0 m pc ls (.ref a :: rest)) :=
  va_get (D := D) (ci := 5) (C := R_TE) (T := F_TE) (N := 9) hx hb hts i_TE hown hK hP q0 he rfl 1 (by decide) (hts _ k_280) (fun _ h9 => h9) hv hdg kk
theorem gf_TE_35 (hx : p.tables.exec = Jvm.exec) (hb : c.code = cc) (hts : ∀ w ∈ wsG, w.before args s = true) (hown : s.vm.findClass R_TE = some m.cls) (hK : va_K D vwCl TY s) (hP : va_P D vwCl ws H) (q0 : Nat) {fs : List Value} (he : ws[q0]? = some (a, .inr (5, fs))) {v : Value} (hv : fs[6]? = some v) (hdg : decode cc pc = .ok (.getfield 35, 3)) (kk : W p l e R s m args below meth c H locs cells slots Q (F0 m (pc + 3) ls (v :: rest))) : W p l e R s m args below meth c H locs cells slots Q (F0 m pc ls (.ref a :: rest)) :=
  va_get (D := D) (ci := 5) (C := R_TE) (T := F_TE) (N := 9) hx hb hts i_TE hown hK hP q0 he rfl 6 (by decide) (hts _ k_282) (fun _ h9 => h9) hv hdg kk
theorem gf_TE_39 (hx : p.tables.exec = Jvm.exec) (hb : c.code = cc) (hts : ∀ w ∈ wsG, w.before args s = true) (hown : s.vm.findClass R_TE = some m.cls) (hK : va_K D vwCl TY s) (hP : va_P D vwCl ws H) (q0 : Nat) {fs : List Value} (he : ws[q0]? = some (a, .inr (5, fs))) {v : Value} (hv : fs[7]? = some v) (hdg : decode cc pc = .ok (.getfield 39, 3)) (kk : W p l e R s m args below meth c H locs cells slots Q (F0 m (pc + 3) ls (v :: rest))) : W p l e R s m args below meth c H locs cells slots Q (F0 m pc ls (.ref a :: rest)) :=
  va_get (D := D) (ci := 5) (C := R_TE) (T := F_TE) (N := 9) hx hb hts i_TE hown hK hP q0 he rfl 7 (by decide) (hts _ k_283) (fun _ h9 => h9) hv hdg kk
theorem cw_TE_70 {rm : Room} (hts : ∀ w ∈ wsG, w.before args s = true) (hR : rm.frames + 1 ≤ R.frames ∧ 8 + (2 + 11) + rm.locals ≤ R.locals) : CallW R s args R_TE R_TR 70 y_TR_makeRows b_TR_makeRows 2 none (.code y_TR_makeRows b_TR_makeRows 2 none :: wsG) rm rm.cells rm.slots 1 :=
  ky_cwV 1 hts k_195 k_284 k_197 k_198 k_12 (by decide +kernel) hR
theorem cw_TE_84 {rm : Room} (hts : ∀ w ∈ wsG, w.before args s = true) (hR : rm.frames + 1 ≤ R.frames ∧ 8 + (4 + 11) + rm.locals ≤ R.locals) : CallW R s args R_TE R_TE 84 y_TE_rootOf b_TE_rootOf 4 (some .int) (.code y_TE_rootOf b_TE_rootOf 4 (some .int) :: wsG) rm rm.cells rm.slots 1 :=
  ky_cwV 1 hts k_285 k_286 k_288 k_289 k_287 (by decide +kernel) hR
theorem cw_TE_74 {rm : Room} (hts : ∀ w ∈ wsG, w.before args s = true) (hR : rm.frames + 1 ≤ R.frames ∧ 8 + (3 + 11) + rm.locals ≤ R.locals) : CallW R s args R_TE R_MA 74 y_MA_given b_MA_given 3 (some .int) (.code y_MA_given b_MA_given 3 (some .int) :: wsG) rm rm.cells rm.slots 2 :=
  ky_cwV 2 hts k_251 k_290 k_253 k_254 k_17 (by decide +kernel) hR
theorem cw_TE_81 {rm : Room} (hts : ∀ w ∈ wsG, w.before args s = true) (hR : rm.frames + 1 ≤ R.frames ∧ 8 + (3 + 11) + rm.locals ≤ R.locals) : CallW R s args R_TE R_MA 81 y_MA_next b_MA_next 3 (some .int) (.code y_MA_next b_MA_next 3 (some .int) :: wsG) rm rm.cells rm.slots 2 :=
  ky_cwV 2 hts k_199 k_291 k_201 k_202 k_17 (by decide +kernel) hR
theorem cw_TE_55 {rm : Room} (hts : ∀ w ∈ wsG, w.before args s = true) (hR : rm.frames + 1 ≤ R.frames ∧ 8 + (5 + 11) + rm.locals ≤ R.locals) : CallW R s args R_TE R_TE 55 y_TE_join b_TE_join 5 (some .boolean) (.code y_TE_join b_TE_join 5 (some .boolean) :: wsG) rm rm.cells rm.slots 2 :=
  ky_cwV 2 hts k_292 k_293 k_294 k_295 k_287 (by decide +kernel) hR
theorem cw_TE_77 {rm : Room} (hts : ∀ w ∈ wsG, w.before args s = true) (hR : rm.frames + 1 ≤ R.frames ∧ 8 + (4 + 11) + rm.locals ≤ R.locals) : CallW R s args R_TE R_TR 77 y_TR_lead b_TR_lead 4 none (.code y_TR_lead b_TR_lead 4 none :: wsG) rm rm.cells rm.slots 3 :=
  ky_cwV 3 hts k_208 k_296 k_210 k_211 k_12 (by decide +kernel) hR
theorem cw_TE_45 {rm : Room} (hts : ∀ w ∈ wsG, w.before args s = true) (hR : rm.frames + 1 ≤ R.frames ∧ 8 + (1 + 11) + rm.locals ≤ R.locals) : CallW R s args R_TE R_MA 45 y_MA_states b_MA_states 1 (some .int) (.code y_MA_states b_MA_states 1 (some .int) :: wsG) rm rm.cells rm.slots 0 :=
  ky_cwV 0 hts k_15 k_297 k_18 k_19 k_17 (by decide +kernel) hR
theorem cw_TE_51 {rm : Room} (hts : ∀ w ∈ wsG, w.before args s = true) (hR : rm.frames + 1 ≤ R.frames ∧ 8 + (2 + 11) + rm.locals ≤ R.locals) : CallW R s args R_TE R_TE 51 y_TE_makeRows b_TE_makeRows 2 none (.code y_TE_makeRows b_TE_makeRows 2 none :: wsG) rm rm.cells rm.slots 1 :=
  ky_cwV 1 hts k_298 k_299 k_300 k_301 k_287 (by decide +kernel) hR
theorem cw_TE_62 {rm : Room} (hts : ∀ w ∈ wsG, w.before args s = true) (hR : rm.frames + 1 ≤ R.frames ∧ 8 + (7 + 11) + rm.locals ≤ R.locals) : CallW R s args R_TE R_TE 62 y_TE_goOn b_TE_goOn 7 none (.code y_TE_goOn b_TE_goOn 7 none :: wsG) rm rm.cells rm.slots 2 :=
  ky_cwV 2 hts k_302 k_303 k_304 k_305 k_287 (by decide +kernel) hR
theorem cw_TE_59 {rm : Room} (hts : ∀ w ∈ wsG, w.before args s = true) (hR : rm.frames + 1 ≤ R.frames ∧ 8 + (2 + 11) + rm.locals ≤ R.locals) : CallW R s args R_TE R_TR 59 y_TR_start b_TR_start 2 none (.code y_TR_start b_TR_start 2 none :: wsG) rm rm.cells rm.slots 1 :=
  ky_cwV 1 hts k_222 k_306 k_224 k_225 k_12 (by decide +kernel) hR
theorem cw_TE_66 {rm : Room} (hts : ∀ w ∈ wsG, w.before args s = true) (hR : rm.frames + 1 ≤ R.frames ∧ 8 + (6 + 11) + rm.locals ≤ R.locals) : CallW R s args R_TE R_TR 66 y_TR_letter b_TR_letter 6 (some .int) (.code y_TR_letter b_TR_letter 6 (some .int) :: wsG) rm rm.cells rm.slots 2 :=
  ky_cwV 2 hts k_307 k_308 k_309 k_310 k_12 (by decide +kernel) hR
end Sites

abbrev b_GR_makeRows : ByteArray := prog_2_method_3_code
def y_GR_makeRows : MethodName := ⟨R_GR, "makeRows", "(I)V"⟩
abbrev b_GR_chooseSlots : ByteArray := prog_2_method_4_code
def y_GR_chooseSlots : MethodName := ⟨R_GR, "chooseSlots", "(I)V"⟩
abbrev b_GR_slotOf : ByteArray := prog_2_method_8_code
def y_GR_slotOf : MethodName := ⟨R_GR, "slotOf", "(J)I"⟩
abbrev b_GR_numberByKeys : ByteArray := prog_2_method_7_code
def y_GR_numberByKeys : MethodName := ⟨R_GR, "numberByKeys", "(I)V"⟩
abbrev b_GR_nextKey : ByteArray := prog_2_method_6_code
def y_GR_nextKey : MethodName := ⟨R_GR, "nextKey", "(LSmallExhaust$Machine;LSmallExhaust$Walk;I)J"⟩
abbrev b_GR_outputKey : ByteArray := prog_2_method_5_code
def y_GR_outputKey : MethodName := ⟨R_GR, "outputKey", "(LSmallExhaust$Machine;I)J"⟩
abbrev b_GR_run : ByteArray := prog_2_method_2_code
def y_GR_run : MethodName := ⟨R_GR, "run", "(LSmallExhaust$Machine;LSmallExhaust$Walk;)V"⟩
theorem k_230 : Cond.arrayClass .long ∈ wsG := by decide +kernel
theorem k_231 : Cond.constantLong R_GR 85 (-7046029254386353131) ∈ wsG := by decide +kernel
theorem k_232 : Cond.constantLong R_GR 79 4096 ∈ wsG := by decide +kernel
theorem k_233 : Cond.constantLong R_GR 67 16 ∈ wsG := by decide +kernel
theorem k_234 : Cond.fieldLink R_GR 9 R_GR "groupOf" "[I" ∈ wsG := by decide +kernel
theorem k_235 : Cond.fieldLink R_GR 15 R_GR "lowest" "[I" ∈ wsG := by decide +kernel
theorem k_236 : Cond.fieldLink R_GR 26 R_GR "keys" "[J" ∈ wsG := by decide +kernel
theorem k_237 : Cond.fieldLink R_GR 30 R_GR "slots" "[I" ∈ wsG := by decide +kernel
theorem k_238 : Cond.fieldLink R_GR 33 R_GR "lastSlot" "I" ∈ wsG := by decide +kernel
theorem k_239 : Cond.fieldLink R_GR 18 R_GR "groups" "I" ∈ wsG := by decide +kernel
theorem k_240 : Cond.fieldLink R_GR 62 R_MA "inputs" "I" ∈ wsG := by decide +kernel
theorem k_241 : Cond.fieldLink R_GR 73 R_WA "numberOf" "[I" ∈ wsG := by decide +kernel
theorem k_242 : Cond.fieldLink R_GR 36 R_WA "order" "[I" ∈ wsG := by decide +kernel
theorem k_243 : Cond.fieldLink R_GR 22 R_GR "stands" "Z" ∈ wsG := by decide +kernel
theorem k_244 : Cond.fieldLink R_GR 45 R_WA "size" "I" ∈ wsG := by decide +kernel
theorem k_245 : Cond.code y_GR_slotOf b_GR_slotOf 5 (some .int) ∈ wsG := by decide +kernel
theorem k_246 : Cond.methodLink R_GR 81 y_GR_slotOf ∈ wsG := by decide +kernel
theorem k_247 : Cond.initialized R_GR ∈ wsG := by decide +kernel
theorem k_248 : Cond.instanceMethod y_GR_slotOf ∈ wsG := by decide +kernel
theorem k_249 : Cond.selects R_GR y_GR_slotOf y_GR_slotOf ∈ wsG := by decide +kernel
theorem k_250 : Cond.methodLink R_GR 76 y_MA_next ∈ wsG := by decide +kernel
theorem k_251 : Cond.code y_MA_given b_MA_given 3 (some .int) ∈ wsG := by decide +kernel
theorem k_252 : Cond.methodLink R_GR 69 y_MA_given ∈ wsG := by decide +kernel
theorem k_253 : Cond.instanceMethod y_MA_given ∈ wsG := by decide +kernel
theorem k_254 : Cond.selects R_MA y_MA_given y_MA_given ∈ wsG := by decide +kernel
theorem k_255 : Cond.code y_GR_makeRows b_GR_makeRows 2 none ∈ wsG := by decide +kernel
theorem k_256 : Cond.methodLink R_GR 41 y_GR_makeRows ∈ wsG := by decide +kernel
theorem k_257 : Cond.instanceMethod y_GR_makeRows ∈ wsG := by decide +kernel
theorem k_258 : Cond.selects R_GR y_GR_makeRows y_GR_makeRows ∈ wsG := by decide +kernel
theorem k_259 : Cond.code y_GR_chooseSlots b_GR_chooseSlots 4 none ∈ wsG := by decide +kernel
theorem k_260 : Cond.methodLink R_GR 48 y_GR_chooseSlots ∈ wsG := by decide +kernel
theorem k_261 : Cond.instanceMethod y_GR_chooseSlots ∈ wsG := by decide +kernel
theorem k_262 : Cond.selects R_GR y_GR_chooseSlots y_GR_chooseSlots ∈ wsG := by decide +kernel
theorem k_263 : Cond.code y_GR_numberByKeys b_GR_numberByKeys 4 none ∈ wsG := by decide +kernel
theorem k_264 : Cond.methodLink R_GR 55 y_GR_numberByKeys ∈ wsG := by decide +kernel
theorem k_265 : Cond.instanceMethod y_GR_numberByKeys ∈ wsG := by decide +kernel
theorem k_266 : Cond.selects R_GR y_GR_numberByKeys y_GR_numberByKeys ∈ wsG := by decide +kernel
theorem k_267 : Cond.code y_GR_nextKey b_GR_nextKey 8 (some .long) ∈ wsG := by decide +kernel
theorem k_268 : Cond.methodLink R_GR 58 y_GR_nextKey ∈ wsG := by decide +kernel
theorem k_269 : Cond.instanceMethod y_GR_nextKey ∈ wsG := by decide +kernel
theorem k_270 : Cond.selects R_GR y_GR_nextKey y_GR_nextKey ∈ wsG := by decide +kernel
theorem k_271 : Cond.code y_GR_outputKey b_GR_outputKey 5 (some .long) ∈ wsG := by decide +kernel
theorem k_272 : Cond.methodLink R_GR 51 y_GR_outputKey ∈ wsG := by decide +kernel
theorem k_273 : Cond.static y_GR_outputKey ∈ wsG := by decide +kernel
theorem d_GR_makeRows_0 : decode b_GR_makeRows 0 = .ok (.aload_n 0, 1) := by decide +kernel
theorem d_GR_makeRows_1 : decode b_GR_makeRows 1 = .ok (.getfield 9, 3) := by decide +kernel
theorem d_GR_makeRows_4 : decode b_GR_makeRows 4 = .ok (.arraylength, 1) := by decide +kernel
theorem d_GR_makeRows_5 : decode b_GR_makeRows 5 = .ok (.iload_n 1, 1) := by decide +kernel
theorem d_GR_makeRows_6 : decode b_GR_makeRows 6 = .ok (.if_icmp .ge 33, 3) := by decide +kernel
theorem d_GR_makeRows_9 : decode b_GR_makeRows 9 = .ok (.aload_n 0, 1) := by decide +kernel
theorem d_GR_makeRows_10 : decode b_GR_makeRows 10 = .ok (.iload_n 1, 1) := by decide +kernel
theorem d_GR_makeRows_11 : decode b_GR_makeRows 11 = .ok (.newarray .int, 2) := by decide +kernel
theorem d_GR_makeRows_13 : decode b_GR_makeRows 13 = .ok (.putfield 9, 3) := by decide +kernel
theorem d_GR_makeRows_16 : decode b_GR_makeRows 16 = .ok (.aload_n 0, 1) := by decide +kernel
theorem d_GR_makeRows_17 : decode b_GR_makeRows 17 = .ok (.iload_n 1, 1) := by decide +kernel
theorem d_GR_makeRows_18 : decode b_GR_makeRows 18 = .ok (.newarray .int, 2) := by decide +kernel
theorem d_GR_makeRows_20 : decode b_GR_makeRows 20 = .ok (.putfield 15, 3) := by decide +kernel
theorem d_GR_makeRows_23 : decode b_GR_makeRows 23 = .ok (.aload_n 0, 1) := by decide +kernel
theorem d_GR_makeRows_24 : decode b_GR_makeRows 24 = .ok (.iload_n 1, 1) := by decide +kernel
theorem d_GR_makeRows_25 : decode b_GR_makeRows 25 = .ok (.newarray .long, 2) := by decide +kernel
theorem d_GR_makeRows_27 : decode b_GR_makeRows 27 = .ok (.putfield 26, 3) := by decide +kernel
theorem d_GR_makeRows_30 : decode b_GR_makeRows 30 = .ok (.aload_n 0, 1) := by decide +kernel
theorem d_GR_makeRows_31 : decode b_GR_makeRows 31 = .ok (.iconst 2, 1) := by decide +kernel
theorem d_GR_makeRows_32 : decode b_GR_makeRows 32 = .ok (.iload_n 1, 1) := by decide +kernel
theorem d_GR_makeRows_33 : decode b_GR_makeRows 33 = .ok (.imul, 1) := by decide +kernel
theorem d_GR_makeRows_34 : decode b_GR_makeRows 34 = .ok (.newarray .int, 2) := by decide +kernel
theorem d_GR_makeRows_36 : decode b_GR_makeRows 36 = .ok (.putfield 30, 3) := by decide +kernel
theorem d_GR_makeRows_39 : decode b_GR_makeRows 39 = .ok (.return_, 1) := by decide +kernel
theorem d_GR_chooseSlots_0 : decode b_GR_chooseSlots 0 = .ok (.iconst 2, 1) := by decide +kernel
theorem d_GR_chooseSlots_1 : decode b_GR_chooseSlots 1 = .ok (.istore_n 2, 1) := by decide +kernel
theorem d_GR_chooseSlots_2 : decode b_GR_chooseSlots 2 = .ok (.iconst 0, 1) := by decide +kernel
theorem d_GR_chooseSlots_3 : decode b_GR_chooseSlots 3 = .ok (.istore_n 3, 1) := by decide +kernel
theorem d_GR_chooseSlots_4 : decode b_GR_chooseSlots 4 = .ok (.iload_n 3, 1) := by decide +kernel
theorem d_GR_chooseSlots_5 : decode b_GR_chooseSlots 5 = .ok (.bipush 12, 2) := by decide +kernel
theorem d_GR_chooseSlots_7 : decode b_GR_chooseSlots 7 = .ok (.if_icmp .ge 20, 3) := by decide +kernel
theorem d_GR_chooseSlots_10 : decode b_GR_chooseSlots 10 = .ok (.iload_n 2, 1) := by decide +kernel
theorem d_GR_chooseSlots_11 : decode b_GR_chooseSlots 11 = .ok (.iconst 2, 1) := by decide +kernel
theorem d_GR_chooseSlots_12 : decode b_GR_chooseSlots 12 = .ok (.iload_n 1, 1) := by decide +kernel
theorem d_GR_chooseSlots_13 : decode b_GR_chooseSlots 13 = .ok (.imul, 1) := by decide +kernel
theorem d_GR_chooseSlots_14 : decode b_GR_chooseSlots 14 = .ok (.if_icmp .ge 13, 3) := by decide +kernel
theorem d_GR_chooseSlots_17 : decode b_GR_chooseSlots 17 = .ok (.iconst 2, 1) := by decide +kernel
theorem d_GR_chooseSlots_18 : decode b_GR_chooseSlots 18 = .ok (.iload_n 2, 1) := by decide +kernel
theorem d_GR_chooseSlots_19 : decode b_GR_chooseSlots 19 = .ok (.imul, 1) := by decide +kernel
theorem d_GR_chooseSlots_20 : decode b_GR_chooseSlots 20 = .ok (.istore_n 2, 1) := by decide +kernel
theorem d_GR_chooseSlots_21 : decode b_GR_chooseSlots 21 = .ok (.iinc 3 1, 3) := by decide +kernel
theorem d_GR_chooseSlots_24 : decode b_GR_chooseSlots 24 = .ok (.goto (-20), 3) := by decide +kernel
theorem d_GR_chooseSlots_27 : decode b_GR_chooseSlots 27 = .ok (.aload_n 0, 1) := by decide +kernel
theorem d_GR_chooseSlots_28 : decode b_GR_chooseSlots 28 = .ok (.iload_n 2, 1) := by decide +kernel
theorem d_GR_chooseSlots_29 : decode b_GR_chooseSlots 29 = .ok (.iconst 1, 1) := by decide +kernel
theorem d_GR_chooseSlots_30 : decode b_GR_chooseSlots 30 = .ok (.isub, 1) := by decide +kernel
theorem d_GR_chooseSlots_31 : decode b_GR_chooseSlots 31 = .ok (.putfield 33, 3) := by decide +kernel
theorem d_GR_chooseSlots_34 : decode b_GR_chooseSlots 34 = .ok (.return_, 1) := by decide +kernel
theorem d_GR_slotOf_0 : decode b_GR_slotOf 0 = .ok (.lload_n 1, 1) := by decide +kernel
theorem d_GR_slotOf_1 : decode b_GR_slotOf 1 = .ok (.ldc2_w 85, 3) := by decide +kernel
theorem d_GR_slotOf_4 : decode b_GR_slotOf 4 = .ok (.lmul, 1) := by decide +kernel
theorem d_GR_slotOf_5 : decode b_GR_slotOf 5 = .ok (.bipush 40, 2) := by decide +kernel
theorem d_GR_slotOf_7 : decode b_GR_slotOf 7 = .ok (.lushr, 1) := by decide +kernel
theorem d_GR_slotOf_8 : decode b_GR_slotOf 8 = .ok (.l2i, 1) := by decide +kernel
theorem d_GR_slotOf_9 : decode b_GR_slotOf 9 = .ok (.aload_n 0, 1) := by decide +kernel
theorem d_GR_slotOf_10 : decode b_GR_slotOf 10 = .ok (.getfield 33, 3) := by decide +kernel
theorem d_GR_slotOf_13 : decode b_GR_slotOf 13 = .ok (.iand, 1) := by decide +kernel
theorem d_GR_slotOf_14 : decode b_GR_slotOf 14 = .ok (.istore_n 3, 1) := by decide +kernel
theorem d_GR_slotOf_15 : decode b_GR_slotOf 15 = .ok (.iconst 0, 1) := by decide +kernel
theorem d_GR_slotOf_16 : decode b_GR_slotOf 16 = .ok (.istore 4, 2) := by decide +kernel
theorem d_GR_slotOf_18 : decode b_GR_slotOf 18 = .ok (.iload 4, 2) := by decide +kernel
theorem d_GR_slotOf_20 : decode b_GR_slotOf 20 = .ok (.aload_n 0, 1) := by decide +kernel
theorem d_GR_slotOf_21 : decode b_GR_slotOf 21 = .ok (.getfield 33, 3) := by decide +kernel
theorem d_GR_slotOf_24 : decode b_GR_slotOf 24 = .ok (.if_icmp .ge 51, 3) := by decide +kernel
theorem d_GR_slotOf_27 : decode b_GR_slotOf 27 = .ok (.aload_n 0, 1) := by decide +kernel
theorem d_GR_slotOf_28 : decode b_GR_slotOf 28 = .ok (.getfield 30, 3) := by decide +kernel
theorem d_GR_slotOf_31 : decode b_GR_slotOf 31 = .ok (.iload_n 3, 1) := by decide +kernel
theorem d_GR_slotOf_32 : decode b_GR_slotOf 32 = .ok (.iaload, 1) := by decide +kernel
theorem d_GR_slotOf_33 : decode b_GR_slotOf 33 = .ok (.iconst (-1), 1) := by decide +kernel
theorem d_GR_slotOf_34 : decode b_GR_slotOf 34 = .ok (.if_icmp .eq 41, 3) := by decide +kernel
theorem d_GR_slotOf_37 : decode b_GR_slotOf 37 = .ok (.aload_n 0, 1) := by decide +kernel
theorem d_GR_slotOf_38 : decode b_GR_slotOf 38 = .ok (.getfield 26, 3) := by decide +kernel
theorem d_GR_slotOf_41 : decode b_GR_slotOf 41 = .ok (.aload_n 0, 1) := by decide +kernel
theorem d_GR_slotOf_42 : decode b_GR_slotOf 42 = .ok (.getfield 15, 3) := by decide +kernel
theorem d_GR_slotOf_45 : decode b_GR_slotOf 45 = .ok (.aload_n 0, 1) := by decide +kernel
theorem d_GR_slotOf_46 : decode b_GR_slotOf 46 = .ok (.getfield 30, 3) := by decide +kernel
theorem d_GR_slotOf_49 : decode b_GR_slotOf 49 = .ok (.iload_n 3, 1) := by decide +kernel
theorem d_GR_slotOf_50 : decode b_GR_slotOf 50 = .ok (.iaload, 1) := by decide +kernel
theorem d_GR_slotOf_51 : decode b_GR_slotOf 51 = .ok (.iaload, 1) := by decide +kernel
theorem d_GR_slotOf_52 : decode b_GR_slotOf 52 = .ok (.laload, 1) := by decide +kernel
theorem d_GR_slotOf_53 : decode b_GR_slotOf 53 = .ok (.lload_n 1, 1) := by decide +kernel
theorem d_GR_slotOf_54 : decode b_GR_slotOf 54 = .ok (.lcmp, 1) := by decide +kernel
theorem d_GR_slotOf_55 : decode b_GR_slotOf 55 = .ok (.ifCond .ne 5, 3) := by decide +kernel
theorem d_GR_slotOf_58 : decode b_GR_slotOf 58 = .ok (.iload_n 3, 1) := by decide +kernel
theorem d_GR_slotOf_59 : decode b_GR_slotOf 59 = .ok (.ireturn, 1) := by decide +kernel
theorem d_GR_slotOf_60 : decode b_GR_slotOf 60 = .ok (.iload_n 3, 1) := by decide +kernel
theorem d_GR_slotOf_61 : decode b_GR_slotOf 61 = .ok (.iconst 1, 1) := by decide +kernel
theorem d_GR_slotOf_62 : decode b_GR_slotOf 62 = .ok (.iadd, 1) := by decide +kernel
theorem d_GR_slotOf_63 : decode b_GR_slotOf 63 = .ok (.aload_n 0, 1) := by decide +kernel
theorem d_GR_slotOf_64 : decode b_GR_slotOf 64 = .ok (.getfield 33, 3) := by decide +kernel
theorem d_GR_slotOf_67 : decode b_GR_slotOf 67 = .ok (.iand, 1) := by decide +kernel
theorem d_GR_slotOf_68 : decode b_GR_slotOf 68 = .ok (.istore_n 3, 1) := by decide +kernel
theorem d_GR_slotOf_69 : decode b_GR_slotOf 69 = .ok (.iinc 4 1, 3) := by decide +kernel
theorem d_GR_slotOf_72 : decode b_GR_slotOf 72 = .ok (.goto (-54), 3) := by decide +kernel
theorem d_GR_slotOf_75 : decode b_GR_slotOf 75 = .ok (.iload_n 3, 1) := by decide +kernel
theorem d_GR_slotOf_76 : decode b_GR_slotOf 76 = .ok (.ireturn, 1) := by decide +kernel
theorem d_GR_numberByKeys_0 : decode b_GR_numberByKeys 0 = .ok (.iconst 0, 1) := by decide +kernel
theorem d_GR_numberByKeys_1 : decode b_GR_numberByKeys 1 = .ok (.istore_n 2, 1) := by decide +kernel
theorem d_GR_numberByKeys_2 : decode b_GR_numberByKeys 2 = .ok (.iload_n 2, 1) := by decide +kernel
theorem d_GR_numberByKeys_3 : decode b_GR_numberByKeys 3 = .ok (.aload_n 0, 1) := by decide +kernel
theorem d_GR_numberByKeys_4 : decode b_GR_numberByKeys 4 = .ok (.getfield 33, 3) := by decide +kernel
theorem d_GR_numberByKeys_7 : decode b_GR_numberByKeys 7 = .ok (.if_icmp .gt 16, 3) := by decide +kernel
theorem d_GR_numberByKeys_10 : decode b_GR_numberByKeys 10 = .ok (.aload_n 0, 1) := by decide +kernel
theorem d_GR_numberByKeys_11 : decode b_GR_numberByKeys 11 = .ok (.getfield 30, 3) := by decide +kernel
theorem d_GR_numberByKeys_14 : decode b_GR_numberByKeys 14 = .ok (.iload_n 2, 1) := by decide +kernel
theorem d_GR_numberByKeys_15 : decode b_GR_numberByKeys 15 = .ok (.iconst (-1), 1) := by decide +kernel
theorem d_GR_numberByKeys_16 : decode b_GR_numberByKeys 16 = .ok (.iastore, 1) := by decide +kernel
theorem d_GR_numberByKeys_17 : decode b_GR_numberByKeys 17 = .ok (.iinc 2 1, 3) := by decide +kernel
theorem d_GR_numberByKeys_20 : decode b_GR_numberByKeys 20 = .ok (.goto (-18), 3) := by decide +kernel
theorem d_GR_numberByKeys_23 : decode b_GR_numberByKeys 23 = .ok (.aload_n 0, 1) := by decide +kernel
theorem d_GR_numberByKeys_24 : decode b_GR_numberByKeys 24 = .ok (.iconst 0, 1) := by decide +kernel
theorem d_GR_numberByKeys_25 : decode b_GR_numberByKeys 25 = .ok (.putfield 18, 3) := by decide +kernel
theorem d_GR_numberByKeys_28 : decode b_GR_numberByKeys 28 = .ok (.iconst 0, 1) := by decide +kernel
theorem d_GR_numberByKeys_29 : decode b_GR_numberByKeys 29 = .ok (.istore_n 2, 1) := by decide +kernel
theorem d_GR_numberByKeys_30 : decode b_GR_numberByKeys 30 = .ok (.iload_n 2, 1) := by decide +kernel
theorem d_GR_numberByKeys_31 : decode b_GR_numberByKeys 31 = .ok (.iload_n 1, 1) := by decide +kernel
theorem d_GR_numberByKeys_32 : decode b_GR_numberByKeys 32 = .ok (.if_icmp .ge 72, 3) := by decide +kernel
theorem d_GR_numberByKeys_35 : decode b_GR_numberByKeys 35 = .ok (.aload_n 0, 1) := by decide +kernel
theorem d_GR_numberByKeys_36 : decode b_GR_numberByKeys 36 = .ok (.aload_n 0, 1) := by decide +kernel
theorem d_GR_numberByKeys_37 : decode b_GR_numberByKeys 37 = .ok (.getfield 26, 3) := by decide +kernel
theorem d_GR_numberByKeys_40 : decode b_GR_numberByKeys 40 = .ok (.iload_n 2, 1) := by decide +kernel
theorem d_GR_numberByKeys_41 : decode b_GR_numberByKeys 41 = .ok (.laload, 1) := by decide +kernel
theorem d_GR_numberByKeys_42 : decode b_GR_numberByKeys 42 = .ok (.invokevirtual 81, 3) := by decide +kernel
theorem d_GR_numberByKeys_45 : decode b_GR_numberByKeys 45 = .ok (.istore_n 3, 1) := by decide +kernel
theorem d_GR_numberByKeys_46 : decode b_GR_numberByKeys 46 = .ok (.aload_n 0, 1) := by decide +kernel
theorem d_GR_numberByKeys_47 : decode b_GR_numberByKeys 47 = .ok (.getfield 30, 3) := by decide +kernel
theorem d_GR_numberByKeys_50 : decode b_GR_numberByKeys 50 = .ok (.iload_n 3, 1) := by decide +kernel
theorem d_GR_numberByKeys_51 : decode b_GR_numberByKeys 51 = .ok (.iaload, 1) := by decide +kernel
theorem d_GR_numberByKeys_52 : decode b_GR_numberByKeys 52 = .ok (.iconst (-1), 1) := by decide +kernel
theorem d_GR_numberByKeys_53 : decode b_GR_numberByKeys 53 = .ok (.if_icmp .ne 33, 3) := by decide +kernel
theorem d_GR_numberByKeys_56 : decode b_GR_numberByKeys 56 = .ok (.aload_n 0, 1) := by decide +kernel
theorem d_GR_numberByKeys_57 : decode b_GR_numberByKeys 57 = .ok (.getfield 30, 3) := by decide +kernel
theorem d_GR_numberByKeys_60 : decode b_GR_numberByKeys 60 = .ok (.iload_n 3, 1) := by decide +kernel
theorem d_GR_numberByKeys_61 : decode b_GR_numberByKeys 61 = .ok (.aload_n 0, 1) := by decide +kernel
theorem d_GR_numberByKeys_62 : decode b_GR_numberByKeys 62 = .ok (.getfield 18, 3) := by decide +kernel
theorem d_GR_numberByKeys_65 : decode b_GR_numberByKeys 65 = .ok (.iastore, 1) := by decide +kernel
theorem d_GR_numberByKeys_66 : decode b_GR_numberByKeys 66 = .ok (.aload_n 0, 1) := by decide +kernel
theorem d_GR_numberByKeys_67 : decode b_GR_numberByKeys 67 = .ok (.getfield 15, 3) := by decide +kernel
theorem d_GR_numberByKeys_70 : decode b_GR_numberByKeys 70 = .ok (.aload_n 0, 1) := by decide +kernel
theorem d_GR_numberByKeys_71 : decode b_GR_numberByKeys 71 = .ok (.getfield 18, 3) := by decide +kernel
theorem d_GR_numberByKeys_74 : decode b_GR_numberByKeys 74 = .ok (.iload_n 2, 1) := by decide +kernel
theorem d_GR_numberByKeys_75 : decode b_GR_numberByKeys 75 = .ok (.iastore, 1) := by decide +kernel
theorem d_GR_numberByKeys_76 : decode b_GR_numberByKeys 76 = .ok (.aload_n 0, 1) := by decide +kernel
theorem d_GR_numberByKeys_77 : decode b_GR_numberByKeys 77 = .ok (.dup, 1) := by decide +kernel
theorem d_GR_numberByKeys_78 : decode b_GR_numberByKeys 78 = .ok (.getfield 18, 3) := by decide +kernel
theorem d_GR_numberByKeys_81 : decode b_GR_numberByKeys 81 = .ok (.iconst 1, 1) := by decide +kernel
theorem d_GR_numberByKeys_82 : decode b_GR_numberByKeys 82 = .ok (.iadd, 1) := by decide +kernel
theorem d_GR_numberByKeys_83 : decode b_GR_numberByKeys 83 = .ok (.putfield 18, 3) := by decide +kernel
theorem d_GR_numberByKeys_86 : decode b_GR_numberByKeys 86 = .ok (.aload_n 0, 1) := by decide +kernel
theorem d_GR_numberByKeys_87 : decode b_GR_numberByKeys 87 = .ok (.getfield 9, 3) := by decide +kernel
theorem d_GR_numberByKeys_90 : decode b_GR_numberByKeys 90 = .ok (.iload_n 2, 1) := by decide +kernel
theorem d_GR_numberByKeys_91 : decode b_GR_numberByKeys 91 = .ok (.aload_n 0, 1) := by decide +kernel
theorem d_GR_numberByKeys_92 : decode b_GR_numberByKeys 92 = .ok (.getfield 30, 3) := by decide +kernel
theorem d_GR_numberByKeys_95 : decode b_GR_numberByKeys 95 = .ok (.iload_n 3, 1) := by decide +kernel
theorem d_GR_numberByKeys_96 : decode b_GR_numberByKeys 96 = .ok (.iaload, 1) := by decide +kernel
theorem d_GR_numberByKeys_97 : decode b_GR_numberByKeys 97 = .ok (.iastore, 1) := by decide +kernel
theorem d_GR_numberByKeys_98 : decode b_GR_numberByKeys 98 = .ok (.iinc 2 1, 3) := by decide +kernel
theorem d_GR_numberByKeys_101 : decode b_GR_numberByKeys 101 = .ok (.goto (-71), 3) := by decide +kernel
theorem d_GR_numberByKeys_104 : decode b_GR_numberByKeys 104 = .ok (.return_, 1) := by decide +kernel
theorem d_GR_nextKey_0 : decode b_GR_nextKey 0 = .ok (.aload_n 0, 1) := by decide +kernel
theorem d_GR_nextKey_1 : decode b_GR_nextKey 1 = .ok (.getfield 9, 3) := by decide +kernel
theorem d_GR_nextKey_4 : decode b_GR_nextKey 4 = .ok (.iload_n 3, 1) := by decide +kernel
theorem d_GR_nextKey_5 : decode b_GR_nextKey 5 = .ok (.iaload, 1) := by decide +kernel
theorem d_GR_nextKey_6 : decode b_GR_nextKey 6 = .ok (.i2l, 1) := by decide +kernel
theorem d_GR_nextKey_7 : decode b_GR_nextKey 7 = .ok (.lstore 4, 2) := by decide +kernel
theorem d_GR_nextKey_9 : decode b_GR_nextKey 9 = .ok (.iconst 0, 1) := by decide +kernel
theorem d_GR_nextKey_10 : decode b_GR_nextKey 10 = .ok (.istore 6, 2) := by decide +kernel
theorem d_GR_nextKey_12 : decode b_GR_nextKey 12 = .ok (.iload 6, 2) := by decide +kernel
theorem d_GR_nextKey_14 : decode b_GR_nextKey 14 = .ok (.aload_n 1, 1) := by decide +kernel
theorem d_GR_nextKey_15 : decode b_GR_nextKey 15 = .ok (.getfield 62, 3) := by decide +kernel
theorem d_GR_nextKey_18 : decode b_GR_nextKey 18 = .ok (.if_icmp .ge 45, 3) := by decide +kernel
theorem d_GR_nextKey_21 : decode b_GR_nextKey 21 = .ok (.aload_n 2, 1) := by decide +kernel
theorem d_GR_nextKey_22 : decode b_GR_nextKey 22 = .ok (.getfield 73, 3) := by decide +kernel
theorem d_GR_nextKey_25 : decode b_GR_nextKey 25 = .ok (.aload_n 1, 1) := by decide +kernel
theorem d_GR_nextKey_26 : decode b_GR_nextKey 26 = .ok (.aload_n 2, 1) := by decide +kernel
theorem d_GR_nextKey_27 : decode b_GR_nextKey 27 = .ok (.getfield 36, 3) := by decide +kernel
theorem d_GR_nextKey_30 : decode b_GR_nextKey 30 = .ok (.iload_n 3, 1) := by decide +kernel
theorem d_GR_nextKey_31 : decode b_GR_nextKey 31 = .ok (.iaload, 1) := by decide +kernel
theorem d_GR_nextKey_32 : decode b_GR_nextKey 32 = .ok (.iload 6, 2) := by decide +kernel
theorem d_GR_nextKey_34 : decode b_GR_nextKey 34 = .ok (.invokevirtual 76, 3) := by decide +kernel
theorem d_GR_nextKey_37 : decode b_GR_nextKey 37 = .ok (.iaload, 1) := by decide +kernel
theorem d_GR_nextKey_38 : decode b_GR_nextKey 38 = .ok (.istore 7, 2) := by decide +kernel
theorem d_GR_nextKey_40 : decode b_GR_nextKey 40 = .ok (.lload 4, 2) := by decide +kernel
theorem d_GR_nextKey_42 : decode b_GR_nextKey 42 = .ok (.ldc2_w 79, 3) := by decide +kernel
theorem d_GR_nextKey_45 : decode b_GR_nextKey 45 = .ok (.lmul, 1) := by decide +kernel
theorem d_GR_nextKey_46 : decode b_GR_nextKey 46 = .ok (.aload_n 0, 1) := by decide +kernel
theorem d_GR_nextKey_47 : decode b_GR_nextKey 47 = .ok (.getfield 9, 3) := by decide +kernel
theorem d_GR_nextKey_50 : decode b_GR_nextKey 50 = .ok (.iload 7, 2) := by decide +kernel
theorem d_GR_nextKey_52 : decode b_GR_nextKey 52 = .ok (.iaload, 1) := by decide +kernel
theorem d_GR_nextKey_53 : decode b_GR_nextKey 53 = .ok (.i2l, 1) := by decide +kernel
theorem d_GR_nextKey_54 : decode b_GR_nextKey 54 = .ok (.ladd, 1) := by decide +kernel
theorem d_GR_nextKey_55 : decode b_GR_nextKey 55 = .ok (.lstore 4, 2) := by decide +kernel
theorem d_GR_nextKey_57 : decode b_GR_nextKey 57 = .ok (.iinc 6 1, 3) := by decide +kernel
theorem d_GR_nextKey_60 : decode b_GR_nextKey 60 = .ok (.goto (-48), 3) := by decide +kernel
theorem d_GR_nextKey_63 : decode b_GR_nextKey 63 = .ok (.lload 4, 2) := by decide +kernel
theorem d_GR_nextKey_65 : decode b_GR_nextKey 65 = .ok (.lreturn, 1) := by decide +kernel
theorem d_GR_outputKey_0 : decode b_GR_outputKey 0 = .ok (.lconst 0, 1) := by decide +kernel
theorem d_GR_outputKey_1 : decode b_GR_outputKey 1 = .ok (.lstore_n 2, 1) := by decide +kernel
theorem d_GR_outputKey_2 : decode b_GR_outputKey 2 = .ok (.iconst 0, 1) := by decide +kernel
theorem d_GR_outputKey_3 : decode b_GR_outputKey 3 = .ok (.istore 4, 2) := by decide +kernel
theorem d_GR_outputKey_5 : decode b_GR_outputKey 5 = .ok (.iload 4, 2) := by decide +kernel
theorem d_GR_outputKey_7 : decode b_GR_outputKey 7 = .ok (.aload_n 0, 1) := by decide +kernel
theorem d_GR_outputKey_8 : decode b_GR_outputKey 8 = .ok (.getfield 62, 3) := by decide +kernel
theorem d_GR_outputKey_11 : decode b_GR_outputKey 11 = .ok (.if_icmp .ge 24, 3) := by decide +kernel
theorem d_GR_outputKey_14 : decode b_GR_outputKey 14 = .ok (.lload_n 2, 1) := by decide +kernel
theorem d_GR_outputKey_15 : decode b_GR_outputKey 15 = .ok (.ldc2_w 67, 3) := by decide +kernel
theorem d_GR_outputKey_18 : decode b_GR_outputKey 18 = .ok (.lmul, 1) := by decide +kernel
theorem d_GR_outputKey_19 : decode b_GR_outputKey 19 = .ok (.aload_n 0, 1) := by decide +kernel
theorem d_GR_outputKey_20 : decode b_GR_outputKey 20 = .ok (.iload_n 1, 1) := by decide +kernel
theorem d_GR_outputKey_21 : decode b_GR_outputKey 21 = .ok (.iload 4, 2) := by decide +kernel
theorem d_GR_outputKey_23 : decode b_GR_outputKey 23 = .ok (.invokevirtual 69, 3) := by decide +kernel
theorem d_GR_outputKey_26 : decode b_GR_outputKey 26 = .ok (.i2l, 1) := by decide +kernel
theorem d_GR_outputKey_27 : decode b_GR_outputKey 27 = .ok (.ladd, 1) := by decide +kernel
theorem d_GR_outputKey_28 : decode b_GR_outputKey 28 = .ok (.lstore_n 2, 1) := by decide +kernel
theorem d_GR_outputKey_29 : decode b_GR_outputKey 29 = .ok (.iinc 4 1, 3) := by decide +kernel
theorem d_GR_outputKey_32 : decode b_GR_outputKey 32 = .ok (.goto (-27), 3) := by decide +kernel
theorem d_GR_outputKey_35 : decode b_GR_outputKey 35 = .ok (.lload_n 2, 1) := by decide +kernel
theorem d_GR_outputKey_36 : decode b_GR_outputKey 36 = .ok (.lreturn, 1) := by decide +kernel
theorem d_GR_run_0 : decode b_GR_run 0 = .ok (.aload_n 0, 1) := by decide +kernel
theorem d_GR_run_1 : decode b_GR_run 1 = .ok (.getfield 22, 3) := by decide +kernel
theorem d_GR_run_4 : decode b_GR_run 4 = .ok (.ifCond .eq 4, 3) := by decide +kernel
theorem d_GR_run_7 : decode b_GR_run 7 = .ok (.return_, 1) := by decide +kernel
theorem d_GR_run_8 : decode b_GR_run 8 = .ok (.aload_n 0, 1) := by decide +kernel
theorem d_GR_run_9 : decode b_GR_run 9 = .ok (.iconst 1, 1) := by decide +kernel
theorem d_GR_run_10 : decode b_GR_run 10 = .ok (.putfield 22, 3) := by decide +kernel
theorem d_GR_run_13 : decode b_GR_run 13 = .ok (.aload_n 0, 1) := by decide +kernel
theorem d_GR_run_14 : decode b_GR_run 14 = .ok (.aload_n 2, 1) := by decide +kernel
theorem d_GR_run_15 : decode b_GR_run 15 = .ok (.getfield 36, 3) := by decide +kernel
theorem d_GR_run_18 : decode b_GR_run 18 = .ok (.arraylength, 1) := by decide +kernel
theorem d_GR_run_19 : decode b_GR_run 19 = .ok (.invokevirtual 41, 3) := by decide +kernel
theorem d_GR_run_22 : decode b_GR_run 22 = .ok (.aload_n 0, 1) := by decide +kernel
theorem d_GR_run_23 : decode b_GR_run 23 = .ok (.aload_n 2, 1) := by decide +kernel
theorem d_GR_run_24 : decode b_GR_run 24 = .ok (.getfield 45, 3) := by decide +kernel
theorem d_GR_run_27 : decode b_GR_run 27 = .ok (.invokevirtual 48, 3) := by decide +kernel
theorem d_GR_run_30 : decode b_GR_run 30 = .ok (.iconst 0, 1) := by decide +kernel
theorem d_GR_run_31 : decode b_GR_run 31 = .ok (.istore_n 3, 1) := by decide +kernel
theorem d_GR_run_32 : decode b_GR_run 32 = .ok (.iload_n 3, 1) := by decide +kernel
theorem d_GR_run_33 : decode b_GR_run 33 = .ok (.aload_n 2, 1) := by decide +kernel
theorem d_GR_run_34 : decode b_GR_run 34 = .ok (.getfield 45, 3) := by decide +kernel
theorem d_GR_run_37 : decode b_GR_run 37 = .ok (.if_icmp .ge 25, 3) := by decide +kernel
theorem d_GR_run_40 : decode b_GR_run 40 = .ok (.aload_n 0, 1) := by decide +kernel
theorem d_GR_run_41 : decode b_GR_run 41 = .ok (.getfield 26, 3) := by decide +kernel
theorem d_GR_run_44 : decode b_GR_run 44 = .ok (.iload_n 3, 1) := by decide +kernel
theorem d_GR_run_45 : decode b_GR_run 45 = .ok (.aload_n 1, 1) := by decide +kernel
theorem d_GR_run_46 : decode b_GR_run 46 = .ok (.aload_n 2, 1) := by decide +kernel
theorem d_GR_run_47 : decode b_GR_run 47 = .ok (.getfield 36, 3) := by decide +kernel
theorem d_GR_run_50 : decode b_GR_run 50 = .ok (.iload_n 3, 1) := by decide +kernel
theorem d_GR_run_51 : decode b_GR_run 51 = .ok (.iaload, 1) := by decide +kernel
theorem d_GR_run_52 : decode b_GR_run 52 = .ok (.invokestatic 51, 3) := by decide +kernel
theorem d_GR_run_55 : decode b_GR_run 55 = .ok (.lastore, 1) := by decide +kernel
theorem d_GR_run_56 : decode b_GR_run 56 = .ok (.iinc 3 1, 3) := by decide +kernel
theorem d_GR_run_59 : decode b_GR_run 59 = .ok (.goto (-27), 3) := by decide +kernel
theorem d_GR_run_62 : decode b_GR_run 62 = .ok (.iconst 0, 1) := by decide +kernel
theorem d_GR_run_63 : decode b_GR_run 63 = .ok (.istore_n 3, 1) := by decide +kernel
theorem d_GR_run_64 : decode b_GR_run 64 = .ok (.aload_n 0, 1) := by decide +kernel
theorem d_GR_run_65 : decode b_GR_run 65 = .ok (.aload_n 2, 1) := by decide +kernel
theorem d_GR_run_66 : decode b_GR_run 66 = .ok (.getfield 45, 3) := by decide +kernel
theorem d_GR_run_69 : decode b_GR_run 69 = .ok (.invokevirtual 55, 3) := by decide +kernel
theorem d_GR_run_72 : decode b_GR_run 72 = .ok (.iconst 0, 1) := by decide +kernel
theorem d_GR_run_73 : decode b_GR_run 73 = .ok (.istore 4, 2) := by decide +kernel
theorem d_GR_run_75 : decode b_GR_run 75 = .ok (.iload 4, 2) := by decide +kernel
theorem d_GR_run_77 : decode b_GR_run 77 = .ok (.aload_n 2, 1) := by decide +kernel
theorem d_GR_run_78 : decode b_GR_run 78 = .ok (.getfield 45, 3) := by decide +kernel
theorem d_GR_run_81 : decode b_GR_run 81 = .ok (.if_icmp .ge 63, 3) := by decide +kernel
theorem d_GR_run_84 : decode b_GR_run 84 = .ok (.aload_n 0, 1) := by decide +kernel
theorem d_GR_run_85 : decode b_GR_run 85 = .ok (.getfield 18, 3) := by decide +kernel
theorem d_GR_run_88 : decode b_GR_run 88 = .ok (.iload_n 3, 1) := by decide +kernel
theorem d_GR_run_89 : decode b_GR_run 89 = .ok (.if_icmp .le 55, 3) := by decide +kernel
theorem d_GR_run_92 : decode b_GR_run 92 = .ok (.aload_n 0, 1) := by decide +kernel
theorem d_GR_run_93 : decode b_GR_run 93 = .ok (.getfield 18, 3) := by decide +kernel
theorem d_GR_run_96 : decode b_GR_run 96 = .ok (.istore_n 3, 1) := by decide +kernel
theorem d_GR_run_97 : decode b_GR_run 97 = .ok (.iconst 0, 1) := by decide +kernel
theorem d_GR_run_98 : decode b_GR_run 98 = .ok (.istore 5, 2) := by decide +kernel
theorem d_GR_run_100 : decode b_GR_run 100 = .ok (.iload 5, 2) := by decide +kernel
theorem d_GR_run_102 : decode b_GR_run 102 = .ok (.aload_n 2, 1) := by decide +kernel
theorem d_GR_run_103 : decode b_GR_run 103 = .ok (.getfield 45, 3) := by decide +kernel
theorem d_GR_run_106 : decode b_GR_run 106 = .ok (.if_icmp .ge 24, 3) := by decide +kernel
theorem d_GR_run_109 : decode b_GR_run 109 = .ok (.aload_n 0, 1) := by decide +kernel
theorem d_GR_run_110 : decode b_GR_run 110 = .ok (.getfield 26, 3) := by decide +kernel
theorem d_GR_run_113 : decode b_GR_run 113 = .ok (.iload 5, 2) := by decide +kernel
theorem d_GR_run_115 : decode b_GR_run 115 = .ok (.aload_n 0, 1) := by decide +kernel
theorem d_GR_run_116 : decode b_GR_run 116 = .ok (.aload_n 1, 1) := by decide +kernel
theorem d_GR_run_117 : decode b_GR_run 117 = .ok (.aload_n 2, 1) := by decide +kernel
theorem d_GR_run_118 : decode b_GR_run 118 = .ok (.iload 5, 2) := by decide +kernel
theorem d_GR_run_120 : decode b_GR_run 120 = .ok (.invokevirtual 58, 3) := by decide +kernel
theorem d_GR_run_123 : decode b_GR_run 123 = .ok (.lastore, 1) := by decide +kernel
theorem d_GR_run_124 : decode b_GR_run 124 = .ok (.iinc 5 1, 3) := by decide +kernel
theorem d_GR_run_127 : decode b_GR_run 127 = .ok (.goto (-27), 3) := by decide +kernel
theorem d_GR_run_130 : decode b_GR_run 130 = .ok (.aload_n 0, 1) := by decide +kernel
theorem d_GR_run_131 : decode b_GR_run 131 = .ok (.aload_n 2, 1) := by decide +kernel
theorem d_GR_run_132 : decode b_GR_run 132 = .ok (.getfield 45, 3) := by decide +kernel
theorem d_GR_run_135 : decode b_GR_run 135 = .ok (.invokevirtual 55, 3) := by decide +kernel
theorem d_GR_run_138 : decode b_GR_run 138 = .ok (.iinc 4 1, 3) := by decide +kernel
theorem d_GR_run_141 : decode b_GR_run 141 = .ok (.goto (-66), 3) := by decide +kernel
theorem d_GR_run_144 : decode b_GR_run 144 = .ok (.return_, 1) := by decide +kernel
section Sites
variable {p : Program} {l : Launch} {e : Env} {R : Room} {s : State} {m : MethodId} {args : Array Value} {below : List Frame} {meth : Method} {c : Code} {H H0 : Heap} {locs : List Loc} {cells slots : Nat} {Q : State → Prop} {cc : ByteArray} {pc : Nat} {ls : Array Slot} {rest : List Value} {D : va_G} {A : Nat → Prop} {a : Nat} {TY : List (ClassId × FieldType)} {ws : va_W}
theorem gf_GR_9 (hx : p.tables.exec = Jvm.exec) (hb : c.code = cc) (hts : ∀ w ∈ wsG, w.before args s = true) (hown : s.vm.findClass R_GR = some m.cls) (hK : va_K D vwCl TY s) (hP : va_P D vwCl ws H) (q0 : Nat) {fs : List Value} (he : ws[q0]? = some (a, .inr (4, fs))) {v : Value} (hv : fs[0]? = some v) (hdg : decode cc pc = .ok (.getfield 9, 3)) (kk : W p l e R s m args below meth c H locs cells slots Q (F0 m (pc + 3) ls (v :: rest))) : W p l e R s m args below meth c H locs cells slots Q (F0 m pc ls (.ref a :: rest)) :=
  va_get (D := D) (ci := 4) (C := R_GR) (T := F_GR) (N := 7) hx hb hts i_GR hown hK hP q0 he rfl 0 (by decide) (hts _ k_234) (fun _ h9 => h9) hv hdg kk
theorem pf_GR_9 (hx : p.tables.exec = Jvm.exec) (hb : c.code = cc) (hts : ∀ w ∈ wsG, w.before args s = true) (hown : s.vm.findClass R_GR = some m.cls) (hK : va_K D vwCl TY s) (hP : va_P D vwCl ws H) (hD : va_D A ws) (hS : va_S A H0 H locs) (q0 : Nat) {fs : List Value} {v : Value} (he : ws[q0]? = some (a, .inr (4, fs))) (hn : narrow (.array (.int)) v = v) (hfit : fits (.array (.int)) v = true) (hl : 0 < fs.length) (hdg : decode cc pc = .ok (.putfield 9, 3)) (kk : ∀ (H1 : Heap) (locs1 : List Loc), va_P D vwCl (ws.set q0 (a, .inr (4, fs.set 0 v))) H1 → va_D A (ws.set q0 (a, .inr (4, fs.set 0 v))) → va_S A H0 H1 locs1 → W p l e R s m args below meth c H1 locs1 cells slots Q (F0 m (pc + 3) ls rest)) : W p l e R s m args below meth c H locs cells slots Q (F0 m pc ls (v :: .ref a :: rest)) :=
  va_put (D := D) (ci := 4) (v := v) (ty := .array (.int)) (C := R_GR) (T := F_GR) (N := 7) hx hb hts i_GR t_GR t_GR_ok n_GR hown hK hP hD hS q0 he rfl 0 (by decide) (hts _ k_234) (fun _ h9 => h9) rfl (by decide +kernel) hn hfit hl hdg kk
theorem pf_GR_15 (hx : p.tables.exec = Jvm.exec) (hb : c.code = cc) (hts : ∀ w ∈ wsG, w.before args s = true) (hown : s.vm.findClass R_GR = some m.cls) (hK : va_K D vwCl TY s) (hP : va_P D vwCl ws H) (hD : va_D A ws) (hS : va_S A H0 H locs) (q0 : Nat) {fs : List Value} {v : Value} (he : ws[q0]? = some (a, .inr (4, fs))) (hn : narrow (.array (.int)) v = v) (hfit : fits (.array (.int)) v = true) (hl : 1 < fs.length) (hdg : decode cc pc = .ok (.putfield 15, 3)) (kk : ∀ (H1 : Heap) (locs1 : List Loc), va_P D vwCl (ws.set q0 (a, .inr (4, fs.set 1 v))) H1 → va_D A (ws.set q0 (a, .inr (4, fs.set 1 v))) → va_S A H0 H1 locs1 → W p l e R s m args below meth c H1 locs1 cells slots Q (F0 m (pc + 3) ls rest)) : W p l e R s m args below meth c H locs cells slots Q (F0 m pc ls (v :: .ref a :: rest)) :=
  va_put (D := D) (ci := 4) (v := v) (ty := .array (.int)) (C := R_GR) (T := F_GR) (N := 7) hx hb hts i_GR t_GR t_GR_ok n_GR hown hK hP hD hS q0 he rfl 1 (by decide) (hts _ k_235) (fun _ h9 => h9) rfl (by decide +kernel) hn hfit hl hdg kk
theorem pf_GR_26 (hx : p.tables.exec = Jvm.exec) (hb : c.code = cc) (hts : ∀ w ∈ wsG, w.before args s = true) (hown : s.vm.findClass R_GR = some m.cls) (hK : va_K D vwCl TY s) (hP : va_P D vwCl ws H) (hD : va_D A ws) (hS : va_S A H0 H locs) (q0 : Nat) {fs : List Value} {v : Value} (he : ws[q0]? = some (a, .inr (4, fs))) (hn : narrow (.array (.long)) v = v) (hfit : fits (.array (.long)) v = true) (hl : 4 < fs.length) (hdg : decode cc pc = .ok (.putfield 26, 3)) (kk : ∀ (H1 : Heap) (locs1 : List Loc), va_P D vwCl (ws.set q0 (a, .inr (4, fs.set 4 v))) H1 → va_D A (ws.set q0 (a, .inr (4, fs.set 4 v))) → va_S A H0 H1 locs1 → W p l e R s m args below meth c H1 locs1 cells slots Q (F0 m (pc + 3) ls rest)) : W p l e R s m args below meth c H locs cells slots Q (F0 m pc ls (v :: .ref a :: rest)) :=
  va_put (D := D) (ci := 4) (v := v) (ty := .array (.long)) (C := R_GR) (T := F_GR) (N := 7) hx hb hts i_GR t_GR t_GR_ok n_GR hown hK hP hD hS q0 he rfl 4 (by decide) (hts _ k_236) (fun _ h9 => h9) rfl (by decide +kernel) hn hfit hl hdg kk
theorem pf_GR_30 (hx : p.tables.exec = Jvm.exec) (hb : c.code = cc) (hts : ∀ w ∈ wsG, w.before args s = true) (hown : s.vm.findClass R_GR = some m.cls) (hK : va_K D vwCl TY s) (hP : va_P D vwCl ws H) (hD : va_D A ws) (hS : va_S A H0 H locs) (q0 : Nat) {fs : List Value} {v : Value} (he : ws[q0]? = some (a, .inr (4, fs))) (hn : narrow (.array (.int)) v = v) (hfit : fits (.array (.int)) v = true) (hl : 5 < fs.length) (hdg : decode cc pc = .ok (.putfield 30, 3)) (kk : ∀ (H1 : Heap) (locs1 : List Loc), va_P D vwCl (ws.set q0 (a, .inr (4, fs.set 5 v))) H1 → va_D A (ws.set q0 (a, .inr (4, fs.set 5 v))) → va_S A H0 H1 locs1 → W p l e R s m args below meth c H1 locs1 cells slots Q (F0 m (pc + 3) ls rest)) : W p l e R s m args below meth c H locs cells slots Q (F0 m pc ls (v :: .ref a :: rest)) :=
  va_put (D := D) (ci := 4) (v := v) (ty := .array (.int)) (C := R_GR) (T := F_GR) (N := 7) hx hb hts i_GR t_GR t_GR_ok n_GR hown hK hP hD hS q0 he rfl 5 (by decide) (hts _ k_237) (fun _ h9 => h9) rfl (by decide +kernel) hn hfit hl hdg kk
theorem pf_GR_33 (hx : p.tables.exec = Jvm.exec) (hb : c.code = cc) (hts : ∀ w ∈ wsG, w.before args s = true) (hown : s.vm.findClass R_GR = some m.cls) (hK : va_K D vwCl TY s) (hP : va_P D vwCl ws H) (hD : va_D A ws) (hS : va_S A H0 H locs) (q0 : Nat) {fs : List Value} {v : Value} (he : ws[q0]? = some (a, .inr (4, fs))) (hn : narrow (.int) v = v) (hfit : fits (.int) v = true) (hl : 6 < fs.length) (hdg : decode cc pc = .ok (.putfield 33, 3)) (kk : ∀ (H1 : Heap) (locs1 : List Loc), va_P D vwCl (ws.set q0 (a, .inr (4, fs.set 6 v))) H1 → va_D A (ws.set q0 (a, .inr (4, fs.set 6 v))) → va_S A H0 H1 locs1 → W p l e R s m args below meth c H1 locs1 cells slots Q (F0 m (pc + 3) ls rest)) : W p l e R s m args below meth c H locs cells slots Q (F0 m pc ls (v :: .ref a :: rest)) :=
  va_put (D := D) (ci := 4) (v := v) (ty := .int) (C := R_GR) (T := F_GR) (N := 7) hx hb hts i_GR t_GR t_GR_ok n_GR hown hK hP hD hS q0 he rfl 6 (by decide) (hts _ k_238) (fun _ h9 => h9) rfl (by decide +kernel) hn hfit hl hdg kk
theorem gf_GR_33 (hx : p.tables.exec = Jvm.exec) (hb : c.code = cc) (hts : ∀ w ∈ wsG, w.before args s = true) (hown : s.vm.findClass R_GR = some m.cls) (hK : va_K D vwCl TY s) (hP : va_P D vwCl ws H) (q0 : Nat) {fs : List Value} (he : ws[q0]? = some (a, .inr (4, fs))) {v : Value} (hv : fs[6]? = some v) (hdg : decode cc pc = .ok (.getfield 33, 3)) (kk : W p l e R s m args below meth c H locs cells slots Q (F0 m (pc + 3) ls (v :: rest))) : W p l e R s m args below meth c H locs cells slots Q (F0 m pc ls (.ref a :: rest)) :=
  va_get (D := D) (ci := 4) (C := R_GR) (T := F_GR) (N := 7) hx hb hts i_GR hown hK hP q0 he rfl 6 (by decide) (hts _ k_238) (fun _ h9 => h9) hv hdg kk
theorem gf_GR_30 (hx : p.tables.exec = Jvm.exec) (hb : c.code = cc) (hts : ∀ w ∈ wsG, w.before args s = true) (hown : s.vm.findClass R_GR = some m.cls) (hK : va_K D vwCl TY s) (hP : va_P D vwCl ws H) (q0 : Nat) {fs : List Value} (he : ws[q0]? = some (a, .inr (4, fs))) {v : Value} (hv : fs[5]? = some v) (hdg : decode cc pc = .ok (.getfield 30, 3)) (kk : W p l e R s m args below meth c H locs cells slots Q (F0 m (pc + 3) ls (v :: rest))) : W p l e R s m args below meth c H locs cells slots Q (F0 m pc ls (.ref a :: rest)) :=
  va_get (D := D) (ci := 4) (C := R_GR) (T := F_GR) (N := 7) hx hb hts i_GR hown hK hP q0 he rfl 5 (by decide) (hts _ k_237) (fun _ h9 => h9) hv hdg kk
theorem gf_GR_26 (hx : p.tables.exec = Jvm.exec) (hb : c.code = cc) (hts : ∀ w ∈ wsG, w.before args s = true) (hown : s.vm.findClass R_GR = some m.cls) (hK : va_K D vwCl TY s) (hP : va_P D vwCl ws H) (q0 : Nat) {fs : List Value} (he : ws[q0]? = some (a, .inr (4, fs))) {v : Value} (hv : fs[4]? = some v) (hdg : decode cc pc = .ok (.getfield 26, 3)) (kk : W p l e R s m args below meth c H locs cells slots Q (F0 m (pc + 3) ls (v :: rest))) : W p l e R s m args below meth c H locs cells slots Q (F0 m pc ls (.ref a :: rest)) :=
  va_get (D := D) (ci := 4) (C := R_GR) (T := F_GR) (N := 7) hx hb hts i_GR hown hK hP q0 he rfl 4 (by decide) (hts _ k_236) (fun _ h9 => h9) hv hdg kk
theorem gf_GR_15 (hx : p.tables.exec = Jvm.exec) (hb : c.code = cc) (hts : ∀ w ∈ wsG, w.before args s = true) (hown : s.vm.findClass R_GR = some m.cls) (hK : va_K D vwCl TY s) (hP : va_P D vwCl ws H) (q0 : Nat) {fs : List Value} (he : ws[q0]? = some (a, .inr (4, fs))) {v : Value} (hv : fs[1]? = some v) (hdg : decode cc pc = .ok (.getfield 15, 3)) (kk : W p l e R s m args below meth c H locs cells slots Q (F0 m (pc + 3) ls (v :: rest))) : W p l e R s m args below meth c H locs cells slots Q (F0 m pc ls (.ref a :: rest)) :=
  va_get (D := D) (ci := 4) (C := R_GR) (T := F_GR) (N := 7) hx hb hts i_GR hown hK hP q0 he rfl 1 (by decide) (hts _ k_235) (fun _ h9 => h9) hv hdg kk
theorem pf_GR_18 (hx : p.tables.exec = Jvm.exec) (hb : c.code = cc) (hts : ∀ w ∈ wsG, w.before args s = true) (hown : s.vm.findClass R_GR = some m.cls) (hK : va_K D vwCl TY s) (hP : va_P D vwCl ws H) (hD : va_D A ws) (hS : va_S A H0 H locs) (q0 : Nat) {fs : List Value} {v : Value} (he : ws[q0]? = some (a, .inr (4, fs))) (hn : narrow (.int) v = v) (hfit : fits (.int) v = true) (hl : 2 < fs.length) (hdg : decode cc pc = .ok (.putfield 18, 3)) (kk : ∀ (H1 : Heap) (locs1 : List Loc), va_P D vwCl (ws.set q0 (a, .inr (4, fs.set 2 v))) H1 → va_D A (ws.set q0 (a, .inr (4, fs.set 2 v))) → va_S A H0 H1 locs1 → W p l e R s m args below meth c H1 locs1 cells slots Q (F0 m (pc + 3) ls rest)) : W p l e R s m args below meth c H locs cells slots Q (F0 m pc ls (v :: .ref a :: rest)) :=
  va_put (D := D) (ci := 4) (v := v) (ty := .int) (C := R_GR) (T := F_GR) (N := 7) hx hb hts i_GR t_GR t_GR_ok n_GR hown hK hP hD hS q0 he rfl 2 (by decide) (hts _ k_239) (fun _ h9 => h9) rfl (by decide +kernel) hn hfit hl hdg kk
theorem gf_GR_18 (hx : p.tables.exec = Jvm.exec) (hb : c.code = cc) (hts : ∀ w ∈ wsG, w.before args s = true) (hown : s.vm.findClass R_GR = some m.cls) (hK : va_K D vwCl TY s) (hP : va_P D vwCl ws H) (q0 : Nat) {fs : List Value} (he : ws[q0]? = some (a, .inr (4, fs))) {v : Value} (hv : fs[2]? = some v) (hdg : decode cc pc = .ok (.getfield 18, 3)) (kk : W p l e R s m args below meth c H locs cells slots Q (F0 m (pc + 3) ls (v :: rest))) : W p l e R s m args below meth c H locs cells slots Q (F0 m pc ls (.ref a :: rest)) :=
  va_get (D := D) (ci := 4) (C := R_GR) (T := F_GR) (N := 7) hx hb hts i_GR hown hK hP q0 he rfl 2 (by decide) (hts _ k_239) (fun _ h9 => h9) hv hdg kk
theorem gf_GR_62 (hx : p.tables.exec = Jvm.exec) (hb : c.code = cc) (hts : ∀ w ∈ wsG, w.before args s = true) (hown : s.vm.findClass R_GR = some m.cls) (hK : va_K D vwCl TY s) (hP : va_P D vwCl ws H) (q0 : Nat) {fs : List Value} (he : ws[q0]? = some (a, .inr (2, fs))) {v : Value} (hv : fs[5]? = some v) (hdg : decode cc pc = .ok (.getfield 62, 3)) (kk : W p l e R s m args below meth c H locs cells slots Q (F0 m (pc + 3) ls (v :: rest))) : W p l e R s m args below meth c H locs cells slots Q (F0 m pc ls (.ref a :: rest)) :=
  va_get (D := D) (ci := 2) (C := R_MA) (T := F_MA) (N := 7) hx hb hts i_MA hown hK hP q0 he rfl 5 (by decide) (hts _ k_240) (fun _ h9 => h9) hv hdg kk
theorem gf_GR_73 (hx : p.tables.exec = Jvm.exec) (hb : c.code = cc) (hts : ∀ w ∈ wsG, w.before args s = true) (hown : s.vm.findClass R_GR = some m.cls) (hK : va_K D vwCl TY s) (hP : va_P D vwCl ws H) (q0 : Nat) {fs : List Value} (he : ws[q0]? = some (a, .inr (3, fs))) {v : Value} (hv : fs[2]? = some v) (hdg : decode cc pc = .ok (.getfield 73, 3)) (kk : W p l e R s m args below meth c H locs cells slots Q (F0 m (pc + 3) ls (v :: rest))) : W p l e R s m args below meth c H locs cells slots Q (F0 m pc ls (.ref a :: rest)) :=
  va_get (D := D) (ci := 3) (C := R_WA) (T := F_WA) (N := 9) hx hb hts i_WA hown hK hP q0 he rfl 2 (by decide) (hts _ k_241) (fun _ h9 => h9) hv hdg kk
theorem gf_GR_36 (hx : p.tables.exec = Jvm.exec) (hb : c.code = cc) (hts : ∀ w ∈ wsG, w.before args s = true) (hown : s.vm.findClass R_GR = some m.cls) (hK : va_K D vwCl TY s) (hP : va_P D vwCl ws H) (q0 : Nat) {fs : List Value} (he : ws[q0]? = some (a, .inr (3, fs))) {v : Value} (hv : fs[1]? = some v) (hdg : decode cc pc = .ok (.getfield 36, 3)) (kk : W p l e R s m args below meth c H locs cells slots Q (F0 m (pc + 3) ls (v :: rest))) : W p l e R s m args below meth c H locs cells slots Q (F0 m pc ls (.ref a :: rest)) :=
  va_get (D := D) (ci := 3) (C := R_WA) (T := F_WA) (N := 9) hx hb hts i_WA hown hK hP q0 he rfl 1 (by decide) (hts _ k_242) (fun _ h9 => h9) hv hdg kk
theorem gf_GR_22 (hx : p.tables.exec = Jvm.exec) (hb : c.code = cc) (hts : ∀ w ∈ wsG, w.before args s = true) (hown : s.vm.findClass R_GR = some m.cls) (hK : va_K D vwCl TY s) (hP : va_P D vwCl ws H) (q0 : Nat) {fs : List Value} (he : ws[q0]? = some (a, .inr (4, fs))) {v : Value} (hv : fs[3]? = some v) (hdg : decode cc pc = .ok (.getfield 22, 3)) (kk : W p l e R s m args below meth c H locs cells slots Q (F0 m (pc + 3) ls (v :: rest))) : W p l e R s m args below meth c H locs cells slots Q (F0 m pc ls (.ref a :: rest)) :=
  va_get (D := D) (ci := 4) (C := R_GR) (T := F_GR) (N := 7) hx hb hts i_GR hown hK hP q0 he rfl 3 (by decide) (hts _ k_243) (fun _ h9 => h9) hv hdg kk
theorem pf_GR_22 (hx : p.tables.exec = Jvm.exec) (hb : c.code = cc) (hts : ∀ w ∈ wsG, w.before args s = true) (hown : s.vm.findClass R_GR = some m.cls) (hK : va_K D vwCl TY s) (hP : va_P D vwCl ws H) (hD : va_D A ws) (hS : va_S A H0 H locs) (q0 : Nat) {fs : List Value} {v : Value} (he : ws[q0]? = some (a, .inr (4, fs))) (hn : narrow (.boolean) v = v) (hfit : fits (.boolean) v = true) (hl : 3 < fs.length) (hdg : decode cc pc = .ok (.putfield 22, 3)) (kk : ∀ (H1 : Heap) (locs1 : List Loc), va_P D vwCl (ws.set q0 (a, .inr (4, fs.set 3 v))) H1 → va_D A (ws.set q0 (a, .inr (4, fs.set 3 v))) → va_S A H0 H1 locs1 → W p l e R s m args below meth c H1 locs1 cells slots Q (F0 m (pc + 3) ls rest)) : W p l e R s m args below meth c H locs cells slots Q (F0 m pc ls (v :: .ref a :: rest)) :=
  va_put (D := D) (ci := 4) (v := v) (ty := .boolean) (C := R_GR) (T := F_GR) (N := 7) hx hb hts i_GR t_GR t_GR_ok n_GR hown hK hP hD hS q0 he rfl 3 (by decide) (hts _ k_243) (fun _ h9 => h9) rfl (by decide +kernel) hn hfit hl hdg kk
theorem gf_GR_45 (hx : p.tables.exec = Jvm.exec) (hb : c.code = cc) (hts : ∀ w ∈ wsG, w.before args s = true) (hown : s.vm.findClass R_GR = some m.cls) (hK : va_K D vwCl TY s) (hP : va_P D vwCl ws H) (q0 : Nat) {fs : List Value} (he : ws[q0]? = some (a, .inr (3, fs))) {v : Value} (hv : fs[3]? = some v) (hdg : decode cc pc = .ok (.getfield 45, 3)) (kk : W p l e R s m args below meth c H locs cells slots Q (F0 m (pc + 3) ls (v :: rest))) : W p l e R s m args below meth c H locs cells slots Q (F0 m pc ls (.ref a :: rest)) :=
  va_get (D := D) (ci := 3) (C := R_WA) (T := F_WA) (N := 9) hx hb hts i_WA hown hK hP q0 he rfl 3 (by decide) (hts _ k_244) (fun _ h9 => h9) hv hdg kk
theorem cw_GR_81 {rm : Room} (hts : ∀ w ∈ wsG, w.before args s = true) (hR : rm.frames + 1 ≤ R.frames ∧ 8 + (5 + 11) + rm.locals ≤ R.locals) : CallW R s args R_GR R_GR 81 y_GR_slotOf b_GR_slotOf 5 (some .int) (.code y_GR_slotOf b_GR_slotOf 5 (some .int) :: wsG) rm rm.cells rm.slots 1 :=
  ky_cwV 1 hts k_245 k_246 k_248 k_249 k_247 (by decide +kernel) hR
theorem cw_GR_76 {rm : Room} (hts : ∀ w ∈ wsG, w.before args s = true) (hR : rm.frames + 1 ≤ R.frames ∧ 8 + (3 + 11) + rm.locals ≤ R.locals) : CallW R s args R_GR R_MA 76 y_MA_next b_MA_next 3 (some .int) (.code y_MA_next b_MA_next 3 (some .int) :: wsG) rm rm.cells rm.slots 2 :=
  ky_cwV 2 hts k_199 k_250 k_201 k_202 k_17 (by decide +kernel) hR
theorem cw_GR_69 {rm : Room} (hts : ∀ w ∈ wsG, w.before args s = true) (hR : rm.frames + 1 ≤ R.frames ∧ 8 + (3 + 11) + rm.locals ≤ R.locals) : CallW R s args R_GR R_MA 69 y_MA_given b_MA_given 3 (some .int) (.code y_MA_given b_MA_given 3 (some .int) :: wsG) rm rm.cells rm.slots 2 :=
  ky_cwV 2 hts k_251 k_252 k_253 k_254 k_17 (by decide +kernel) hR
theorem cw_GR_41 {rm : Room} (hts : ∀ w ∈ wsG, w.before args s = true) (hR : rm.frames + 1 ≤ R.frames ∧ 8 + (2 + 11) + rm.locals ≤ R.locals) : CallW R s args R_GR R_GR 41 y_GR_makeRows b_GR_makeRows 2 none (.code y_GR_makeRows b_GR_makeRows 2 none :: wsG) rm rm.cells rm.slots 1 :=
  ky_cwV 1 hts k_255 k_256 k_257 k_258 k_247 (by decide +kernel) hR
theorem cw_GR_48 {rm : Room} (hts : ∀ w ∈ wsG, w.before args s = true) (hR : rm.frames + 1 ≤ R.frames ∧ 8 + (4 + 11) + rm.locals ≤ R.locals) : CallW R s args R_GR R_GR 48 y_GR_chooseSlots b_GR_chooseSlots 4 none (.code y_GR_chooseSlots b_GR_chooseSlots 4 none :: wsG) rm rm.cells rm.slots 1 :=
  ky_cwV 1 hts k_259 k_260 k_261 k_262 k_247 (by decide +kernel) hR
theorem cw_GR_55 {rm : Room} (hts : ∀ w ∈ wsG, w.before args s = true) (hR : rm.frames + 1 ≤ R.frames ∧ 8 + (4 + 11) + rm.locals ≤ R.locals) : CallW R s args R_GR R_GR 55 y_GR_numberByKeys b_GR_numberByKeys 4 none (.code y_GR_numberByKeys b_GR_numberByKeys 4 none :: wsG) rm rm.cells rm.slots 1 :=
  ky_cwV 1 hts k_263 k_264 k_265 k_266 k_247 (by decide +kernel) hR
theorem cw_GR_58 {rm : Room} (hts : ∀ w ∈ wsG, w.before args s = true) (hR : rm.frames + 1 ≤ R.frames ∧ 8 + (8 + 11) + rm.locals ≤ R.locals) : CallW R s args R_GR R_GR 58 y_GR_nextKey b_GR_nextKey 8 (some .long) (.code y_GR_nextKey b_GR_nextKey 8 (some .long) :: wsG) rm rm.cells rm.slots 3 :=
  ky_cwV 3 hts k_267 k_268 k_269 k_270 k_247 (by decide +kernel) hR
theorem cw_GR_51 {rm : Room} (hts : ∀ w ∈ wsG, w.before args s = true) (hR : rm.frames + 1 ≤ R.frames ∧ 8 + (5 + 11) + rm.locals ≤ R.locals) : CallB R s args R_GR 51 y_GR_outputKey b_GR_outputKey 5 (some .long) (.code y_GR_outputKey b_GR_outputKey 5 (some .long) :: wsG) rm rm.cells rm.slots 2 ∧ (Cond.static y_GR_outputKey).before args s = true :=
  ky_cwS 2 hts k_271 k_272 k_273 k_247 (by decide +kernel) hR
end Sites

abbrev b_TR_makeRows : ByteArray := prog_6_method_2_code
def y_TR_makeRows : MethodName := ⟨R_TR, "makeRows", "(I)V"⟩
abbrev b_TR_start : ByteArray := prog_6_method_3_code
def y_TR_start : MethodName := ⟨R_TR, "start", "(I)V"⟩
abbrev b_TR_lead : ByteArray := prog_6_method_4_code
def y_TR_lead : MethodName := ⟨R_TR, "lead", "(III)V"⟩
abbrev b_TR_length : ByteArray := prog_6_method_5_code
def y_TR_length : MethodName := ⟨R_TR, "length", "(I)I"⟩
abbrev b_TR_letter : ByteArray := prog_6_method_6_code
def y_TR_letter : MethodName := ⟨R_TR, "letter", "(II)I"⟩
abbrev b_RU_put : ByteArray := prog_4_method_2_code
def y_RU_put : MethodName := ⟨R_RU, "put", "(IIII)V"⟩
abbrev b_AR_fill : ByteArray := prog_19_method_103_code
def y_AR_fill : MethodName := ⟨R_AR, "fill", "([II)V"⟩
abbrev b_JM_floorMod : ByteArray := prog_14_method_50_code
def y_JM_floorMod : MethodName := ⟨R_JM, "floorMod", "(II)I"⟩
abbrev b_MA_states : ByteArray := prog_3_method_2_code
def y_MA_states : MethodName := ⟨R_MA, "states", "()I"⟩
abbrev b_MA_hasState : ByteArray := prog_3_method_3_code
def y_MA_hasState : MethodName := ⟨R_MA, "hasState", "(I)Z"⟩
abbrev b_MA_hasInput : ByteArray := prog_3_method_4_code
def y_MA_hasInput : MethodName := ⟨R_MA, "hasInput", "(I)Z"⟩
abbrev b_MA_hasRegister : ByteArray := prog_3_method_5_code
def y_MA_hasRegister : MethodName := ⟨R_MA, "hasRegister", "(I)Z"⟩
abbrev b_MA_hasOperand : ByteArray := prog_3_method_6_code
def y_MA_hasOperand : MethodName := ⟨R_MA, "hasOperand", "(I)Z"⟩
abbrev b_MA_hasExpression : ByteArray := prog_3_method_7_code
def y_MA_hasExpression : MethodName := ⟨R_MA, "hasExpression", "(III)Z"⟩
abbrev b_MA_addRegister : ByteArray := prog_3_method_8_code
def y_MA_addRegister : MethodName := ⟨R_MA, "addRegister", "(I)I"⟩
abbrev b_MA_withRegister : ByteArray := prog_3_method_14_code
def y_MA_withRegister : MethodName := ⟨R_MA, "withRegister", "(III)I"⟩
abbrev b_MA_operandValue : ByteArray := prog_3_method_15_code
def y_MA_operandValue : MethodName := ⟨R_MA, "operandValue", "(II)I"⟩
abbrev b_MA_valueOf : ByteArray := prog_3_method_16_code
def y_MA_valueOf : MethodName := ⟨R_MA, "valueOf", "(III)I"⟩
theorem k_0 : Cond.arrayClass .int ∈ wsG := by decide +kernel
theorem k_1 : Cond.fieldLink R_TR 9 R_TR "back" "[I" ∈ wsG := by decide +kernel
theorem k_2 : Cond.fieldLink R_RU 15 R_RU "ops" "[I" ∈ wsG := by decide +kernel
theorem k_3 : Cond.fieldLink R_RU 18 R_RU "lefts" "[I" ∈ wsG := by decide +kernel
theorem k_4 : Cond.fieldLink R_RU 21 R_RU "rights" "[I" ∈ wsG := by decide +kernel
theorem k_5 : Cond.fieldLink R_MA 28 R_MA "bits" "I" ∈ wsG := by decide +kernel
theorem k_6 : Cond.fieldLink R_MA 31 R_MA "inputs" "I" ∈ wsG := by decide +kernel
theorem k_7 : Cond.fieldLink R_MA 24 R_MA "registers" "I" ∈ wsG := by decide +kernel
theorem k_8 : Cond.fieldLink R_MA 9 R_MA "shifts" "[I" ∈ wsG := by decide +kernel
theorem k_9 : Cond.fieldLink R_MA 15 R_MA "masks" "[I" ∈ wsG := by decide +kernel
theorem k_10 : Cond.code y_TR_length b_TR_length 4 (some .int) ∈ wsG := by decide +kernel
theorem k_11 : Cond.methodLink R_TR 15 y_TR_length ∈ wsG := by decide +kernel
theorem k_12 : Cond.initialized R_TR ∈ wsG := by decide +kernel
theorem k_13 : Cond.instanceMethod y_TR_length ∈ wsG := by decide +kernel
theorem k_14 : Cond.selects R_TR y_TR_length y_TR_length ∈ wsG := by decide +kernel
theorem k_15 : Cond.code y_MA_states b_MA_states 1 (some .int) ∈ wsG := by decide +kernel
theorem k_16 : Cond.methodLink R_MA 38 y_MA_states ∈ wsG := by decide +kernel
theorem k_17 : Cond.initialized R_MA ∈ wsG := by decide +kernel
theorem k_18 : Cond.instanceMethod y_MA_states ∈ wsG := by decide +kernel
theorem k_19 : Cond.selects R_MA y_MA_states y_MA_states ∈ wsG := by decide +kernel
theorem k_20 : Cond.code y_MA_hasOperand b_MA_hasOperand 2 (some .boolean) ∈ wsG := by decide +kernel
theorem k_21 : Cond.methodLink R_MA 42 y_MA_hasOperand ∈ wsG := by decide +kernel
theorem k_22 : Cond.instanceMethod y_MA_hasOperand ∈ wsG := by decide +kernel
theorem k_23 : Cond.selects R_MA y_MA_hasOperand y_MA_hasOperand ∈ wsG := by decide +kernel
theorem d_TR_makeRows_0 : decode b_TR_makeRows 0 = .ok (.aload_n 0, 1) := by decide +kernel
theorem d_TR_makeRows_1 : decode b_TR_makeRows 1 = .ok (.iload_n 1, 1) := by decide +kernel
theorem d_TR_makeRows_2 : decode b_TR_makeRows 2 = .ok (.newarray .int, 2) := by decide +kernel
theorem d_TR_makeRows_4 : decode b_TR_makeRows 4 = .ok (.putfield 9, 3) := by decide +kernel
theorem d_TR_makeRows_7 : decode b_TR_makeRows 7 = .ok (.return_, 1) := by decide +kernel
theorem d_TR_start_0 : decode b_TR_start 0 = .ok (.aload_n 0, 1) := by decide +kernel
theorem d_TR_start_1 : decode b_TR_start 1 = .ok (.getfield 9, 3) := by decide +kernel
theorem d_TR_start_4 : decode b_TR_start 4 = .ok (.iload_n 1, 1) := by decide +kernel
theorem d_TR_start_5 : decode b_TR_start 5 = .ok (.iconst (-1), 1) := by decide +kernel
theorem d_TR_start_6 : decode b_TR_start 6 = .ok (.iastore, 1) := by decide +kernel
theorem d_TR_start_7 : decode b_TR_start 7 = .ok (.return_, 1) := by decide +kernel
theorem d_TR_lead_0 : decode b_TR_lead 0 = .ok (.aload_n 0, 1) := by decide +kernel
theorem d_TR_lead_1 : decode b_TR_lead 1 = .ok (.getfield 9, 3) := by decide +kernel
theorem d_TR_lead_4 : decode b_TR_lead 4 = .ok (.iload_n 3, 1) := by decide +kernel
theorem d_TR_lead_5 : decode b_TR_lead 5 = .ok (.iload_n 1, 1) := by decide +kernel
theorem d_TR_lead_6 : decode b_TR_lead 6 = .ok (.iconst 4, 1) := by decide +kernel
theorem d_TR_lead_7 : decode b_TR_lead 7 = .ok (.imul, 1) := by decide +kernel
theorem d_TR_lead_8 : decode b_TR_lead 8 = .ok (.iload_n 2, 1) := by decide +kernel
theorem d_TR_lead_9 : decode b_TR_lead 9 = .ok (.iadd, 1) := by decide +kernel
theorem d_TR_lead_10 : decode b_TR_lead 10 = .ok (.iastore, 1) := by decide +kernel
theorem d_TR_lead_11 : decode b_TR_lead 11 = .ok (.return_, 1) := by decide +kernel
theorem d_TR_length_0 : decode b_TR_length 0 = .ok (.iload_n 1, 1) := by decide +kernel
theorem d_TR_length_1 : decode b_TR_length 1 = .ok (.istore_n 2, 1) := by decide +kernel
theorem d_TR_length_2 : decode b_TR_length 2 = .ok (.iconst 0, 1) := by decide +kernel
theorem d_TR_length_3 : decode b_TR_length 3 = .ok (.istore_n 3, 1) := by decide +kernel
theorem d_TR_length_4 : decode b_TR_length 4 = .ok (.iload_n 3, 1) := by decide +kernel
theorem d_TR_length_5 : decode b_TR_length 5 = .ok (.aload_n 0, 1) := by decide +kernel
theorem d_TR_length_6 : decode b_TR_length 6 = .ok (.getfield 9, 3) := by decide +kernel
theorem d_TR_length_9 : decode b_TR_length 9 = .ok (.arraylength, 1) := by decide +kernel
theorem d_TR_length_10 : decode b_TR_length 10 = .ok (.if_icmp .ge 28, 3) := by decide +kernel
theorem d_TR_length_13 : decode b_TR_length 13 = .ok (.aload_n 0, 1) := by decide +kernel
theorem d_TR_length_14 : decode b_TR_length 14 = .ok (.getfield 9, 3) := by decide +kernel
theorem d_TR_length_17 : decode b_TR_length 17 = .ok (.iload_n 2, 1) := by decide +kernel
theorem d_TR_length_18 : decode b_TR_length 18 = .ok (.iaload, 1) := by decide +kernel
theorem d_TR_length_19 : decode b_TR_length 19 = .ok (.iconst (-1), 1) := by decide +kernel
theorem d_TR_length_20 : decode b_TR_length 20 = .ok (.if_icmp .eq 18, 3) := by decide +kernel
theorem d_TR_length_23 : decode b_TR_length 23 = .ok (.aload_n 0, 1) := by decide +kernel
theorem d_TR_length_24 : decode b_TR_length 24 = .ok (.getfield 9, 3) := by decide +kernel
theorem d_TR_length_27 : decode b_TR_length 27 = .ok (.iload_n 2, 1) := by decide +kernel
theorem d_TR_length_28 : decode b_TR_length 28 = .ok (.iaload, 1) := by decide +kernel
theorem d_TR_length_29 : decode b_TR_length 29 = .ok (.iconst 4, 1) := by decide +kernel
theorem d_TR_length_30 : decode b_TR_length 30 = .ok (.idiv, 1) := by decide +kernel
theorem d_TR_length_31 : decode b_TR_length 31 = .ok (.istore_n 2, 1) := by decide +kernel
theorem d_TR_length_32 : decode b_TR_length 32 = .ok (.iinc 3 1, 3) := by decide +kernel
theorem d_TR_length_35 : decode b_TR_length 35 = .ok (.goto (-31), 3) := by decide +kernel
theorem d_TR_length_38 : decode b_TR_length 38 = .ok (.iload_n 3, 1) := by decide +kernel
theorem d_TR_length_39 : decode b_TR_length 39 = .ok (.ireturn, 1) := by decide +kernel
theorem d_TR_letter_0 : decode b_TR_letter 0 = .ok (.aload_n 0, 1) := by decide +kernel
theorem d_TR_letter_1 : decode b_TR_letter 1 = .ok (.iload_n 1, 1) := by decide +kernel
theorem d_TR_letter_2 : decode b_TR_letter 2 = .ok (.invokevirtual 15, 3) := by decide +kernel
theorem d_TR_letter_5 : decode b_TR_letter 5 = .ok (.iconst 1, 1) := by decide +kernel
theorem d_TR_letter_6 : decode b_TR_letter 6 = .ok (.isub, 1) := by decide +kernel
theorem d_TR_letter_7 : decode b_TR_letter 7 = .ok (.iload_n 2, 1) := by decide +kernel
theorem d_TR_letter_8 : decode b_TR_letter 8 = .ok (.isub, 1) := by decide +kernel
theorem d_TR_letter_9 : decode b_TR_letter 9 = .ok (.istore_n 3, 1) := by decide +kernel
theorem d_TR_letter_10 : decode b_TR_letter 10 = .ok (.iload_n 3, 1) := by decide +kernel
theorem d_TR_letter_11 : decode b_TR_letter 11 = .ok (.ifCond .ge 5, 3) := by decide +kernel
theorem d_TR_letter_14 : decode b_TR_letter 14 = .ok (.iconst (-1), 1) := by decide +kernel
theorem d_TR_letter_15 : decode b_TR_letter 15 = .ok (.ireturn, 1) := by decide +kernel
theorem d_TR_letter_16 : decode b_TR_letter 16 = .ok (.iload_n 1, 1) := by decide +kernel
theorem d_TR_letter_17 : decode b_TR_letter 17 = .ok (.istore 4, 2) := by decide +kernel
theorem d_TR_letter_19 : decode b_TR_letter 19 = .ok (.iconst 0, 1) := by decide +kernel
theorem d_TR_letter_20 : decode b_TR_letter 20 = .ok (.istore 5, 2) := by decide +kernel
theorem d_TR_letter_22 : decode b_TR_letter 22 = .ok (.iload 5, 2) := by decide +kernel
theorem d_TR_letter_24 : decode b_TR_letter 24 = .ok (.iload_n 3, 1) := by decide +kernel
theorem d_TR_letter_25 : decode b_TR_letter 25 = .ok (.if_icmp .ge 20, 3) := by decide +kernel
theorem d_TR_letter_28 : decode b_TR_letter 28 = .ok (.aload_n 0, 1) := by decide +kernel
theorem d_TR_letter_29 : decode b_TR_letter 29 = .ok (.getfield 9, 3) := by decide +kernel
theorem d_TR_letter_32 : decode b_TR_letter 32 = .ok (.iload 4, 2) := by decide +kernel
theorem d_TR_letter_34 : decode b_TR_letter 34 = .ok (.iaload, 1) := by decide +kernel
theorem d_TR_letter_35 : decode b_TR_letter 35 = .ok (.iconst 4, 1) := by decide +kernel
theorem d_TR_letter_36 : decode b_TR_letter 36 = .ok (.idiv, 1) := by decide +kernel
theorem d_TR_letter_37 : decode b_TR_letter 37 = .ok (.istore 4, 2) := by decide +kernel
theorem d_TR_letter_39 : decode b_TR_letter 39 = .ok (.iinc 5 1, 3) := by decide +kernel
theorem d_TR_letter_42 : decode b_TR_letter 42 = .ok (.goto (-20), 3) := by decide +kernel
theorem d_TR_letter_45 : decode b_TR_letter 45 = .ok (.aload_n 0, 1) := by decide +kernel
theorem d_TR_letter_46 : decode b_TR_letter 46 = .ok (.getfield 9, 3) := by decide +kernel
theorem d_TR_letter_49 : decode b_TR_letter 49 = .ok (.iload 4, 2) := by decide +kernel
theorem d_TR_letter_51 : decode b_TR_letter 51 = .ok (.iaload, 1) := by decide +kernel
theorem d_TR_letter_52 : decode b_TR_letter 52 = .ok (.iconst 4, 1) := by decide +kernel
theorem d_TR_letter_53 : decode b_TR_letter 53 = .ok (.irem, 1) := by decide +kernel
theorem d_TR_letter_54 : decode b_TR_letter 54 = .ok (.ireturn, 1) := by decide +kernel
theorem d_RU_put_0 : decode b_RU_put 0 = .ok (.aload_n 0, 1) := by decide +kernel
theorem d_RU_put_1 : decode b_RU_put 1 = .ok (.getfield 15, 3) := by decide +kernel
theorem d_RU_put_4 : decode b_RU_put 4 = .ok (.iload_n 1, 1) := by decide +kernel
theorem d_RU_put_5 : decode b_RU_put 5 = .ok (.iload_n 2, 1) := by decide +kernel
theorem d_RU_put_6 : decode b_RU_put 6 = .ok (.iastore, 1) := by decide +kernel
theorem d_RU_put_7 : decode b_RU_put 7 = .ok (.aload_n 0, 1) := by decide +kernel
theorem d_RU_put_8 : decode b_RU_put 8 = .ok (.getfield 18, 3) := by decide +kernel
theorem d_RU_put_11 : decode b_RU_put 11 = .ok (.iload_n 1, 1) := by decide +kernel
theorem d_RU_put_12 : decode b_RU_put 12 = .ok (.iload_n 3, 1) := by decide +kernel
theorem d_RU_put_13 : decode b_RU_put 13 = .ok (.iastore, 1) := by decide +kernel
theorem d_RU_put_14 : decode b_RU_put 14 = .ok (.aload_n 0, 1) := by decide +kernel
theorem d_RU_put_15 : decode b_RU_put 15 = .ok (.getfield 21, 3) := by decide +kernel
theorem d_RU_put_18 : decode b_RU_put 18 = .ok (.iload_n 1, 1) := by decide +kernel
theorem d_RU_put_19 : decode b_RU_put 19 = .ok (.iload 4, 2) := by decide +kernel
theorem d_RU_put_21 : decode b_RU_put 21 = .ok (.iastore, 1) := by decide +kernel
theorem d_RU_put_22 : decode b_RU_put 22 = .ok (.return_, 1) := by decide +kernel
theorem d_AR_fill_0 : decode b_AR_fill 0 = .ok (.iconst 0, 1) := by decide +kernel
theorem d_AR_fill_1 : decode b_AR_fill 1 = .ok (.istore_n 2, 1) := by decide +kernel
theorem d_AR_fill_2 : decode b_AR_fill 2 = .ok (.aload_n 0, 1) := by decide +kernel
theorem d_AR_fill_3 : decode b_AR_fill 3 = .ok (.arraylength, 1) := by decide +kernel
theorem d_AR_fill_4 : decode b_AR_fill 4 = .ok (.istore_n 3, 1) := by decide +kernel
theorem d_AR_fill_5 : decode b_AR_fill 5 = .ok (.iload_n 2, 1) := by decide +kernel
theorem d_AR_fill_6 : decode b_AR_fill 6 = .ok (.iload_n 3, 1) := by decide +kernel
theorem d_AR_fill_7 : decode b_AR_fill 7 = .ok (.if_icmp .ge 13, 3) := by decide +kernel
theorem d_AR_fill_10 : decode b_AR_fill 10 = .ok (.aload_n 0, 1) := by decide +kernel
theorem d_AR_fill_11 : decode b_AR_fill 11 = .ok (.iload_n 2, 1) := by decide +kernel
theorem d_AR_fill_12 : decode b_AR_fill 12 = .ok (.iload_n 1, 1) := by decide +kernel
theorem d_AR_fill_13 : decode b_AR_fill 13 = .ok (.iastore, 1) := by decide +kernel
theorem d_AR_fill_14 : decode b_AR_fill 14 = .ok (.iinc 2 1, 3) := by decide +kernel
theorem d_AR_fill_17 : decode b_AR_fill 17 = .ok (.goto (-12), 3) := by decide +kernel
theorem d_AR_fill_20 : decode b_AR_fill 20 = .ok (.return_, 1) := by decide +kernel
theorem d_JM_floorMod_0 : decode b_JM_floorMod 0 = .ok (.iload_n 0, 1) := by decide +kernel
theorem d_JM_floorMod_1 : decode b_JM_floorMod 1 = .ok (.iload_n 1, 1) := by decide +kernel
theorem d_JM_floorMod_2 : decode b_JM_floorMod 2 = .ok (.irem, 1) := by decide +kernel
theorem d_JM_floorMod_3 : decode b_JM_floorMod 3 = .ok (.istore_n 2, 1) := by decide +kernel
theorem d_JM_floorMod_4 : decode b_JM_floorMod 4 = .ok (.iload_n 0, 1) := by decide +kernel
theorem d_JM_floorMod_5 : decode b_JM_floorMod 5 = .ok (.iload_n 1, 1) := by decide +kernel
theorem d_JM_floorMod_6 : decode b_JM_floorMod 6 = .ok (.ixor, 1) := by decide +kernel
theorem d_JM_floorMod_7 : decode b_JM_floorMod 7 = .ok (.ifCond .ge 11, 3) := by decide +kernel
theorem d_JM_floorMod_10 : decode b_JM_floorMod 10 = .ok (.iload_n 2, 1) := by decide +kernel
theorem d_JM_floorMod_11 : decode b_JM_floorMod 11 = .ok (.ifCond .eq 7, 3) := by decide +kernel
theorem d_JM_floorMod_14 : decode b_JM_floorMod 14 = .ok (.iload_n 2, 1) := by decide +kernel
theorem d_JM_floorMod_15 : decode b_JM_floorMod 15 = .ok (.iload_n 1, 1) := by decide +kernel
theorem d_JM_floorMod_16 : decode b_JM_floorMod 16 = .ok (.iadd, 1) := by decide +kernel
theorem d_JM_floorMod_17 : decode b_JM_floorMod 17 = .ok (.ireturn, 1) := by decide +kernel
theorem d_JM_floorMod_18 : decode b_JM_floorMod 18 = .ok (.iload_n 2, 1) := by decide +kernel
theorem d_JM_floorMod_19 : decode b_JM_floorMod 19 = .ok (.ireturn, 1) := by decide +kernel
theorem d_MA_states_0 : decode b_MA_states 0 = .ok (.iconst 1, 1) := by decide +kernel
theorem d_MA_states_1 : decode b_MA_states 1 = .ok (.aload_n 0, 1) := by decide +kernel
theorem d_MA_states_2 : decode b_MA_states 2 = .ok (.getfield 28, 3) := by decide +kernel
theorem d_MA_states_5 : decode b_MA_states 5 = .ok (.ishl, 1) := by decide +kernel
theorem d_MA_states_6 : decode b_MA_states 6 = .ok (.ireturn, 1) := by decide +kernel
theorem d_MA_hasState_0 : decode b_MA_hasState 0 = .ok (.iload_n 1, 1) := by decide +kernel
theorem d_MA_hasState_1 : decode b_MA_hasState 1 = .ok (.ifCond .lt 15, 3) := by decide +kernel
theorem d_MA_hasState_4 : decode b_MA_hasState 4 = .ok (.iload_n 1, 1) := by decide +kernel
theorem d_MA_hasState_5 : decode b_MA_hasState 5 = .ok (.aload_n 0, 1) := by decide +kernel
theorem d_MA_hasState_6 : decode b_MA_hasState 6 = .ok (.invokevirtual 38, 3) := by decide +kernel
theorem d_MA_hasState_9 : decode b_MA_hasState 9 = .ok (.if_icmp .ge 7, 3) := by decide +kernel
theorem d_MA_hasState_12 : decode b_MA_hasState 12 = .ok (.iconst 1, 1) := by decide +kernel
theorem d_MA_hasState_13 : decode b_MA_hasState 13 = .ok (.goto 4, 3) := by decide +kernel
theorem d_MA_hasState_16 : decode b_MA_hasState 16 = .ok (.iconst 0, 1) := by decide +kernel
theorem d_MA_hasState_17 : decode b_MA_hasState 17 = .ok (.ireturn, 1) := by decide +kernel
theorem d_MA_hasInput_0 : decode b_MA_hasInput 0 = .ok (.iload_n 1, 1) := by decide +kernel
theorem d_MA_hasInput_1 : decode b_MA_hasInput 1 = .ok (.ifCond .lt 15, 3) := by decide +kernel
theorem d_MA_hasInput_4 : decode b_MA_hasInput 4 = .ok (.iload_n 1, 1) := by decide +kernel
theorem d_MA_hasInput_5 : decode b_MA_hasInput 5 = .ok (.aload_n 0, 1) := by decide +kernel
theorem d_MA_hasInput_6 : decode b_MA_hasInput 6 = .ok (.getfield 31, 3) := by decide +kernel
theorem d_MA_hasInput_9 : decode b_MA_hasInput 9 = .ok (.if_icmp .ge 7, 3) := by decide +kernel
theorem d_MA_hasInput_12 : decode b_MA_hasInput 12 = .ok (.iconst 1, 1) := by decide +kernel
theorem d_MA_hasInput_13 : decode b_MA_hasInput 13 = .ok (.goto 4, 3) := by decide +kernel
theorem d_MA_hasInput_16 : decode b_MA_hasInput 16 = .ok (.iconst 0, 1) := by decide +kernel
theorem d_MA_hasInput_17 : decode b_MA_hasInput 17 = .ok (.ireturn, 1) := by decide +kernel
theorem d_MA_hasRegister_0 : decode b_MA_hasRegister 0 = .ok (.iload_n 1, 1) := by decide +kernel
theorem d_MA_hasRegister_1 : decode b_MA_hasRegister 1 = .ok (.ifCond .lt 15, 3) := by decide +kernel
theorem d_MA_hasRegister_4 : decode b_MA_hasRegister 4 = .ok (.iload_n 1, 1) := by decide +kernel
theorem d_MA_hasRegister_5 : decode b_MA_hasRegister 5 = .ok (.aload_n 0, 1) := by decide +kernel
theorem d_MA_hasRegister_6 : decode b_MA_hasRegister 6 = .ok (.getfield 24, 3) := by decide +kernel
theorem d_MA_hasRegister_9 : decode b_MA_hasRegister 9 = .ok (.if_icmp .ge 7, 3) := by decide +kernel
theorem d_MA_hasRegister_12 : decode b_MA_hasRegister 12 = .ok (.iconst 1, 1) := by decide +kernel
theorem d_MA_hasRegister_13 : decode b_MA_hasRegister 13 = .ok (.goto 4, 3) := by decide +kernel
theorem d_MA_hasRegister_16 : decode b_MA_hasRegister 16 = .ok (.iconst 0, 1) := by decide +kernel
theorem d_MA_hasRegister_17 : decode b_MA_hasRegister 17 = .ok (.ireturn, 1) := by decide +kernel
theorem d_MA_hasOperand_0 : decode b_MA_hasOperand 0 = .ok (.iload_n 1, 1) := by decide +kernel
theorem d_MA_hasOperand_1 : decode b_MA_hasOperand 1 = .ok (.bipush (-16), 2) := by decide +kernel
theorem d_MA_hasOperand_3 : decode b_MA_hasOperand 3 = .ok (.if_icmp .lt 15, 3) := by decide +kernel
theorem d_MA_hasOperand_6 : decode b_MA_hasOperand 6 = .ok (.iload_n 1, 1) := by decide +kernel
theorem d_MA_hasOperand_7 : decode b_MA_hasOperand 7 = .ok (.aload_n 0, 1) := by decide +kernel
theorem d_MA_hasOperand_8 : decode b_MA_hasOperand 8 = .ok (.getfield 24, 3) := by decide +kernel
theorem d_MA_hasOperand_11 : decode b_MA_hasOperand 11 = .ok (.if_icmp .ge 7, 3) := by decide +kernel
theorem d_MA_hasOperand_14 : decode b_MA_hasOperand 14 = .ok (.iconst 1, 1) := by decide +kernel
theorem d_MA_hasOperand_15 : decode b_MA_hasOperand 15 = .ok (.goto 4, 3) := by decide +kernel
theorem d_MA_hasOperand_18 : decode b_MA_hasOperand 18 = .ok (.iconst 0, 1) := by decide +kernel
theorem d_MA_hasOperand_19 : decode b_MA_hasOperand 19 = .ok (.ireturn, 1) := by decide +kernel
theorem d_MA_hasExpression_0 : decode b_MA_hasExpression 0 = .ok (.iload_n 1, 1) := by decide +kernel
theorem d_MA_hasExpression_1 : decode b_MA_hasExpression 1 = .ok (.ifCond .lt 29, 3) := by decide +kernel
theorem d_MA_hasExpression_4 : decode b_MA_hasExpression 4 = .ok (.iload_n 1, 1) := by decide +kernel
theorem d_MA_hasExpression_5 : decode b_MA_hasExpression 5 = .ok (.bipush 10, 2) := by decide +kernel
theorem d_MA_hasExpression_7 : decode b_MA_hasExpression 7 = .ok (.if_icmp .ge 23, 3) := by decide +kernel
theorem d_MA_hasExpression_10 : decode b_MA_hasExpression 10 = .ok (.aload_n 0, 1) := by decide +kernel
theorem d_MA_hasExpression_11 : decode b_MA_hasExpression 11 = .ok (.iload_n 2, 1) := by decide +kernel
theorem d_MA_hasExpression_12 : decode b_MA_hasExpression 12 = .ok (.invokevirtual 42, 3) := by decide +kernel
theorem d_MA_hasExpression_15 : decode b_MA_hasExpression 15 = .ok (.ifCond .eq 15, 3) := by decide +kernel
theorem d_MA_hasExpression_18 : decode b_MA_hasExpression 18 = .ok (.aload_n 0, 1) := by decide +kernel
theorem d_MA_hasExpression_19 : decode b_MA_hasExpression 19 = .ok (.iload_n 3, 1) := by decide +kernel
theorem d_MA_hasExpression_20 : decode b_MA_hasExpression 20 = .ok (.invokevirtual 42, 3) := by decide +kernel
theorem d_MA_hasExpression_23 : decode b_MA_hasExpression 23 = .ok (.ifCond .eq 7, 3) := by decide +kernel
theorem d_MA_hasExpression_26 : decode b_MA_hasExpression 26 = .ok (.iconst 1, 1) := by decide +kernel
theorem d_MA_hasExpression_27 : decode b_MA_hasExpression 27 = .ok (.goto 4, 3) := by decide +kernel
theorem d_MA_hasExpression_30 : decode b_MA_hasExpression 30 = .ok (.iconst 0, 1) := by decide +kernel
theorem d_MA_hasExpression_31 : decode b_MA_hasExpression 31 = .ok (.ireturn, 1) := by decide +kernel
theorem d_MA_addRegister_0 : decode b_MA_addRegister 0 = .ok (.aload_n 0, 1) := by decide +kernel
theorem d_MA_addRegister_1 : decode b_MA_addRegister 1 = .ok (.getfield 24, 3) := by decide +kernel
theorem d_MA_addRegister_4 : decode b_MA_addRegister 4 = .ok (.istore_n 2, 1) := by decide +kernel
theorem d_MA_addRegister_5 : decode b_MA_addRegister 5 = .ok (.aload_n 0, 1) := by decide +kernel
theorem d_MA_addRegister_6 : decode b_MA_addRegister 6 = .ok (.getfield 9, 3) := by decide +kernel
theorem d_MA_addRegister_9 : decode b_MA_addRegister 9 = .ok (.iload_n 2, 1) := by decide +kernel
theorem d_MA_addRegister_10 : decode b_MA_addRegister 10 = .ok (.aload_n 0, 1) := by decide +kernel
theorem d_MA_addRegister_11 : decode b_MA_addRegister 11 = .ok (.getfield 28, 3) := by decide +kernel
theorem d_MA_addRegister_14 : decode b_MA_addRegister 14 = .ok (.iastore, 1) := by decide +kernel
theorem d_MA_addRegister_15 : decode b_MA_addRegister 15 = .ok (.aload_n 0, 1) := by decide +kernel
theorem d_MA_addRegister_16 : decode b_MA_addRegister 16 = .ok (.getfield 15, 3) := by decide +kernel
theorem d_MA_addRegister_19 : decode b_MA_addRegister 19 = .ok (.iload_n 2, 1) := by decide +kernel
theorem d_MA_addRegister_20 : decode b_MA_addRegister 20 = .ok (.iconst 1, 1) := by decide +kernel
theorem d_MA_addRegister_21 : decode b_MA_addRegister 21 = .ok (.iload_n 1, 1) := by decide +kernel
theorem d_MA_addRegister_22 : decode b_MA_addRegister 22 = .ok (.ishl, 1) := by decide +kernel
theorem d_MA_addRegister_23 : decode b_MA_addRegister 23 = .ok (.iconst 1, 1) := by decide +kernel
theorem d_MA_addRegister_24 : decode b_MA_addRegister 24 = .ok (.isub, 1) := by decide +kernel
theorem d_MA_addRegister_25 : decode b_MA_addRegister 25 = .ok (.iastore, 1) := by decide +kernel
theorem d_MA_addRegister_26 : decode b_MA_addRegister 26 = .ok (.aload_n 0, 1) := by decide +kernel
theorem d_MA_addRegister_27 : decode b_MA_addRegister 27 = .ok (.dup, 1) := by decide +kernel
theorem d_MA_addRegister_28 : decode b_MA_addRegister 28 = .ok (.getfield 28, 3) := by decide +kernel
theorem d_MA_addRegister_31 : decode b_MA_addRegister 31 = .ok (.iload_n 1, 1) := by decide +kernel
theorem d_MA_addRegister_32 : decode b_MA_addRegister 32 = .ok (.iadd, 1) := by decide +kernel
theorem d_MA_addRegister_33 : decode b_MA_addRegister 33 = .ok (.putfield 28, 3) := by decide +kernel
theorem d_MA_addRegister_36 : decode b_MA_addRegister 36 = .ok (.aload_n 0, 1) := by decide +kernel
theorem d_MA_addRegister_37 : decode b_MA_addRegister 37 = .ok (.dup, 1) := by decide +kernel
theorem d_MA_addRegister_38 : decode b_MA_addRegister 38 = .ok (.getfield 24, 3) := by decide +kernel
theorem d_MA_addRegister_41 : decode b_MA_addRegister 41 = .ok (.iconst 1, 1) := by decide +kernel
theorem d_MA_addRegister_42 : decode b_MA_addRegister 42 = .ok (.iadd, 1) := by decide +kernel
theorem d_MA_addRegister_43 : decode b_MA_addRegister 43 = .ok (.putfield 24, 3) := by decide +kernel
theorem d_MA_addRegister_46 : decode b_MA_addRegister 46 = .ok (.iload_n 2, 1) := by decide +kernel
theorem d_MA_addRegister_47 : decode b_MA_addRegister 47 = .ok (.ireturn, 1) := by decide +kernel
theorem d_MA_withRegister_0 : decode b_MA_withRegister 0 = .ok (.iload_n 1, 1) := by decide +kernel
theorem d_MA_withRegister_1 : decode b_MA_withRegister 1 = .ok (.aload_n 0, 1) := by decide +kernel
theorem d_MA_withRegister_2 : decode b_MA_withRegister 2 = .ok (.getfield 15, 3) := by decide +kernel
theorem d_MA_withRegister_5 : decode b_MA_withRegister 5 = .ok (.iload_n 2, 1) := by decide +kernel
theorem d_MA_withRegister_6 : decode b_MA_withRegister 6 = .ok (.iaload, 1) := by decide +kernel
theorem d_MA_withRegister_7 : decode b_MA_withRegister 7 = .ok (.aload_n 0, 1) := by decide +kernel
theorem d_MA_withRegister_8 : decode b_MA_withRegister 8 = .ok (.getfield 9, 3) := by decide +kernel
theorem d_MA_withRegister_11 : decode b_MA_withRegister 11 = .ok (.iload_n 2, 1) := by decide +kernel
theorem d_MA_withRegister_12 : decode b_MA_withRegister 12 = .ok (.iaload, 1) := by decide +kernel
theorem d_MA_withRegister_13 : decode b_MA_withRegister 13 = .ok (.ishl, 1) := by decide +kernel
theorem d_MA_withRegister_14 : decode b_MA_withRegister 14 = .ok (.iconst (-1), 1) := by decide +kernel
theorem d_MA_withRegister_15 : decode b_MA_withRegister 15 = .ok (.ixor, 1) := by decide +kernel
theorem d_MA_withRegister_16 : decode b_MA_withRegister 16 = .ok (.iand, 1) := by decide +kernel
theorem d_MA_withRegister_17 : decode b_MA_withRegister 17 = .ok (.istore 4, 2) := by decide +kernel
theorem d_MA_withRegister_19 : decode b_MA_withRegister 19 = .ok (.iload 4, 2) := by decide +kernel
theorem d_MA_withRegister_21 : decode b_MA_withRegister 21 = .ok (.iload_n 3, 1) := by decide +kernel
theorem d_MA_withRegister_22 : decode b_MA_withRegister 22 = .ok (.aload_n 0, 1) := by decide +kernel
theorem d_MA_withRegister_23 : decode b_MA_withRegister 23 = .ok (.getfield 15, 3) := by decide +kernel
theorem d_MA_withRegister_26 : decode b_MA_withRegister 26 = .ok (.iload_n 2, 1) := by decide +kernel
theorem d_MA_withRegister_27 : decode b_MA_withRegister 27 = .ok (.iaload, 1) := by decide +kernel
theorem d_MA_withRegister_28 : decode b_MA_withRegister 28 = .ok (.iand, 1) := by decide +kernel
theorem d_MA_withRegister_29 : decode b_MA_withRegister 29 = .ok (.aload_n 0, 1) := by decide +kernel
theorem d_MA_withRegister_30 : decode b_MA_withRegister 30 = .ok (.getfield 9, 3) := by decide +kernel
theorem d_MA_withRegister_33 : decode b_MA_withRegister 33 = .ok (.iload_n 2, 1) := by decide +kernel
theorem d_MA_withRegister_34 : decode b_MA_withRegister 34 = .ok (.iaload, 1) := by decide +kernel
theorem d_MA_withRegister_35 : decode b_MA_withRegister 35 = .ok (.ishl, 1) := by decide +kernel
theorem d_MA_withRegister_36 : decode b_MA_withRegister 36 = .ok (.ior, 1) := by decide +kernel
theorem d_MA_withRegister_37 : decode b_MA_withRegister 37 = .ok (.ireturn, 1) := by decide +kernel
theorem d_MA_operandValue_0 : decode b_MA_operandValue 0 = .ok (.iload_n 1, 1) := by decide +kernel
theorem d_MA_operandValue_1 : decode b_MA_operandValue 1 = .ok (.ifCond .ge 7, 3) := by decide +kernel
theorem d_MA_operandValue_4 : decode b_MA_operandValue 4 = .ok (.iconst (-1), 1) := by decide +kernel
theorem d_MA_operandValue_5 : decode b_MA_operandValue 5 = .ok (.iload_n 1, 1) := by decide +kernel
theorem d_MA_operandValue_6 : decode b_MA_operandValue 6 = .ok (.isub, 1) := by decide +kernel
theorem d_MA_operandValue_7 : decode b_MA_operandValue 7 = .ok (.ireturn, 1) := by decide +kernel
theorem d_MA_operandValue_8 : decode b_MA_operandValue 8 = .ok (.iload_n 2, 1) := by decide +kernel
theorem d_MA_operandValue_9 : decode b_MA_operandValue 9 = .ok (.aload_n 0, 1) := by decide +kernel
theorem d_MA_operandValue_10 : decode b_MA_operandValue 10 = .ok (.getfield 9, 3) := by decide +kernel
theorem d_MA_operandValue_13 : decode b_MA_operandValue 13 = .ok (.iload_n 1, 1) := by decide +kernel
theorem d_MA_operandValue_14 : decode b_MA_operandValue 14 = .ok (.iaload, 1) := by decide +kernel
theorem d_MA_operandValue_15 : decode b_MA_operandValue 15 = .ok (.ishr, 1) := by decide +kernel
theorem d_MA_operandValue_16 : decode b_MA_operandValue 16 = .ok (.aload_n 0, 1) := by decide +kernel
theorem d_MA_operandValue_17 : decode b_MA_operandValue 17 = .ok (.getfield 15, 3) := by decide +kernel
theorem d_MA_operandValue_20 : decode b_MA_operandValue 20 = .ok (.iload_n 1, 1) := by decide +kernel
theorem d_MA_operandValue_21 : decode b_MA_operandValue 21 = .ok (.iaload, 1) := by decide +kernel
theorem d_MA_operandValue_22 : decode b_MA_operandValue 22 = .ok (.iand, 1) := by decide +kernel
theorem d_MA_operandValue_23 : decode b_MA_operandValue 23 = .ok (.ireturn, 1) := by decide +kernel
theorem d_MA_valueOf_0 : decode b_MA_valueOf 0 = .ok (.iload_n 0, 1) := by decide +kernel
theorem d_MA_valueOf_1 : decode b_MA_valueOf 1 = .ok (.tableswitch 107 0 8 #[51, 55, 59, 63, 67, 71, 75, 86, 97], 51) := by decide +kernel
theorem d_MA_valueOf_52 : decode b_MA_valueOf 52 = .ok (.iload_n 1, 1) := by decide +kernel
theorem d_MA_valueOf_53 : decode b_MA_valueOf 53 = .ok (.iload_n 2, 1) := by decide +kernel
theorem d_MA_valueOf_54 : decode b_MA_valueOf 54 = .ok (.iadd, 1) := by decide +kernel
theorem d_MA_valueOf_55 : decode b_MA_valueOf 55 = .ok (.ireturn, 1) := by decide +kernel
theorem d_MA_valueOf_56 : decode b_MA_valueOf 56 = .ok (.iload_n 1, 1) := by decide +kernel
theorem d_MA_valueOf_57 : decode b_MA_valueOf 57 = .ok (.iload_n 2, 1) := by decide +kernel
theorem d_MA_valueOf_58 : decode b_MA_valueOf 58 = .ok (.isub, 1) := by decide +kernel
theorem d_MA_valueOf_59 : decode b_MA_valueOf 59 = .ok (.ireturn, 1) := by decide +kernel
theorem d_MA_valueOf_60 : decode b_MA_valueOf 60 = .ok (.iload_n 1, 1) := by decide +kernel
theorem d_MA_valueOf_61 : decode b_MA_valueOf 61 = .ok (.iload_n 2, 1) := by decide +kernel
theorem d_MA_valueOf_62 : decode b_MA_valueOf 62 = .ok (.iand, 1) := by decide +kernel
theorem d_MA_valueOf_63 : decode b_MA_valueOf 63 = .ok (.ireturn, 1) := by decide +kernel
theorem d_MA_valueOf_64 : decode b_MA_valueOf 64 = .ok (.iload_n 1, 1) := by decide +kernel
theorem d_MA_valueOf_65 : decode b_MA_valueOf 65 = .ok (.iload_n 2, 1) := by decide +kernel
theorem d_MA_valueOf_66 : decode b_MA_valueOf 66 = .ok (.ior, 1) := by decide +kernel
theorem d_MA_valueOf_67 : decode b_MA_valueOf 67 = .ok (.ireturn, 1) := by decide +kernel
theorem d_MA_valueOf_68 : decode b_MA_valueOf 68 = .ok (.iload_n 1, 1) := by decide +kernel
theorem d_MA_valueOf_69 : decode b_MA_valueOf 69 = .ok (.iload_n 2, 1) := by decide +kernel
theorem d_MA_valueOf_70 : decode b_MA_valueOf 70 = .ok (.ixor, 1) := by decide +kernel
theorem d_MA_valueOf_71 : decode b_MA_valueOf 71 = .ok (.ireturn, 1) := by decide +kernel
theorem d_MA_valueOf_72 : decode b_MA_valueOf 72 = .ok (.iload_n 1, 1) := by decide +kernel
theorem d_MA_valueOf_73 : decode b_MA_valueOf 73 = .ok (.iload_n 2, 1) := by decide +kernel
theorem d_MA_valueOf_74 : decode b_MA_valueOf 74 = .ok (.imul, 1) := by decide +kernel
theorem d_MA_valueOf_75 : decode b_MA_valueOf 75 = .ok (.ireturn, 1) := by decide +kernel
theorem d_MA_valueOf_76 : decode b_MA_valueOf 76 = .ok (.iload_n 1, 1) := by decide +kernel
theorem d_MA_valueOf_77 : decode b_MA_valueOf 77 = .ok (.iload_n 2, 1) := by decide +kernel
theorem d_MA_valueOf_78 : decode b_MA_valueOf 78 = .ok (.if_icmp .ge 7, 3) := by decide +kernel
theorem d_MA_valueOf_81 : decode b_MA_valueOf 81 = .ok (.iconst 1, 1) := by decide +kernel
theorem d_MA_valueOf_82 : decode b_MA_valueOf 82 = .ok (.goto 4, 3) := by decide +kernel
theorem d_MA_valueOf_85 : decode b_MA_valueOf 85 = .ok (.iconst 0, 1) := by decide +kernel
theorem d_MA_valueOf_86 : decode b_MA_valueOf 86 = .ok (.ireturn, 1) := by decide +kernel
theorem d_MA_valueOf_87 : decode b_MA_valueOf 87 = .ok (.iload_n 1, 1) := by decide +kernel
theorem d_MA_valueOf_88 : decode b_MA_valueOf 88 = .ok (.iload_n 2, 1) := by decide +kernel
theorem d_MA_valueOf_89 : decode b_MA_valueOf 89 = .ok (.if_icmp .ne 7, 3) := by decide +kernel
theorem d_MA_valueOf_92 : decode b_MA_valueOf 92 = .ok (.iconst 1, 1) := by decide +kernel
theorem d_MA_valueOf_93 : decode b_MA_valueOf 93 = .ok (.goto 4, 3) := by decide +kernel
theorem d_MA_valueOf_96 : decode b_MA_valueOf 96 = .ok (.iconst 0, 1) := by decide +kernel
theorem d_MA_valueOf_97 : decode b_MA_valueOf 97 = .ok (.ireturn, 1) := by decide +kernel
theorem d_MA_valueOf_98 : decode b_MA_valueOf 98 = .ok (.iload_n 2, 1) := by decide +kernel
theorem d_MA_valueOf_99 : decode b_MA_valueOf 99 = .ok (.ifCond .eq 7, 3) := by decide +kernel
theorem d_MA_valueOf_102 : decode b_MA_valueOf 102 = .ok (.iload_n 1, 1) := by decide +kernel
theorem d_MA_valueOf_103 : decode b_MA_valueOf 103 = .ok (.goto 4, 3) := by decide +kernel
theorem d_MA_valueOf_106 : decode b_MA_valueOf 106 = .ok (.iconst 0, 1) := by decide +kernel
theorem d_MA_valueOf_107 : decode b_MA_valueOf 107 = .ok (.ireturn, 1) := by decide +kernel
theorem d_MA_valueOf_108 : decode b_MA_valueOf 108 = .ok (.iload_n 1, 1) := by decide +kernel
theorem d_MA_valueOf_109 : decode b_MA_valueOf 109 = .ok (.iconst 1, 1) := by decide +kernel
theorem d_MA_valueOf_110 : decode b_MA_valueOf 110 = .ok (.ishr, 1) := by decide +kernel
theorem d_MA_valueOf_111 : decode b_MA_valueOf 111 = .ok (.bipush 8, 2) := by decide +kernel
theorem d_MA_valueOf_113 : decode b_MA_valueOf 113 = .ok (.iload_n 2, 1) := by decide +kernel
theorem d_MA_valueOf_114 : decode b_MA_valueOf 114 = .ok (.imul, 1) := by decide +kernel
theorem d_MA_valueOf_115 : decode b_MA_valueOf 115 = .ok (.iadd, 1) := by decide +kernel
theorem d_MA_valueOf_116 : decode b_MA_valueOf 116 = .ok (.ireturn, 1) := by decide +kernel
section Sites
variable {p : Program} {l : Launch} {e : Env} {R : Room} {s : State} {m : MethodId} {args : Array Value} {below : List Frame} {meth : Method} {c : Code} {H H0 : Heap} {locs : List Loc} {cells slots : Nat} {Q : State → Prop} {cc : ByteArray} {pc : Nat} {ls : Array Slot} {rest : List Value} {D : va_G} {A : Nat → Prop} {a : Nat} {TY : List (ClassId × FieldType)} {ws : va_W}
theorem pf_TR_9 (hx : p.tables.exec = Jvm.exec) (hb : c.code = cc) (hts : ∀ w ∈ wsG, w.before args s = true) (hown : s.vm.findClass R_TR = some m.cls) (hK : va_K D vwCl TY s) (hP : va_P D vwCl ws H) (hD : va_D A ws) (hS : va_S A H0 H locs) (q0 : Nat) {fs : List Value} {v : Value} (he : ws[q0]? = some (a, .inr (1, fs))) (hn : narrow (.array (.int)) v = v) (hfit : fits (.array (.int)) v = true) (hl : 0 < fs.length) (hdg : decode cc pc = .ok (.putfield 9, 3)) (kk : ∀ (H1 : Heap) (locs1 : List Loc), va_P D vwCl (ws.set q0 (a, .inr (1, fs.set 0 v))) H1 → va_D A (ws.set q0 (a, .inr (1, fs.set 0 v))) → va_S A H0 H1 locs1 → W p l e R s m args below meth c H1 locs1 cells slots Q (F0 m (pc + 3) ls rest)) : W p l e R s m args below meth c H locs cells slots Q (F0 m pc ls (v :: .ref a :: rest)) :=
  va_put (D := D) (ci := 1) (v := v) (ty := .array (.int)) (C := R_TR) (T := F_TR) (N := 1) hx hb hts i_TR t_TR t_TR_ok n_TR hown hK hP hD hS q0 he rfl 0 (by decide) (hts _ k_1) (fun _ h9 => h9) rfl (by decide +kernel) hn hfit hl hdg kk
theorem gf_TR_9 (hx : p.tables.exec = Jvm.exec) (hb : c.code = cc) (hts : ∀ w ∈ wsG, w.before args s = true) (hown : s.vm.findClass R_TR = some m.cls) (hK : va_K D vwCl TY s) (hP : va_P D vwCl ws H) (q0 : Nat) {fs : List Value} (he : ws[q0]? = some (a, .inr (1, fs))) {v : Value} (hv : fs[0]? = some v) (hdg : decode cc pc = .ok (.getfield 9, 3)) (kk : W p l e R s m args below meth c H locs cells slots Q (F0 m (pc + 3) ls (v :: rest))) : W p l e R s m args below meth c H locs cells slots Q (F0 m pc ls (.ref a :: rest)) :=
  va_get (D := D) (ci := 1) (C := R_TR) (T := F_TR) (N := 1) hx hb hts i_TR hown hK hP q0 he rfl 0 (by decide) (hts _ k_1) (fun _ h9 => h9) hv hdg kk
theorem gf_RU_15 (hx : p.tables.exec = Jvm.exec) (hb : c.code = cc) (hts : ∀ w ∈ wsG, w.before args s = true) (hown : s.vm.findClass R_RU = some m.cls) (hK : va_K D vwCl TY s) (hP : va_P D vwCl ws H) (q0 : Nat) {fs : List Value} (he : ws[q0]? = some (a, .inr (0, fs))) {v : Value} (hv : fs[1]? = some v) (hdg : decode cc pc = .ok (.getfield 15, 3)) (kk : W p l e R s m args below meth c H locs cells slots Q (F0 m (pc + 3) ls (v :: rest))) : W p l e R s m args below meth c H locs cells slots Q (F0 m pc ls (.ref a :: rest)) :=
  va_get (D := D) (ci := 0) (C := R_RU) (T := F_RU) (N := 6) hx hb hts i_RU hown hK hP q0 he rfl 1 (by decide) (hts _ k_2) (fun _ h9 => h9) hv hdg kk
theorem gf_RU_18 (hx : p.tables.exec = Jvm.exec) (hb : c.code = cc) (hts : ∀ w ∈ wsG, w.before args s = true) (hown : s.vm.findClass R_RU = some m.cls) (hK : va_K D vwCl TY s) (hP : va_P D vwCl ws H) (q0 : Nat) {fs : List Value} (he : ws[q0]? = some (a, .inr (0, fs))) {v : Value} (hv : fs[2]? = some v) (hdg : decode cc pc = .ok (.getfield 18, 3)) (kk : W p l e R s m args below meth c H locs cells slots Q (F0 m (pc + 3) ls (v :: rest))) : W p l e R s m args below meth c H locs cells slots Q (F0 m pc ls (.ref a :: rest)) :=
  va_get (D := D) (ci := 0) (C := R_RU) (T := F_RU) (N := 6) hx hb hts i_RU hown hK hP q0 he rfl 2 (by decide) (hts _ k_3) (fun _ h9 => h9) hv hdg kk
theorem gf_RU_21 (hx : p.tables.exec = Jvm.exec) (hb : c.code = cc) (hts : ∀ w ∈ wsG, w.before args s = true) (hown : s.vm.findClass R_RU = some m.cls) (hK : va_K D vwCl TY s) (hP : va_P D vwCl ws H) (q0 : Nat) {fs : List Value} (he : ws[q0]? = some (a, .inr (0, fs))) {v : Value} (hv : fs[3]? = some v) (hdg : decode cc pc = .ok (.getfield 21, 3)) (kk : W p l e R s m args below meth c H locs cells slots Q (F0 m (pc + 3) ls (v :: rest))) : W p l e R s m args below meth c H locs cells slots Q (F0 m pc ls (.ref a :: rest)) :=
  va_get (D := D) (ci := 0) (C := R_RU) (T := F_RU) (N := 6) hx hb hts i_RU hown hK hP q0 he rfl 3 (by decide) (hts _ k_4) (fun _ h9 => h9) hv hdg kk
theorem gf_MA_28 (hx : p.tables.exec = Jvm.exec) (hb : c.code = cc) (hts : ∀ w ∈ wsG, w.before args s = true) (hown : s.vm.findClass R_MA = some m.cls) (hK : va_K D vwCl TY s) (hP : va_P D vwCl ws H) (q0 : Nat) {fs : List Value} (he : ws[q0]? = some (a, .inr (2, fs))) {v : Value} (hv : fs[4]? = some v) (hdg : decode cc pc = .ok (.getfield 28, 3)) (kk : W p l e R s m args below meth c H locs cells slots Q (F0 m (pc + 3) ls (v :: rest))) : W p l e R s m args below meth c H locs cells slots Q (F0 m pc ls (.ref a :: rest)) :=
  va_get (D := D) (ci := 2) (C := R_MA) (T := F_MA) (N := 7) hx hb hts i_MA hown hK hP q0 he rfl 4 (by decide) (hts _ k_5) (fun _ h9 => h9) hv hdg kk
theorem gf_MA_31 (hx : p.tables.exec = Jvm.exec) (hb : c.code = cc) (hts : ∀ w ∈ wsG, w.before args s = true) (hown : s.vm.findClass R_MA = some m.cls) (hK : va_K D vwCl TY s) (hP : va_P D vwCl ws H) (q0 : Nat) {fs : List Value} (he : ws[q0]? = some (a, .inr (2, fs))) {v : Value} (hv : fs[5]? = some v) (hdg : decode cc pc = .ok (.getfield 31, 3)) (kk : W p l e R s m args below meth c H locs cells slots Q (F0 m (pc + 3) ls (v :: rest))) : W p l e R s m args below meth c H locs cells slots Q (F0 m pc ls (.ref a :: rest)) :=
  va_get (D := D) (ci := 2) (C := R_MA) (T := F_MA) (N := 7) hx hb hts i_MA hown hK hP q0 he rfl 5 (by decide) (hts _ k_6) (fun _ h9 => h9) hv hdg kk
theorem gf_MA_24 (hx : p.tables.exec = Jvm.exec) (hb : c.code = cc) (hts : ∀ w ∈ wsG, w.before args s = true) (hown : s.vm.findClass R_MA = some m.cls) (hK : va_K D vwCl TY s) (hP : va_P D vwCl ws H) (q0 : Nat) {fs : List Value} (he : ws[q0]? = some (a, .inr (2, fs))) {v : Value} (hv : fs[3]? = some v) (hdg : decode cc pc = .ok (.getfield 24, 3)) (kk : W p l e R s m args below meth c H locs cells slots Q (F0 m (pc + 3) ls (v :: rest))) : W p l e R s m args below meth c H locs cells slots Q (F0 m pc ls (.ref a :: rest)) :=
  va_get (D := D) (ci := 2) (C := R_MA) (T := F_MA) (N := 7) hx hb hts i_MA hown hK hP q0 he rfl 3 (by decide) (hts _ k_7) (fun _ h9 => h9) hv hdg kk
theorem gf_MA_9 (hx : p.tables.exec = Jvm.exec) (hb : c.code = cc) (hts : ∀ w ∈ wsG, w.before args s = true) (hown : s.vm.findClass R_MA = some m.cls) (hK : va_K D vwCl TY s) (hP : va_P D vwCl ws H) (q0 : Nat) {fs : List Value} (he : ws[q0]? = some (a, .inr (2, fs))) {v : Value} (hv : fs[0]? = some v) (hdg : decode cc pc = .ok (.getfield 9, 3)) (kk : W p l e R s m args below meth c H locs cells slots Q (F0 m (pc + 3) ls (v :: rest))) : W p l e R s m args below meth c H locs cells slots Q (F0 m pc ls (.ref a :: rest)) :=
  va_get (D := D) (ci := 2) (C := R_MA) (T := F_MA) (N := 7) hx hb hts i_MA hown hK hP q0 he rfl 0 (by decide) (hts _ k_8) (fun _ h9 => h9) hv hdg kk
theorem gf_MA_15 (hx : p.tables.exec = Jvm.exec) (hb : c.code = cc) (hts : ∀ w ∈ wsG, w.before args s = true) (hown : s.vm.findClass R_MA = some m.cls) (hK : va_K D vwCl TY s) (hP : va_P D vwCl ws H) (q0 : Nat) {fs : List Value} (he : ws[q0]? = some (a, .inr (2, fs))) {v : Value} (hv : fs[1]? = some v) (hdg : decode cc pc = .ok (.getfield 15, 3)) (kk : W p l e R s m args below meth c H locs cells slots Q (F0 m (pc + 3) ls (v :: rest))) : W p l e R s m args below meth c H locs cells slots Q (F0 m pc ls (.ref a :: rest)) :=
  va_get (D := D) (ci := 2) (C := R_MA) (T := F_MA) (N := 7) hx hb hts i_MA hown hK hP q0 he rfl 1 (by decide) (hts _ k_9) (fun _ h9 => h9) hv hdg kk
theorem pf_MA_28 (hx : p.tables.exec = Jvm.exec) (hb : c.code = cc) (hts : ∀ w ∈ wsG, w.before args s = true) (hown : s.vm.findClass R_MA = some m.cls) (hK : va_K D vwCl TY s) (hP : va_P D vwCl ws H) (hD : va_D A ws) (hS : va_S A H0 H locs) (q0 : Nat) {fs : List Value} {v : Value} (he : ws[q0]? = some (a, .inr (2, fs))) (hn : narrow (.int) v = v) (hfit : fits (.int) v = true) (hl : 4 < fs.length) (hdg : decode cc pc = .ok (.putfield 28, 3)) (kk : ∀ (H1 : Heap) (locs1 : List Loc), va_P D vwCl (ws.set q0 (a, .inr (2, fs.set 4 v))) H1 → va_D A (ws.set q0 (a, .inr (2, fs.set 4 v))) → va_S A H0 H1 locs1 → W p l e R s m args below meth c H1 locs1 cells slots Q (F0 m (pc + 3) ls rest)) : W p l e R s m args below meth c H locs cells slots Q (F0 m pc ls (v :: .ref a :: rest)) :=
  va_put (D := D) (ci := 2) (v := v) (ty := .int) (C := R_MA) (T := F_MA) (N := 7) hx hb hts i_MA t_MA t_MA_ok n_MA hown hK hP hD hS q0 he rfl 4 (by decide) (hts _ k_5) (fun _ h9 => h9) rfl (by decide +kernel) hn hfit hl hdg kk
theorem pf_MA_24 (hx : p.tables.exec = Jvm.exec) (hb : c.code = cc) (hts : ∀ w ∈ wsG, w.before args s = true) (hown : s.vm.findClass R_MA = some m.cls) (hK : va_K D vwCl TY s) (hP : va_P D vwCl ws H) (hD : va_D A ws) (hS : va_S A H0 H locs) (q0 : Nat) {fs : List Value} {v : Value} (he : ws[q0]? = some (a, .inr (2, fs))) (hn : narrow (.int) v = v) (hfit : fits (.int) v = true) (hl : 3 < fs.length) (hdg : decode cc pc = .ok (.putfield 24, 3)) (kk : ∀ (H1 : Heap) (locs1 : List Loc), va_P D vwCl (ws.set q0 (a, .inr (2, fs.set 3 v))) H1 → va_D A (ws.set q0 (a, .inr (2, fs.set 3 v))) → va_S A H0 H1 locs1 → W p l e R s m args below meth c H1 locs1 cells slots Q (F0 m (pc + 3) ls rest)) : W p l e R s m args below meth c H locs cells slots Q (F0 m pc ls (v :: .ref a :: rest)) :=
  va_put (D := D) (ci := 2) (v := v) (ty := .int) (C := R_MA) (T := F_MA) (N := 7) hx hb hts i_MA t_MA t_MA_ok n_MA hown hK hP hD hS q0 he rfl 3 (by decide) (hts _ k_7) (fun _ h9 => h9) rfl (by decide +kernel) hn hfit hl hdg kk
theorem cw_TR_15 {rm : Room} (hts : ∀ w ∈ wsG, w.before args s = true) (hR : rm.frames + 1 ≤ R.frames ∧ 8 + (4 + 11) + rm.locals ≤ R.locals) : CallW R s args R_TR R_TR 15 y_TR_length b_TR_length 4 (some .int) (.code y_TR_length b_TR_length 4 (some .int) :: wsG) rm rm.cells rm.slots 1 :=
  ky_cwV 1 hts k_10 k_11 k_13 k_14 k_12 (by decide +kernel) hR
theorem cw_MA_38 {rm : Room} (hts : ∀ w ∈ wsG, w.before args s = true) (hR : rm.frames + 1 ≤ R.frames ∧ 8 + (1 + 11) + rm.locals ≤ R.locals) : CallW R s args R_MA R_MA 38 y_MA_states b_MA_states 1 (some .int) (.code y_MA_states b_MA_states 1 (some .int) :: wsG) rm rm.cells rm.slots 0 :=
  ky_cwV 0 hts k_15 k_16 k_18 k_19 k_17 (by decide +kernel) hR
theorem cw_MA_42 {rm : Room} (hts : ∀ w ∈ wsG, w.before args s = true) (hR : rm.frames + 1 ≤ R.frames ∧ 8 + (2 + 11) + rm.locals ≤ R.locals) : CallW R s args R_MA R_MA 42 y_MA_hasOperand b_MA_hasOperand 2 (some .boolean) (.code y_MA_hasOperand b_MA_hasOperand 2 (some .boolean) :: wsG) rm rm.cells rm.slots 1 :=
  ky_cwV 1 hts k_20 k_21 k_22 k_23 k_17 (by decide +kernel) hR
end Sites

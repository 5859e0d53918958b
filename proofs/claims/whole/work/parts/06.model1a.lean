abbrev b_MO_thrown : ByteArray := prog_9_method_2_code
def y_MO_thrown : MethodName := ⟨R_MO, "thrown", "()I"⟩
abbrev b_MO_fail : ByteArray := prog_9_method_3_code
def y_MO_fail : MethodName := ⟨R_MO, "fail", "(I)I"⟩
abbrev b_MO_within : ByteArray := prog_9_method_4_code
def y_MO_within : MethodName := ⟨R_MO, "within", "(III)Z"⟩
abbrev b_MO_register : ByteArray := prog_9_method_5_code
def y_MO_register : MethodName := ⟨R_MO, "register", "(I)I"⟩
abbrev b_MO_isOperand : ByteArray := prog_9_method_6_code
def y_MO_isOperand : MethodName := ⟨R_MO, "isOperand", "(I)Z"⟩
abbrev b_MO_isExpression : ByteArray := prog_9_method_7_code
def y_MO_isExpression : MethodName := ⟨R_MO, "isExpression", "(III)Z"⟩
abbrev b_MO_input : ByteArray := prog_9_method_8_code
def y_MO_input : MethodName := ⟨R_MO, "input", "(III)I"⟩
abbrev b_MO_transfer : ByteArray := prog_9_method_9_code
def y_MO_transfer : MethodName := ⟨R_MO, "transfer", "(IIIII)I"⟩
abbrev b_MO_isState : ByteArray := prog_9_method_10_code
def y_MO_isState : MethodName := ⟨R_MO, "isState", "(I)Z"⟩
abbrev b_MO_first : ByteArray := prog_9_method_11_code
def y_MO_first : MethodName := ⟨R_MO, "first", "(I)I"⟩
abbrev b_MO_valueOf : ByteArray := prog_9_method_12_code
def y_MO_valueOf : MethodName := ⟨R_MO, "valueOf", "(II)I"⟩
abbrev b_MO_result : ByteArray := prog_9_method_13_code
def y_MO_result : MethodName := ⟨R_MO, "result", "(IIII)I"⟩
abbrev b_MO_stepOf : ByteArray := prog_9_method_14_code
def y_MO_stepOf : MethodName := ⟨R_MO, "stepOf", "(II)I"⟩
abbrev b_MO_outputOf : ByteArray := prog_9_method_15_code
def y_MO_outputOf : MethodName := ⟨R_MO, "outputOf", "(II)I"⟩
abbrev b_MO_step : ByteArray := prog_9_method_16_code
def y_MO_step : MethodName := ⟨R_MO, "step", "(II)I"⟩
abbrev b_MO_output : ByteArray := prog_9_method_17_code
def y_MO_output : MethodName := ⟨R_MO, "output", "(II)I"⟩
abbrev b_MO_come : ByteArray := prog_9_method_18_code
def y_MO_come : MethodName := ⟨R_MO, "come", "(III)V"⟩
abbrev b_MO_walk : ByteArray := prog_9_method_19_code
def y_MO_walk : MethodName := ⟨R_MO, "walk", "()V"⟩
theorem k_24 : Cond.fieldLink R_MO 101 R_MO "thrown" "I" ∈ wsG := by decide +kernel
theorem k_25 : Cond.fieldLink R_MO 112 R_MO "inputs" "I" ∈ wsG := by decide +kernel
theorem k_26 : Cond.fieldLink R_MO 115 R_MO "registers" "I" ∈ wsG := by decide +kernel
theorem k_27 : Cond.fieldLink R_MO 118 R_MO "bits" "I" ∈ wsG := by decide +kernel
theorem k_28 : Cond.fieldLink R_MO 7 R_MO "width" "[I" ∈ wsG := by decide +kernel
theorem k_29 : Cond.fieldLink R_MO 13 R_MO "shift" "[I" ∈ wsG := by decide +kernel
theorem k_30 : Cond.fieldLink R_MO 121 R_MO "isFresh" "Z" ∈ wsG := by decide +kernel
theorem k_31 : Cond.fieldLink R_MO 16 R_MO "outOp" "[I" ∈ wsG := by decide +kernel
theorem k_32 : Cond.fieldLink R_MO 19 R_MO "outA" "[I" ∈ wsG := by decide +kernel
theorem k_33 : Cond.fieldLink R_MO 22 R_MO "outB" "[I" ∈ wsG := by decide +kernel
theorem k_34 : Cond.fieldLink R_MO 25 R_MO "transfers" "[I" ∈ wsG := by decide +kernel
theorem k_35 : Cond.fieldLink R_MO 28 R_MO "to" "[I" ∈ wsG := by decide +kernel
theorem k_36 : Cond.fieldLink R_MO 31 R_MO "op" "[I" ∈ wsG := by decide +kernel
theorem k_37 : Cond.fieldLink R_MO 34 R_MO "opA" "[I" ∈ wsG := by decide +kernel
theorem k_38 : Cond.fieldLink R_MO 37 R_MO "opB" "[I" ∈ wsG := by decide +kernel
theorem k_39 : Cond.fieldLink R_MO 135 R_MO "first" "I" ∈ wsG := by decide +kernel
theorem k_40 : Cond.fieldLink R_MO 46 R_MO "state" "[I" ∈ wsG := by decide +kernel
theorem k_41 : Cond.fieldLink R_MO 152 R_MO "walked" "I" ∈ wsG := by decide +kernel
theorem k_42 : Cond.fieldLink R_MO 49 R_MO "from" "[I" ∈ wsG := by decide +kernel
theorem k_43 : Cond.fieldLink R_MO 52 R_MO "by" "[I" ∈ wsG := by decide +kernel
theorem k_44 : Cond.fieldLink R_MO 55 R_MO "depth" "[I" ∈ wsG := by decide +kernel
theorem k_45 : Cond.fieldLink R_MO 58 R_MO "number" "[I" ∈ wsG := by decide +kernel
theorem k_46 : Cond.fieldLink R_MO 155 R_MO "isRoom" "Z" ∈ wsG := by decide +kernel
theorem k_47 : Cond.fieldLink R_MO 40 R_MO "next" "[I" ∈ wsG := by decide +kernel
theorem k_48 : Cond.fieldLink R_MO 97 R_MO "room" "I" ∈ wsG := by decide +kernel
theorem k_49 : Cond.code y_MO_within b_MO_within 3 (some .boolean) ∈ wsG := by decide +kernel
theorem k_50 : Cond.methodLink R_MO 104 y_MO_within ∈ wsG := by decide +kernel
theorem k_51 : Cond.initialized R_MO ∈ wsG := by decide +kernel
theorem k_52 : Cond.static y_MO_within ∈ wsG := by decide +kernel
theorem k_53 : Cond.code y_MO_fail b_MO_fail 2 (some .int) ∈ wsG := by decide +kernel
theorem k_54 : Cond.methodLink R_MO 108 y_MO_fail ∈ wsG := by decide +kernel
theorem k_55 : Cond.instanceMethod y_MO_fail ∈ wsG := by decide +kernel
theorem k_56 : Cond.selects R_MO y_MO_fail y_MO_fail ∈ wsG := by decide +kernel
theorem k_57 : Cond.code y_MO_isOperand b_MO_isOperand 2 (some .boolean) ∈ wsG := by decide +kernel
theorem k_58 : Cond.methodLink R_MO 125 y_MO_isOperand ∈ wsG := by decide +kernel
theorem k_59 : Cond.instanceMethod y_MO_isOperand ∈ wsG := by decide +kernel
theorem k_60 : Cond.selects R_MO y_MO_isOperand y_MO_isOperand ∈ wsG := by decide +kernel
theorem k_61 : Cond.code y_MO_isExpression b_MO_isExpression 4 (some .boolean) ∈ wsG := by decide +kernel
theorem k_62 : Cond.methodLink R_MO 129 y_MO_isExpression ∈ wsG := by decide +kernel
theorem k_63 : Cond.instanceMethod y_MO_isExpression ∈ wsG := by decide +kernel
theorem k_64 : Cond.selects R_MO y_MO_isExpression y_MO_isExpression ∈ wsG := by decide +kernel
theorem k_65 : Cond.code y_MO_isState b_MO_isState 2 (some .boolean) ∈ wsG := by decide +kernel
theorem k_66 : Cond.methodLink R_MO 132 y_MO_isState ∈ wsG := by decide +kernel
theorem k_67 : Cond.instanceMethod y_MO_isState ∈ wsG := by decide +kernel
theorem k_68 : Cond.selects R_MO y_MO_isState y_MO_isState ∈ wsG := by decide +kernel
theorem k_69 : Cond.code y_MO_valueOf b_MO_valueOf 3 (some .int) ∈ wsG := by decide +kernel
theorem k_70 : Cond.methodLink R_MO 138 y_MO_valueOf ∈ wsG := by decide +kernel
theorem k_71 : Cond.instanceMethod y_MO_valueOf ∈ wsG := by decide +kernel
theorem k_72 : Cond.selects R_MO y_MO_valueOf y_MO_valueOf ∈ wsG := by decide +kernel
theorem k_73 : Cond.code y_MO_result b_MO_result 7 (some .int) ∈ wsG := by decide +kernel
theorem k_74 : Cond.methodLink R_MO 142 y_MO_result ∈ wsG := by decide +kernel
theorem k_75 : Cond.instanceMethod y_MO_result ∈ wsG := by decide +kernel
theorem k_76 : Cond.selects R_MO y_MO_result y_MO_result ∈ wsG := by decide +kernel
theorem k_77 : Cond.code y_MO_stepOf b_MO_stepOf 7 (some .int) ∈ wsG := by decide +kernel
theorem k_78 : Cond.methodLink R_MO 146 y_MO_stepOf ∈ wsG := by decide +kernel
theorem k_79 : Cond.instanceMethod y_MO_stepOf ∈ wsG := by decide +kernel
theorem k_80 : Cond.selects R_MO y_MO_stepOf y_MO_stepOf ∈ wsG := by decide +kernel
theorem k_81 : Cond.code y_MO_outputOf b_MO_outputOf 3 (some .int) ∈ wsG := by decide +kernel
theorem k_82 : Cond.methodLink R_MO 149 y_MO_outputOf ∈ wsG := by decide +kernel
theorem k_83 : Cond.instanceMethod y_MO_outputOf ∈ wsG := by decide +kernel
theorem k_84 : Cond.selects R_MO y_MO_outputOf y_MO_outputOf ∈ wsG := by decide +kernel
theorem k_85 : Cond.code y_MO_come b_MO_come 4 none ∈ wsG := by decide +kernel
theorem k_86 : Cond.methodLink R_MO 158 y_MO_come ∈ wsG := by decide +kernel
theorem k_87 : Cond.instanceMethod y_MO_come ∈ wsG := by decide +kernel
theorem k_88 : Cond.selects R_MO y_MO_come y_MO_come ∈ wsG := by decide +kernel
theorem d_MO_thrown_0 : decode b_MO_thrown 0 = .ok (.aload_n 0, 1) := by decide +kernel
theorem d_MO_thrown_1 : decode b_MO_thrown 1 = .ok (.getfield 101, 3) := by decide +kernel
theorem d_MO_thrown_4 : decode b_MO_thrown 4 = .ok (.ireturn, 1) := by decide +kernel
theorem d_MO_fail_0 : decode b_MO_fail 0 = .ok (.aload_n 0, 1) := by decide +kernel
theorem d_MO_fail_1 : decode b_MO_fail 1 = .ok (.iload_n 1, 1) := by decide +kernel
theorem d_MO_fail_2 : decode b_MO_fail 2 = .ok (.putfield 101, 3) := by decide +kernel
theorem d_MO_fail_5 : decode b_MO_fail 5 = .ok (.iconst 0, 1) := by decide +kernel
theorem d_MO_fail_6 : decode b_MO_fail 6 = .ok (.ireturn, 1) := by decide +kernel
theorem d_MO_within_0 : decode b_MO_within 0 = .ok (.iload_n 0, 1) := by decide +kernel
theorem d_MO_within_1 : decode b_MO_within 1 = .ok (.iload_n 1, 1) := by decide +kernel
theorem d_MO_within_2 : decode b_MO_within 2 = .ok (.if_icmp .lt 12, 3) := by decide +kernel
theorem d_MO_within_5 : decode b_MO_within 5 = .ok (.iload_n 0, 1) := by decide +kernel
theorem d_MO_within_6 : decode b_MO_within 6 = .ok (.iload_n 2, 1) := by decide +kernel
theorem d_MO_within_7 : decode b_MO_within 7 = .ok (.if_icmp .gt 7, 3) := by decide +kernel
theorem d_MO_within_10 : decode b_MO_within 10 = .ok (.iconst 1, 1) := by decide +kernel
theorem d_MO_within_11 : decode b_MO_within 11 = .ok (.goto 4, 3) := by decide +kernel
theorem d_MO_within_14 : decode b_MO_within 14 = .ok (.iconst 0, 1) := by decide +kernel
theorem d_MO_within_15 : decode b_MO_within 15 = .ok (.ireturn, 1) := by decide +kernel
theorem d_MO_register_0 : decode b_MO_register 0 = .ok (.aload_n 0, 1) := by decide +kernel
theorem d_MO_register_1 : decode b_MO_register 1 = .ok (.iconst 0, 1) := by decide +kernel
theorem d_MO_register_2 : decode b_MO_register 2 = .ok (.putfield 101, 3) := by decide +kernel
theorem d_MO_register_5 : decode b_MO_register 5 = .ok (.iload_n 1, 1) := by decide +kernel
theorem d_MO_register_6 : decode b_MO_register 6 = .ok (.iconst 1, 1) := by decide +kernel
theorem d_MO_register_7 : decode b_MO_register 7 = .ok (.iconst 4, 1) := by decide +kernel
theorem d_MO_register_8 : decode b_MO_register 8 = .ok (.invokestatic 104, 3) := by decide +kernel
theorem d_MO_register_11 : decode b_MO_register 11 = .ok (.ifCond .ne 9, 3) := by decide +kernel
theorem d_MO_register_14 : decode b_MO_register 14 = .ok (.aload_n 0, 1) := by decide +kernel
theorem d_MO_register_15 : decode b_MO_register 15 = .ok (.iconst 1, 1) := by decide +kernel
theorem d_MO_register_16 : decode b_MO_register 16 = .ok (.invokevirtual 108, 3) := by decide +kernel
theorem d_MO_register_19 : decode b_MO_register 19 = .ok (.ireturn, 1) := by decide +kernel
theorem d_MO_register_20 : decode b_MO_register 20 = .ok (.aload_n 0, 1) := by decide +kernel
theorem d_MO_register_21 : decode b_MO_register 21 = .ok (.getfield 112, 3) := by decide +kernel
theorem d_MO_register_24 : decode b_MO_register 24 = .ok (.ifCond .le 9, 3) := by decide +kernel
theorem d_MO_register_27 : decode b_MO_register 27 = .ok (.aload_n 0, 1) := by decide +kernel
theorem d_MO_register_28 : decode b_MO_register 28 = .ok (.iconst 2, 1) := by decide +kernel
theorem d_MO_register_29 : decode b_MO_register 29 = .ok (.invokevirtual 108, 3) := by decide +kernel
theorem d_MO_register_32 : decode b_MO_register 32 = .ok (.ireturn, 1) := by decide +kernel
theorem d_MO_register_33 : decode b_MO_register 33 = .ok (.aload_n 0, 1) := by decide +kernel
theorem d_MO_register_34 : decode b_MO_register 34 = .ok (.getfield 115, 3) := by decide +kernel
theorem d_MO_register_37 : decode b_MO_register 37 = .ok (.iconst 4, 1) := by decide +kernel
theorem d_MO_register_38 : decode b_MO_register 38 = .ok (.if_icmp .eq 14, 3) := by decide +kernel
theorem d_MO_register_41 : decode b_MO_register 41 = .ok (.aload_n 0, 1) := by decide +kernel
theorem d_MO_register_42 : decode b_MO_register 42 = .ok (.getfield 118, 3) := by decide +kernel
theorem d_MO_register_45 : decode b_MO_register 45 = .ok (.iload_n 1, 1) := by decide +kernel
theorem d_MO_register_46 : decode b_MO_register 46 = .ok (.iadd, 1) := by decide +kernel
theorem d_MO_register_47 : decode b_MO_register 47 = .ok (.bipush 12, 2) := by decide +kernel
theorem d_MO_register_49 : decode b_MO_register 49 = .ok (.if_icmp .le 9, 3) := by decide +kernel
theorem d_MO_register_52 : decode b_MO_register 52 = .ok (.aload_n 0, 1) := by decide +kernel
theorem d_MO_register_53 : decode b_MO_register 53 = .ok (.iconst 3, 1) := by decide +kernel
theorem d_MO_register_54 : decode b_MO_register 54 = .ok (.invokevirtual 108, 3) := by decide +kernel
theorem d_MO_register_57 : decode b_MO_register 57 = .ok (.ireturn, 1) := by decide +kernel
theorem d_MO_register_58 : decode b_MO_register 58 = .ok (.aload_n 0, 1) := by decide +kernel
theorem d_MO_register_59 : decode b_MO_register 59 = .ok (.getfield 7, 3) := by decide +kernel
theorem d_MO_register_62 : decode b_MO_register 62 = .ok (.aload_n 0, 1) := by decide +kernel
theorem d_MO_register_63 : decode b_MO_register 63 = .ok (.getfield 115, 3) := by decide +kernel
theorem d_MO_register_66 : decode b_MO_register 66 = .ok (.iload_n 1, 1) := by decide +kernel
theorem d_MO_register_67 : decode b_MO_register 67 = .ok (.iastore, 1) := by decide +kernel
theorem d_MO_register_68 : decode b_MO_register 68 = .ok (.aload_n 0, 1) := by decide +kernel
theorem d_MO_register_69 : decode b_MO_register 69 = .ok (.getfield 13, 3) := by decide +kernel
theorem d_MO_register_72 : decode b_MO_register 72 = .ok (.aload_n 0, 1) := by decide +kernel
theorem d_MO_register_73 : decode b_MO_register 73 = .ok (.getfield 115, 3) := by decide +kernel
theorem d_MO_register_76 : decode b_MO_register 76 = .ok (.aload_n 0, 1) := by decide +kernel
theorem d_MO_register_77 : decode b_MO_register 77 = .ok (.getfield 118, 3) := by decide +kernel
theorem d_MO_register_80 : decode b_MO_register 80 = .ok (.iastore, 1) := by decide +kernel
theorem d_MO_register_81 : decode b_MO_register 81 = .ok (.aload_n 0, 1) := by decide +kernel
theorem d_MO_register_82 : decode b_MO_register 82 = .ok (.dup, 1) := by decide +kernel
theorem d_MO_register_83 : decode b_MO_register 83 = .ok (.getfield 118, 3) := by decide +kernel
theorem d_MO_register_86 : decode b_MO_register 86 = .ok (.iload_n 1, 1) := by decide +kernel
theorem d_MO_register_87 : decode b_MO_register 87 = .ok (.iadd, 1) := by decide +kernel
theorem d_MO_register_88 : decode b_MO_register 88 = .ok (.putfield 118, 3) := by decide +kernel
theorem d_MO_register_91 : decode b_MO_register 91 = .ok (.aload_n 0, 1) := by decide +kernel
theorem d_MO_register_92 : decode b_MO_register 92 = .ok (.dup, 1) := by decide +kernel
theorem d_MO_register_93 : decode b_MO_register 93 = .ok (.getfield 115, 3) := by decide +kernel
theorem d_MO_register_96 : decode b_MO_register 96 = .ok (.iconst 1, 1) := by decide +kernel
theorem d_MO_register_97 : decode b_MO_register 97 = .ok (.iadd, 1) := by decide +kernel
theorem d_MO_register_98 : decode b_MO_register 98 = .ok (.putfield 115, 3) := by decide +kernel
theorem d_MO_register_101 : decode b_MO_register 101 = .ok (.aload_n 0, 1) := by decide +kernel
theorem d_MO_register_102 : decode b_MO_register 102 = .ok (.iconst 0, 1) := by decide +kernel
theorem d_MO_register_103 : decode b_MO_register 103 = .ok (.putfield 121, 3) := by decide +kernel
theorem d_MO_register_106 : decode b_MO_register 106 = .ok (.aload_n 0, 1) := by decide +kernel
theorem d_MO_register_107 : decode b_MO_register 107 = .ok (.getfield 115, 3) := by decide +kernel
theorem d_MO_register_110 : decode b_MO_register 110 = .ok (.iconst 1, 1) := by decide +kernel
theorem d_MO_register_111 : decode b_MO_register 111 = .ok (.isub, 1) := by decide +kernel
theorem d_MO_register_112 : decode b_MO_register 112 = .ok (.ireturn, 1) := by decide +kernel
theorem d_MO_isOperand_0 : decode b_MO_isOperand 0 = .ok (.iload_n 1, 1) := by decide +kernel
theorem d_MO_isOperand_1 : decode b_MO_isOperand 1 = .ok (.bipush (-16), 2) := by decide +kernel
theorem d_MO_isOperand_3 : decode b_MO_isOperand 3 = .ok (.aload_n 0, 1) := by decide +kernel
theorem d_MO_isOperand_4 : decode b_MO_isOperand 4 = .ok (.getfield 115, 3) := by decide +kernel
theorem d_MO_isOperand_7 : decode b_MO_isOperand 7 = .ok (.iconst 1, 1) := by decide +kernel
theorem d_MO_isOperand_8 : decode b_MO_isOperand 8 = .ok (.isub, 1) := by decide +kernel
theorem d_MO_isOperand_9 : decode b_MO_isOperand 9 = .ok (.invokestatic 104, 3) := by decide +kernel
theorem d_MO_isOperand_12 : decode b_MO_isOperand 12 = .ok (.ireturn, 1) := by decide +kernel
theorem d_MO_isExpression_0 : decode b_MO_isExpression 0 = .ok (.iload_n 1, 1) := by decide +kernel
theorem d_MO_isExpression_1 : decode b_MO_isExpression 1 = .ok (.iconst 0, 1) := by decide +kernel
theorem d_MO_isExpression_2 : decode b_MO_isExpression 2 = .ok (.bipush 9, 2) := by decide +kernel
theorem d_MO_isExpression_4 : decode b_MO_isExpression 4 = .ok (.invokestatic 104, 3) := by decide +kernel
theorem d_MO_isExpression_7 : decode b_MO_isExpression 7 = .ok (.ifCond .eq 23, 3) := by decide +kernel
theorem d_MO_isExpression_10 : decode b_MO_isExpression 10 = .ok (.aload_n 0, 1) := by decide +kernel
theorem d_MO_isExpression_11 : decode b_MO_isExpression 11 = .ok (.iload_n 2, 1) := by decide +kernel
theorem d_MO_isExpression_12 : decode b_MO_isExpression 12 = .ok (.invokevirtual 125, 3) := by decide +kernel
theorem d_MO_isExpression_15 : decode b_MO_isExpression 15 = .ok (.ifCond .eq 15, 3) := by decide +kernel
theorem d_MO_isExpression_18 : decode b_MO_isExpression 18 = .ok (.aload_n 0, 1) := by decide +kernel
theorem d_MO_isExpression_19 : decode b_MO_isExpression 19 = .ok (.iload_n 3, 1) := by decide +kernel
theorem d_MO_isExpression_20 : decode b_MO_isExpression 20 = .ok (.invokevirtual 125, 3) := by decide +kernel
theorem d_MO_isExpression_23 : decode b_MO_isExpression 23 = .ok (.ifCond .eq 7, 3) := by decide +kernel
theorem d_MO_isExpression_26 : decode b_MO_isExpression 26 = .ok (.iconst 1, 1) := by decide +kernel
theorem d_MO_isExpression_27 : decode b_MO_isExpression 27 = .ok (.goto 4, 3) := by decide +kernel
theorem d_MO_isExpression_30 : decode b_MO_isExpression 30 = .ok (.iconst 0, 1) := by decide +kernel
theorem d_MO_isExpression_31 : decode b_MO_isExpression 31 = .ok (.ireturn, 1) := by decide +kernel
theorem d_MO_input_0 : decode b_MO_input 0 = .ok (.aload_n 0, 1) := by decide +kernel
theorem d_MO_input_1 : decode b_MO_input 1 = .ok (.iconst 0, 1) := by decide +kernel
theorem d_MO_input_2 : decode b_MO_input 2 = .ok (.putfield 101, 3) := by decide +kernel
theorem d_MO_input_5 : decode b_MO_input 5 = .ok (.aload_n 0, 1) := by decide +kernel
theorem d_MO_input_6 : decode b_MO_input 6 = .ok (.iload_n 1, 1) := by decide +kernel
theorem d_MO_input_7 : decode b_MO_input 7 = .ok (.iload_n 2, 1) := by decide +kernel
theorem d_MO_input_8 : decode b_MO_input 8 = .ok (.iload_n 3, 1) := by decide +kernel
theorem d_MO_input_9 : decode b_MO_input 9 = .ok (.invokevirtual 129, 3) := by decide +kernel
theorem d_MO_input_12 : decode b_MO_input 12 = .ok (.ifCond .ne 9, 3) := by decide +kernel
theorem d_MO_input_15 : decode b_MO_input 15 = .ok (.aload_n 0, 1) := by decide +kernel
theorem d_MO_input_16 : decode b_MO_input 16 = .ok (.iconst 1, 1) := by decide +kernel
theorem d_MO_input_17 : decode b_MO_input 17 = .ok (.invokevirtual 108, 3) := by decide +kernel
theorem d_MO_input_20 : decode b_MO_input 20 = .ok (.ireturn, 1) := by decide +kernel
theorem d_MO_input_21 : decode b_MO_input 21 = .ok (.aload_n 0, 1) := by decide +kernel
theorem d_MO_input_22 : decode b_MO_input 22 = .ok (.getfield 112, 3) := by decide +kernel
theorem d_MO_input_25 : decode b_MO_input 25 = .ok (.iconst 4, 1) := by decide +kernel
theorem d_MO_input_26 : decode b_MO_input 26 = .ok (.if_icmp .ne 9, 3) := by decide +kernel
theorem d_MO_input_29 : decode b_MO_input 29 = .ok (.aload_n 0, 1) := by decide +kernel
theorem d_MO_input_30 : decode b_MO_input 30 = .ok (.iconst 2, 1) := by decide +kernel
theorem d_MO_input_31 : decode b_MO_input 31 = .ok (.invokevirtual 108, 3) := by decide +kernel
theorem d_MO_input_34 : decode b_MO_input 34 = .ok (.ireturn, 1) := by decide +kernel
theorem d_MO_input_35 : decode b_MO_input 35 = .ok (.aload_n 0, 1) := by decide +kernel
theorem d_MO_input_36 : decode b_MO_input 36 = .ok (.getfield 16, 3) := by decide +kernel
theorem d_MO_input_39 : decode b_MO_input 39 = .ok (.aload_n 0, 1) := by decide +kernel
theorem d_MO_input_40 : decode b_MO_input 40 = .ok (.getfield 112, 3) := by decide +kernel
theorem d_MO_input_43 : decode b_MO_input 43 = .ok (.iload_n 1, 1) := by decide +kernel
theorem d_MO_input_44 : decode b_MO_input 44 = .ok (.iastore, 1) := by decide +kernel
theorem d_MO_input_45 : decode b_MO_input 45 = .ok (.aload_n 0, 1) := by decide +kernel
theorem d_MO_input_46 : decode b_MO_input 46 = .ok (.getfield 19, 3) := by decide +kernel
theorem d_MO_input_49 : decode b_MO_input 49 = .ok (.aload_n 0, 1) := by decide +kernel
theorem d_MO_input_50 : decode b_MO_input 50 = .ok (.getfield 112, 3) := by decide +kernel
theorem d_MO_input_53 : decode b_MO_input 53 = .ok (.iload_n 2, 1) := by decide +kernel
theorem d_MO_input_54 : decode b_MO_input 54 = .ok (.iastore, 1) := by decide +kernel
theorem d_MO_input_55 : decode b_MO_input 55 = .ok (.aload_n 0, 1) := by decide +kernel
theorem d_MO_input_56 : decode b_MO_input 56 = .ok (.getfield 22, 3) := by decide +kernel
theorem d_MO_input_59 : decode b_MO_input 59 = .ok (.aload_n 0, 1) := by decide +kernel
theorem d_MO_input_60 : decode b_MO_input 60 = .ok (.getfield 112, 3) := by decide +kernel
theorem d_MO_input_63 : decode b_MO_input 63 = .ok (.iload_n 3, 1) := by decide +kernel
theorem d_MO_input_64 : decode b_MO_input 64 = .ok (.iastore, 1) := by decide +kernel
theorem d_MO_input_65 : decode b_MO_input 65 = .ok (.aload_n 0, 1) := by decide +kernel
theorem d_MO_input_66 : decode b_MO_input 66 = .ok (.dup, 1) := by decide +kernel
theorem d_MO_input_67 : decode b_MO_input 67 = .ok (.getfield 112, 3) := by decide +kernel
theorem d_MO_input_70 : decode b_MO_input 70 = .ok (.iconst 1, 1) := by decide +kernel
theorem d_MO_input_71 : decode b_MO_input 71 = .ok (.iadd, 1) := by decide +kernel
theorem d_MO_input_72 : decode b_MO_input 72 = .ok (.putfield 112, 3) := by decide +kernel
theorem d_MO_input_75 : decode b_MO_input 75 = .ok (.aload_n 0, 1) := by decide +kernel
theorem d_MO_input_76 : decode b_MO_input 76 = .ok (.iconst 0, 1) := by decide +kernel
theorem d_MO_input_77 : decode b_MO_input 77 = .ok (.putfield 121, 3) := by decide +kernel
theorem d_MO_input_80 : decode b_MO_input 80 = .ok (.aload_n 0, 1) := by decide +kernel
theorem d_MO_input_81 : decode b_MO_input 81 = .ok (.getfield 112, 3) := by decide +kernel
theorem d_MO_input_84 : decode b_MO_input 84 = .ok (.iconst 1, 1) := by decide +kernel
theorem d_MO_input_85 : decode b_MO_input 85 = .ok (.isub, 1) := by decide +kernel
theorem d_MO_input_86 : decode b_MO_input 86 = .ok (.ireturn, 1) := by decide +kernel
theorem d_MO_transfer_0 : decode b_MO_transfer 0 = .ok (.aload_n 0, 1) := by decide +kernel
theorem d_MO_transfer_1 : decode b_MO_transfer 1 = .ok (.iconst 0, 1) := by decide +kernel
theorem d_MO_transfer_2 : decode b_MO_transfer 2 = .ok (.putfield 101, 3) := by decide +kernel
theorem d_MO_transfer_5 : decode b_MO_transfer 5 = .ok (.iload_n 1, 1) := by decide +kernel
theorem d_MO_transfer_6 : decode b_MO_transfer 6 = .ok (.iconst 0, 1) := by decide +kernel
theorem d_MO_transfer_7 : decode b_MO_transfer 7 = .ok (.aload_n 0, 1) := by decide +kernel
theorem d_MO_transfer_8 : decode b_MO_transfer 8 = .ok (.getfield 112, 3) := by decide +kernel
theorem d_MO_transfer_11 : decode b_MO_transfer 11 = .ok (.iconst 1, 1) := by decide +kernel
theorem d_MO_transfer_12 : decode b_MO_transfer 12 = .ok (.isub, 1) := by decide +kernel
theorem d_MO_transfer_13 : decode b_MO_transfer 13 = .ok (.invokestatic 104, 3) := by decide +kernel
theorem d_MO_transfer_16 : decode b_MO_transfer 16 = .ok (.ifCond .eq 29, 3) := by decide +kernel
theorem d_MO_transfer_19 : decode b_MO_transfer 19 = .ok (.iload_n 2, 1) := by decide +kernel
theorem d_MO_transfer_20 : decode b_MO_transfer 20 = .ok (.iconst 0, 1) := by decide +kernel
theorem d_MO_transfer_21 : decode b_MO_transfer 21 = .ok (.aload_n 0, 1) := by decide +kernel
theorem d_MO_transfer_22 : decode b_MO_transfer 22 = .ok (.getfield 115, 3) := by decide +kernel
theorem d_MO_transfer_25 : decode b_MO_transfer 25 = .ok (.iconst 1, 1) := by decide +kernel
theorem d_MO_transfer_26 : decode b_MO_transfer 26 = .ok (.isub, 1) := by decide +kernel
theorem d_MO_transfer_27 : decode b_MO_transfer 27 = .ok (.invokestatic 104, 3) := by decide +kernel
theorem d_MO_transfer_30 : decode b_MO_transfer 30 = .ok (.ifCond .eq 15, 3) := by decide +kernel
theorem d_MO_transfer_33 : decode b_MO_transfer 33 = .ok (.aload_n 0, 1) := by decide +kernel
theorem d_MO_transfer_34 : decode b_MO_transfer 34 = .ok (.iload_n 3, 1) := by decide +kernel
theorem d_MO_transfer_35 : decode b_MO_transfer 35 = .ok (.iload 4, 2) := by decide +kernel
theorem d_MO_transfer_37 : decode b_MO_transfer 37 = .ok (.iload 5, 2) := by decide +kernel
theorem d_MO_transfer_39 : decode b_MO_transfer 39 = .ok (.invokevirtual 129, 3) := by decide +kernel
theorem d_MO_transfer_42 : decode b_MO_transfer 42 = .ok (.ifCond .ne 9, 3) := by decide +kernel
theorem d_MO_transfer_45 : decode b_MO_transfer 45 = .ok (.aload_n 0, 1) := by decide +kernel
theorem d_MO_transfer_46 : decode b_MO_transfer 46 = .ok (.iconst 1, 1) := by decide +kernel
theorem d_MO_transfer_47 : decode b_MO_transfer 47 = .ok (.invokevirtual 108, 3) := by decide +kernel
theorem d_MO_transfer_50 : decode b_MO_transfer 50 = .ok (.ireturn, 1) := by decide +kernel
theorem d_MO_transfer_51 : decode b_MO_transfer 51 = .ok (.aload_n 0, 1) := by decide +kernel
theorem d_MO_transfer_52 : decode b_MO_transfer 52 = .ok (.getfield 25, 3) := by decide +kernel
theorem d_MO_transfer_55 : decode b_MO_transfer 55 = .ok (.iload_n 1, 1) := by decide +kernel
theorem d_MO_transfer_56 : decode b_MO_transfer 56 = .ok (.iaload, 1) := by decide +kernel
theorem d_MO_transfer_57 : decode b_MO_transfer 57 = .ok (.bipush 8, 2) := by decide +kernel
theorem d_MO_transfer_59 : decode b_MO_transfer 59 = .ok (.if_icmp .ne 9, 3) := by decide +kernel
theorem d_MO_transfer_62 : decode b_MO_transfer 62 = .ok (.aload_n 0, 1) := by decide +kernel
theorem d_MO_transfer_63 : decode b_MO_transfer 63 = .ok (.iconst 2, 1) := by decide +kernel
theorem d_MO_transfer_64 : decode b_MO_transfer 64 = .ok (.invokevirtual 108, 3) := by decide +kernel
theorem d_MO_transfer_67 : decode b_MO_transfer 67 = .ok (.ireturn, 1) := by decide +kernel
theorem d_MO_transfer_68 : decode b_MO_transfer 68 = .ok (.bipush 8, 2) := by decide +kernel
theorem d_MO_transfer_70 : decode b_MO_transfer 70 = .ok (.iload_n 1, 1) := by decide +kernel
theorem d_MO_transfer_71 : decode b_MO_transfer 71 = .ok (.imul, 1) := by decide +kernel
theorem d_MO_transfer_72 : decode b_MO_transfer 72 = .ok (.aload_n 0, 1) := by decide +kernel
theorem d_MO_transfer_73 : decode b_MO_transfer 73 = .ok (.getfield 25, 3) := by decide +kernel
theorem d_MO_transfer_76 : decode b_MO_transfer 76 = .ok (.iload_n 1, 1) := by decide +kernel
theorem d_MO_transfer_77 : decode b_MO_transfer 77 = .ok (.iaload, 1) := by decide +kernel
theorem d_MO_transfer_78 : decode b_MO_transfer 78 = .ok (.iadd, 1) := by decide +kernel
theorem d_MO_transfer_79 : decode b_MO_transfer 79 = .ok (.istore 6, 2) := by decide +kernel
theorem d_MO_transfer_81 : decode b_MO_transfer 81 = .ok (.aload_n 0, 1) := by decide +kernel
theorem d_MO_transfer_82 : decode b_MO_transfer 82 = .ok (.getfield 28, 3) := by decide +kernel
theorem d_MO_transfer_85 : decode b_MO_transfer 85 = .ok (.iload 6, 2) := by decide +kernel
theorem d_MO_transfer_87 : decode b_MO_transfer 87 = .ok (.iload_n 2, 1) := by decide +kernel
theorem d_MO_transfer_88 : decode b_MO_transfer 88 = .ok (.iastore, 1) := by decide +kernel
theorem d_MO_transfer_89 : decode b_MO_transfer 89 = .ok (.aload_n 0, 1) := by decide +kernel
theorem d_MO_transfer_90 : decode b_MO_transfer 90 = .ok (.getfield 31, 3) := by decide +kernel
theorem d_MO_transfer_93 : decode b_MO_transfer 93 = .ok (.iload 6, 2) := by decide +kernel
theorem d_MO_transfer_95 : decode b_MO_transfer 95 = .ok (.iload_n 3, 1) := by decide +kernel
theorem d_MO_transfer_96 : decode b_MO_transfer 96 = .ok (.iastore, 1) := by decide +kernel
theorem d_MO_transfer_97 : decode b_MO_transfer 97 = .ok (.aload_n 0, 1) := by decide +kernel
theorem d_MO_transfer_98 : decode b_MO_transfer 98 = .ok (.getfield 34, 3) := by decide +kernel
theorem d_MO_transfer_101 : decode b_MO_transfer 101 = .ok (.iload 6, 2) := by decide +kernel
theorem d_MO_transfer_103 : decode b_MO_transfer 103 = .ok (.iload 4, 2) := by decide +kernel
theorem d_MO_transfer_105 : decode b_MO_transfer 105 = .ok (.iastore, 1) := by decide +kernel
theorem d_MO_transfer_106 : decode b_MO_transfer 106 = .ok (.aload_n 0, 1) := by decide +kernel
theorem d_MO_transfer_107 : decode b_MO_transfer 107 = .ok (.getfield 37, 3) := by decide +kernel
theorem d_MO_transfer_110 : decode b_MO_transfer 110 = .ok (.iload 6, 2) := by decide +kernel
theorem d_MO_transfer_112 : decode b_MO_transfer 112 = .ok (.iload 5, 2) := by decide +kernel
theorem d_MO_transfer_114 : decode b_MO_transfer 114 = .ok (.iastore, 1) := by decide +kernel
theorem d_MO_transfer_115 : decode b_MO_transfer 115 = .ok (.aload_n 0, 1) := by decide +kernel
theorem d_MO_transfer_116 : decode b_MO_transfer 116 = .ok (.getfield 25, 3) := by decide +kernel
theorem d_MO_transfer_119 : decode b_MO_transfer 119 = .ok (.iload_n 1, 1) := by decide +kernel
theorem d_MO_transfer_120 : decode b_MO_transfer 120 = .ok (.dup2, 1) := by decide +kernel
theorem d_MO_transfer_121 : decode b_MO_transfer 121 = .ok (.iaload, 1) := by decide +kernel
theorem d_MO_transfer_122 : decode b_MO_transfer 122 = .ok (.iconst 1, 1) := by decide +kernel
theorem d_MO_transfer_123 : decode b_MO_transfer 123 = .ok (.iadd, 1) := by decide +kernel
theorem d_MO_transfer_124 : decode b_MO_transfer 124 = .ok (.iastore, 1) := by decide +kernel
theorem d_MO_transfer_125 : decode b_MO_transfer 125 = .ok (.aload_n 0, 1) := by decide +kernel
theorem d_MO_transfer_126 : decode b_MO_transfer 126 = .ok (.iconst 0, 1) := by decide +kernel
theorem d_MO_transfer_127 : decode b_MO_transfer 127 = .ok (.putfield 121, 3) := by decide +kernel
theorem d_MO_transfer_130 : decode b_MO_transfer 130 = .ok (.aload_n 0, 1) := by decide +kernel
theorem d_MO_transfer_131 : decode b_MO_transfer 131 = .ok (.getfield 25, 3) := by decide +kernel
theorem d_MO_transfer_134 : decode b_MO_transfer 134 = .ok (.iload_n 1, 1) := by decide +kernel
theorem d_MO_transfer_135 : decode b_MO_transfer 135 = .ok (.iaload, 1) := by decide +kernel
theorem d_MO_transfer_136 : decode b_MO_transfer 136 = .ok (.ireturn, 1) := by decide +kernel
theorem d_MO_isState_0 : decode b_MO_isState 0 = .ok (.iload_n 1, 1) := by decide +kernel
theorem d_MO_isState_1 : decode b_MO_isState 1 = .ok (.ifCond .lt 16, 3) := by decide +kernel
theorem d_MO_isState_4 : decode b_MO_isState 4 = .ok (.iload_n 1, 1) := by decide +kernel
theorem d_MO_isState_5 : decode b_MO_isState 5 = .ok (.aload_n 0, 1) := by decide +kernel
theorem d_MO_isState_6 : decode b_MO_isState 6 = .ok (.getfield 118, 3) := by decide +kernel
theorem d_MO_isState_9 : decode b_MO_isState 9 = .ok (.ishr, 1) := by decide +kernel
theorem d_MO_isState_10 : decode b_MO_isState 10 = .ok (.ifCond .ne 7, 3) := by decide +kernel
theorem d_MO_isState_13 : decode b_MO_isState 13 = .ok (.iconst 1, 1) := by decide +kernel
theorem d_MO_isState_14 : decode b_MO_isState 14 = .ok (.goto 4, 3) := by decide +kernel
theorem d_MO_isState_17 : decode b_MO_isState 17 = .ok (.iconst 0, 1) := by decide +kernel
theorem d_MO_isState_18 : decode b_MO_isState 18 = .ok (.ireturn, 1) := by decide +kernel
theorem d_MO_first_0 : decode b_MO_first 0 = .ok (.aload_n 0, 1) := by decide +kernel
theorem d_MO_first_1 : decode b_MO_first 1 = .ok (.iconst 0, 1) := by decide +kernel
theorem d_MO_first_2 : decode b_MO_first 2 = .ok (.putfield 101, 3) := by decide +kernel
theorem d_MO_first_5 : decode b_MO_first 5 = .ok (.aload_n 0, 1) := by decide +kernel
theorem d_MO_first_6 : decode b_MO_first 6 = .ok (.iload_n 1, 1) := by decide +kernel
theorem d_MO_first_7 : decode b_MO_first 7 = .ok (.invokevirtual 132, 3) := by decide +kernel
theorem d_MO_first_10 : decode b_MO_first 10 = .ok (.ifCond .ne 9, 3) := by decide +kernel
theorem d_MO_first_13 : decode b_MO_first 13 = .ok (.aload_n 0, 1) := by decide +kernel
theorem d_MO_first_14 : decode b_MO_first 14 = .ok (.iconst 1, 1) := by decide +kernel
theorem d_MO_first_15 : decode b_MO_first 15 = .ok (.invokevirtual 108, 3) := by decide +kernel
theorem d_MO_first_18 : decode b_MO_first 18 = .ok (.ireturn, 1) := by decide +kernel
theorem d_MO_first_19 : decode b_MO_first 19 = .ok (.aload_n 0, 1) := by decide +kernel
theorem d_MO_first_20 : decode b_MO_first 20 = .ok (.getfield 135, 3) := by decide +kernel
theorem d_MO_first_23 : decode b_MO_first 23 = .ok (.istore_n 2, 1) := by decide +kernel
theorem d_MO_first_24 : decode b_MO_first 24 = .ok (.aload_n 0, 1) := by decide +kernel
theorem d_MO_first_25 : decode b_MO_first 25 = .ok (.iload_n 1, 1) := by decide +kernel
theorem d_MO_first_26 : decode b_MO_first 26 = .ok (.putfield 135, 3) := by decide +kernel
theorem d_MO_first_29 : decode b_MO_first 29 = .ok (.aload_n 0, 1) := by decide +kernel
theorem d_MO_first_30 : decode b_MO_first 30 = .ok (.iconst 0, 1) := by decide +kernel
theorem d_MO_first_31 : decode b_MO_first 31 = .ok (.putfield 121, 3) := by decide +kernel
theorem d_MO_first_34 : decode b_MO_first 34 = .ok (.iload_n 2, 1) := by decide +kernel
theorem d_MO_first_35 : decode b_MO_first 35 = .ok (.ireturn, 1) := by decide +kernel
theorem d_MO_valueOf_0 : decode b_MO_valueOf 0 = .ok (.iload_n 2, 1) := by decide +kernel
theorem d_MO_valueOf_1 : decode b_MO_valueOf 1 = .ok (.ifCond .ge 9, 3) := by decide +kernel
theorem d_MO_valueOf_4 : decode b_MO_valueOf 4 = .ok (.iconst (-1), 1) := by decide +kernel
theorem d_MO_valueOf_5 : decode b_MO_valueOf 5 = .ok (.iload_n 2, 1) := by decide +kernel
theorem d_MO_valueOf_6 : decode b_MO_valueOf 6 = .ok (.isub, 1) := by decide +kernel
theorem d_MO_valueOf_7 : decode b_MO_valueOf 7 = .ok (.goto 22, 3) := by decide +kernel
theorem d_MO_valueOf_10 : decode b_MO_valueOf 10 = .ok (.iload_n 1, 1) := by decide +kernel
theorem d_MO_valueOf_11 : decode b_MO_valueOf 11 = .ok (.aload_n 0, 1) := by decide +kernel
theorem d_MO_valueOf_12 : decode b_MO_valueOf 12 = .ok (.getfield 13, 3) := by decide +kernel
theorem d_MO_valueOf_15 : decode b_MO_valueOf 15 = .ok (.iload_n 2, 1) := by decide +kernel
theorem d_MO_valueOf_16 : decode b_MO_valueOf 16 = .ok (.iaload, 1) := by decide +kernel
theorem d_MO_valueOf_17 : decode b_MO_valueOf 17 = .ok (.ishr, 1) := by decide +kernel
theorem d_MO_valueOf_18 : decode b_MO_valueOf 18 = .ok (.iconst 1, 1) := by decide +kernel
theorem d_MO_valueOf_19 : decode b_MO_valueOf 19 = .ok (.aload_n 0, 1) := by decide +kernel
theorem d_MO_valueOf_20 : decode b_MO_valueOf 20 = .ok (.getfield 7, 3) := by decide +kernel
theorem d_MO_valueOf_23 : decode b_MO_valueOf 23 = .ok (.iload_n 2, 1) := by decide +kernel
theorem d_MO_valueOf_24 : decode b_MO_valueOf 24 = .ok (.iaload, 1) := by decide +kernel
theorem d_MO_valueOf_25 : decode b_MO_valueOf 25 = .ok (.ishl, 1) := by decide +kernel
theorem d_MO_valueOf_26 : decode b_MO_valueOf 26 = .ok (.iconst 1, 1) := by decide +kernel
theorem d_MO_valueOf_27 : decode b_MO_valueOf 27 = .ok (.isub, 1) := by decide +kernel
theorem d_MO_valueOf_28 : decode b_MO_valueOf 28 = .ok (.iand, 1) := by decide +kernel
theorem d_MO_valueOf_29 : decode b_MO_valueOf 29 = .ok (.ireturn, 1) := by decide +kernel
theorem d_MO_result_0 : decode b_MO_result 0 = .ok (.aload_n 0, 1) := by decide +kernel
theorem d_MO_result_1 : decode b_MO_result 1 = .ok (.iload_n 1, 1) := by decide +kernel
theorem d_MO_result_2 : decode b_MO_result 2 = .ok (.iload_n 3, 1) := by decide +kernel
theorem d_MO_result_3 : decode b_MO_result 3 = .ok (.invokevirtual 138, 3) := by decide +kernel
theorem d_MO_result_6 : decode b_MO_result 6 = .ok (.istore 5, 2) := by decide +kernel
theorem d_MO_result_8 : decode b_MO_result 8 = .ok (.aload_n 0, 1) := by decide +kernel
theorem d_MO_result_9 : decode b_MO_result 9 = .ok (.iload_n 1, 1) := by decide +kernel
theorem d_MO_result_10 : decode b_MO_result 10 = .ok (.iload 4, 2) := by decide +kernel
theorem d_MO_result_12 : decode b_MO_result 12 = .ok (.invokevirtual 138, 3) := by decide +kernel
theorem d_MO_result_15 : decode b_MO_result 15 = .ok (.istore 6, 2) := by decide +kernel
theorem d_MO_result_17 : decode b_MO_result 17 = .ok (.iload_n 2, 1) := by decide +kernel
theorem d_MO_result_18 : decode b_MO_result 18 = .ok (.tableswitch 124 0 8 #[50, 56, 62, 68, 74, 80, 86, 99, 112], 50) := by decide +kernel
theorem d_MO_result_68 : decode b_MO_result 68 = .ok (.iload 5, 2) := by decide +kernel
theorem d_MO_result_70 : decode b_MO_result 70 = .ok (.iload 6, 2) := by decide +kernel
theorem d_MO_result_72 : decode b_MO_result 72 = .ok (.iadd, 1) := by decide +kernel
theorem d_MO_result_73 : decode b_MO_result 73 = .ok (.ireturn, 1) := by decide +kernel
theorem d_MO_result_74 : decode b_MO_result 74 = .ok (.iload 5, 2) := by decide +kernel
theorem d_MO_result_76 : decode b_MO_result 76 = .ok (.iload 6, 2) := by decide +kernel
theorem d_MO_result_78 : decode b_MO_result 78 = .ok (.isub, 1) := by decide +kernel
theorem d_MO_result_79 : decode b_MO_result 79 = .ok (.ireturn, 1) := by decide +kernel
theorem d_MO_result_80 : decode b_MO_result 80 = .ok (.iload 5, 2) := by decide +kernel
theorem d_MO_result_82 : decode b_MO_result 82 = .ok (.iload 6, 2) := by decide +kernel
theorem d_MO_result_84 : decode b_MO_result 84 = .ok (.iand, 1) := by decide +kernel
theorem d_MO_result_85 : decode b_MO_result 85 = .ok (.ireturn, 1) := by decide +kernel
theorem d_MO_result_86 : decode b_MO_result 86 = .ok (.iload 5, 2) := by decide +kernel
theorem d_MO_result_88 : decode b_MO_result 88 = .ok (.iload 6, 2) := by decide +kernel
theorem d_MO_result_90 : decode b_MO_result 90 = .ok (.ior, 1) := by decide +kernel
theorem d_MO_result_91 : decode b_MO_result 91 = .ok (.ireturn, 1) := by decide +kernel
theorem d_MO_result_92 : decode b_MO_result 92 = .ok (.iload 5, 2) := by decide +kernel
theorem d_MO_result_94 : decode b_MO_result 94 = .ok (.iload 6, 2) := by decide +kernel
theorem d_MO_result_96 : decode b_MO_result 96 = .ok (.ixor, 1) := by decide +kernel
theorem d_MO_result_97 : decode b_MO_result 97 = .ok (.ireturn, 1) := by decide +kernel
theorem d_MO_result_98 : decode b_MO_result 98 = .ok (.iload 5, 2) := by decide +kernel
theorem d_MO_result_100 : decode b_MO_result 100 = .ok (.iload 6, 2) := by decide +kernel
theorem d_MO_result_102 : decode b_MO_result 102 = .ok (.imul, 1) := by decide +kernel
theorem d_MO_result_103 : decode b_MO_result 103 = .ok (.ireturn, 1) := by decide +kernel
theorem d_MO_result_104 : decode b_MO_result 104 = .ok (.iload 5, 2) := by decide +kernel
theorem d_MO_result_106 : decode b_MO_result 106 = .ok (.iload 6, 2) := by decide +kernel
theorem d_MO_result_108 : decode b_MO_result 108 = .ok (.if_icmp .ge 7, 3) := by decide +kernel
theorem d_MO_result_111 : decode b_MO_result 111 = .ok (.iconst 1, 1) := by decide +kernel
theorem d_MO_result_112 : decode b_MO_result 112 = .ok (.goto 4, 3) := by decide +kernel
theorem d_MO_result_115 : decode b_MO_result 115 = .ok (.iconst 0, 1) := by decide +kernel
theorem d_MO_result_116 : decode b_MO_result 116 = .ok (.ireturn, 1) := by decide +kernel
theorem d_MO_result_117 : decode b_MO_result 117 = .ok (.iload 5, 2) := by decide +kernel
theorem d_MO_result_119 : decode b_MO_result 119 = .ok (.iload 6, 2) := by decide +kernel
theorem d_MO_result_121 : decode b_MO_result 121 = .ok (.if_icmp .ne 7, 3) := by decide +kernel
theorem d_MO_result_124 : decode b_MO_result 124 = .ok (.iconst 1, 1) := by decide +kernel
theorem d_MO_result_125 : decode b_MO_result 125 = .ok (.goto 4, 3) := by decide +kernel
theorem d_MO_result_128 : decode b_MO_result 128 = .ok (.iconst 0, 1) := by decide +kernel
theorem d_MO_result_129 : decode b_MO_result 129 = .ok (.ireturn, 1) := by decide +kernel
theorem d_MO_result_130 : decode b_MO_result 130 = .ok (.iload 6, 2) := by decide +kernel
theorem d_MO_result_132 : decode b_MO_result 132 = .ok (.ifCond .eq 8, 3) := by decide +kernel
theorem d_MO_result_135 : decode b_MO_result 135 = .ok (.iload 5, 2) := by decide +kernel
theorem d_MO_result_137 : decode b_MO_result 137 = .ok (.goto 4, 3) := by decide +kernel
theorem d_MO_result_140 : decode b_MO_result 140 = .ok (.iconst 0, 1) := by decide +kernel
theorem d_MO_result_141 : decode b_MO_result 141 = .ok (.ireturn, 1) := by decide +kernel
theorem d_MO_result_142 : decode b_MO_result 142 = .ok (.iload 5, 2) := by decide +kernel
theorem d_MO_result_144 : decode b_MO_result 144 = .ok (.iconst 2, 1) := by decide +kernel
theorem d_MO_result_145 : decode b_MO_result 145 = .ok (.idiv, 1) := by decide +kernel
theorem d_MO_result_146 : decode b_MO_result 146 = .ok (.bipush 8, 2) := by decide +kernel
theorem d_MO_result_148 : decode b_MO_result 148 = .ok (.iload 6, 2) := by decide +kernel
theorem d_MO_result_150 : decode b_MO_result 150 = .ok (.imul, 1) := by decide +kernel
theorem d_MO_result_151 : decode b_MO_result 151 = .ok (.iadd, 1) := by decide +kernel
theorem d_MO_result_152 : decode b_MO_result 152 = .ok (.ireturn, 1) := by decide +kernel
theorem d_MO_stepOf_0 : decode b_MO_stepOf 0 = .ok (.iload_n 1, 1) := by decide +kernel
theorem d_MO_stepOf_1 : decode b_MO_stepOf 1 = .ok (.istore_n 3, 1) := by decide +kernel
theorem d_MO_stepOf_2 : decode b_MO_stepOf 2 = .ok (.bipush 8, 2) := by decide +kernel
theorem d_MO_stepOf_4 : decode b_MO_stepOf 4 = .ok (.iload_n 2, 1) := by decide +kernel
theorem d_MO_stepOf_5 : decode b_MO_stepOf 5 = .ok (.imul, 1) := by decide +kernel
theorem d_MO_stepOf_6 : decode b_MO_stepOf 6 = .ok (.istore 4, 2) := by decide +kernel
theorem d_MO_stepOf_8 : decode b_MO_stepOf 8 = .ok (.iload 4, 2) := by decide +kernel
theorem d_MO_stepOf_10 : decode b_MO_stepOf 10 = .ok (.bipush 8, 2) := by decide +kernel
theorem d_MO_stepOf_12 : decode b_MO_stepOf 12 = .ok (.iload_n 2, 1) := by decide +kernel
theorem d_MO_stepOf_13 : decode b_MO_stepOf 13 = .ok (.imul, 1) := by decide +kernel
theorem d_MO_stepOf_14 : decode b_MO_stepOf 14 = .ok (.aload_n 0, 1) := by decide +kernel
theorem d_MO_stepOf_15 : decode b_MO_stepOf 15 = .ok (.getfield 25, 3) := by decide +kernel
theorem d_MO_stepOf_18 : decode b_MO_stepOf 18 = .ok (.iload_n 2, 1) := by decide +kernel
theorem d_MO_stepOf_19 : decode b_MO_stepOf 19 = .ok (.iaload, 1) := by decide +kernel
theorem d_MO_stepOf_20 : decode b_MO_stepOf 20 = .ok (.iadd, 1) := by decide +kernel
theorem d_MO_stepOf_21 : decode b_MO_stepOf 21 = .ok (.if_icmp .ge 84, 3) := by decide +kernel
theorem d_MO_stepOf_24 : decode b_MO_stepOf 24 = .ok (.aload_n 0, 1) := by decide +kernel
theorem d_MO_stepOf_25 : decode b_MO_stepOf 25 = .ok (.getfield 28, 3) := by decide +kernel
theorem d_MO_stepOf_28 : decode b_MO_stepOf 28 = .ok (.iload 4, 2) := by decide +kernel
theorem d_MO_stepOf_30 : decode b_MO_stepOf 30 = .ok (.iaload, 1) := by decide +kernel
theorem d_MO_stepOf_31 : decode b_MO_stepOf 31 = .ok (.istore 5, 2) := by decide +kernel
theorem d_MO_stepOf_33 : decode b_MO_stepOf 33 = .ok (.iconst 1, 1) := by decide +kernel
theorem d_MO_stepOf_34 : decode b_MO_stepOf 34 = .ok (.aload_n 0, 1) := by decide +kernel
theorem d_MO_stepOf_35 : decode b_MO_stepOf 35 = .ok (.getfield 7, 3) := by decide +kernel
theorem d_MO_stepOf_38 : decode b_MO_stepOf 38 = .ok (.iload 5, 2) := by decide +kernel
theorem d_MO_stepOf_40 : decode b_MO_stepOf 40 = .ok (.iaload, 1) := by decide +kernel
theorem d_MO_stepOf_41 : decode b_MO_stepOf 41 = .ok (.ishl, 1) := by decide +kernel
theorem d_MO_stepOf_42 : decode b_MO_stepOf 42 = .ok (.iconst 1, 1) := by decide +kernel
theorem d_MO_stepOf_43 : decode b_MO_stepOf 43 = .ok (.isub, 1) := by decide +kernel
theorem d_MO_stepOf_44 : decode b_MO_stepOf 44 = .ok (.istore 6, 2) := by decide +kernel
theorem d_MO_stepOf_46 : decode b_MO_stepOf 46 = .ok (.iload_n 3, 1) := by decide +kernel
theorem d_MO_stepOf_47 : decode b_MO_stepOf 47 = .ok (.iload 6, 2) := by decide +kernel
theorem d_MO_stepOf_49 : decode b_MO_stepOf 49 = .ok (.aload_n 0, 1) := by decide +kernel
theorem d_MO_stepOf_50 : decode b_MO_stepOf 50 = .ok (.getfield 13, 3) := by decide +kernel
theorem d_MO_stepOf_53 : decode b_MO_stepOf 53 = .ok (.iload 5, 2) := by decide +kernel
theorem d_MO_stepOf_55 : decode b_MO_stepOf 55 = .ok (.iaload, 1) := by decide +kernel
theorem d_MO_stepOf_56 : decode b_MO_stepOf 56 = .ok (.ishl, 1) := by decide +kernel
theorem d_MO_stepOf_57 : decode b_MO_stepOf 57 = .ok (.iconst (-1), 1) := by decide +kernel
theorem d_MO_stepOf_58 : decode b_MO_stepOf 58 = .ok (.ixor, 1) := by decide +kernel
theorem d_MO_stepOf_59 : decode b_MO_stepOf 59 = .ok (.iand, 1) := by decide +kernel
theorem d_MO_stepOf_60 : decode b_MO_stepOf 60 = .ok (.aload_n 0, 1) := by decide +kernel
theorem d_MO_stepOf_61 : decode b_MO_stepOf 61 = .ok (.iload_n 1, 1) := by decide +kernel
theorem d_MO_stepOf_62 : decode b_MO_stepOf 62 = .ok (.aload_n 0, 1) := by decide +kernel
theorem d_MO_stepOf_63 : decode b_MO_stepOf 63 = .ok (.getfield 31, 3) := by decide +kernel
theorem d_MO_stepOf_66 : decode b_MO_stepOf 66 = .ok (.iload 4, 2) := by decide +kernel
theorem d_MO_stepOf_68 : decode b_MO_stepOf 68 = .ok (.iaload, 1) := by decide +kernel
theorem d_MO_stepOf_69 : decode b_MO_stepOf 69 = .ok (.aload_n 0, 1) := by decide +kernel
theorem d_MO_stepOf_70 : decode b_MO_stepOf 70 = .ok (.getfield 34, 3) := by decide +kernel
theorem d_MO_stepOf_73 : decode b_MO_stepOf 73 = .ok (.iload 4, 2) := by decide +kernel
theorem d_MO_stepOf_75 : decode b_MO_stepOf 75 = .ok (.iaload, 1) := by decide +kernel
theorem d_MO_stepOf_76 : decode b_MO_stepOf 76 = .ok (.aload_n 0, 1) := by decide +kernel
theorem d_MO_stepOf_77 : decode b_MO_stepOf 77 = .ok (.getfield 37, 3) := by decide +kernel
theorem d_MO_stepOf_80 : decode b_MO_stepOf 80 = .ok (.iload 4, 2) := by decide +kernel
theorem d_MO_stepOf_82 : decode b_MO_stepOf 82 = .ok (.iaload, 1) := by decide +kernel
theorem d_MO_stepOf_83 : decode b_MO_stepOf 83 = .ok (.invokevirtual 142, 3) := by decide +kernel
theorem d_MO_stepOf_86 : decode b_MO_stepOf 86 = .ok (.iload 6, 2) := by decide +kernel
theorem d_MO_stepOf_88 : decode b_MO_stepOf 88 = .ok (.iand, 1) := by decide +kernel
theorem d_MO_stepOf_89 : decode b_MO_stepOf 89 = .ok (.aload_n 0, 1) := by decide +kernel
theorem d_MO_stepOf_90 : decode b_MO_stepOf 90 = .ok (.getfield 13, 3) := by decide +kernel
theorem d_MO_stepOf_93 : decode b_MO_stepOf 93 = .ok (.iload 5, 2) := by decide +kernel
theorem d_MO_stepOf_95 : decode b_MO_stepOf 95 = .ok (.iaload, 1) := by decide +kernel
theorem d_MO_stepOf_96 : decode b_MO_stepOf 96 = .ok (.ishl, 1) := by decide +kernel
theorem d_MO_stepOf_97 : decode b_MO_stepOf 97 = .ok (.ior, 1) := by decide +kernel
theorem d_MO_stepOf_98 : decode b_MO_stepOf 98 = .ok (.istore_n 3, 1) := by decide +kernel
theorem d_MO_stepOf_99 : decode b_MO_stepOf 99 = .ok (.iinc 4 1, 3) := by decide +kernel
theorem d_MO_stepOf_102 : decode b_MO_stepOf 102 = .ok (.goto (-94), 3) := by decide +kernel
theorem d_MO_stepOf_105 : decode b_MO_stepOf 105 = .ok (.iload_n 3, 1) := by decide +kernel
theorem d_MO_stepOf_106 : decode b_MO_stepOf 106 = .ok (.ireturn, 1) := by decide +kernel
theorem d_MO_outputOf_0 : decode b_MO_outputOf 0 = .ok (.aload_n 0, 1) := by decide +kernel
theorem d_MO_outputOf_1 : decode b_MO_outputOf 1 = .ok (.iload_n 1, 1) := by decide +kernel
theorem d_MO_outputOf_2 : decode b_MO_outputOf 2 = .ok (.aload_n 0, 1) := by decide +kernel
theorem d_MO_outputOf_3 : decode b_MO_outputOf 3 = .ok (.getfield 16, 3) := by decide +kernel
theorem d_MO_outputOf_6 : decode b_MO_outputOf 6 = .ok (.iload_n 2, 1) := by decide +kernel
theorem d_MO_outputOf_7 : decode b_MO_outputOf 7 = .ok (.iaload, 1) := by decide +kernel
theorem d_MO_outputOf_8 : decode b_MO_outputOf 8 = .ok (.aload_n 0, 1) := by decide +kernel
theorem d_MO_outputOf_9 : decode b_MO_outputOf 9 = .ok (.getfield 19, 3) := by decide +kernel
theorem d_MO_outputOf_12 : decode b_MO_outputOf 12 = .ok (.iload_n 2, 1) := by decide +kernel
theorem d_MO_outputOf_13 : decode b_MO_outputOf 13 = .ok (.iaload, 1) := by decide +kernel
theorem d_MO_outputOf_14 : decode b_MO_outputOf 14 = .ok (.aload_n 0, 1) := by decide +kernel
theorem d_MO_outputOf_15 : decode b_MO_outputOf 15 = .ok (.getfield 22, 3) := by decide +kernel
theorem d_MO_outputOf_18 : decode b_MO_outputOf 18 = .ok (.iload_n 2, 1) := by decide +kernel
theorem d_MO_outputOf_19 : decode b_MO_outputOf 19 = .ok (.iaload, 1) := by decide +kernel
theorem d_MO_outputOf_20 : decode b_MO_outputOf 20 = .ok (.invokevirtual 142, 3) := by decide +kernel
theorem d_MO_outputOf_23 : decode b_MO_outputOf 23 = .ok (.bipush 15, 2) := by decide +kernel
theorem d_MO_outputOf_25 : decode b_MO_outputOf 25 = .ok (.iand, 1) := by decide +kernel
theorem d_MO_outputOf_26 : decode b_MO_outputOf 26 = .ok (.ireturn, 1) := by decide +kernel
theorem d_MO_step_0 : decode b_MO_step 0 = .ok (.aload_n 0, 1) := by decide +kernel
theorem d_MO_step_1 : decode b_MO_step 1 = .ok (.iconst 0, 1) := by decide +kernel
theorem d_MO_step_2 : decode b_MO_step 2 = .ok (.putfield 101, 3) := by decide +kernel
theorem d_MO_step_5 : decode b_MO_step 5 = .ok (.aload_n 0, 1) := by decide +kernel
theorem d_MO_step_6 : decode b_MO_step 6 = .ok (.iload_n 1, 1) := by decide +kernel
theorem d_MO_step_7 : decode b_MO_step 7 = .ok (.invokevirtual 132, 3) := by decide +kernel
theorem d_MO_step_10 : decode b_MO_step 10 = .ok (.ifCond .eq 26, 3) := by decide +kernel
theorem d_MO_step_13 : decode b_MO_step 13 = .ok (.iload_n 2, 1) := by decide +kernel
theorem d_MO_step_14 : decode b_MO_step 14 = .ok (.iconst 0, 1) := by decide +kernel
theorem d_MO_step_15 : decode b_MO_step 15 = .ok (.aload_n 0, 1) := by decide +kernel
theorem d_MO_step_16 : decode b_MO_step 16 = .ok (.getfield 112, 3) := by decide +kernel
theorem d_MO_step_19 : decode b_MO_step 19 = .ok (.iconst 1, 1) := by decide +kernel
theorem d_MO_step_20 : decode b_MO_step 20 = .ok (.isub, 1) := by decide +kernel
theorem d_MO_step_21 : decode b_MO_step 21 = .ok (.invokestatic 104, 3) := by decide +kernel
theorem d_MO_step_24 : decode b_MO_step 24 = .ok (.ifCond .eq 12, 3) := by decide +kernel
theorem d_MO_step_27 : decode b_MO_step 27 = .ok (.aload_n 0, 1) := by decide +kernel
theorem d_MO_step_28 : decode b_MO_step 28 = .ok (.iload_n 1, 1) := by decide +kernel
theorem d_MO_step_29 : decode b_MO_step 29 = .ok (.iload_n 2, 1) := by decide +kernel
theorem d_MO_step_30 : decode b_MO_step 30 = .ok (.invokevirtual 146, 3) := by decide +kernel
theorem d_MO_step_33 : decode b_MO_step 33 = .ok (.goto 8, 3) := by decide +kernel
theorem d_MO_step_36 : decode b_MO_step 36 = .ok (.aload_n 0, 1) := by decide +kernel
theorem d_MO_step_37 : decode b_MO_step 37 = .ok (.iconst 1, 1) := by decide +kernel
theorem d_MO_step_38 : decode b_MO_step 38 = .ok (.invokevirtual 108, 3) := by decide +kernel
theorem d_MO_step_41 : decode b_MO_step 41 = .ok (.ireturn, 1) := by decide +kernel
theorem d_MO_output_0 : decode b_MO_output 0 = .ok (.aload_n 0, 1) := by decide +kernel
theorem d_MO_output_1 : decode b_MO_output 1 = .ok (.iconst 0, 1) := by decide +kernel
theorem d_MO_output_2 : decode b_MO_output 2 = .ok (.putfield 101, 3) := by decide +kernel
theorem d_MO_output_5 : decode b_MO_output 5 = .ok (.aload_n 0, 1) := by decide +kernel
theorem d_MO_output_6 : decode b_MO_output 6 = .ok (.iload_n 1, 1) := by decide +kernel
theorem d_MO_output_7 : decode b_MO_output 7 = .ok (.invokevirtual 132, 3) := by decide +kernel
theorem d_MO_output_10 : decode b_MO_output 10 = .ok (.ifCond .eq 26, 3) := by decide +kernel
theorem d_MO_output_13 : decode b_MO_output 13 = .ok (.iload_n 2, 1) := by decide +kernel
theorem d_MO_output_14 : decode b_MO_output 14 = .ok (.iconst 0, 1) := by decide +kernel
theorem d_MO_output_15 : decode b_MO_output 15 = .ok (.aload_n 0, 1) := by decide +kernel
theorem d_MO_output_16 : decode b_MO_output 16 = .ok (.getfield 112, 3) := by decide +kernel
theorem d_MO_output_19 : decode b_MO_output 19 = .ok (.iconst 1, 1) := by decide +kernel
theorem d_MO_output_20 : decode b_MO_output 20 = .ok (.isub, 1) := by decide +kernel
theorem d_MO_output_21 : decode b_MO_output 21 = .ok (.invokestatic 104, 3) := by decide +kernel
theorem d_MO_output_24 : decode b_MO_output 24 = .ok (.ifCond .eq 12, 3) := by decide +kernel
theorem d_MO_output_27 : decode b_MO_output 27 = .ok (.aload_n 0, 1) := by decide +kernel
theorem d_MO_output_28 : decode b_MO_output 28 = .ok (.iload_n 1, 1) := by decide +kernel
theorem d_MO_output_29 : decode b_MO_output 29 = .ok (.iload_n 2, 1) := by decide +kernel
theorem d_MO_output_30 : decode b_MO_output 30 = .ok (.invokevirtual 149, 3) := by decide +kernel
theorem d_MO_output_33 : decode b_MO_output 33 = .ok (.goto 8, 3) := by decide +kernel
theorem d_MO_output_36 : decode b_MO_output 36 = .ok (.aload_n 0, 1) := by decide +kernel
theorem d_MO_output_37 : decode b_MO_output 37 = .ok (.iconst 1, 1) := by decide +kernel
theorem d_MO_output_38 : decode b_MO_output 38 = .ok (.invokevirtual 108, 3) := by decide +kernel
theorem d_MO_output_41 : decode b_MO_output 41 = .ok (.ireturn, 1) := by decide +kernel
theorem d_MO_come_0 : decode b_MO_come 0 = .ok (.aload_n 0, 1) := by decide +kernel
theorem d_MO_come_1 : decode b_MO_come 1 = .ok (.getfield 46, 3) := by decide +kernel
theorem d_MO_come_4 : decode b_MO_come 4 = .ok (.aload_n 0, 1) := by decide +kernel
theorem d_MO_come_5 : decode b_MO_come 5 = .ok (.getfield 152, 3) := by decide +kernel
theorem d_MO_come_8 : decode b_MO_come 8 = .ok (.iload_n 1, 1) := by decide +kernel
theorem d_MO_come_9 : decode b_MO_come 9 = .ok (.iastore, 1) := by decide +kernel
theorem d_MO_come_10 : decode b_MO_come 10 = .ok (.aload_n 0, 1) := by decide +kernel
theorem d_MO_come_11 : decode b_MO_come 11 = .ok (.getfield 49, 3) := by decide +kernel
theorem d_MO_come_14 : decode b_MO_come 14 = .ok (.aload_n 0, 1) := by decide +kernel
theorem d_MO_come_15 : decode b_MO_come 15 = .ok (.getfield 152, 3) := by decide +kernel
theorem d_MO_come_18 : decode b_MO_come 18 = .ok (.iload_n 2, 1) := by decide +kernel
theorem d_MO_come_19 : decode b_MO_come 19 = .ok (.iastore, 1) := by decide +kernel
theorem d_MO_come_20 : decode b_MO_come 20 = .ok (.aload_n 0, 1) := by decide +kernel
theorem d_MO_come_21 : decode b_MO_come 21 = .ok (.getfield 52, 3) := by decide +kernel
theorem d_MO_come_24 : decode b_MO_come 24 = .ok (.aload_n 0, 1) := by decide +kernel
theorem d_MO_come_25 : decode b_MO_come 25 = .ok (.getfield 152, 3) := by decide +kernel
theorem d_MO_come_28 : decode b_MO_come 28 = .ok (.iload_n 3, 1) := by decide +kernel
theorem d_MO_come_29 : decode b_MO_come 29 = .ok (.iastore, 1) := by decide +kernel
theorem d_MO_come_30 : decode b_MO_come 30 = .ok (.aload_n 0, 1) := by decide +kernel
theorem d_MO_come_31 : decode b_MO_come 31 = .ok (.getfield 55, 3) := by decide +kernel
theorem d_MO_come_34 : decode b_MO_come 34 = .ok (.aload_n 0, 1) := by decide +kernel
theorem d_MO_come_35 : decode b_MO_come 35 = .ok (.getfield 152, 3) := by decide +kernel
theorem d_MO_come_38 : decode b_MO_come 38 = .ok (.iload_n 2, 1) := by decide +kernel
theorem d_MO_come_39 : decode b_MO_come 39 = .ok (.ifCond .ge 7, 3) := by decide +kernel
theorem d_MO_come_42 : decode b_MO_come 42 = .ok (.iconst 0, 1) := by decide +kernel
theorem d_MO_come_43 : decode b_MO_come 43 = .ok (.goto 11, 3) := by decide +kernel
theorem d_MO_come_46 : decode b_MO_come 46 = .ok (.aload_n 0, 1) := by decide +kernel
theorem d_MO_come_47 : decode b_MO_come 47 = .ok (.getfield 55, 3) := by decide +kernel
theorem d_MO_come_50 : decode b_MO_come 50 = .ok (.iload_n 2, 1) := by decide +kernel
theorem d_MO_come_51 : decode b_MO_come 51 = .ok (.iaload, 1) := by decide +kernel
theorem d_MO_come_52 : decode b_MO_come 52 = .ok (.iconst 1, 1) := by decide +kernel
theorem d_MO_come_53 : decode b_MO_come 53 = .ok (.iadd, 1) := by decide +kernel
theorem d_MO_come_54 : decode b_MO_come 54 = .ok (.iastore, 1) := by decide +kernel
theorem d_MO_come_55 : decode b_MO_come 55 = .ok (.aload_n 0, 1) := by decide +kernel
theorem d_MO_come_56 : decode b_MO_come 56 = .ok (.getfield 58, 3) := by decide +kernel
theorem d_MO_come_59 : decode b_MO_come 59 = .ok (.iload_n 1, 1) := by decide +kernel
theorem d_MO_come_60 : decode b_MO_come 60 = .ok (.aload_n 0, 1) := by decide +kernel
theorem d_MO_come_61 : decode b_MO_come 61 = .ok (.getfield 152, 3) := by decide +kernel
theorem d_MO_come_64 : decode b_MO_come 64 = .ok (.iastore, 1) := by decide +kernel
theorem d_MO_come_65 : decode b_MO_come 65 = .ok (.aload_n 0, 1) := by decide +kernel
theorem d_MO_come_66 : decode b_MO_come 66 = .ok (.dup, 1) := by decide +kernel
theorem d_MO_come_67 : decode b_MO_come 67 = .ok (.getfield 152, 3) := by decide +kernel
theorem d_MO_come_70 : decode b_MO_come 70 = .ok (.iconst 1, 1) := by decide +kernel
theorem d_MO_come_71 : decode b_MO_come 71 = .ok (.iadd, 1) := by decide +kernel
theorem d_MO_come_72 : decode b_MO_come 72 = .ok (.putfield 152, 3) := by decide +kernel
theorem d_MO_come_75 : decode b_MO_come 75 = .ok (.return_, 1) := by decide +kernel
theorem d_MO_walk_0 : decode b_MO_walk 0 = .ok (.iconst 0, 1) := by decide +kernel
theorem d_MO_walk_1 : decode b_MO_walk 1 = .ok (.istore_n 1, 1) := by decide +kernel
theorem d_MO_walk_2 : decode b_MO_walk 2 = .ok (.iload_n 1, 1) := by decide +kernel
theorem d_MO_walk_3 : decode b_MO_walk 3 = .ok (.sipush 4096, 3) := by decide +kernel
theorem d_MO_walk_6 : decode b_MO_walk 6 = .ok (.if_icmp .ge 16, 3) := by decide +kernel
theorem d_MO_walk_9 : decode b_MO_walk 9 = .ok (.aload_n 0, 1) := by decide +kernel
theorem d_MO_walk_10 : decode b_MO_walk 10 = .ok (.getfield 58, 3) := by decide +kernel
theorem d_MO_walk_13 : decode b_MO_walk 13 = .ok (.iload_n 1, 1) := by decide +kernel
theorem d_MO_walk_14 : decode b_MO_walk 14 = .ok (.iconst (-1), 1) := by decide +kernel
theorem d_MO_walk_15 : decode b_MO_walk 15 = .ok (.iastore, 1) := by decide +kernel
theorem d_MO_walk_16 : decode b_MO_walk 16 = .ok (.iinc 1 1, 3) := by decide +kernel
theorem d_MO_walk_19 : decode b_MO_walk 19 = .ok (.goto (-17), 3) := by decide +kernel
theorem d_MO_walk_22 : decode b_MO_walk 22 = .ok (.aload_n 0, 1) := by decide +kernel
theorem d_MO_walk_23 : decode b_MO_walk 23 = .ok (.iconst 0, 1) := by decide +kernel
theorem d_MO_walk_24 : decode b_MO_walk 24 = .ok (.putfield 152, 3) := by decide +kernel
theorem d_MO_walk_27 : decode b_MO_walk 27 = .ok (.aload_n 0, 1) := by decide +kernel
theorem d_MO_walk_28 : decode b_MO_walk 28 = .ok (.iconst 1, 1) := by decide +kernel
theorem d_MO_walk_29 : decode b_MO_walk 29 = .ok (.putfield 155, 3) := by decide +kernel
theorem d_MO_walk_32 : decode b_MO_walk 32 = .ok (.aload_n 0, 1) := by decide +kernel
theorem d_MO_walk_33 : decode b_MO_walk 33 = .ok (.aload_n 0, 1) := by decide +kernel
theorem d_MO_walk_34 : decode b_MO_walk 34 = .ok (.getfield 135, 3) := by decide +kernel
theorem d_MO_walk_37 : decode b_MO_walk 37 = .ok (.iconst (-1), 1) := by decide +kernel
theorem d_MO_walk_38 : decode b_MO_walk 38 = .ok (.iconst (-1), 1) := by decide +kernel
theorem d_MO_walk_39 : decode b_MO_walk 39 = .ok (.invokevirtual 158, 3) := by decide +kernel
theorem d_MO_walk_42 : decode b_MO_walk 42 = .ok (.iconst 0, 1) := by decide +kernel
theorem d_MO_walk_43 : decode b_MO_walk 43 = .ok (.istore_n 1, 1) := by decide +kernel
theorem d_MO_walk_44 : decode b_MO_walk 44 = .ok (.iload_n 1, 1) := by decide +kernel
theorem d_MO_walk_45 : decode b_MO_walk 45 = .ok (.aload_n 0, 1) := by decide +kernel
theorem d_MO_walk_46 : decode b_MO_walk 46 = .ok (.getfield 152, 3) := by decide +kernel
theorem d_MO_walk_49 : decode b_MO_walk 49 = .ok (.if_icmp .ge 99, 3) := by decide +kernel
theorem d_MO_walk_52 : decode b_MO_walk 52 = .ok (.aload_n 0, 1) := by decide +kernel
theorem d_MO_walk_53 : decode b_MO_walk 53 = .ok (.getfield 155, 3) := by decide +kernel
theorem d_MO_walk_56 : decode b_MO_walk 56 = .ok (.ifCond .eq 92, 3) := by decide +kernel
theorem d_MO_walk_59 : decode b_MO_walk 59 = .ok (.iconst 0, 1) := by decide +kernel
theorem d_MO_walk_60 : decode b_MO_walk 60 = .ok (.istore_n 2, 1) := by decide +kernel
theorem d_MO_walk_61 : decode b_MO_walk 61 = .ok (.iload_n 2, 1) := by decide +kernel
theorem d_MO_walk_62 : decode b_MO_walk 62 = .ok (.aload_n 0, 1) := by decide +kernel
theorem d_MO_walk_63 : decode b_MO_walk 63 = .ok (.getfield 112, 3) := by decide +kernel
theorem d_MO_walk_66 : decode b_MO_walk 66 = .ok (.if_icmp .ge 76, 3) := by decide +kernel
theorem d_MO_walk_69 : decode b_MO_walk 69 = .ok (.aload_n 0, 1) := by decide +kernel
theorem d_MO_walk_70 : decode b_MO_walk 70 = .ok (.getfield 155, 3) := by decide +kernel
theorem d_MO_walk_73 : decode b_MO_walk 73 = .ok (.ifCond .eq 69, 3) := by decide +kernel
theorem d_MO_walk_76 : decode b_MO_walk 76 = .ok (.aload_n 0, 1) := by decide +kernel
theorem d_MO_walk_77 : decode b_MO_walk 77 = .ok (.getfield 40, 3) := by decide +kernel
theorem d_MO_walk_80 : decode b_MO_walk 80 = .ok (.iconst 4, 1) := by decide +kernel
theorem d_MO_walk_81 : decode b_MO_walk 81 = .ok (.aload_n 0, 1) := by decide +kernel
theorem d_MO_walk_82 : decode b_MO_walk 82 = .ok (.getfield 46, 3) := by decide +kernel
theorem d_MO_walk_85 : decode b_MO_walk 85 = .ok (.iload_n 1, 1) := by decide +kernel
theorem d_MO_walk_86 : decode b_MO_walk 86 = .ok (.iaload, 1) := by decide +kernel
theorem d_MO_walk_87 : decode b_MO_walk 87 = .ok (.imul, 1) := by decide +kernel
theorem d_MO_walk_88 : decode b_MO_walk 88 = .ok (.iload_n 2, 1) := by decide +kernel
theorem d_MO_walk_89 : decode b_MO_walk 89 = .ok (.iadd, 1) := by decide +kernel
theorem d_MO_walk_90 : decode b_MO_walk 90 = .ok (.iaload, 1) := by decide +kernel
theorem d_MO_walk_91 : decode b_MO_walk 91 = .ok (.istore_n 3, 1) := by decide +kernel
theorem d_MO_walk_92 : decode b_MO_walk 92 = .ok (.aload_n 0, 1) := by decide +kernel
theorem d_MO_walk_93 : decode b_MO_walk 93 = .ok (.getfield 58, 3) := by decide +kernel
theorem d_MO_walk_96 : decode b_MO_walk 96 = .ok (.iload_n 3, 1) := by decide +kernel
theorem d_MO_walk_97 : decode b_MO_walk 97 = .ok (.iaload, 1) := by decide +kernel
theorem d_MO_walk_98 : decode b_MO_walk 98 = .ok (.ifCond .ge 22, 3) := by decide +kernel
theorem d_MO_walk_101 : decode b_MO_walk 101 = .ok (.aload_n 0, 1) := by decide +kernel
theorem d_MO_walk_102 : decode b_MO_walk 102 = .ok (.getfield 152, 3) := by decide +kernel
theorem d_MO_walk_105 : decode b_MO_walk 105 = .ok (.aload_n 0, 1) := by decide +kernel
theorem d_MO_walk_106 : decode b_MO_walk 106 = .ok (.getfield 97, 3) := by decide +kernel
theorem d_MO_walk_109 : decode b_MO_walk 109 = .ok (.if_icmp .ne 11, 3) := by decide +kernel
theorem d_MO_walk_112 : decode b_MO_walk 112 = .ok (.aload_n 0, 1) := by decide +kernel
theorem d_MO_walk_113 : decode b_MO_walk 113 = .ok (.iconst 0, 1) := by decide +kernel
theorem d_MO_walk_114 : decode b_MO_walk 114 = .ok (.putfield 155, 3) := by decide +kernel
theorem d_MO_walk_117 : decode b_MO_walk 117 = .ok (.goto 19, 3) := by decide +kernel
theorem d_MO_walk_120 : decode b_MO_walk 120 = .ok (.aload_n 0, 1) := by decide +kernel
theorem d_MO_walk_121 : decode b_MO_walk 121 = .ok (.getfield 58, 3) := by decide +kernel
theorem d_MO_walk_124 : decode b_MO_walk 124 = .ok (.iload_n 3, 1) := by decide +kernel
theorem d_MO_walk_125 : decode b_MO_walk 125 = .ok (.iaload, 1) := by decide +kernel
theorem d_MO_walk_126 : decode b_MO_walk 126 = .ok (.ifCond .ge 10, 3) := by decide +kernel
theorem d_MO_walk_129 : decode b_MO_walk 129 = .ok (.aload_n 0, 1) := by decide +kernel
theorem d_MO_walk_130 : decode b_MO_walk 130 = .ok (.iload_n 3, 1) := by decide +kernel
theorem d_MO_walk_131 : decode b_MO_walk 131 = .ok (.iload_n 1, 1) := by decide +kernel
theorem d_MO_walk_132 : decode b_MO_walk 132 = .ok (.iload_n 2, 1) := by decide +kernel
theorem d_MO_walk_133 : decode b_MO_walk 133 = .ok (.invokevirtual 158, 3) := by decide +kernel
theorem d_MO_walk_136 : decode b_MO_walk 136 = .ok (.iinc 2 1, 3) := by decide +kernel
theorem d_MO_walk_139 : decode b_MO_walk 139 = .ok (.goto (-78), 3) := by decide +kernel
theorem d_MO_walk_142 : decode b_MO_walk 142 = .ok (.iinc 1 1, 3) := by decide +kernel
theorem d_MO_walk_145 : decode b_MO_walk 145 = .ok (.goto (-101), 3) := by decide +kernel
theorem d_MO_walk_148 : decode b_MO_walk 148 = .ok (.return_, 1) := by decide +kernel
section Sites
variable {p : Program} {l : Launch} {e : Env} {R : Room} {s : State} {m : MethodId} {args : Array Value} {below : List Frame} {meth : Method} {c : Code} {H H0 : Heap} {locs : List Loc} {cells slots : Nat} {Q : State → Prop} {cc : ByteArray} {pc : Nat} {ls : Array Slot} {rest : List Value} {D : va_G} {A : Nat → Prop} {a : Nat} {TY : List (ClassId × FieldType)} {ws : va_W}
theorem gf_MO_101 (hx : p.tables.exec = Jvm.exec) (hb : c.code = cc) (hts : ∀ w ∈ wsG, w.before args s = true) (hown : s.vm.findClass R_MO = some m.cls) (hK : va_K D vwCl TY s) (hP : va_P D vwCl ws H) (q0 : Nat) {fs : List Value} (he : ws[q0]? = some (a, .inr (7, fs))) {v : Value} (hv : fs[0]? = some v) (hdg : decode cc pc = .ok (.getfield 101, 3)) (kk : W p l e R s m args below meth c H locs cells slots Q (F0 m (pc + 3) ls (v :: rest))) : W p l e R s m args below meth c H locs cells slots Q (F0 m pc ls (.ref a :: rest)) :=
  va_get (D := D) (ci := 7) (C := R_MO) (T := F_MO) (N := 41) hx hb hts i_MO hown hK hP q0 he rfl 0 (by decide) (hts _ k_24) (fun _ h9 => h9) hv hdg kk
theorem pf_MO_101 (hx : p.tables.exec = Jvm.exec) (hb : c.code = cc) (hts : ∀ w ∈ wsG, w.before args s = true) (hown : s.vm.findClass R_MO = some m.cls) (hK : va_K D vwCl TY s) (hP : va_P D vwCl ws H) (hD : va_D A ws) (hS : va_S A H0 H locs) (q0 : Nat) {fs : List Value} {v : Value} (he : ws[q0]? = some (a, .inr (7, fs))) (hn : narrow (.int) v = v) (hfit : fits (.int) v = true) (hl : 0 < fs.length) (hdg : decode cc pc = .ok (.putfield 101, 3)) (kk : ∀ (H1 : Heap) (locs1 : List Loc), va_P D vwCl (ws.set q0 (a, .inr (7, fs.set 0 v))) H1 → va_D A (ws.set q0 (a, .inr (7, fs.set 0 v))) → va_S A H0 H1 locs1 → W p l e R s m args below meth c H1 locs1 cells slots Q (F0 m (pc + 3) ls rest)) : W p l e R s m args below meth c H locs cells slots Q (F0 m pc ls (v :: .ref a :: rest)) :=
  va_put (D := D) (ci := 7) (v := v) (ty := .int) (C := R_MO) (T := F_MO) (N := 41) hx hb hts i_MO t_MO t_MO_ok n_MO hown hK hP hD hS q0 he rfl 0 (by decide) (hts _ k_24) (fun _ h9 => h9) rfl (by decide +kernel) hn hfit hl hdg kk
theorem gf_MO_112 (hx : p.tables.exec = Jvm.exec) (hb : c.code = cc) (hts : ∀ w ∈ wsG, w.before args s = true) (hown : s.vm.findClass R_MO = some m.cls) (hK : va_K D vwCl TY s) (hP : va_P D vwCl ws H) (q0 : Nat) {fs : List Value} (he : ws[q0]? = some (a, .inr (7, fs))) {v : Value} (hv : fs[4]? = some v) (hdg : decode cc pc = .ok (.getfield 112, 3)) (kk : W p l e R s m args below meth c H locs cells slots Q (F0 m (pc + 3) ls (v :: rest))) : W p l e R s m args below meth c H locs cells slots Q (F0 m pc ls (.ref a :: rest)) :=
  va_get (D := D) (ci := 7) (C := R_MO) (T := F_MO) (N := 41) hx hb hts i_MO hown hK hP q0 he rfl 4 (by decide) (hts _ k_25) (fun _ h9 => h9) hv hdg kk
theorem gf_MO_115 (hx : p.tables.exec = Jvm.exec) (hb : c.code = cc) (hts : ∀ w ∈ wsG, w.before args s = true) (hown : s.vm.findClass R_MO = some m.cls) (hK : va_K D vwCl TY s) (hP : va_P D vwCl ws H) (q0 : Nat) {fs : List Value} (he : ws[q0]? = some (a, .inr (7, fs))) {v : Value} (hv : fs[2]? = some v) (hdg : decode cc pc = .ok (.getfield 115, 3)) (kk : W p l e R s m args below meth c H locs cells slots Q (F0 m (pc + 3) ls (v :: rest))) : W p l e R s m args below meth c H locs cells slots Q (F0 m pc ls (.ref a :: rest)) :=
  va_get (D := D) (ci := 7) (C := R_MO) (T := F_MO) (N := 41) hx hb hts i_MO hown hK hP q0 he rfl 2 (by decide) (hts _ k_26) (fun _ h9 => h9) hv hdg kk
theorem gf_MO_118 (hx : p.tables.exec = Jvm.exec) (hb : c.code = cc) (hts : ∀ w ∈ wsG, w.before args s = true) (hown : s.vm.findClass R_MO = some m.cls) (hK : va_K D vwCl TY s) (hP : va_P D vwCl ws H) (q0 : Nat) {fs : List Value} (he : ws[q0]? = some (a, .inr (7, fs))) {v : Value} (hv : fs[3]? = some v) (hdg : decode cc pc = .ok (.getfield 118, 3)) (kk : W p l e R s m args below meth c H locs cells slots Q (F0 m (pc + 3) ls (v :: rest))) : W p l e R s m args below meth c H locs cells slots Q (F0 m pc ls (.ref a :: rest)) :=
  va_get (D := D) (ci := 7) (C := R_MO) (T := F_MO) (N := 41) hx hb hts i_MO hown hK hP q0 he rfl 3 (by decide) (hts _ k_27) (fun _ h9 => h9) hv hdg kk
theorem gf_MO_7 (hx : p.tables.exec = Jvm.exec) (hb : c.code = cc) (hts : ∀ w ∈ wsG, w.before args s = true) (hown : s.vm.findClass R_MO = some m.cls) (hK : va_K D vwCl TY s) (hP : va_P D vwCl ws H) (q0 : Nat) {fs : List Value} (he : ws[q0]? = some (a, .inr (7, fs))) {v : Value} (hv : fs[6]? = some v) (hdg : decode cc pc = .ok (.getfield 7, 3)) (kk : W p l e R s m args below meth c H locs cells slots Q (F0 m (pc + 3) ls (v :: rest))) : W p l e R s m args below meth c H locs cells slots Q (F0 m pc ls (.ref a :: rest)) :=
  va_get (D := D) (ci := 7) (C := R_MO) (T := F_MO) (N := 41) hx hb hts i_MO hown hK hP q0 he rfl 6 (by decide) (hts _ k_28) (fun _ h9 => h9) hv hdg kk
theorem gf_MO_13 (hx : p.tables.exec = Jvm.exec) (hb : c.code = cc) (hts : ∀ w ∈ wsG, w.before args s = true) (hown : s.vm.findClass R_MO = some m.cls) (hK : va_K D vwCl TY s) (hP : va_P D vwCl ws H) (q0 : Nat) {fs : List Value} (he : ws[q0]? = some (a, .inr (7, fs))) {v : Value} (hv : fs[7]? = some v) (hdg : decode cc pc = .ok (.getfield 13, 3)) (kk : W p l e R s m args below meth c H locs cells slots Q (F0 m (pc + 3) ls (v :: rest))) : W p l e R s m args below meth c H locs cells slots Q (F0 m pc ls (.ref a :: rest)) :=
  va_get (D := D) (ci := 7) (C := R_MO) (T := F_MO) (N := 41) hx hb hts i_MO hown hK hP q0 he rfl 7 (by decide) (hts _ k_29) (fun _ h9 => h9) hv hdg kk
theorem pf_MO_118 (hx : p.tables.exec = Jvm.exec) (hb : c.code = cc) (hts : ∀ w ∈ wsG, w.before args s = true) (hown : s.vm.findClass R_MO = some m.cls) (hK : va_K D vwCl TY s) (hP : va_P D vwCl ws H) (hD : va_D A ws) (hS : va_S A H0 H locs) (q0 : Nat) {fs : List Value} {v : Value} (he : ws[q0]? = some (a, .inr (7, fs))) (hn : narrow (.int) v = v) (hfit : fits (.int) v = true) (hl : 3 < fs.length) (hdg : decode cc pc = .ok (.putfield 118, 3)) (kk : ∀ (H1 : Heap) (locs1 : List Loc), va_P D vwCl (ws.set q0 (a, .inr (7, fs.set 3 v))) H1 → va_D A (ws.set q0 (a, .inr (7, fs.set 3 v))) → va_S A H0 H1 locs1 → W p l e R s m args below meth c H1 locs1 cells slots Q (F0 m (pc + 3) ls rest)) : W p l e R s m args below meth c H locs cells slots Q (F0 m pc ls (v :: .ref a :: rest)) :=
  va_put (D := D) (ci := 7) (v := v) (ty := .int) (C := R_MO) (T := F_MO) (N := 41) hx hb hts i_MO t_MO t_MO_ok n_MO hown hK hP hD hS q0 he rfl 3 (by decide) (hts _ k_27) (fun _ h9 => h9) rfl (by decide +kernel) hn hfit hl hdg kk
theorem pf_MO_115 (hx : p.tables.exec = Jvm.exec) (hb : c.code = cc) (hts : ∀ w ∈ wsG, w.before args s = true) (hown : s.vm.findClass R_MO = some m.cls) (hK : va_K D vwCl TY s) (hP : va_P D vwCl ws H) (hD : va_D A ws) (hS : va_S A H0 H locs) (q0 : Nat) {fs : List Value} {v : Value} (he : ws[q0]? = some (a, .inr (7, fs))) (hn : narrow (.int) v = v) (hfit : fits (.int) v = true) (hl : 2 < fs.length) (hdg : decode cc pc = .ok (.putfield 115, 3)) (kk : ∀ (H1 : Heap) (locs1 : List Loc), va_P D vwCl (ws.set q0 (a, .inr (7, fs.set 2 v))) H1 → va_D A (ws.set q0 (a, .inr (7, fs.set 2 v))) → va_S A H0 H1 locs1 → W p l e R s m args below meth c H1 locs1 cells slots Q (F0 m (pc + 3) ls rest)) : W p l e R s m args below meth c H locs cells slots Q (F0 m pc ls (v :: .ref a :: rest)) :=
  va_put (D := D) (ci := 7) (v := v) (ty := .int) (C := R_MO) (T := F_MO) (N := 41) hx hb hts i_MO t_MO t_MO_ok n_MO hown hK hP hD hS q0 he rfl 2 (by decide) (hts _ k_26) (fun _ h9 => h9) rfl (by decide +kernel) hn hfit hl hdg kk
theorem pf_MO_121 (hx : p.tables.exec = Jvm.exec) (hb : c.code = cc) (hts : ∀ w ∈ wsG, w.before args s = true) (hown : s.vm.findClass R_MO = some m.cls) (hK : va_K D vwCl TY s) (hP : va_P D vwCl ws H) (hD : va_D A ws) (hS : va_S A H0 H locs) (q0 : Nat) {fs : List Value} {v : Value} (he : ws[q0]? = some (a, .inr (7, fs))) (hn : narrow (.boolean) v = v) (hfit : fits (.boolean) v = true) (hl : 16 < fs.length) (hdg : decode cc pc = .ok (.putfield 121, 3)) (kk : ∀ (H1 : Heap) (locs1 : List Loc), va_P D vwCl (ws.set q0 (a, .inr (7, fs.set 16 v))) H1 → va_D A (ws.set q0 (a, .inr (7, fs.set 16 v))) → va_S A H0 H1 locs1 → W p l e R s m args below meth c H1 locs1 cells slots Q (F0 m (pc + 3) ls rest)) : W p l e R s m args below meth c H locs cells slots Q (F0 m pc ls (v :: .ref a :: rest)) :=
  va_put (D := D) (ci := 7) (v := v) (ty := .boolean) (C := R_MO) (T := F_MO) (N := 41) hx hb hts i_MO t_MO t_MO_ok n_MO hown hK hP hD hS q0 he rfl 16 (by decide) (hts _ k_30) (fun _ h9 => h9) rfl (by decide +kernel) hn hfit hl hdg kk
theorem gf_MO_16 (hx : p.tables.exec = Jvm.exec) (hb : c.code = cc) (hts : ∀ w ∈ wsG, w.before args s = true) (hown : s.vm.findClass R_MO = some m.cls) (hK : va_K D vwCl TY s) (hP : va_P D vwCl ws H) (q0 : Nat) {fs : List Value} (he : ws[q0]? = some (a, .inr (7, fs))) {v : Value} (hv : fs[8]? = some v) (hdg : decode cc pc = .ok (.getfield 16, 3)) (kk : W p l e R s m args below meth c H locs cells slots Q (F0 m (pc + 3) ls (v :: rest))) : W p l e R s m args below meth c H locs cells slots Q (F0 m pc ls (.ref a :: rest)) :=
  va_get (D := D) (ci := 7) (C := R_MO) (T := F_MO) (N := 41) hx hb hts i_MO hown hK hP q0 he rfl 8 (by decide) (hts _ k_31) (fun _ h9 => h9) hv hdg kk
theorem gf_MO_19 (hx : p.tables.exec = Jvm.exec) (hb : c.code = cc) (hts : ∀ w ∈ wsG, w.before args s = true) (hown : s.vm.findClass R_MO = some m.cls) (hK : va_K D vwCl TY s) (hP : va_P D vwCl ws H) (q0 : Nat) {fs : List Value} (he : ws[q0]? = some (a, .inr (7, fs))) {v : Value} (hv : fs[9]? = some v) (hdg : decode cc pc = .ok (.getfield 19, 3)) (kk : W p l e R s m args below meth c H locs cells slots Q (F0 m (pc + 3) ls (v :: rest))) : W p l e R s m args below meth c H locs cells slots Q (F0 m pc ls (.ref a :: rest)) :=
  va_get (D := D) (ci := 7) (C := R_MO) (T := F_MO) (N := 41) hx hb hts i_MO hown hK hP q0 he rfl 9 (by decide) (hts _ k_32) (fun _ h9 => h9) hv hdg kk
theorem gf_MO_22 (hx : p.tables.exec = Jvm.exec) (hb : c.code = cc) (hts : ∀ w ∈ wsG, w.before args s = true) (hown : s.vm.findClass R_MO = some m.cls) (hK : va_K D vwCl TY s) (hP : va_P D vwCl ws H) (q0 : Nat) {fs : List Value} (he : ws[q0]? = some (a, .inr (7, fs))) {v : Value} (hv : fs[10]? = some v) (hdg : decode cc pc = .ok (.getfield 22, 3)) (kk : W p l e R s m args below meth c H locs cells slots Q (F0 m (pc + 3) ls (v :: rest))) : W p l e R s m args below meth c H locs cells slots Q (F0 m pc ls (.ref a :: rest)) :=
  va_get (D := D) (ci := 7) (C := R_MO) (T := F_MO) (N := 41) hx hb hts i_MO hown hK hP q0 he rfl 10 (by decide) (hts _ k_33) (fun _ h9 => h9) hv hdg kk
theorem pf_MO_112 (hx : p.tables.exec = Jvm.exec) (hb : c.code = cc) (hts : ∀ w ∈ wsG, w.before args s = true) (hown : s.vm.findClass R_MO = some m.cls) (hK : va_K D vwCl TY s) (hP : va_P D vwCl ws H) (hD : va_D A ws) (hS : va_S A H0 H locs) (q0 : Nat) {fs : List Value} {v : Value} (he : ws[q0]? = some (a, .inr (7, fs))) (hn : narrow (.int) v = v) (hfit : fits (.int) v = true) (hl : 4 < fs.length) (hdg : decode cc pc = .ok (.putfield 112, 3)) (kk : ∀ (H1 : Heap) (locs1 : List Loc), va_P D vwCl (ws.set q0 (a, .inr (7, fs.set 4 v))) H1 → va_D A (ws.set q0 (a, .inr (7, fs.set 4 v))) → va_S A H0 H1 locs1 → W p l e R s m args below meth c H1 locs1 cells slots Q (F0 m (pc + 3) ls rest)) : W p l e R s m args below meth c H locs cells slots Q (F0 m pc ls (v :: .ref a :: rest)) :=
  va_put (D := D) (ci := 7) (v := v) (ty := .int) (C := R_MO) (T := F_MO) (N := 41) hx hb hts i_MO t_MO t_MO_ok n_MO hown hK hP hD hS q0 he rfl 4 (by decide) (hts _ k_25) (fun _ h9 => h9) rfl (by decide +kernel) hn hfit hl hdg kk
theorem gf_MO_25 (hx : p.tables.exec = Jvm.exec) (hb : c.code = cc) (hts : ∀ w ∈ wsG, w.before args s = true) (hown : s.vm.findClass R_MO = some m.cls) (hK : va_K D vwCl TY s) (hP : va_P D vwCl ws H) (q0 : Nat) {fs : List Value} (he : ws[q0]? = some (a, .inr (7, fs))) {v : Value} (hv : fs[11]? = some v) (hdg : decode cc pc = .ok (.getfield 25, 3)) (kk : W p l e R s m args below meth c H locs cells slots Q (F0 m (pc + 3) ls (v :: rest))) : W p l e R s m args below meth c H locs cells slots Q (F0 m pc ls (.ref a :: rest)) :=
  va_get (D := D) (ci := 7) (C := R_MO) (T := F_MO) (N := 41) hx hb hts i_MO hown hK hP q0 he rfl 11 (by decide) (hts _ k_34) (fun _ h9 => h9) hv hdg kk
theorem gf_MO_28 (hx : p.tables.exec = Jvm.exec) (hb : c.code = cc) (hts : ∀ w ∈ wsG, w.before args s = true) (hown : s.vm.findClass R_MO = some m.cls) (hK : va_K D vwCl TY s) (hP : va_P D vwCl ws H) (q0 : Nat) {fs : List Value} (he : ws[q0]? = some (a, .inr (7, fs))) {v : Value} (hv : fs[12]? = some v) (hdg : decode cc pc = .ok (.getfield 28, 3)) (kk : W p l e R s m args below meth c H locs cells slots Q (F0 m (pc + 3) ls (v :: rest))) : W p l e R s m args below meth c H locs cells slots Q (F0 m pc ls (.ref a :: rest)) :=
  va_get (D := D) (ci := 7) (C := R_MO) (T := F_MO) (N := 41) hx hb hts i_MO hown hK hP q0 he rfl 12 (by decide) (hts _ k_35) (fun _ h9 => h9) hv hdg kk
theorem gf_MO_31 (hx : p.tables.exec = Jvm.exec) (hb : c.code = cc) (hts : ∀ w ∈ wsG, w.before args s = true) (hown : s.vm.findClass R_MO = some m.cls) (hK : va_K D vwCl TY s) (hP : va_P D vwCl ws H) (q0 : Nat) {fs : List Value} (he : ws[q0]? = some (a, .inr (7, fs))) {v : Value} (hv : fs[13]? = some v) (hdg : decode cc pc = .ok (.getfield 31, 3)) (kk : W p l e R s m args below meth c H locs cells slots Q (F0 m (pc + 3) ls (v :: rest))) : W p l e R s m args below meth c H locs cells slots Q (F0 m pc ls (.ref a :: rest)) :=
  va_get (D := D) (ci := 7) (C := R_MO) (T := F_MO) (N := 41) hx hb hts i_MO hown hK hP q0 he rfl 13 (by decide) (hts _ k_36) (fun _ h9 => h9) hv hdg kk
theorem gf_MO_34 (hx : p.tables.exec = Jvm.exec) (hb : c.code = cc) (hts : ∀ w ∈ wsG, w.before args s = true) (hown : s.vm.findClass R_MO = some m.cls) (hK : va_K D vwCl TY s) (hP : va_P D vwCl ws H) (q0 : Nat) {fs : List Value} (he : ws[q0]? = some (a, .inr (7, fs))) {v : Value} (hv : fs[14]? = some v) (hdg : decode cc pc = .ok (.getfield 34, 3)) (kk : W p l e R s m args below meth c H locs cells slots Q (F0 m (pc + 3) ls (v :: rest))) : W p l e R s m args below meth c H locs cells slots Q (F0 m pc ls (.ref a :: rest)) :=
  va_get (D := D) (ci := 7) (C := R_MO) (T := F_MO) (N := 41) hx hb hts i_MO hown hK hP q0 he rfl 14 (by decide) (hts _ k_37) (fun _ h9 => h9) hv hdg kk
theorem gf_MO_37 (hx : p.tables.exec = Jvm.exec) (hb : c.code = cc) (hts : ∀ w ∈ wsG, w.before args s = true) (hown : s.vm.findClass R_MO = some m.cls) (hK : va_K D vwCl TY s) (hP : va_P D vwCl ws H) (q0 : Nat) {fs : List Value} (he : ws[q0]? = some (a, .inr (7, fs))) {v : Value} (hv : fs[15]? = some v) (hdg : decode cc pc = .ok (.getfield 37, 3)) (kk : W p l e R s m args below meth c H locs cells slots Q (F0 m (pc + 3) ls (v :: rest))) : W p l e R s m args below meth c H locs cells slots Q (F0 m pc ls (.ref a :: rest)) :=
  va_get (D := D) (ci := 7) (C := R_MO) (T := F_MO) (N := 41) hx hb hts i_MO hown hK hP q0 he rfl 15 (by decide) (hts _ k_38) (fun _ h9 => h9) hv hdg kk
theorem gf_MO_135 (hx : p.tables.exec = Jvm.exec) (hb : c.code = cc) (hts : ∀ w ∈ wsG, w.before args s = true) (hown : s.vm.findClass R_MO = some m.cls) (hK : va_K D vwCl TY s) (hP : va_P D vwCl ws H) (q0 : Nat) {fs : List Value} (he : ws[q0]? = some (a, .inr (7, fs))) {v : Value} (hv : fs[5]? = some v) (hdg : decode cc pc = .ok (.getfield 135, 3)) (kk : W p l e R s m args below meth c H locs cells slots Q (F0 m (pc + 3) ls (v :: rest))) : W p l e R s m args below meth c H locs cells slots Q (F0 m pc ls (.ref a :: rest)) :=
  va_get (D := D) (ci := 7) (C := R_MO) (T := F_MO) (N := 41) hx hb hts i_MO hown hK hP q0 he rfl 5 (by decide) (hts _ k_39) (fun _ h9 => h9) hv hdg kk
theorem pf_MO_135 (hx : p.tables.exec = Jvm.exec) (hb : c.code = cc) (hts : ∀ w ∈ wsG, w.before args s = true) (hown : s.vm.findClass R_MO = some m.cls) (hK : va_K D vwCl TY s) (hP : va_P D vwCl ws H) (hD : va_D A ws) (hS : va_S A H0 H locs) (q0 : Nat) {fs : List Value} {v : Value} (he : ws[q0]? = some (a, .inr (7, fs))) (hn : narrow (.int) v = v) (hfit : fits (.int) v = true) (hl : 5 < fs.length) (hdg : decode cc pc = .ok (.putfield 135, 3)) (kk : ∀ (H1 : Heap) (locs1 : List Loc), va_P D vwCl (ws.set q0 (a, .inr (7, fs.set 5 v))) H1 → va_D A (ws.set q0 (a, .inr (7, fs.set 5 v))) → va_S A H0 H1 locs1 → W p l e R s m args below meth c H1 locs1 cells slots Q (F0 m (pc + 3) ls rest)) : W p l e R s m args below meth c H locs cells slots Q (F0 m pc ls (v :: .ref a :: rest)) :=
  va_put (D := D) (ci := 7) (v := v) (ty := .int) (C := R_MO) (T := F_MO) (N := 41) hx hb hts i_MO t_MO t_MO_ok n_MO hown hK hP hD hS q0 he rfl 5 (by decide) (hts _ k_39) (fun _ h9 => h9) rfl (by decide +kernel) hn hfit hl hdg kk
theorem gf_MO_46 (hx : p.tables.exec = Jvm.exec) (hb : c.code = cc) (hts : ∀ w ∈ wsG, w.before args s = true) (hown : s.vm.findClass R_MO = some m.cls) (hK : va_K D vwCl TY s) (hP : va_P D vwCl ws H) (q0 : Nat) {fs : List Value} (he : ws[q0]? = some (a, .inr (7, fs))) {v : Value} (hv : fs[21]? = some v) (hdg : decode cc pc = .ok (.getfield 46, 3)) (kk : W p l e R s m args below meth c H locs cells slots Q (F0 m (pc + 3) ls (v :: rest))) : W p l e R s m args below meth c H locs cells slots Q (F0 m pc ls (.ref a :: rest)) :=
  va_get (D := D) (ci := 7) (C := R_MO) (T := F_MO) (N := 41) hx hb hts i_MO hown hK hP q0 he rfl 21 (by decide) (hts _ k_40) (fun _ h9 => h9) hv hdg kk
theorem gf_MO_152 (hx : p.tables.exec = Jvm.exec) (hb : c.code = cc) (hts : ∀ w ∈ wsG, w.before args s = true) (hown : s.vm.findClass R_MO = some m.cls) (hK : va_K D vwCl TY s) (hP : va_P D vwCl ws H) (q0 : Nat) {fs : List Value} (he : ws[q0]? = some (a, .inr (7, fs))) {v : Value} (hv : fs[20]? = some v) (hdg : decode cc pc = .ok (.getfield 152, 3)) (kk : W p l e R s m args below meth c H locs cells slots Q (F0 m (pc + 3) ls (v :: rest))) : W p l e R s m args below meth c H locs cells slots Q (F0 m pc ls (.ref a :: rest)) :=
  va_get (D := D) (ci := 7) (C := R_MO) (T := F_MO) (N := 41) hx hb hts i_MO hown hK hP q0 he rfl 20 (by decide) (hts _ k_41) (fun _ h9 => h9) hv hdg kk
theorem gf_MO_49 (hx : p.tables.exec = Jvm.exec) (hb : c.code = cc) (hts : ∀ w ∈ wsG, w.before args s = true) (hown : s.vm.findClass R_MO = some m.cls) (hK : va_K D vwCl TY s) (hP : va_P D vwCl ws H) (q0 : Nat) {fs : List Value} (he : ws[q0]? = some (a, .inr (7, fs))) {v : Value} (hv : fs[22]? = some v) (hdg : decode cc pc = .ok (.getfield 49, 3)) (kk : W p l e R s m args below meth c H locs cells slots Q (F0 m (pc + 3) ls (v :: rest))) : W p l e R s m args below meth c H locs cells slots Q (F0 m pc ls (.ref a :: rest)) :=
  va_get (D := D) (ci := 7) (C := R_MO) (T := F_MO) (N := 41) hx hb hts i_MO hown hK hP q0 he rfl 22 (by decide) (hts _ k_42) (fun _ h9 => h9) hv hdg kk
theorem gf_MO_52 (hx : p.tables.exec = Jvm.exec) (hb : c.code = cc) (hts : ∀ w ∈ wsG, w.before args s = true) (hown : s.vm.findClass R_MO = some m.cls) (hK : va_K D vwCl TY s) (hP : va_P D vwCl ws H) (q0 : Nat) {fs : List Value} (he : ws[q0]? = some (a, .inr (7, fs))) {v : Value} (hv : fs[23]? = some v) (hdg : decode cc pc = .ok (.getfield 52, 3)) (kk : W p l e R s m args below meth c H locs cells slots Q (F0 m (pc + 3) ls (v :: rest))) : W p l e R s m args below meth c H locs cells slots Q (F0 m pc ls (.ref a :: rest)) :=
  va_get (D := D) (ci := 7) (C := R_MO) (T := F_MO) (N := 41) hx hb hts i_MO hown hK hP q0 he rfl 23 (by decide) (hts _ k_43) (fun _ h9 => h9) hv hdg kk
theorem gf_MO_55 (hx : p.tables.exec = Jvm.exec) (hb : c.code = cc) (hts : ∀ w ∈ wsG, w.before args s = true) (hown : s.vm.findClass R_MO = some m.cls) (hK : va_K D vwCl TY s) (hP : va_P D vwCl ws H) (q0 : Nat) {fs : List Value} (he : ws[q0]? = some (a, .inr (7, fs))) {v : Value} (hv : fs[24]? = some v) (hdg : decode cc pc = .ok (.getfield 55, 3)) (kk : W p l e R s m args below meth c H locs cells slots Q (F0 m (pc + 3) ls (v :: rest))) : W p l e R s m args below meth c H locs cells slots Q (F0 m pc ls (.ref a :: rest)) :=
  va_get (D := D) (ci := 7) (C := R_MO) (T := F_MO) (N := 41) hx hb hts i_MO hown hK hP q0 he rfl 24 (by decide) (hts _ k_44) (fun _ h9 => h9) hv hdg kk
theorem gf_MO_58 (hx : p.tables.exec = Jvm.exec) (hb : c.code = cc) (hts : ∀ w ∈ wsG, w.before args s = true) (hown : s.vm.findClass R_MO = some m.cls) (hK : va_K D vwCl TY s) (hP : va_P D vwCl ws H) (q0 : Nat) {fs : List Value} (he : ws[q0]? = some (a, .inr (7, fs))) {v : Value} (hv : fs[25]? = some v) (hdg : decode cc pc = .ok (.getfield 58, 3)) (kk : W p l e R s m args below meth c H locs cells slots Q (F0 m (pc + 3) ls (v :: rest))) : W p l e R s m args below meth c H locs cells slots Q (F0 m pc ls (.ref a :: rest)) :=
  va_get (D := D) (ci := 7) (C := R_MO) (T := F_MO) (N := 41) hx hb hts i_MO hown hK hP q0 he rfl 25 (by decide) (hts _ k_45) (fun _ h9 => h9) hv hdg kk
theorem pf_MO_152 (hx : p.tables.exec = Jvm.exec) (hb : c.code = cc) (hts : ∀ w ∈ wsG, w.before args s = true) (hown : s.vm.findClass R_MO = some m.cls) (hK : va_K D vwCl TY s) (hP : va_P D vwCl ws H) (hD : va_D A ws) (hS : va_S A H0 H locs) (q0 : Nat) {fs : List Value} {v : Value} (he : ws[q0]? = some (a, .inr (7, fs))) (hn : narrow (.int) v = v) (hfit : fits (.int) v = true) (hl : 20 < fs.length) (hdg : decode cc pc = .ok (.putfield 152, 3)) (kk : ∀ (H1 : Heap) (locs1 : List Loc), va_P D vwCl (ws.set q0 (a, .inr (7, fs.set 20 v))) H1 → va_D A (ws.set q0 (a, .inr (7, fs.set 20 v))) → va_S A H0 H1 locs1 → W p l e R s m args below meth c H1 locs1 cells slots Q (F0 m (pc + 3) ls rest)) : W p l e R s m args below meth c H locs cells slots Q (F0 m pc ls (v :: .ref a :: rest)) :=
  va_put (D := D) (ci := 7) (v := v) (ty := .int) (C := R_MO) (T := F_MO) (N := 41) hx hb hts i_MO t_MO t_MO_ok n_MO hown hK hP hD hS q0 he rfl 20 (by decide) (hts _ k_41) (fun _ h9 => h9) rfl (by decide +kernel) hn hfit hl hdg kk
theorem pf_MO_155 (hx : p.tables.exec = Jvm.exec) (hb : c.code = cc) (hts : ∀ w ∈ wsG, w.before args s = true) (hown : s.vm.findClass R_MO = some m.cls) (hK : va_K D vwCl TY s) (hP : va_P D vwCl ws H) (hD : va_D A ws) (hS : va_S A H0 H locs) (q0 : Nat) {fs : List Value} {v : Value} (he : ws[q0]? = some (a, .inr (7, fs))) (hn : narrow (.boolean) v = v) (hfit : fits (.boolean) v = true) (hl : 19 < fs.length) (hdg : decode cc pc = .ok (.putfield 155, 3)) (kk : ∀ (H1 : Heap) (locs1 : List Loc), va_P D vwCl (ws.set q0 (a, .inr (7, fs.set 19 v))) H1 → va_D A (ws.set q0 (a, .inr (7, fs.set 19 v))) → va_S A H0 H1 locs1 → W p l e R s m args below meth c H1 locs1 cells slots Q (F0 m (pc + 3) ls rest)) : W p l e R s m args below meth c H locs cells slots Q (F0 m pc ls (v :: .ref a :: rest)) :=
  va_put (D := D) (ci := 7) (v := v) (ty := .boolean) (C := R_MO) (T := F_MO) (N := 41) hx hb hts i_MO t_MO t_MO_ok n_MO hown hK hP hD hS q0 he rfl 19 (by decide) (hts _ k_46) (fun _ h9 => h9) rfl (by decide +kernel) hn hfit hl hdg kk
theorem gf_MO_155 (hx : p.tables.exec = Jvm.exec) (hb : c.code = cc) (hts : ∀ w ∈ wsG, w.before args s = true) (hown : s.vm.findClass R_MO = some m.cls) (hK : va_K D vwCl TY s) (hP : va_P D vwCl ws H) (q0 : Nat) {fs : List Value} (he : ws[q0]? = some (a, .inr (7, fs))) {v : Value} (hv : fs[19]? = some v) (hdg : decode cc pc = .ok (.getfield 155, 3)) (kk : W p l e R s m args below meth c H locs cells slots Q (F0 m (pc + 3) ls (v :: rest))) : W p l e R s m args below meth c H locs cells slots Q (F0 m pc ls (.ref a :: rest)) :=
  va_get (D := D) (ci := 7) (C := R_MO) (T := F_MO) (N := 41) hx hb hts i_MO hown hK hP q0 he rfl 19 (by decide) (hts _ k_46) (fun _ h9 => h9) hv hdg kk
theorem gf_MO_40 (hx : p.tables.exec = Jvm.exec) (hb : c.code = cc) (hts : ∀ w ∈ wsG, w.before args s = true) (hown : s.vm.findClass R_MO = some m.cls) (hK : va_K D vwCl TY s) (hP : va_P D vwCl ws H) (q0 : Nat) {fs : List Value} (he : ws[q0]? = some (a, .inr (7, fs))) {v : Value} (hv : fs[17]? = some v) (hdg : decode cc pc = .ok (.getfield 40, 3)) (kk : W p l e R s m args below meth c H locs cells slots Q (F0 m (pc + 3) ls (v :: rest))) : W p l e R s m args below meth c H locs cells slots Q (F0 m pc ls (.ref a :: rest)) :=
  va_get (D := D) (ci := 7) (C := R_MO) (T := F_MO) (N := 41) hx hb hts i_MO hown hK hP q0 he rfl 17 (by decide) (hts _ k_47) (fun _ h9 => h9) hv hdg kk
theorem gf_MO_97 (hx : p.tables.exec = Jvm.exec) (hb : c.code = cc) (hts : ∀ w ∈ wsG, w.before args s = true) (hown : s.vm.findClass R_MO = some m.cls) (hK : va_K D vwCl TY s) (hP : va_P D vwCl ws H) (q0 : Nat) {fs : List Value} (he : ws[q0]? = some (a, .inr (7, fs))) {v : Value} (hv : fs[1]? = some v) (hdg : decode cc pc = .ok (.getfield 97, 3)) (kk : W p l e R s m args below meth c H locs cells slots Q (F0 m (pc + 3) ls (v :: rest))) : W p l e R s m args below meth c H locs cells slots Q (F0 m pc ls (.ref a :: rest)) :=
  va_get (D := D) (ci := 7) (C := R_MO) (T := F_MO) (N := 41) hx hb hts i_MO hown hK hP q0 he rfl 1 (by decide) (hts _ k_48) (fun _ h9 => h9) hv hdg kk
theorem cw_MO_104 {rm : Room} (hts : ∀ w ∈ wsG, w.before args s = true) (hR : rm.frames + 1 ≤ R.frames ∧ 8 + (3 + 11) + rm.locals ≤ R.locals) : CallB R s args R_MO 104 y_MO_within b_MO_within 3 (some .boolean) (.code y_MO_within b_MO_within 3 (some .boolean) :: wsG) rm rm.cells rm.slots 3 ∧ (Cond.static y_MO_within).before args s = true :=
  ky_cwS 3 hts k_49 k_50 k_52 k_51 (by decide +kernel) hR
theorem cw_MO_108 {rm : Room} (hts : ∀ w ∈ wsG, w.before args s = true) (hR : rm.frames + 1 ≤ R.frames ∧ 8 + (2 + 11) + rm.locals ≤ R.locals) : CallW R s args R_MO R_MO 108 y_MO_fail b_MO_fail 2 (some .int) (.code y_MO_fail b_MO_fail 2 (some .int) :: wsG) rm rm.cells rm.slots 1 :=
  ky_cwV 1 hts k_53 k_54 k_55 k_56 k_51 (by decide +kernel) hR
theorem cw_MO_125 {rm : Room} (hts : ∀ w ∈ wsG, w.before args s = true) (hR : rm.frames + 1 ≤ R.frames ∧ 8 + (2 + 11) + rm.locals ≤ R.locals) : CallW R s args R_MO R_MO 125 y_MO_isOperand b_MO_isOperand 2 (some .boolean) (.code y_MO_isOperand b_MO_isOperand 2 (some .boolean) :: wsG) rm rm.cells rm.slots 1 :=
  ky_cwV 1 hts k_57 k_58 k_59 k_60 k_51 (by decide +kernel) hR
theorem cw_MO_129 {rm : Room} (hts : ∀ w ∈ wsG, w.before args s = true) (hR : rm.frames + 1 ≤ R.frames ∧ 8 + (4 + 11) + rm.locals ≤ R.locals) : CallW R s args R_MO R_MO 129 y_MO_isExpression b_MO_isExpression 4 (some .boolean) (.code y_MO_isExpression b_MO_isExpression 4 (some .boolean) :: wsG) rm rm.cells rm.slots 3 :=
  ky_cwV 3 hts k_61 k_62 k_63 k_64 k_51 (by decide +kernel) hR
theorem cw_MO_132 {rm : Room} (hts : ∀ w ∈ wsG, w.before args s = true) (hR : rm.frames + 1 ≤ R.frames ∧ 8 + (2 + 11) + rm.locals ≤ R.locals) : CallW R s args R_MO R_MO 132 y_MO_isState b_MO_isState 2 (some .boolean) (.code y_MO_isState b_MO_isState 2 (some .boolean) :: wsG) rm rm.cells rm.slots 1 :=
  ky_cwV 1 hts k_65 k_66 k_67 k_68 k_51 (by decide +kernel) hR
theorem cw_MO_138 {rm : Room} (hts : ∀ w ∈ wsG, w.before args s = true) (hR : rm.frames + 1 ≤ R.frames ∧ 8 + (3 + 11) + rm.locals ≤ R.locals) : CallW R s args R_MO R_MO 138 y_MO_valueOf b_MO_valueOf 3 (some .int) (.code y_MO_valueOf b_MO_valueOf 3 (some .int) :: wsG) rm rm.cells rm.slots 2 :=
  ky_cwV 2 hts k_69 k_70 k_71 k_72 k_51 (by decide +kernel) hR
theorem cw_MO_142 {rm : Room} (hts : ∀ w ∈ wsG, w.before args s = true) (hR : rm.frames + 1 ≤ R.frames ∧ 8 + (7 + 11) + rm.locals ≤ R.locals) : CallW R s args R_MO R_MO 142 y_MO_result b_MO_result 7 (some .int) (.code y_MO_result b_MO_result 7 (some .int) :: wsG) rm rm.cells rm.slots 4 :=
  ky_cwV 4 hts k_73 k_74 k_75 k_76 k_51 (by decide +kernel) hR
theorem cw_MO_146 {rm : Room} (hts : ∀ w ∈ wsG, w.before args s = true) (hR : rm.frames + 1 ≤ R.frames ∧ 8 + (7 + 11) + rm.locals ≤ R.locals) : CallW R s args R_MO R_MO 146 y_MO_stepOf b_MO_stepOf 7 (some .int) (.code y_MO_stepOf b_MO_stepOf 7 (some .int) :: wsG) rm rm.cells rm.slots 2 :=
  ky_cwV 2 hts k_77 k_78 k_79 k_80 k_51 (by decide +kernel) hR
theorem cw_MO_149 {rm : Room} (hts : ∀ w ∈ wsG, w.before args s = true) (hR : rm.frames + 1 ≤ R.frames ∧ 8 + (3 + 11) + rm.locals ≤ R.locals) : CallW R s args R_MO R_MO 149 y_MO_outputOf b_MO_outputOf 3 (some .int) (.code y_MO_outputOf b_MO_outputOf 3 (some .int) :: wsG) rm rm.cells rm.slots 2 :=
  ky_cwV 2 hts k_81 k_82 k_83 k_84 k_51 (by decide +kernel) hR
theorem cw_MO_158 {rm : Room} (hts : ∀ w ∈ wsG, w.before args s = true) (hR : rm.frames + 1 ≤ R.frames ∧ 8 + (4 + 11) + rm.locals ≤ R.locals) : CallW R s args R_MO R_MO 158 y_MO_come b_MO_come 4 none (.code y_MO_come b_MO_come 4 none :: wsG) rm rm.cells rm.slots 3 :=
  ky_cwV 3 hts k_85 k_86 k_87 k_88 k_51 (by decide +kernel) hR
end Sites

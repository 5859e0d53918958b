abbrev b_MA_addInput : ByteArray := prog_3_method_9_code
def y_MA_addInput : MethodName := ⟨R_MA, "addInput", "(III)I"⟩
abbrev b_MA_addTransfer : ByteArray := prog_3_method_10_code
def y_MA_addTransfer : MethodName := ⟨R_MA, "addTransfer", "(IIIII)I"⟩
abbrev b_MA_move : ByteArray := prog_3_method_13_code
def y_MA_move : MethodName := ⟨R_MA, "move", "(II)I"⟩
abbrev b_MA_next : ByteArray := prog_3_method_11_code
def y_MA_next : MethodName := ⟨R_MA, "next", "(II)I"⟩
abbrev b_MA_given : ByteArray := prog_3_method_12_code
def y_MA_given : MethodName := ⟨R_MA, "given", "(II)I"⟩
theorem k_153 : Cond.fieldLink R_MA 20 R_MA "rules" "[LSmallExhaust$Rule;" ∈ wsG := by decide +kernel
theorem k_154 : Cond.fieldLink R_MA 50 R_RU "moves" "[I" ∈ wsG := by decide +kernel
theorem k_155 : Cond.fieldLink R_MA 59 R_RU "transfers" "I" ∈ wsG := by decide +kernel
theorem k_156 : Cond.fieldLink R_MA 60 R_RU "targets" "[I" ∈ wsG := by decide +kernel
theorem k_157 : Cond.fieldLink R_MA 34 R_MA "transfers" "I" ∈ wsG := by decide +kernel
theorem k_158 : Cond.fieldLink R_MA 67 R_RU "lefts" "[I" ∈ wsG := by decide +kernel
theorem k_159 : Cond.fieldLink R_MA 73 R_RU "rights" "[I" ∈ wsG := by decide +kernel
theorem k_160 : Cond.fieldLink R_MA 76 R_RU "ops" "[I" ∈ wsG := by decide +kernel
theorem k_161 : Cond.code y_RU_put b_RU_put 5 none ∈ wsG := by decide +kernel
theorem k_162 : Cond.methodLink R_MA 46 y_RU_put ∈ wsG := by decide +kernel
theorem k_163 : Cond.initialized R_RU ∈ wsG := by decide +kernel
theorem k_164 : Cond.instanceMethod y_RU_put ∈ wsG := by decide +kernel
theorem k_165 : Cond.selects R_RU y_RU_put y_RU_put ∈ wsG := by decide +kernel
theorem k_166 : Cond.code y_AR_fill b_AR_fill 4 none ∈ wsG := by decide +kernel
theorem k_167 : Cond.methodLink R_MA 53 y_AR_fill ∈ wsG := by decide +kernel
theorem k_168 : Cond.initialized R_AR ∈ wsG := by decide +kernel
theorem k_169 : Cond.static y_AR_fill ∈ wsG := by decide +kernel
theorem k_170 : Cond.code y_MA_operandValue b_MA_operandValue 3 (some .int) ∈ wsG := by decide +kernel
theorem k_171 : Cond.methodLink R_MA 70 y_MA_operandValue ∈ wsG := by decide +kernel
theorem k_172 : Cond.instanceMethod y_MA_operandValue ∈ wsG := by decide +kernel
theorem k_173 : Cond.selects R_MA y_MA_operandValue y_MA_operandValue ∈ wsG := by decide +kernel
theorem k_174 : Cond.code y_MA_valueOf b_MA_valueOf 3 (some .int) ∈ wsG := by decide +kernel
theorem k_175 : Cond.methodLink R_MA 79 y_MA_valueOf ∈ wsG := by decide +kernel
theorem k_176 : Cond.static y_MA_valueOf ∈ wsG := by decide +kernel
theorem k_177 : Cond.code y_MA_withRegister b_MA_withRegister 5 (some .int) ∈ wsG := by decide +kernel
theorem k_178 : Cond.methodLink R_MA 83 y_MA_withRegister ∈ wsG := by decide +kernel
theorem k_179 : Cond.instanceMethod y_MA_withRegister ∈ wsG := by decide +kernel
theorem k_180 : Cond.selects R_MA y_MA_withRegister y_MA_withRegister ∈ wsG := by decide +kernel
theorem k_181 : Cond.code y_MA_move b_MA_move 10 (some .int) ∈ wsG := by decide +kernel
theorem k_182 : Cond.methodLink R_MA 63 y_MA_move ∈ wsG := by decide +kernel
theorem k_183 : Cond.instanceMethod y_MA_move ∈ wsG := by decide +kernel
theorem k_184 : Cond.selects R_MA y_MA_move y_MA_move ∈ wsG := by decide +kernel
theorem d_MA_addInput_0 : decode b_MA_addInput 0 = .ok (.aload_n 0, 1) := by decide +kernel
theorem d_MA_addInput_1 : decode b_MA_addInput 1 = .ok (.getfield 31, 3) := by decide +kernel
theorem d_MA_addInput_4 : decode b_MA_addInput 4 = .ok (.istore 4, 2) := by decide +kernel
theorem d_MA_addInput_6 : decode b_MA_addInput 6 = .ok (.aload_n 0, 1) := by decide +kernel
theorem d_MA_addInput_7 : decode b_MA_addInput 7 = .ok (.getfield 20, 3) := by decide +kernel
theorem d_MA_addInput_10 : decode b_MA_addInput 10 = .ok (.iload 4, 2) := by decide +kernel
theorem d_MA_addInput_12 : decode b_MA_addInput 12 = .ok (.aaload, 1) := by decide +kernel
theorem d_MA_addInput_13 : decode b_MA_addInput 13 = .ok (.astore 5, 2) := by decide +kernel
theorem d_MA_addInput_15 : decode b_MA_addInput 15 = .ok (.aload 5, 2) := by decide +kernel
theorem d_MA_addInput_17 : decode b_MA_addInput 17 = .ok (.iconst 0, 1) := by decide +kernel
theorem d_MA_addInput_18 : decode b_MA_addInput 18 = .ok (.iload_n 1, 1) := by decide +kernel
theorem d_MA_addInput_19 : decode b_MA_addInput 19 = .ok (.iload_n 2, 1) := by decide +kernel
theorem d_MA_addInput_20 : decode b_MA_addInput 20 = .ok (.iload_n 3, 1) := by decide +kernel
theorem d_MA_addInput_21 : decode b_MA_addInput 21 = .ok (.invokevirtual 46, 3) := by decide +kernel
theorem d_MA_addInput_24 : decode b_MA_addInput 24 = .ok (.aload 5, 2) := by decide +kernel
theorem d_MA_addInput_26 : decode b_MA_addInput 26 = .ok (.aload_n 0, 1) := by decide +kernel
theorem d_MA_addInput_27 : decode b_MA_addInput 27 = .ok (.invokevirtual 38, 3) := by decide +kernel
theorem d_MA_addInput_30 : decode b_MA_addInput 30 = .ok (.newarray .int, 2) := by decide +kernel
theorem d_MA_addInput_32 : decode b_MA_addInput 32 = .ok (.putfield 50, 3) := by decide +kernel
theorem d_MA_addInput_35 : decode b_MA_addInput 35 = .ok (.aload 5, 2) := by decide +kernel
theorem d_MA_addInput_37 : decode b_MA_addInput 37 = .ok (.getfield 50, 3) := by decide +kernel
theorem d_MA_addInput_40 : decode b_MA_addInput 40 = .ok (.iconst (-1), 1) := by decide +kernel
theorem d_MA_addInput_41 : decode b_MA_addInput 41 = .ok (.invokestatic 53, 3) := by decide +kernel
theorem d_MA_addInput_44 : decode b_MA_addInput 44 = .ok (.aload_n 0, 1) := by decide +kernel
theorem d_MA_addInput_45 : decode b_MA_addInput 45 = .ok (.dup, 1) := by decide +kernel
theorem d_MA_addInput_46 : decode b_MA_addInput 46 = .ok (.getfield 31, 3) := by decide +kernel
theorem d_MA_addInput_49 : decode b_MA_addInput 49 = .ok (.iconst 1, 1) := by decide +kernel
theorem d_MA_addInput_50 : decode b_MA_addInput 50 = .ok (.iadd, 1) := by decide +kernel
theorem d_MA_addInput_51 : decode b_MA_addInput 51 = .ok (.putfield 31, 3) := by decide +kernel
theorem d_MA_addInput_54 : decode b_MA_addInput 54 = .ok (.iload 4, 2) := by decide +kernel
theorem d_MA_addInput_56 : decode b_MA_addInput 56 = .ok (.ireturn, 1) := by decide +kernel
theorem d_MA_addTransfer_0 : decode b_MA_addTransfer 0 = .ok (.aload_n 0, 1) := by decide +kernel
theorem d_MA_addTransfer_1 : decode b_MA_addTransfer 1 = .ok (.getfield 20, 3) := by decide +kernel
theorem d_MA_addTransfer_4 : decode b_MA_addTransfer 4 = .ok (.iload_n 1, 1) := by decide +kernel
theorem d_MA_addTransfer_5 : decode b_MA_addTransfer 5 = .ok (.aaload, 1) := by decide +kernel
theorem d_MA_addTransfer_6 : decode b_MA_addTransfer 6 = .ok (.astore 6, 2) := by decide +kernel
theorem d_MA_addTransfer_8 : decode b_MA_addTransfer 8 = .ok (.aload 6, 2) := by decide +kernel
theorem d_MA_addTransfer_10 : decode b_MA_addTransfer 10 = .ok (.dup, 1) := by decide +kernel
theorem d_MA_addTransfer_11 : decode b_MA_addTransfer 11 = .ok (.getfield 59, 3) := by decide +kernel
theorem d_MA_addTransfer_14 : decode b_MA_addTransfer 14 = .ok (.iconst 1, 1) := by decide +kernel
theorem d_MA_addTransfer_15 : decode b_MA_addTransfer 15 = .ok (.iadd, 1) := by decide +kernel
theorem d_MA_addTransfer_16 : decode b_MA_addTransfer 16 = .ok (.putfield 59, 3) := by decide +kernel
theorem d_MA_addTransfer_19 : decode b_MA_addTransfer 19 = .ok (.aload 6, 2) := by decide +kernel
theorem d_MA_addTransfer_21 : decode b_MA_addTransfer 21 = .ok (.getfield 60, 3) := by decide +kernel
theorem d_MA_addTransfer_24 : decode b_MA_addTransfer 24 = .ok (.aload 6, 2) := by decide +kernel
theorem d_MA_addTransfer_26 : decode b_MA_addTransfer 26 = .ok (.getfield 59, 3) := by decide +kernel
theorem d_MA_addTransfer_29 : decode b_MA_addTransfer 29 = .ok (.iload_n 2, 1) := by decide +kernel
theorem d_MA_addTransfer_30 : decode b_MA_addTransfer 30 = .ok (.iastore, 1) := by decide +kernel
theorem d_MA_addTransfer_31 : decode b_MA_addTransfer 31 = .ok (.aload 6, 2) := by decide +kernel
theorem d_MA_addTransfer_33 : decode b_MA_addTransfer 33 = .ok (.aload 6, 2) := by decide +kernel
theorem d_MA_addTransfer_35 : decode b_MA_addTransfer 35 = .ok (.getfield 59, 3) := by decide +kernel
theorem d_MA_addTransfer_38 : decode b_MA_addTransfer 38 = .ok (.iload_n 3, 1) := by decide +kernel
theorem d_MA_addTransfer_39 : decode b_MA_addTransfer 39 = .ok (.iload 4, 2) := by decide +kernel
theorem d_MA_addTransfer_41 : decode b_MA_addTransfer 41 = .ok (.iload 5, 2) := by decide +kernel
theorem d_MA_addTransfer_43 : decode b_MA_addTransfer 43 = .ok (.invokevirtual 46, 3) := by decide +kernel
theorem d_MA_addTransfer_46 : decode b_MA_addTransfer 46 = .ok (.aload 6, 2) := by decide +kernel
theorem d_MA_addTransfer_48 : decode b_MA_addTransfer 48 = .ok (.getfield 50, 3) := by decide +kernel
theorem d_MA_addTransfer_51 : decode b_MA_addTransfer 51 = .ok (.iconst (-1), 1) := by decide +kernel
theorem d_MA_addTransfer_52 : decode b_MA_addTransfer 52 = .ok (.invokestatic 53, 3) := by decide +kernel
theorem d_MA_addTransfer_55 : decode b_MA_addTransfer 55 = .ok (.aload_n 0, 1) := by decide +kernel
theorem d_MA_addTransfer_56 : decode b_MA_addTransfer 56 = .ok (.dup, 1) := by decide +kernel
theorem d_MA_addTransfer_57 : decode b_MA_addTransfer 57 = .ok (.getfield 34, 3) := by decide +kernel
theorem d_MA_addTransfer_60 : decode b_MA_addTransfer 60 = .ok (.iconst 1, 1) := by decide +kernel
theorem d_MA_addTransfer_61 : decode b_MA_addTransfer 61 = .ok (.iadd, 1) := by decide +kernel
theorem d_MA_addTransfer_62 : decode b_MA_addTransfer 62 = .ok (.putfield 34, 3) := by decide +kernel
theorem d_MA_addTransfer_65 : decode b_MA_addTransfer 65 = .ok (.aload 6, 2) := by decide +kernel
theorem d_MA_addTransfer_67 : decode b_MA_addTransfer 67 = .ok (.getfield 59, 3) := by decide +kernel
theorem d_MA_addTransfer_70 : decode b_MA_addTransfer 70 = .ok (.ireturn, 1) := by decide +kernel
theorem d_MA_move_0 : decode b_MA_move 0 = .ok (.aload_n 0, 1) := by decide +kernel
theorem d_MA_move_1 : decode b_MA_move 1 = .ok (.getfield 20, 3) := by decide +kernel
theorem d_MA_move_4 : decode b_MA_move 4 = .ok (.iload_n 2, 1) := by decide +kernel
theorem d_MA_move_5 : decode b_MA_move 5 = .ok (.aaload, 1) := by decide +kernel
theorem d_MA_move_6 : decode b_MA_move 6 = .ok (.astore_n 3, 1) := by decide +kernel
theorem d_MA_move_7 : decode b_MA_move 7 = .ok (.aload_n 3, 1) := by decide +kernel
theorem d_MA_move_8 : decode b_MA_move 8 = .ok (.getfield 50, 3) := by decide +kernel
theorem d_MA_move_11 : decode b_MA_move 11 = .ok (.iload_n 1, 1) := by decide +kernel
theorem d_MA_move_12 : decode b_MA_move 12 = .ok (.iaload, 1) := by decide +kernel
theorem d_MA_move_13 : decode b_MA_move 13 = .ok (.iconst (-1), 1) := by decide +kernel
theorem d_MA_move_14 : decode b_MA_move 14 = .ok (.if_icmp .eq 10, 3) := by decide +kernel
theorem d_MA_move_17 : decode b_MA_move 17 = .ok (.aload_n 3, 1) := by decide +kernel
theorem d_MA_move_18 : decode b_MA_move 18 = .ok (.getfield 50, 3) := by decide +kernel
theorem d_MA_move_21 : decode b_MA_move 21 = .ok (.iload_n 1, 1) := by decide +kernel
theorem d_MA_move_22 : decode b_MA_move 22 = .ok (.iaload, 1) := by decide +kernel
theorem d_MA_move_23 : decode b_MA_move 23 = .ok (.ireturn, 1) := by decide +kernel
theorem d_MA_move_24 : decode b_MA_move 24 = .ok (.iconst 0, 1) := by decide +kernel
theorem d_MA_move_25 : decode b_MA_move 25 = .ok (.istore 4, 2) := by decide +kernel
theorem d_MA_move_27 : decode b_MA_move 27 = .ok (.iload_n 1, 1) := by decide +kernel
theorem d_MA_move_28 : decode b_MA_move 28 = .ok (.istore 5, 2) := by decide +kernel
theorem d_MA_move_30 : decode b_MA_move 30 = .ok (.iconst 0, 1) := by decide +kernel
theorem d_MA_move_31 : decode b_MA_move 31 = .ok (.istore 6, 2) := by decide +kernel
theorem d_MA_move_33 : decode b_MA_move 33 = .ok (.iload 6, 2) := by decide +kernel
theorem d_MA_move_35 : decode b_MA_move 35 = .ok (.aload_n 3, 1) := by decide +kernel
theorem d_MA_move_36 : decode b_MA_move 36 = .ok (.getfield 59, 3) := by decide +kernel
theorem d_MA_move_39 : decode b_MA_move 39 = .ok (.if_icmp .gt 85, 3) := by decide +kernel
theorem d_MA_move_42 : decode b_MA_move 42 = .ok (.aload_n 0, 1) := by decide +kernel
theorem d_MA_move_43 : decode b_MA_move 43 = .ok (.aload_n 3, 1) := by decide +kernel
theorem d_MA_move_44 : decode b_MA_move 44 = .ok (.getfield 67, 3) := by decide +kernel
theorem d_MA_move_47 : decode b_MA_move 47 = .ok (.iload 6, 2) := by decide +kernel
theorem d_MA_move_49 : decode b_MA_move 49 = .ok (.iaload, 1) := by decide +kernel
theorem d_MA_move_50 : decode b_MA_move 50 = .ok (.iload_n 1, 1) := by decide +kernel
theorem d_MA_move_51 : decode b_MA_move 51 = .ok (.invokevirtual 70, 3) := by decide +kernel
theorem d_MA_move_54 : decode b_MA_move 54 = .ok (.istore 7, 2) := by decide +kernel
theorem d_MA_move_56 : decode b_MA_move 56 = .ok (.aload_n 0, 1) := by decide +kernel
theorem d_MA_move_57 : decode b_MA_move 57 = .ok (.aload_n 3, 1) := by decide +kernel
theorem d_MA_move_58 : decode b_MA_move 58 = .ok (.getfield 73, 3) := by decide +kernel
theorem d_MA_move_61 : decode b_MA_move 61 = .ok (.iload 6, 2) := by decide +kernel
theorem d_MA_move_63 : decode b_MA_move 63 = .ok (.iaload, 1) := by decide +kernel
theorem d_MA_move_64 : decode b_MA_move 64 = .ok (.iload_n 1, 1) := by decide +kernel
theorem d_MA_move_65 : decode b_MA_move 65 = .ok (.invokevirtual 70, 3) := by decide +kernel
theorem d_MA_move_68 : decode b_MA_move 68 = .ok (.istore 8, 2) := by decide +kernel
theorem d_MA_move_70 : decode b_MA_move 70 = .ok (.aload_n 3, 1) := by decide +kernel
theorem d_MA_move_71 : decode b_MA_move 71 = .ok (.getfield 76, 3) := by decide +kernel
theorem d_MA_move_74 : decode b_MA_move 74 = .ok (.iload 6, 2) := by decide +kernel
theorem d_MA_move_76 : decode b_MA_move 76 = .ok (.iaload, 1) := by decide +kernel
theorem d_MA_move_77 : decode b_MA_move 77 = .ok (.iload 7, 2) := by decide +kernel
theorem d_MA_move_79 : decode b_MA_move 79 = .ok (.iload 8, 2) := by decide +kernel
theorem d_MA_move_81 : decode b_MA_move 81 = .ok (.invokestatic 79, 3) := by decide +kernel
theorem d_MA_move_84 : decode b_MA_move 84 = .ok (.istore 9, 2) := by decide +kernel
theorem d_MA_move_86 : decode b_MA_move 86 = .ok (.iload 6, 2) := by decide +kernel
theorem d_MA_move_88 : decode b_MA_move 88 = .ok (.ifCond .ne 13, 3) := by decide +kernel
theorem d_MA_move_91 : decode b_MA_move 91 = .ok (.iload 9, 2) := by decide +kernel
theorem d_MA_move_93 : decode b_MA_move 93 = .ok (.bipush 15, 2) := by decide +kernel
theorem d_MA_move_95 : decode b_MA_move 95 = .ok (.iand, 1) := by decide +kernel
theorem d_MA_move_96 : decode b_MA_move 96 = .ok (.istore 4, 2) := by decide +kernel
theorem d_MA_move_98 : decode b_MA_move 98 = .ok (.goto 20, 3) := by decide +kernel
theorem d_MA_move_101 : decode b_MA_move 101 = .ok (.aload_n 0, 1) := by decide +kernel
theorem d_MA_move_102 : decode b_MA_move 102 = .ok (.iload 5, 2) := by decide +kernel
theorem d_MA_move_104 : decode b_MA_move 104 = .ok (.aload_n 3, 1) := by decide +kernel
theorem d_MA_move_105 : decode b_MA_move 105 = .ok (.getfield 60, 3) := by decide +kernel
theorem d_MA_move_108 : decode b_MA_move 108 = .ok (.iload 6, 2) := by decide +kernel
theorem d_MA_move_110 : decode b_MA_move 110 = .ok (.iaload, 1) := by decide +kernel
theorem d_MA_move_111 : decode b_MA_move 111 = .ok (.iload 9, 2) := by decide +kernel
theorem d_MA_move_113 : decode b_MA_move 113 = .ok (.invokevirtual 83, 3) := by decide +kernel
theorem d_MA_move_116 : decode b_MA_move 116 = .ok (.istore 5, 2) := by decide +kernel
theorem d_MA_move_118 : decode b_MA_move 118 = .ok (.iinc 6 1, 3) := by decide +kernel
theorem d_MA_move_121 : decode b_MA_move 121 = .ok (.goto (-88), 3) := by decide +kernel
theorem d_MA_move_124 : decode b_MA_move 124 = .ok (.aload_n 3, 1) := by decide +kernel
theorem d_MA_move_125 : decode b_MA_move 125 = .ok (.getfield 50, 3) := by decide +kernel
theorem d_MA_move_128 : decode b_MA_move 128 = .ok (.iload_n 1, 1) := by decide +kernel
theorem d_MA_move_129 : decode b_MA_move 129 = .ok (.iload 4, 2) := by decide +kernel
theorem d_MA_move_131 : decode b_MA_move 131 = .ok (.bipush 12, 2) := by decide +kernel
theorem d_MA_move_133 : decode b_MA_move 133 = .ok (.ishl, 1) := by decide +kernel
theorem d_MA_move_134 : decode b_MA_move 134 = .ok (.iload 5, 2) := by decide +kernel
theorem d_MA_move_136 : decode b_MA_move 136 = .ok (.ior, 1) := by decide +kernel
theorem d_MA_move_137 : decode b_MA_move 137 = .ok (.iastore, 1) := by decide +kernel
theorem d_MA_move_138 : decode b_MA_move 138 = .ok (.aload_n 3, 1) := by decide +kernel
theorem d_MA_move_139 : decode b_MA_move 139 = .ok (.getfield 50, 3) := by decide +kernel
theorem d_MA_move_142 : decode b_MA_move 142 = .ok (.iload_n 1, 1) := by decide +kernel
theorem d_MA_move_143 : decode b_MA_move 143 = .ok (.iaload, 1) := by decide +kernel
theorem d_MA_move_144 : decode b_MA_move 144 = .ok (.ireturn, 1) := by decide +kernel
theorem d_MA_next_0 : decode b_MA_next 0 = .ok (.aload_n 0, 1) := by decide +kernel
theorem d_MA_next_1 : decode b_MA_next 1 = .ok (.iload_n 1, 1) := by decide +kernel
theorem d_MA_next_2 : decode b_MA_next 2 = .ok (.iload_n 2, 1) := by decide +kernel
theorem d_MA_next_3 : decode b_MA_next 3 = .ok (.invokevirtual 63, 3) := by decide +kernel
theorem d_MA_next_6 : decode b_MA_next 6 = .ok (.sipush 4095, 3) := by decide +kernel
theorem d_MA_next_9 : decode b_MA_next 9 = .ok (.iand, 1) := by decide +kernel
theorem d_MA_next_10 : decode b_MA_next 10 = .ok (.ireturn, 1) := by decide +kernel
theorem d_MA_given_0 : decode b_MA_given 0 = .ok (.aload_n 0, 1) := by decide +kernel
theorem d_MA_given_1 : decode b_MA_given 1 = .ok (.iload_n 1, 1) := by decide +kernel
theorem d_MA_given_2 : decode b_MA_given 2 = .ok (.iload_n 2, 1) := by decide +kernel
theorem d_MA_given_3 : decode b_MA_given 3 = .ok (.invokevirtual 63, 3) := by decide +kernel
theorem d_MA_given_6 : decode b_MA_given 6 = .ok (.bipush 12, 2) := by decide +kernel
theorem d_MA_given_8 : decode b_MA_given 8 = .ok (.ishr, 1) := by decide +kernel
theorem d_MA_given_9 : decode b_MA_given 9 = .ok (.ireturn, 1) := by decide +kernel
section Sites
variable {p : Program} {l : Launch} {e : Env} {R : Room} {s : State} {m : MethodId} {args : Array Value} {below : List Frame} {meth : Method} {c : Code} {H H0 : Heap} {locs : List Loc} {cells slots : Nat} {Q : State → Prop} {cc : ByteArray} {pc : Nat} {ls : Array Slot} {rest : List Value} {D : va_G} {A : Nat → Prop} {a : Nat} {TY : List (ClassId × FieldType)} {ws : va_W}
theorem gf_MA_20 (hx : p.tables.exec = Jvm.exec) (hb : c.code = cc) (hts : ∀ w ∈ wsG, w.before args s = true) (hown : s.vm.findClass R_MA = some m.cls) (hK : va_K D vwCl TY s) (hP : va_P D vwCl ws H) (q0 : Nat) {fs : List Value} (he : ws[q0]? = some (a, .inr (2, fs))) {v : Value} (hv : fs[2]? = some v) (hdg : decode cc pc = .ok (.getfield 20, 3)) (kk : W p l e R s m args below meth c H locs cells slots Q (F0 m (pc + 3) ls (v :: rest))) : W p l e R s m args below meth c H locs cells slots Q (F0 m pc ls (.ref a :: rest)) :=
  va_get (D := D) (ci := 2) (C := R_MA) (T := F_MA) (N := 7) hx hb hts i_MA hown hK hP q0 he rfl 2 (by decide) (hts _ k_153) (fun _ h9 => h9) hv hdg kk
theorem pf_MA_50 (hx : p.tables.exec = Jvm.exec) (hb : c.code = cc) (hts : ∀ w ∈ wsG, w.before args s = true) (hown : s.vm.findClass R_MA = some m.cls) (hK : va_K D vwCl TY s) (hP : va_P D vwCl ws H) (hD : va_D A ws) (hS : va_S A H0 H locs) (q0 : Nat) {fs : List Value} {v : Value} (he : ws[q0]? = some (a, .inr (0, fs))) (hn : narrow (.array (.int)) v = v) (hfit : fits (.array (.int)) v = true) (hl : 5 < fs.length) (hdg : decode cc pc = .ok (.putfield 50, 3)) (kk : ∀ (H1 : Heap) (locs1 : List Loc), va_P D vwCl (ws.set q0 (a, .inr (0, fs.set 5 v))) H1 → va_D A (ws.set q0 (a, .inr (0, fs.set 5 v))) → va_S A H0 H1 locs1 → W p l e R s m args below meth c H1 locs1 cells slots Q (F0 m (pc + 3) ls rest)) : W p l e R s m args below meth c H locs cells slots Q (F0 m pc ls (v :: .ref a :: rest)) :=
  va_put (D := D) (ci := 0) (v := v) (ty := .array (.int)) (C := R_RU) (T := F_RU) (N := 6) hx hb hts i_RU t_RU t_RU_ok n_RU hown hK hP hD hS q0 he rfl 5 (by decide) (hts _ k_154) (fun _ h9 => h9) rfl (by decide +kernel) hn hfit hl hdg kk
theorem gf_MA_50 (hx : p.tables.exec = Jvm.exec) (hb : c.code = cc) (hts : ∀ w ∈ wsG, w.before args s = true) (hown : s.vm.findClass R_MA = some m.cls) (hK : va_K D vwCl TY s) (hP : va_P D vwCl ws H) (q0 : Nat) {fs : List Value} (he : ws[q0]? = some (a, .inr (0, fs))) {v : Value} (hv : fs[5]? = some v) (hdg : decode cc pc = .ok (.getfield 50, 3)) (kk : W p l e R s m args below meth c H locs cells slots Q (F0 m (pc + 3) ls (v :: rest))) : W p l e R s m args below meth c H locs cells slots Q (F0 m pc ls (.ref a :: rest)) :=
  va_get (D := D) (ci := 0) (C := R_RU) (T := F_RU) (N := 6) hx hb hts i_RU hown hK hP q0 he rfl 5 (by decide) (hts _ k_154) (fun _ h9 => h9) hv hdg kk
theorem pf_MA_31 (hx : p.tables.exec = Jvm.exec) (hb : c.code = cc) (hts : ∀ w ∈ wsG, w.before args s = true) (hown : s.vm.findClass R_MA = some m.cls) (hK : va_K D vwCl TY s) (hP : va_P D vwCl ws H) (hD : va_D A ws) (hS : va_S A H0 H locs) (q0 : Nat) {fs : List Value} {v : Value} (he : ws[q0]? = some (a, .inr (2, fs))) (hn : narrow (.int) v = v) (hfit : fits (.int) v = true) (hl : 5 < fs.length) (hdg : decode cc pc = .ok (.putfield 31, 3)) (kk : ∀ (H1 : Heap) (locs1 : List Loc), va_P D vwCl (ws.set q0 (a, .inr (2, fs.set 5 v))) H1 → va_D A (ws.set q0 (a, .inr (2, fs.set 5 v))) → va_S A H0 H1 locs1 → W p l e R s m args below meth c H1 locs1 cells slots Q (F0 m (pc + 3) ls rest)) : W p l e R s m args below meth c H locs cells slots Q (F0 m pc ls (v :: .ref a :: rest)) :=
  va_put (D := D) (ci := 2) (v := v) (ty := .int) (C := R_MA) (T := F_MA) (N := 7) hx hb hts i_MA t_MA t_MA_ok n_MA hown hK hP hD hS q0 he rfl 5 (by decide) (hts _ k_6) (fun _ h9 => h9) rfl (by decide +kernel) hn hfit hl hdg kk
theorem gf_MA_59 (hx : p.tables.exec = Jvm.exec) (hb : c.code = cc) (hts : ∀ w ∈ wsG, w.before args s = true) (hown : s.vm.findClass R_MA = some m.cls) (hK : va_K D vwCl TY s) (hP : va_P D vwCl ws H) (q0 : Nat) {fs : List Value} (he : ws[q0]? = some (a, .inr (0, fs))) {v : Value} (hv : fs[4]? = some v) (hdg : decode cc pc = .ok (.getfield 59, 3)) (kk : W p l e R s m args below meth c H locs cells slots Q (F0 m (pc + 3) ls (v :: rest))) : W p l e R s m args below meth c H locs cells slots Q (F0 m pc ls (.ref a :: rest)) :=
  va_get (D := D) (ci := 0) (C := R_RU) (T := F_RU) (N := 6) hx hb hts i_RU hown hK hP q0 he rfl 4 (by decide) (hts _ k_155) (fun _ h9 => h9) hv hdg kk
theorem pf_MA_59 (hx : p.tables.exec = Jvm.exec) (hb : c.code = cc) (hts : ∀ w ∈ wsG, w.before args s = true) (hown : s.vm.findClass R_MA = some m.cls) (hK : va_K D vwCl TY s) (hP : va_P D vwCl ws H) (hD : va_D A ws) (hS : va_S A H0 H locs) (q0 : Nat) {fs : List Value} {v : Value} (he : ws[q0]? = some (a, .inr (0, fs))) (hn : narrow (.int) v = v) (hfit : fits (.int) v = true) (hl : 4 < fs.length) (hdg : decode cc pc = .ok (.putfield 59, 3)) (kk : ∀ (H1 : Heap) (locs1 : List Loc), va_P D vwCl (ws.set q0 (a, .inr (0, fs.set 4 v))) H1 → va_D A (ws.set q0 (a, .inr (0, fs.set 4 v))) → va_S A H0 H1 locs1 → W p l e R s m args below meth c H1 locs1 cells slots Q (F0 m (pc + 3) ls rest)) : W p l e R s m args below meth c H locs cells slots Q (F0 m pc ls (v :: .ref a :: rest)) :=
  va_put (D := D) (ci := 0) (v := v) (ty := .int) (C := R_RU) (T := F_RU) (N := 6) hx hb hts i_RU t_RU t_RU_ok n_RU hown hK hP hD hS q0 he rfl 4 (by decide) (hts _ k_155) (fun _ h9 => h9) rfl (by decide +kernel) hn hfit hl hdg kk
theorem gf_MA_60 (hx : p.tables.exec = Jvm.exec) (hb : c.code = cc) (hts : ∀ w ∈ wsG, w.before args s = true) (hown : s.vm.findClass R_MA = some m.cls) (hK : va_K D vwCl TY s) (hP : va_P D vwCl ws H) (q0 : Nat) {fs : List Value} (he : ws[q0]? = some (a, .inr (0, fs))) {v : Value} (hv : fs[0]? = some v) (hdg : decode cc pc = .ok (.getfield 60, 3)) (kk : W p l e R s m args below meth c H locs cells slots Q (F0 m (pc + 3) ls (v :: rest))) : W p l e R s m args below meth c H locs cells slots Q (F0 m pc ls (.ref a :: rest)) :=
  va_get (D := D) (ci := 0) (C := R_RU) (T := F_RU) (N := 6) hx hb hts i_RU hown hK hP q0 he rfl 0 (by decide) (hts _ k_156) (fun _ h9 => h9) hv hdg kk
theorem gf_MA_34 (hx : p.tables.exec = Jvm.exec) (hb : c.code = cc) (hts : ∀ w ∈ wsG, w.before args s = true) (hown : s.vm.findClass R_MA = some m.cls) (hK : va_K D vwCl TY s) (hP : va_P D vwCl ws H) (q0 : Nat) {fs : List Value} (he : ws[q0]? = some (a, .inr (2, fs))) {v : Value} (hv : fs[6]? = some v) (hdg : decode cc pc = .ok (.getfield 34, 3)) (kk : W p l e R s m args below meth c H locs cells slots Q (F0 m (pc + 3) ls (v :: rest))) : W p l e R s m args below meth c H locs cells slots Q (F0 m pc ls (.ref a :: rest)) :=
  va_get (D := D) (ci := 2) (C := R_MA) (T := F_MA) (N := 7) hx hb hts i_MA hown hK hP q0 he rfl 6 (by decide) (hts _ k_157) (fun _ h9 => h9) hv hdg kk
theorem pf_MA_34 (hx : p.tables.exec = Jvm.exec) (hb : c.code = cc) (hts : ∀ w ∈ wsG, w.before args s = true) (hown : s.vm.findClass R_MA = some m.cls) (hK : va_K D vwCl TY s) (hP : va_P D vwCl ws H) (hD : va_D A ws) (hS : va_S A H0 H locs) (q0 : Nat) {fs : List Value} {v : Value} (he : ws[q0]? = some (a, .inr (2, fs))) (hn : narrow (.int) v = v) (hfit : fits (.int) v = true) (hl : 6 < fs.length) (hdg : decode cc pc = .ok (.putfield 34, 3)) (kk : ∀ (H1 : Heap) (locs1 : List Loc), va_P D vwCl (ws.set q0 (a, .inr (2, fs.set 6 v))) H1 → va_D A (ws.set q0 (a, .inr (2, fs.set 6 v))) → va_S A H0 H1 locs1 → W p l e R s m args below meth c H1 locs1 cells slots Q (F0 m (pc + 3) ls rest)) : W p l e R s m args below meth c H locs cells slots Q (F0 m pc ls (v :: .ref a :: rest)) :=
  va_put (D := D) (ci := 2) (v := v) (ty := .int) (C := R_MA) (T := F_MA) (N := 7) hx hb hts i_MA t_MA t_MA_ok n_MA hown hK hP hD hS q0 he rfl 6 (by decide) (hts _ k_157) (fun _ h9 => h9) rfl (by decide +kernel) hn hfit hl hdg kk
theorem gf_MA_67 (hx : p.tables.exec = Jvm.exec) (hb : c.code = cc) (hts : ∀ w ∈ wsG, w.before args s = true) (hown : s.vm.findClass R_MA = some m.cls) (hK : va_K D vwCl TY s) (hP : va_P D vwCl ws H) (q0 : Nat) {fs : List Value} (he : ws[q0]? = some (a, .inr (0, fs))) {v : Value} (hv : fs[2]? = some v) (hdg : decode cc pc = .ok (.getfield 67, 3)) (kk : W p l e R s m args below meth c H locs cells slots Q (F0 m (pc + 3) ls (v :: rest))) : W p l e R s m args below meth c H locs cells slots Q (F0 m pc ls (.ref a :: rest)) :=
  va_get (D := D) (ci := 0) (C := R_RU) (T := F_RU) (N := 6) hx hb hts i_RU hown hK hP q0 he rfl 2 (by decide) (hts _ k_158) (fun _ h9 => h9) hv hdg kk
theorem gf_MA_73 (hx : p.tables.exec = Jvm.exec) (hb : c.code = cc) (hts : ∀ w ∈ wsG, w.before args s = true) (hown : s.vm.findClass R_MA = some m.cls) (hK : va_K D vwCl TY s) (hP : va_P D vwCl ws H) (q0 : Nat) {fs : List Value} (he : ws[q0]? = some (a, .inr (0, fs))) {v : Value} (hv : fs[3]? = some v) (hdg : decode cc pc = .ok (.getfield 73, 3)) (kk : W p l e R s m args below meth c H locs cells slots Q (F0 m (pc + 3) ls (v :: rest))) : W p l e R s m args below meth c H locs cells slots Q (F0 m pc ls (.ref a :: rest)) :=
  va_get (D := D) (ci := 0) (C := R_RU) (T := F_RU) (N := 6) hx hb hts i_RU hown hK hP q0 he rfl 3 (by decide) (hts _ k_159) (fun _ h9 => h9) hv hdg kk
theorem gf_MA_76 (hx : p.tables.exec = Jvm.exec) (hb : c.code = cc) (hts : ∀ w ∈ wsG, w.before args s = true) (hown : s.vm.findClass R_MA = some m.cls) (hK : va_K D vwCl TY s) (hP : va_P D vwCl ws H) (q0 : Nat) {fs : List Value} (he : ws[q0]? = some (a, .inr (0, fs))) {v : Value} (hv : fs[1]? = some v) (hdg : decode cc pc = .ok (.getfield 76, 3)) (kk : W p l e R s m args below meth c H locs cells slots Q (F0 m (pc + 3) ls (v :: rest))) : W p l e R s m args below meth c H locs cells slots Q (F0 m pc ls (.ref a :: rest)) :=
  va_get (D := D) (ci := 0) (C := R_RU) (T := F_RU) (N := 6) hx hb hts i_RU hown hK hP q0 he rfl 1 (by decide) (hts _ k_160) (fun _ h9 => h9) hv hdg kk
theorem cw_MA_46 {rm : Room} (hts : ∀ w ∈ wsG, w.before args s = true) (hR : rm.frames + 1 ≤ R.frames ∧ 8 + (5 + 11) + rm.locals ≤ R.locals) : CallW R s args R_MA R_RU 46 y_RU_put b_RU_put 5 none (.code y_RU_put b_RU_put 5 none :: wsG) rm rm.cells rm.slots 4 :=
  ky_cwV 4 hts k_161 k_162 k_164 k_165 k_163 (by decide +kernel) hR
theorem cw_MA_53 {rm : Room} (hts : ∀ w ∈ wsG, w.before args s = true) (hR : rm.frames + 1 ≤ R.frames ∧ 8 + (4 + 11) + rm.locals ≤ R.locals) : CallB R s args R_MA 53 y_AR_fill b_AR_fill 4 none (.code y_AR_fill b_AR_fill 4 none :: wsG) rm rm.cells rm.slots 2 ∧ (Cond.static y_AR_fill).before args s = true :=
  ky_cwS 2 hts k_166 k_167 k_169 k_168 (by decide +kernel) hR
theorem cw_MA_70 {rm : Room} (hts : ∀ w ∈ wsG, w.before args s = true) (hR : rm.frames + 1 ≤ R.frames ∧ 8 + (3 + 11) + rm.locals ≤ R.locals) : CallW R s args R_MA R_MA 70 y_MA_operandValue b_MA_operandValue 3 (some .int) (.code y_MA_operandValue b_MA_operandValue 3 (some .int) :: wsG) rm rm.cells rm.slots 2 :=
  ky_cwV 2 hts k_170 k_171 k_172 k_173 k_17 (by decide +kernel) hR
theorem cw_MA_79 {rm : Room} (hts : ∀ w ∈ wsG, w.before args s = true) (hR : rm.frames + 1 ≤ R.frames ∧ 8 + (3 + 11) + rm.locals ≤ R.locals) : CallB R s args R_MA 79 y_MA_valueOf b_MA_valueOf 3 (some .int) (.code y_MA_valueOf b_MA_valueOf 3 (some .int) :: wsG) rm rm.cells rm.slots 3 ∧ (Cond.static y_MA_valueOf).before args s = true :=
  ky_cwS 3 hts k_174 k_175 k_176 k_17 (by decide +kernel) hR
theorem cw_MA_83 {rm : Room} (hts : ∀ w ∈ wsG, w.before args s = true) (hR : rm.frames + 1 ≤ R.frames ∧ 8 + (5 + 11) + rm.locals ≤ R.locals) : CallW R s args R_MA R_MA 83 y_MA_withRegister b_MA_withRegister 5 (some .int) (.code y_MA_withRegister b_MA_withRegister 5 (some .int) :: wsG) rm rm.cells rm.slots 3 :=
  ky_cwV 3 hts k_177 k_178 k_179 k_180 k_17 (by decide +kernel) hR
theorem cw_MA_63 {rm : Room} (hts : ∀ w ∈ wsG, w.before args s = true) (hR : rm.frames + 1 ≤ R.frames ∧ 8 + (10 + 11) + rm.locals ≤ R.locals) : CallW R s args R_MA R_MA 63 y_MA_move b_MA_move 10 (some .int) (.code y_MA_move b_MA_move 10 (some .int) :: wsG) rm rm.cells rm.slots 2 :=
  ky_cwV 2 hts k_181 k_182 k_183 k_184 k_17 (by decide +kernel) hR
end Sites

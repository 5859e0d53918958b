abbrev b_MO_together : ByteArray := prog_9_method_20_code
def y_MO_together : MethodName := ⟨R_MO, "together", "(III)Z"⟩
abbrev b_MO_chainOf : ByteArray := prog_9_method_21_code
def y_MO_chainOf : MethodName := ⟨R_MO, "chainOf", "(II)I"⟩
abbrev b_MO_partRound : ByteArray := prog_9_method_22_code
def y_MO_partRound : MethodName := ⟨R_MO, "partRound", "(II)I"⟩
abbrev b_MO_partAll : ByteArray := prog_9_method_23_code
def y_MO_partAll : MethodName := ⟨R_MO, "partAll", "()V"⟩
abbrev b_MO_parted : ByteArray := prog_9_method_24_code
def y_MO_parted : MethodName := ⟨R_MO, "parted", "(II)I"⟩
abbrev b_MO_findClasses : ByteArray := prog_9_method_25_code
def y_MO_findClasses : MethodName := ⟨R_MO, "findClasses", "()V"⟩
theorem k_89 : Cond.fieldLink R_MO 61 R_MO "part" "[I" ∈ wsG := by decide +kernel
theorem k_90 : Cond.fieldLink R_MO 43 R_MO "gives" "[I" ∈ wsG := by decide +kernel
theorem k_91 : Cond.fieldLink R_MO 162 R_MO "parts" "I" ∈ wsG := by decide +kernel
theorem k_92 : Cond.fieldLink R_MO 85 R_MO "chain" "[I" ∈ wsG := by decide +kernel
theorem k_93 : Cond.fieldLink R_MO 64 R_MO "newPart" "[I" ∈ wsG := by decide +kernel
theorem k_94 : Cond.fieldLink R_MO 79 R_MO "one" "[I" ∈ wsG := by decide +kernel
theorem k_95 : Cond.fieldLink R_MO 88 R_MO "behind" "[I" ∈ wsG := by decide +kernel
theorem k_96 : Cond.fieldLink R_MO 82 R_MO "pieces" "[I" ∈ wsG := by decide +kernel
theorem k_97 : Cond.fieldLink R_MO 171 R_MO "nodes" "I" ∈ wsG := by decide +kernel
theorem k_98 : Cond.fieldLink R_MO 67 R_MO "node" "[I" ∈ wsG := by decide +kernel
theorem k_99 : Cond.fieldLink R_MO 73 R_MO "parent" "[I" ∈ wsG := by decide +kernel
theorem k_100 : Cond.fieldLink R_MO 76 R_MO "born" "[I" ∈ wsG := by decide +kernel
theorem k_101 : Cond.fieldLink R_MO 70 R_MO "newNode" "[I" ∈ wsG := by decide +kernel
theorem k_102 : Cond.fieldLink R_MO 177 R_MO "classes" "I" ∈ wsG := by decide +kernel
theorem k_103 : Cond.fieldLink R_MO 91 R_MO "classOf" "[I" ∈ wsG := by decide +kernel
theorem k_104 : Cond.fieldLink R_MO 94 R_MO "classState" "[I" ∈ wsG := by decide +kernel
theorem k_105 : Cond.code y_MO_chainOf b_MO_chainOf 5 (some .int) ∈ wsG := by decide +kernel
theorem k_106 : Cond.methodLink R_MO 165 y_MO_chainOf ∈ wsG := by decide +kernel
theorem k_107 : Cond.instanceMethod y_MO_chainOf ∈ wsG := by decide +kernel
theorem k_108 : Cond.selects R_MO y_MO_chainOf y_MO_chainOf ∈ wsG := by decide +kernel
theorem k_109 : Cond.code y_MO_together b_MO_together 6 (some .boolean) ∈ wsG := by decide +kernel
theorem k_110 : Cond.methodLink R_MO 168 y_MO_together ∈ wsG := by decide +kernel
theorem k_111 : Cond.instanceMethod y_MO_together ∈ wsG := by decide +kernel
theorem k_112 : Cond.selects R_MO y_MO_together y_MO_together ∈ wsG := by decide +kernel
theorem k_113 : Cond.code y_MO_partRound b_MO_partRound 7 (some .int) ∈ wsG := by decide +kernel
theorem k_114 : Cond.methodLink R_MO 174 y_MO_partRound ∈ wsG := by decide +kernel
theorem k_115 : Cond.instanceMethod y_MO_partRound ∈ wsG := by decide +kernel
theorem k_116 : Cond.selects R_MO y_MO_partRound y_MO_partRound ∈ wsG := by decide +kernel
theorem d_MO_together_0 : decode b_MO_together 0 = .ok (.aload_n 0, 1) := by decide +kernel
theorem d_MO_together_1 : decode b_MO_together 1 = .ok (.getfield 61, 3) := by decide +kernel
theorem d_MO_together_4 : decode b_MO_together 4 = .ok (.iload_n 1, 1) := by decide +kernel
theorem d_MO_together_5 : decode b_MO_together 5 = .ok (.iaload, 1) := by decide +kernel
theorem d_MO_together_6 : decode b_MO_together 6 = .ok (.aload_n 0, 1) := by decide +kernel
theorem d_MO_together_7 : decode b_MO_together 7 = .ok (.getfield 61, 3) := by decide +kernel
theorem d_MO_together_10 : decode b_MO_together 10 = .ok (.iload_n 2, 1) := by decide +kernel
theorem d_MO_together_11 : decode b_MO_together 11 = .ok (.iaload, 1) := by decide +kernel
theorem d_MO_together_12 : decode b_MO_together 12 = .ok (.if_icmp .ne 7, 3) := by decide +kernel
theorem d_MO_together_15 : decode b_MO_together 15 = .ok (.iconst 1, 1) := by decide +kernel
theorem d_MO_together_16 : decode b_MO_together 16 = .ok (.goto 4, 3) := by decide +kernel
theorem d_MO_together_19 : decode b_MO_together 19 = .ok (.iconst 0, 1) := by decide +kernel
theorem d_MO_together_20 : decode b_MO_together 20 = .ok (.istore 4, 2) := by decide +kernel
theorem d_MO_together_22 : decode b_MO_together 22 = .ok (.iconst 0, 1) := by decide +kernel
theorem d_MO_together_23 : decode b_MO_together 23 = .ok (.istore 5, 2) := by decide +kernel
theorem d_MO_together_25 : decode b_MO_together 25 = .ok (.iload 5, 2) := by decide +kernel
theorem d_MO_together_27 : decode b_MO_together 27 = .ok (.aload_n 0, 1) := by decide +kernel
theorem d_MO_together_28 : decode b_MO_together 28 = .ok (.getfield 112, 3) := by decide +kernel
theorem d_MO_together_31 : decode b_MO_together 31 = .ok (.if_icmp .ge 94, 3) := by decide +kernel
theorem d_MO_together_34 : decode b_MO_together 34 = .ok (.iload 4, 2) := by decide +kernel
theorem d_MO_together_36 : decode b_MO_together 36 = .ok (.ifCond .eq 89, 3) := by decide +kernel
theorem d_MO_together_39 : decode b_MO_together 39 = .ok (.iload_n 3, 1) := by decide +kernel
theorem d_MO_together_40 : decode b_MO_together 40 = .ok (.iconst 1, 1) := by decide +kernel
theorem d_MO_together_41 : decode b_MO_together 41 = .ok (.if_icmp .ne 36, 3) := by decide +kernel
theorem d_MO_together_44 : decode b_MO_together 44 = .ok (.aload_n 0, 1) := by decide +kernel
theorem d_MO_together_45 : decode b_MO_together 45 = .ok (.getfield 43, 3) := by decide +kernel
theorem d_MO_together_48 : decode b_MO_together 48 = .ok (.iconst 4, 1) := by decide +kernel
theorem d_MO_together_49 : decode b_MO_together 49 = .ok (.iload_n 1, 1) := by decide +kernel
theorem d_MO_together_50 : decode b_MO_together 50 = .ok (.imul, 1) := by decide +kernel
theorem d_MO_together_51 : decode b_MO_together 51 = .ok (.iload 5, 2) := by decide +kernel
theorem d_MO_together_53 : decode b_MO_together 53 = .ok (.iadd, 1) := by decide +kernel
theorem d_MO_together_54 : decode b_MO_together 54 = .ok (.iaload, 1) := by decide +kernel
theorem d_MO_together_55 : decode b_MO_together 55 = .ok (.aload_n 0, 1) := by decide +kernel
theorem d_MO_together_56 : decode b_MO_together 56 = .ok (.getfield 43, 3) := by decide +kernel
theorem d_MO_together_59 : decode b_MO_together 59 = .ok (.iconst 4, 1) := by decide +kernel
theorem d_MO_together_60 : decode b_MO_together 60 = .ok (.iload_n 2, 1) := by decide +kernel
theorem d_MO_together_61 : decode b_MO_together 61 = .ok (.imul, 1) := by decide +kernel
theorem d_MO_together_62 : decode b_MO_together 62 = .ok (.iload 5, 2) := by decide +kernel
theorem d_MO_together_64 : decode b_MO_together 64 = .ok (.iadd, 1) := by decide +kernel
theorem d_MO_together_65 : decode b_MO_together 65 = .ok (.iaload, 1) := by decide +kernel
theorem d_MO_together_66 : decode b_MO_together 66 = .ok (.if_icmp .ne 7, 3) := by decide +kernel
theorem d_MO_together_69 : decode b_MO_together 69 = .ok (.iconst 1, 1) := by decide +kernel
theorem d_MO_together_70 : decode b_MO_together 70 = .ok (.goto 47, 3) := by decide +kernel
theorem d_MO_together_73 : decode b_MO_together 73 = .ok (.iconst 0, 1) := by decide +kernel
theorem d_MO_together_74 : decode b_MO_together 74 = .ok (.goto 43, 3) := by decide +kernel
theorem d_MO_together_77 : decode b_MO_together 77 = .ok (.aload_n 0, 1) := by decide +kernel
theorem d_MO_together_78 : decode b_MO_together 78 = .ok (.getfield 61, 3) := by decide +kernel
theorem d_MO_together_81 : decode b_MO_together 81 = .ok (.aload_n 0, 1) := by decide +kernel
theorem d_MO_together_82 : decode b_MO_together 82 = .ok (.getfield 40, 3) := by decide +kernel
theorem d_MO_together_85 : decode b_MO_together 85 = .ok (.iconst 4, 1) := by decide +kernel
theorem d_MO_together_86 : decode b_MO_together 86 = .ok (.iload_n 1, 1) := by decide +kernel
theorem d_MO_together_87 : decode b_MO_together 87 = .ok (.imul, 1) := by decide +kernel
theorem d_MO_together_88 : decode b_MO_together 88 = .ok (.iload 5, 2) := by decide +kernel
theorem d_MO_together_90 : decode b_MO_together 90 = .ok (.iadd, 1) := by decide +kernel
theorem d_MO_together_91 : decode b_MO_together 91 = .ok (.iaload, 1) := by decide +kernel
theorem d_MO_together_92 : decode b_MO_together 92 = .ok (.iaload, 1) := by decide +kernel
theorem d_MO_together_93 : decode b_MO_together 93 = .ok (.aload_n 0, 1) := by decide +kernel
theorem d_MO_together_94 : decode b_MO_together 94 = .ok (.getfield 61, 3) := by decide +kernel
theorem d_MO_together_97 : decode b_MO_together 97 = .ok (.aload_n 0, 1) := by decide +kernel
theorem d_MO_together_98 : decode b_MO_together 98 = .ok (.getfield 40, 3) := by decide +kernel
theorem d_MO_together_101 : decode b_MO_together 101 = .ok (.iconst 4, 1) := by decide +kernel
theorem d_MO_together_102 : decode b_MO_together 102 = .ok (.iload_n 2, 1) := by decide +kernel
theorem d_MO_together_103 : decode b_MO_together 103 = .ok (.imul, 1) := by decide +kernel
theorem d_MO_together_104 : decode b_MO_together 104 = .ok (.iload 5, 2) := by decide +kernel
theorem d_MO_together_106 : decode b_MO_together 106 = .ok (.iadd, 1) := by decide +kernel
theorem d_MO_together_107 : decode b_MO_together 107 = .ok (.iaload, 1) := by decide +kernel
theorem d_MO_together_108 : decode b_MO_together 108 = .ok (.iaload, 1) := by decide +kernel
theorem d_MO_together_109 : decode b_MO_together 109 = .ok (.if_icmp .ne 7, 3) := by decide +kernel
theorem d_MO_together_112 : decode b_MO_together 112 = .ok (.iconst 1, 1) := by decide +kernel
theorem d_MO_together_113 : decode b_MO_together 113 = .ok (.goto 4, 3) := by decide +kernel
theorem d_MO_together_116 : decode b_MO_together 116 = .ok (.iconst 0, 1) := by decide +kernel
theorem d_MO_together_117 : decode b_MO_together 117 = .ok (.istore 4, 2) := by decide +kernel
theorem d_MO_together_119 : decode b_MO_together 119 = .ok (.iinc 5 1, 3) := by decide +kernel
theorem d_MO_together_122 : decode b_MO_together 122 = .ok (.goto (-97), 3) := by decide +kernel
theorem d_MO_together_125 : decode b_MO_together 125 = .ok (.iload 4, 2) := by decide +kernel
theorem d_MO_together_127 : decode b_MO_together 127 = .ok (.ireturn, 1) := by decide +kernel
theorem d_MO_chainOf_0 : decode b_MO_chainOf 0 = .ok (.aload_n 0, 1) := by decide +kernel
theorem d_MO_chainOf_1 : decode b_MO_chainOf 1 = .ok (.getfield 61, 3) := by decide +kernel
theorem d_MO_chainOf_4 : decode b_MO_chainOf 4 = .ok (.iload_n 1, 1) := by decide +kernel
theorem d_MO_chainOf_5 : decode b_MO_chainOf 5 = .ok (.iaload, 1) := by decide +kernel
theorem d_MO_chainOf_6 : decode b_MO_chainOf 6 = .ok (.istore_n 3, 1) := by decide +kernel
theorem d_MO_chainOf_7 : decode b_MO_chainOf 7 = .ok (.iconst 0, 1) := by decide +kernel
theorem d_MO_chainOf_8 : decode b_MO_chainOf 8 = .ok (.istore 4, 2) := by decide +kernel
theorem d_MO_chainOf_10 : decode b_MO_chainOf 10 = .ok (.iload 4, 2) := by decide +kernel
theorem d_MO_chainOf_12 : decode b_MO_chainOf 12 = .ok (.aload_n 0, 1) := by decide +kernel
theorem d_MO_chainOf_13 : decode b_MO_chainOf 13 = .ok (.getfield 112, 3) := by decide +kernel
theorem d_MO_chainOf_16 : decode b_MO_chainOf 16 = .ok (.if_icmp .ge 54, 3) := by decide +kernel
theorem d_MO_chainOf_19 : decode b_MO_chainOf 19 = .ok (.iload_n 3, 1) := by decide +kernel
theorem d_MO_chainOf_20 : decode b_MO_chainOf 20 = .ok (.bipush 61, 2) := by decide +kernel
theorem d_MO_chainOf_22 : decode b_MO_chainOf 22 = .ok (.imul, 1) := by decide +kernel
theorem d_MO_chainOf_23 : decode b_MO_chainOf 23 = .ok (.iload_n 2, 1) := by decide +kernel
theorem d_MO_chainOf_24 : decode b_MO_chainOf 24 = .ok (.iconst 1, 1) := by decide +kernel
theorem d_MO_chainOf_25 : decode b_MO_chainOf 25 = .ok (.if_icmp .ne 17, 3) := by decide +kernel
theorem d_MO_chainOf_28 : decode b_MO_chainOf 28 = .ok (.aload_n 0, 1) := by decide +kernel
theorem d_MO_chainOf_29 : decode b_MO_chainOf 29 = .ok (.getfield 43, 3) := by decide +kernel
theorem d_MO_chainOf_32 : decode b_MO_chainOf 32 = .ok (.iconst 4, 1) := by decide +kernel
theorem d_MO_chainOf_33 : decode b_MO_chainOf 33 = .ok (.iload_n 1, 1) := by decide +kernel
theorem d_MO_chainOf_34 : decode b_MO_chainOf 34 = .ok (.imul, 1) := by decide +kernel
theorem d_MO_chainOf_35 : decode b_MO_chainOf 35 = .ok (.iload 4, 2) := by decide +kernel
theorem d_MO_chainOf_37 : decode b_MO_chainOf 37 = .ok (.iadd, 1) := by decide +kernel
theorem d_MO_chainOf_38 : decode b_MO_chainOf 38 = .ok (.iaload, 1) := by decide +kernel
theorem d_MO_chainOf_39 : decode b_MO_chainOf 39 = .ok (.goto 19, 3) := by decide +kernel
theorem d_MO_chainOf_42 : decode b_MO_chainOf 42 = .ok (.aload_n 0, 1) := by decide +kernel
theorem d_MO_chainOf_43 : decode b_MO_chainOf 43 = .ok (.getfield 61, 3) := by decide +kernel
theorem d_MO_chainOf_46 : decode b_MO_chainOf 46 = .ok (.aload_n 0, 1) := by decide +kernel
theorem d_MO_chainOf_47 : decode b_MO_chainOf 47 = .ok (.getfield 40, 3) := by decide +kernel
theorem d_MO_chainOf_50 : decode b_MO_chainOf 50 = .ok (.iconst 4, 1) := by decide +kernel
theorem d_MO_chainOf_51 : decode b_MO_chainOf 51 = .ok (.iload_n 1, 1) := by decide +kernel
theorem d_MO_chainOf_52 : decode b_MO_chainOf 52 = .ok (.imul, 1) := by decide +kernel
theorem d_MO_chainOf_53 : decode b_MO_chainOf 53 = .ok (.iload 4, 2) := by decide +kernel
theorem d_MO_chainOf_55 : decode b_MO_chainOf 55 = .ok (.iadd, 1) := by decide +kernel
theorem d_MO_chainOf_56 : decode b_MO_chainOf 56 = .ok (.iaload, 1) := by decide +kernel
theorem d_MO_chainOf_57 : decode b_MO_chainOf 57 = .ok (.iaload, 1) := by decide +kernel
theorem d_MO_chainOf_58 : decode b_MO_chainOf 58 = .ok (.iadd, 1) := by decide +kernel
theorem d_MO_chainOf_59 : decode b_MO_chainOf 59 = .ok (.sipush 4099, 3) := by decide +kernel
theorem d_MO_chainOf_62 : decode b_MO_chainOf 62 = .ok (.irem, 1) := by decide +kernel
theorem d_MO_chainOf_63 : decode b_MO_chainOf 63 = .ok (.istore_n 3, 1) := by decide +kernel
theorem d_MO_chainOf_64 : decode b_MO_chainOf 64 = .ok (.iinc 4 1, 3) := by decide +kernel
theorem d_MO_chainOf_67 : decode b_MO_chainOf 67 = .ok (.goto (-57), 3) := by decide +kernel
theorem d_MO_chainOf_70 : decode b_MO_chainOf 70 = .ok (.iload_n 3, 1) := by decide +kernel
theorem d_MO_chainOf_71 : decode b_MO_chainOf 71 = .ok (.sipush 4099, 3) := by decide +kernel
theorem d_MO_chainOf_74 : decode b_MO_chainOf 74 = .ok (.irem, 1) := by decide +kernel
theorem d_MO_chainOf_75 : decode b_MO_chainOf 75 = .ok (.ireturn, 1) := by decide +kernel
theorem d_MO_partRound_0 : decode b_MO_partRound 0 = .ok (.iconst 0, 1) := by decide +kernel
theorem d_MO_partRound_1 : decode b_MO_partRound 1 = .ok (.istore_n 3, 1) := by decide +kernel
theorem d_MO_partRound_2 : decode b_MO_partRound 2 = .ok (.iload_n 3, 1) := by decide +kernel
theorem d_MO_partRound_3 : decode b_MO_partRound 3 = .ok (.sipush 4099, 3) := by decide +kernel
theorem d_MO_partRound_6 : decode b_MO_partRound 6 = .ok (.if_icmp .ge 16, 3) := by decide +kernel
theorem d_MO_partRound_9 : decode b_MO_partRound 9 = .ok (.aload_n 0, 1) := by decide +kernel
theorem d_MO_partRound_10 : decode b_MO_partRound 10 = .ok (.getfield 85, 3) := by decide +kernel
theorem d_MO_partRound_13 : decode b_MO_partRound 13 = .ok (.iload_n 3, 1) := by decide +kernel
theorem d_MO_partRound_14 : decode b_MO_partRound 14 = .ok (.iconst (-1), 1) := by decide +kernel
theorem d_MO_partRound_15 : decode b_MO_partRound 15 = .ok (.iastore, 1) := by decide +kernel
theorem d_MO_partRound_16 : decode b_MO_partRound 16 = .ok (.iinc 3 1, 3) := by decide +kernel
theorem d_MO_partRound_19 : decode b_MO_partRound 19 = .ok (.goto (-17), 3) := by decide +kernel
theorem d_MO_partRound_22 : decode b_MO_partRound 22 = .ok (.iconst 0, 1) := by decide +kernel
theorem d_MO_partRound_23 : decode b_MO_partRound 23 = .ok (.istore_n 3, 1) := by decide +kernel
theorem d_MO_partRound_24 : decode b_MO_partRound 24 = .ok (.iload_n 3, 1) := by decide +kernel
theorem d_MO_partRound_25 : decode b_MO_partRound 25 = .ok (.aload_n 0, 1) := by decide +kernel
theorem d_MO_partRound_26 : decode b_MO_partRound 26 = .ok (.getfield 162, 3) := by decide +kernel
theorem d_MO_partRound_29 : decode b_MO_partRound 29 = .ok (.if_icmp .ge 16, 3) := by decide +kernel
theorem d_MO_partRound_32 : decode b_MO_partRound 32 = .ok (.aload_n 0, 1) := by decide +kernel
theorem d_MO_partRound_33 : decode b_MO_partRound 33 = .ok (.getfield 82, 3) := by decide +kernel
theorem d_MO_partRound_36 : decode b_MO_partRound 36 = .ok (.iload_n 3, 1) := by decide +kernel
theorem d_MO_partRound_37 : decode b_MO_partRound 37 = .ok (.iconst 0, 1) := by decide +kernel
theorem d_MO_partRound_38 : decode b_MO_partRound 38 = .ok (.iastore, 1) := by decide +kernel
theorem d_MO_partRound_39 : decode b_MO_partRound 39 = .ok (.iinc 3 1, 3) := by decide +kernel
theorem d_MO_partRound_42 : decode b_MO_partRound 42 = .ok (.goto (-18), 3) := by decide +kernel
theorem d_MO_partRound_45 : decode b_MO_partRound 45 = .ok (.iconst 0, 1) := by decide +kernel
theorem d_MO_partRound_46 : decode b_MO_partRound 46 = .ok (.istore_n 3, 1) := by decide +kernel
theorem d_MO_partRound_47 : decode b_MO_partRound 47 = .ok (.iconst 0, 1) := by decide +kernel
theorem d_MO_partRound_48 : decode b_MO_partRound 48 = .ok (.istore 4, 2) := by decide +kernel
theorem d_MO_partRound_50 : decode b_MO_partRound 50 = .ok (.iload 4, 2) := by decide +kernel
theorem d_MO_partRound_52 : decode b_MO_partRound 52 = .ok (.iload_n 1, 1) := by decide +kernel
theorem d_MO_partRound_53 : decode b_MO_partRound 53 = .ok (.if_icmp .ge 129, 3) := by decide +kernel
theorem d_MO_partRound_56 : decode b_MO_partRound 56 = .ok (.aload_n 0, 1) := by decide +kernel
theorem d_MO_partRound_57 : decode b_MO_partRound 57 = .ok (.iload 4, 2) := by decide +kernel
theorem d_MO_partRound_59 : decode b_MO_partRound 59 = .ok (.iload_n 2, 1) := by decide +kernel
theorem d_MO_partRound_60 : decode b_MO_partRound 60 = .ok (.invokevirtual 165, 3) := by decide +kernel
theorem d_MO_partRound_63 : decode b_MO_partRound 63 = .ok (.istore 5, 2) := by decide +kernel
theorem d_MO_partRound_65 : decode b_MO_partRound 65 = .ok (.aload_n 0, 1) := by decide +kernel
theorem d_MO_partRound_66 : decode b_MO_partRound 66 = .ok (.getfield 85, 3) := by decide +kernel
theorem d_MO_partRound_69 : decode b_MO_partRound 69 = .ok (.iload 5, 2) := by decide +kernel
theorem d_MO_partRound_71 : decode b_MO_partRound 71 = .ok (.iaload, 1) := by decide +kernel
theorem d_MO_partRound_72 : decode b_MO_partRound 72 = .ok (.istore 6, 2) := by decide +kernel
theorem d_MO_partRound_74 : decode b_MO_partRound 74 = .ok (.iload 6, 2) := by decide +kernel
theorem d_MO_partRound_76 : decode b_MO_partRound 76 = .ok (.ifCond .lt 32, 3) := by decide +kernel
theorem d_MO_partRound_79 : decode b_MO_partRound 79 = .ok (.aload_n 0, 1) := by decide +kernel
theorem d_MO_partRound_80 : decode b_MO_partRound 80 = .ok (.aload_n 0, 1) := by decide +kernel
theorem d_MO_partRound_81 : decode b_MO_partRound 81 = .ok (.getfield 79, 3) := by decide +kernel
theorem d_MO_partRound_84 : decode b_MO_partRound 84 = .ok (.iload 6, 2) := by decide +kernel
theorem d_MO_partRound_86 : decode b_MO_partRound 86 = .ok (.iaload, 1) := by decide +kernel
theorem d_MO_partRound_87 : decode b_MO_partRound 87 = .ok (.iload 4, 2) := by decide +kernel
theorem d_MO_partRound_89 : decode b_MO_partRound 89 = .ok (.iload_n 2, 1) := by decide +kernel
theorem d_MO_partRound_90 : decode b_MO_partRound 90 = .ok (.invokevirtual 168, 3) := by decide +kernel
theorem d_MO_partRound_93 : decode b_MO_partRound 93 = .ok (.ifCond .ne 15, 3) := by decide +kernel
theorem d_MO_partRound_96 : decode b_MO_partRound 96 = .ok (.aload_n 0, 1) := by decide +kernel
theorem d_MO_partRound_97 : decode b_MO_partRound 97 = .ok (.getfield 88, 3) := by decide +kernel
theorem d_MO_partRound_100 : decode b_MO_partRound 100 = .ok (.iload 6, 2) := by decide +kernel
theorem d_MO_partRound_102 : decode b_MO_partRound 102 = .ok (.iaload, 1) := by decide +kernel
theorem d_MO_partRound_103 : decode b_MO_partRound 103 = .ok (.istore 6, 2) := by decide +kernel
theorem d_MO_partRound_105 : decode b_MO_partRound 105 = .ok (.goto (-31), 3) := by decide +kernel
theorem d_MO_partRound_108 : decode b_MO_partRound 108 = .ok (.iload 6, 2) := by decide +kernel
theorem d_MO_partRound_110 : decode b_MO_partRound 110 = .ok (.ifCond .ge 57, 3) := by decide +kernel
theorem d_MO_partRound_113 : decode b_MO_partRound 113 = .ok (.iload_n 3, 1) := by decide +kernel
theorem d_MO_partRound_114 : decode b_MO_partRound 114 = .ok (.istore 6, 2) := by decide +kernel
theorem d_MO_partRound_116 : decode b_MO_partRound 116 = .ok (.aload_n 0, 1) := by decide +kernel
theorem d_MO_partRound_117 : decode b_MO_partRound 117 = .ok (.getfield 79, 3) := by decide +kernel
theorem d_MO_partRound_120 : decode b_MO_partRound 120 = .ok (.iload 6, 2) := by decide +kernel
theorem d_MO_partRound_122 : decode b_MO_partRound 122 = .ok (.iload 4, 2) := by decide +kernel
theorem d_MO_partRound_124 : decode b_MO_partRound 124 = .ok (.iastore, 1) := by decide +kernel
theorem d_MO_partRound_125 : decode b_MO_partRound 125 = .ok (.aload_n 0, 1) := by decide +kernel
theorem d_MO_partRound_126 : decode b_MO_partRound 126 = .ok (.getfield 88, 3) := by decide +kernel
theorem d_MO_partRound_129 : decode b_MO_partRound 129 = .ok (.iload 6, 2) := by decide +kernel
theorem d_MO_partRound_131 : decode b_MO_partRound 131 = .ok (.aload_n 0, 1) := by decide +kernel
theorem d_MO_partRound_132 : decode b_MO_partRound 132 = .ok (.getfield 85, 3) := by decide +kernel
theorem d_MO_partRound_135 : decode b_MO_partRound 135 = .ok (.iload 5, 2) := by decide +kernel
theorem d_MO_partRound_137 : decode b_MO_partRound 137 = .ok (.iaload, 1) := by decide +kernel
theorem d_MO_partRound_138 : decode b_MO_partRound 138 = .ok (.iastore, 1) := by decide +kernel
theorem d_MO_partRound_139 : decode b_MO_partRound 139 = .ok (.aload_n 0, 1) := by decide +kernel
theorem d_MO_partRound_140 : decode b_MO_partRound 140 = .ok (.getfield 85, 3) := by decide +kernel
theorem d_MO_partRound_143 : decode b_MO_partRound 143 = .ok (.iload 5, 2) := by decide +kernel
theorem d_MO_partRound_145 : decode b_MO_partRound 145 = .ok (.iload 6, 2) := by decide +kernel
theorem d_MO_partRound_147 : decode b_MO_partRound 147 = .ok (.iastore, 1) := by decide +kernel
theorem d_MO_partRound_148 : decode b_MO_partRound 148 = .ok (.aload_n 0, 1) := by decide +kernel
theorem d_MO_partRound_149 : decode b_MO_partRound 149 = .ok (.getfield 82, 3) := by decide +kernel
theorem d_MO_partRound_152 : decode b_MO_partRound 152 = .ok (.aload_n 0, 1) := by decide +kernel
theorem d_MO_partRound_153 : decode b_MO_partRound 153 = .ok (.getfield 61, 3) := by decide +kernel
theorem d_MO_partRound_156 : decode b_MO_partRound 156 = .ok (.iload 4, 2) := by decide +kernel
theorem d_MO_partRound_158 : decode b_MO_partRound 158 = .ok (.iaload, 1) := by decide +kernel
theorem d_MO_partRound_159 : decode b_MO_partRound 159 = .ok (.dup2, 1) := by decide +kernel
theorem d_MO_partRound_160 : decode b_MO_partRound 160 = .ok (.iaload, 1) := by decide +kernel
theorem d_MO_partRound_161 : decode b_MO_partRound 161 = .ok (.iconst 1, 1) := by decide +kernel
theorem d_MO_partRound_162 : decode b_MO_partRound 162 = .ok (.iadd, 1) := by decide +kernel
theorem d_MO_partRound_163 : decode b_MO_partRound 163 = .ok (.iastore, 1) := by decide +kernel
theorem d_MO_partRound_164 : decode b_MO_partRound 164 = .ok (.iinc 3 1, 3) := by decide +kernel
theorem d_MO_partRound_167 : decode b_MO_partRound 167 = .ok (.aload_n 0, 1) := by decide +kernel
theorem d_MO_partRound_168 : decode b_MO_partRound 168 = .ok (.getfield 64, 3) := by decide +kernel
theorem d_MO_partRound_171 : decode b_MO_partRound 171 = .ok (.iload 4, 2) := by decide +kernel
theorem d_MO_partRound_173 : decode b_MO_partRound 173 = .ok (.iload 6, 2) := by decide +kernel
theorem d_MO_partRound_175 : decode b_MO_partRound 175 = .ok (.iastore, 1) := by decide +kernel
theorem d_MO_partRound_176 : decode b_MO_partRound 176 = .ok (.iinc 4 1, 3) := by decide +kernel
theorem d_MO_partRound_179 : decode b_MO_partRound 179 = .ok (.goto (-129), 3) := by decide +kernel
theorem d_MO_partRound_182 : decode b_MO_partRound 182 = .ok (.iload_n 3, 1) := by decide +kernel
theorem d_MO_partRound_183 : decode b_MO_partRound 183 = .ok (.ireturn, 1) := by decide +kernel
theorem d_MO_partAll_0 : decode b_MO_partAll 0 = .ok (.iconst 1, 1) := by decide +kernel
theorem d_MO_partAll_1 : decode b_MO_partAll 1 = .ok (.aload_n 0, 1) := by decide +kernel
theorem d_MO_partAll_2 : decode b_MO_partAll 2 = .ok (.getfield 118, 3) := by decide +kernel
theorem d_MO_partAll_5 : decode b_MO_partAll 5 = .ok (.ishl, 1) := by decide +kernel
theorem d_MO_partAll_6 : decode b_MO_partAll 6 = .ok (.istore_n 1, 1) := by decide +kernel
theorem d_MO_partAll_7 : decode b_MO_partAll 7 = .ok (.aload_n 0, 1) := by decide +kernel
theorem d_MO_partAll_8 : decode b_MO_partAll 8 = .ok (.iconst 1, 1) := by decide +kernel
theorem d_MO_partAll_9 : decode b_MO_partAll 9 = .ok (.putfield 162, 3) := by decide +kernel
theorem d_MO_partAll_12 : decode b_MO_partAll 12 = .ok (.aload_n 0, 1) := by decide +kernel
theorem d_MO_partAll_13 : decode b_MO_partAll 13 = .ok (.iconst 1, 1) := by decide +kernel
theorem d_MO_partAll_14 : decode b_MO_partAll 14 = .ok (.putfield 171, 3) := by decide +kernel
theorem d_MO_partAll_17 : decode b_MO_partAll 17 = .ok (.aload_n 0, 1) := by decide +kernel
theorem d_MO_partAll_18 : decode b_MO_partAll 18 = .ok (.getfield 67, 3) := by decide +kernel
theorem d_MO_partAll_21 : decode b_MO_partAll 21 = .ok (.iconst 0, 1) := by decide +kernel
theorem d_MO_partAll_22 : decode b_MO_partAll 22 = .ok (.iconst 0, 1) := by decide +kernel
theorem d_MO_partAll_23 : decode b_MO_partAll 23 = .ok (.iastore, 1) := by decide +kernel
theorem d_MO_partAll_24 : decode b_MO_partAll 24 = .ok (.aload_n 0, 1) := by decide +kernel
theorem d_MO_partAll_25 : decode b_MO_partAll 25 = .ok (.getfield 73, 3) := by decide +kernel
theorem d_MO_partAll_28 : decode b_MO_partAll 28 = .ok (.iconst 0, 1) := by decide +kernel
theorem d_MO_partAll_29 : decode b_MO_partAll 29 = .ok (.iconst (-1), 1) := by decide +kernel
theorem d_MO_partAll_30 : decode b_MO_partAll 30 = .ok (.iastore, 1) := by decide +kernel
theorem d_MO_partAll_31 : decode b_MO_partAll 31 = .ok (.aload_n 0, 1) := by decide +kernel
theorem d_MO_partAll_32 : decode b_MO_partAll 32 = .ok (.getfield 76, 3) := by decide +kernel
theorem d_MO_partAll_35 : decode b_MO_partAll 35 = .ok (.iconst 0, 1) := by decide +kernel
theorem d_MO_partAll_36 : decode b_MO_partAll 36 = .ok (.iconst 0, 1) := by decide +kernel
theorem d_MO_partAll_37 : decode b_MO_partAll 37 = .ok (.iastore, 1) := by decide +kernel
theorem d_MO_partAll_38 : decode b_MO_partAll 38 = .ok (.iconst 0, 1) := by decide +kernel
theorem d_MO_partAll_39 : decode b_MO_partAll 39 = .ok (.istore_n 2, 1) := by decide +kernel
theorem d_MO_partAll_40 : decode b_MO_partAll 40 = .ok (.iload_n 2, 1) := by decide +kernel
theorem d_MO_partAll_41 : decode b_MO_partAll 41 = .ok (.iload_n 1, 1) := by decide +kernel
theorem d_MO_partAll_42 : decode b_MO_partAll 42 = .ok (.if_icmp .ge 16, 3) := by decide +kernel
theorem d_MO_partAll_45 : decode b_MO_partAll 45 = .ok (.aload_n 0, 1) := by decide +kernel
theorem d_MO_partAll_46 : decode b_MO_partAll 46 = .ok (.getfield 61, 3) := by decide +kernel
theorem d_MO_partAll_49 : decode b_MO_partAll 49 = .ok (.iload_n 2, 1) := by decide +kernel
theorem d_MO_partAll_50 : decode b_MO_partAll 50 = .ok (.iconst 0, 1) := by decide +kernel
theorem d_MO_partAll_51 : decode b_MO_partAll 51 = .ok (.iastore, 1) := by decide +kernel
theorem d_MO_partAll_52 : decode b_MO_partAll 52 = .ok (.iinc 2 1, 3) := by decide +kernel
theorem d_MO_partAll_55 : decode b_MO_partAll 55 = .ok (.goto (-15), 3) := by decide +kernel
theorem d_MO_partAll_58 : decode b_MO_partAll 58 = .ok (.iconst 1, 1) := by decide +kernel
theorem d_MO_partAll_59 : decode b_MO_partAll 59 = .ok (.istore_n 2, 1) := by decide +kernel
theorem d_MO_partAll_60 : decode b_MO_partAll 60 = .ok (.iconst 1, 1) := by decide +kernel
theorem d_MO_partAll_61 : decode b_MO_partAll 61 = .ok (.istore_n 3, 1) := by decide +kernel
theorem d_MO_partAll_62 : decode b_MO_partAll 62 = .ok (.iload_n 2, 1) := by decide +kernel
theorem d_MO_partAll_63 : decode b_MO_partAll 63 = .ok (.ifCond .eq 199, 3) := by decide +kernel
theorem d_MO_partAll_66 : decode b_MO_partAll 66 = .ok (.aload_n 0, 1) := by decide +kernel
theorem d_MO_partAll_67 : decode b_MO_partAll 67 = .ok (.iload_n 1, 1) := by decide +kernel
theorem d_MO_partAll_68 : decode b_MO_partAll 68 = .ok (.iload_n 3, 1) := by decide +kernel
theorem d_MO_partAll_69 : decode b_MO_partAll 69 = .ok (.invokevirtual 174, 3) := by decide +kernel
theorem d_MO_partAll_72 : decode b_MO_partAll 72 = .ok (.istore 4, 2) := by decide +kernel
theorem d_MO_partAll_74 : decode b_MO_partAll 74 = .ok (.iload 4, 2) := by decide +kernel
theorem d_MO_partAll_76 : decode b_MO_partAll 76 = .ok (.aload_n 0, 1) := by decide +kernel
theorem d_MO_partAll_77 : decode b_MO_partAll 77 = .ok (.getfield 162, 3) := by decide +kernel
theorem d_MO_partAll_80 : decode b_MO_partAll 80 = .ok (.if_icmp .le 7, 3) := by decide +kernel
theorem d_MO_partAll_83 : decode b_MO_partAll 83 = .ok (.iconst 1, 1) := by decide +kernel
theorem d_MO_partAll_84 : decode b_MO_partAll 84 = .ok (.goto 4, 3) := by decide +kernel
theorem d_MO_partAll_87 : decode b_MO_partAll 87 = .ok (.iconst 0, 1) := by decide +kernel
theorem d_MO_partAll_88 : decode b_MO_partAll 88 = .ok (.istore_n 2, 1) := by decide +kernel
theorem d_MO_partAll_89 : decode b_MO_partAll 89 = .ok (.iconst 0, 1) := by decide +kernel
theorem d_MO_partAll_90 : decode b_MO_partAll 90 = .ok (.istore 5, 2) := by decide +kernel
theorem d_MO_partAll_92 : decode b_MO_partAll 92 = .ok (.iload 5, 2) := by decide +kernel
theorem d_MO_partAll_94 : decode b_MO_partAll 94 = .ok (.iload 4, 2) := by decide +kernel
theorem d_MO_partAll_96 : decode b_MO_partAll 96 = .ok (.if_icmp .ge 95, 3) := by decide +kernel
theorem d_MO_partAll_99 : decode b_MO_partAll 99 = .ok (.aload_n 0, 1) := by decide +kernel
theorem d_MO_partAll_100 : decode b_MO_partAll 100 = .ok (.getfield 61, 3) := by decide +kernel
theorem d_MO_partAll_103 : decode b_MO_partAll 103 = .ok (.aload_n 0, 1) := by decide +kernel
theorem d_MO_partAll_104 : decode b_MO_partAll 104 = .ok (.getfield 79, 3) := by decide +kernel
theorem d_MO_partAll_107 : decode b_MO_partAll 107 = .ok (.iload 5, 2) := by decide +kernel
theorem d_MO_partAll_109 : decode b_MO_partAll 109 = .ok (.iaload, 1) := by decide +kernel
theorem d_MO_partAll_110 : decode b_MO_partAll 110 = .ok (.iaload, 1) := by decide +kernel
theorem d_MO_partAll_111 : decode b_MO_partAll 111 = .ok (.istore 6, 2) := by decide +kernel
theorem d_MO_partAll_113 : decode b_MO_partAll 113 = .ok (.aload_n 0, 1) := by decide +kernel
theorem d_MO_partAll_114 : decode b_MO_partAll 114 = .ok (.getfield 70, 3) := by decide +kernel
theorem d_MO_partAll_117 : decode b_MO_partAll 117 = .ok (.iload 5, 2) := by decide +kernel
theorem d_MO_partAll_119 : decode b_MO_partAll 119 = .ok (.aload_n 0, 1) := by decide +kernel
theorem d_MO_partAll_120 : decode b_MO_partAll 120 = .ok (.getfield 67, 3) := by decide +kernel
theorem d_MO_partAll_123 : decode b_MO_partAll 123 = .ok (.iload 6, 2) := by decide +kernel
theorem d_MO_partAll_125 : decode b_MO_partAll 125 = .ok (.iaload, 1) := by decide +kernel
theorem d_MO_partAll_126 : decode b_MO_partAll 126 = .ok (.iastore, 1) := by decide +kernel
theorem d_MO_partAll_127 : decode b_MO_partAll 127 = .ok (.aload_n 0, 1) := by decide +kernel
theorem d_MO_partAll_128 : decode b_MO_partAll 128 = .ok (.getfield 82, 3) := by decide +kernel
theorem d_MO_partAll_131 : decode b_MO_partAll 131 = .ok (.iload 6, 2) := by decide +kernel
theorem d_MO_partAll_133 : decode b_MO_partAll 133 = .ok (.iaload, 1) := by decide +kernel
theorem d_MO_partAll_134 : decode b_MO_partAll 134 = .ok (.iconst 1, 1) := by decide +kernel
theorem d_MO_partAll_135 : decode b_MO_partAll 135 = .ok (.if_icmp .le 50, 3) := by decide +kernel
theorem d_MO_partAll_138 : decode b_MO_partAll 138 = .ok (.aload_n 0, 1) := by decide +kernel
theorem d_MO_partAll_139 : decode b_MO_partAll 139 = .ok (.getfield 70, 3) := by decide +kernel
theorem d_MO_partAll_142 : decode b_MO_partAll 142 = .ok (.iload 5, 2) := by decide +kernel
theorem d_MO_partAll_144 : decode b_MO_partAll 144 = .ok (.aload_n 0, 1) := by decide +kernel
theorem d_MO_partAll_145 : decode b_MO_partAll 145 = .ok (.getfield 171, 3) := by decide +kernel
theorem d_MO_partAll_148 : decode b_MO_partAll 148 = .ok (.iastore, 1) := by decide +kernel
theorem d_MO_partAll_149 : decode b_MO_partAll 149 = .ok (.aload_n 0, 1) := by decide +kernel
theorem d_MO_partAll_150 : decode b_MO_partAll 150 = .ok (.getfield 73, 3) := by decide +kernel
theorem d_MO_partAll_153 : decode b_MO_partAll 153 = .ok (.aload_n 0, 1) := by decide +kernel
theorem d_MO_partAll_154 : decode b_MO_partAll 154 = .ok (.getfield 171, 3) := by decide +kernel
theorem d_MO_partAll_157 : decode b_MO_partAll 157 = .ok (.aload_n 0, 1) := by decide +kernel
theorem d_MO_partAll_158 : decode b_MO_partAll 158 = .ok (.getfield 67, 3) := by decide +kernel
theorem d_MO_partAll_161 : decode b_MO_partAll 161 = .ok (.iload 6, 2) := by decide +kernel
theorem d_MO_partAll_163 : decode b_MO_partAll 163 = .ok (.iaload, 1) := by decide +kernel
theorem d_MO_partAll_164 : decode b_MO_partAll 164 = .ok (.iastore, 1) := by decide +kernel
theorem d_MO_partAll_165 : decode b_MO_partAll 165 = .ok (.aload_n 0, 1) := by decide +kernel
theorem d_MO_partAll_166 : decode b_MO_partAll 166 = .ok (.getfield 76, 3) := by decide +kernel
theorem d_MO_partAll_169 : decode b_MO_partAll 169 = .ok (.aload_n 0, 1) := by decide +kernel
theorem d_MO_partAll_170 : decode b_MO_partAll 170 = .ok (.getfield 171, 3) := by decide +kernel
theorem d_MO_partAll_173 : decode b_MO_partAll 173 = .ok (.iload_n 3, 1) := by decide +kernel
theorem d_MO_partAll_174 : decode b_MO_partAll 174 = .ok (.iastore, 1) := by decide +kernel
theorem d_MO_partAll_175 : decode b_MO_partAll 175 = .ok (.aload_n 0, 1) := by decide +kernel
theorem d_MO_partAll_176 : decode b_MO_partAll 176 = .ok (.dup, 1) := by decide +kernel
theorem d_MO_partAll_177 : decode b_MO_partAll 177 = .ok (.getfield 171, 3) := by decide +kernel
theorem d_MO_partAll_180 : decode b_MO_partAll 180 = .ok (.iconst 1, 1) := by decide +kernel
theorem d_MO_partAll_181 : decode b_MO_partAll 181 = .ok (.iadd, 1) := by decide +kernel
theorem d_MO_partAll_182 : decode b_MO_partAll 182 = .ok (.putfield 171, 3) := by decide +kernel
theorem d_MO_partAll_185 : decode b_MO_partAll 185 = .ok (.iinc 5 1, 3) := by decide +kernel
theorem d_MO_partAll_188 : decode b_MO_partAll 188 = .ok (.goto (-96), 3) := by decide +kernel
theorem d_MO_partAll_191 : decode b_MO_partAll 191 = .ok (.iconst 0, 1) := by decide +kernel
theorem d_MO_partAll_192 : decode b_MO_partAll 192 = .ok (.istore 5, 2) := by decide +kernel
theorem d_MO_partAll_194 : decode b_MO_partAll 194 = .ok (.iload 5, 2) := by decide +kernel
theorem d_MO_partAll_196 : decode b_MO_partAll 196 = .ok (.iload 4, 2) := by decide +kernel
theorem d_MO_partAll_198 : decode b_MO_partAll 198 = .ok (.if_icmp .ge 23, 3) := by decide +kernel
theorem d_MO_partAll_201 : decode b_MO_partAll 201 = .ok (.aload_n 0, 1) := by decide +kernel
theorem d_MO_partAll_202 : decode b_MO_partAll 202 = .ok (.getfield 67, 3) := by decide +kernel
theorem d_MO_partAll_205 : decode b_MO_partAll 205 = .ok (.iload 5, 2) := by decide +kernel
theorem d_MO_partAll_207 : decode b_MO_partAll 207 = .ok (.aload_n 0, 1) := by decide +kernel
theorem d_MO_partAll_208 : decode b_MO_partAll 208 = .ok (.getfield 70, 3) := by decide +kernel
theorem d_MO_partAll_211 : decode b_MO_partAll 211 = .ok (.iload 5, 2) := by decide +kernel
theorem d_MO_partAll_213 : decode b_MO_partAll 213 = .ok (.iaload, 1) := by decide +kernel
theorem d_MO_partAll_214 : decode b_MO_partAll 214 = .ok (.iastore, 1) := by decide +kernel
theorem d_MO_partAll_215 : decode b_MO_partAll 215 = .ok (.iinc 5 1, 3) := by decide +kernel
theorem d_MO_partAll_218 : decode b_MO_partAll 218 = .ok (.goto (-24), 3) := by decide +kernel
theorem d_MO_partAll_221 : decode b_MO_partAll 221 = .ok (.iconst 0, 1) := by decide +kernel
theorem d_MO_partAll_222 : decode b_MO_partAll 222 = .ok (.istore 5, 2) := by decide +kernel
theorem d_MO_partAll_224 : decode b_MO_partAll 224 = .ok (.iload 5, 2) := by decide +kernel
theorem d_MO_partAll_226 : decode b_MO_partAll 226 = .ok (.iload_n 1, 1) := by decide +kernel
theorem d_MO_partAll_227 : decode b_MO_partAll 227 = .ok (.if_icmp .ge 23, 3) := by decide +kernel
theorem d_MO_partAll_230 : decode b_MO_partAll 230 = .ok (.aload_n 0, 1) := by decide +kernel
theorem d_MO_partAll_231 : decode b_MO_partAll 231 = .ok (.getfield 61, 3) := by decide +kernel
theorem d_MO_partAll_234 : decode b_MO_partAll 234 = .ok (.iload 5, 2) := by decide +kernel
theorem d_MO_partAll_236 : decode b_MO_partAll 236 = .ok (.aload_n 0, 1) := by decide +kernel
theorem d_MO_partAll_237 : decode b_MO_partAll 237 = .ok (.getfield 64, 3) := by decide +kernel
theorem d_MO_partAll_240 : decode b_MO_partAll 240 = .ok (.iload 5, 2) := by decide +kernel
theorem d_MO_partAll_242 : decode b_MO_partAll 242 = .ok (.iaload, 1) := by decide +kernel
theorem d_MO_partAll_243 : decode b_MO_partAll 243 = .ok (.iastore, 1) := by decide +kernel
theorem d_MO_partAll_244 : decode b_MO_partAll 244 = .ok (.iinc 5 1, 3) := by decide +kernel
theorem d_MO_partAll_247 : decode b_MO_partAll 247 = .ok (.goto (-23), 3) := by decide +kernel
theorem d_MO_partAll_250 : decode b_MO_partAll 250 = .ok (.aload_n 0, 1) := by decide +kernel
theorem d_MO_partAll_251 : decode b_MO_partAll 251 = .ok (.iload 4, 2) := by decide +kernel
theorem d_MO_partAll_253 : decode b_MO_partAll 253 = .ok (.putfield 162, 3) := by decide +kernel
theorem d_MO_partAll_256 : decode b_MO_partAll 256 = .ok (.iinc 3 1, 3) := by decide +kernel
theorem d_MO_partAll_259 : decode b_MO_partAll 259 = .ok (.goto (-197), 3) := by decide +kernel
theorem d_MO_partAll_262 : decode b_MO_partAll 262 = .ok (.return_, 1) := by decide +kernel
theorem d_MO_parted_0 : decode b_MO_parted 0 = .ok (.aload_n 0, 1) := by decide +kernel
theorem d_MO_parted_1 : decode b_MO_parted 1 = .ok (.getfield 67, 3) := by decide +kernel
theorem d_MO_parted_4 : decode b_MO_parted 4 = .ok (.aload_n 0, 1) := by decide +kernel
theorem d_MO_parted_5 : decode b_MO_parted 5 = .ok (.getfield 61, 3) := by decide +kernel
theorem d_MO_parted_8 : decode b_MO_parted 8 = .ok (.iload_n 1, 1) := by decide +kernel
theorem d_MO_parted_9 : decode b_MO_parted 9 = .ok (.iaload, 1) := by decide +kernel
theorem d_MO_parted_10 : decode b_MO_parted 10 = .ok (.iaload, 1) := by decide +kernel
theorem d_MO_parted_11 : decode b_MO_parted 11 = .ok (.istore_n 3, 1) := by decide +kernel
theorem d_MO_parted_12 : decode b_MO_parted 12 = .ok (.aload_n 0, 1) := by decide +kernel
theorem d_MO_parted_13 : decode b_MO_parted 13 = .ok (.getfield 67, 3) := by decide +kernel
theorem d_MO_parted_16 : decode b_MO_parted 16 = .ok (.aload_n 0, 1) := by decide +kernel
theorem d_MO_parted_17 : decode b_MO_parted 17 = .ok (.getfield 61, 3) := by decide +kernel
theorem d_MO_parted_20 : decode b_MO_parted 20 = .ok (.iload_n 2, 1) := by decide +kernel
theorem d_MO_parted_21 : decode b_MO_parted 21 = .ok (.iaload, 1) := by decide +kernel
theorem d_MO_parted_22 : decode b_MO_parted 22 = .ok (.iaload, 1) := by decide +kernel
theorem d_MO_parted_23 : decode b_MO_parted 23 = .ok (.istore 4, 2) := by decide +kernel
theorem d_MO_parted_25 : decode b_MO_parted 25 = .ok (.iconst 0, 1) := by decide +kernel
theorem d_MO_parted_26 : decode b_MO_parted 26 = .ok (.istore 5, 2) := by decide +kernel
theorem d_MO_parted_28 : decode b_MO_parted 28 = .ok (.iload_n 3, 1) := by decide +kernel
theorem d_MO_parted_29 : decode b_MO_parted 29 = .ok (.iload 4, 2) := by decide +kernel
theorem d_MO_parted_31 : decode b_MO_parted 31 = .ok (.if_icmp .eq 58, 3) := by decide +kernel
theorem d_MO_parted_34 : decode b_MO_parted 34 = .ok (.aload_n 0, 1) := by decide +kernel
theorem d_MO_parted_35 : decode b_MO_parted 35 = .ok (.getfield 76, 3) := by decide +kernel
theorem d_MO_parted_38 : decode b_MO_parted 38 = .ok (.iload_n 3, 1) := by decide +kernel
theorem d_MO_parted_39 : decode b_MO_parted 39 = .ok (.iaload, 1) := by decide +kernel
theorem d_MO_parted_40 : decode b_MO_parted 40 = .ok (.aload_n 0, 1) := by decide +kernel
theorem d_MO_parted_41 : decode b_MO_parted 41 = .ok (.getfield 76, 3) := by decide +kernel
theorem d_MO_parted_44 : decode b_MO_parted 44 = .ok (.iload 4, 2) := by decide +kernel
theorem d_MO_parted_46 : decode b_MO_parted 46 = .ok (.iaload, 1) := by decide +kernel
theorem d_MO_parted_47 : decode b_MO_parted 47 = .ok (.if_icmp .lt 21, 3) := by decide +kernel
theorem d_MO_parted_50 : decode b_MO_parted 50 = .ok (.aload_n 0, 1) := by decide +kernel
theorem d_MO_parted_51 : decode b_MO_parted 51 = .ok (.getfield 76, 3) := by decide +kernel
theorem d_MO_parted_54 : decode b_MO_parted 54 = .ok (.iload_n 3, 1) := by decide +kernel
theorem d_MO_parted_55 : decode b_MO_parted 55 = .ok (.iaload, 1) := by decide +kernel
theorem d_MO_parted_56 : decode b_MO_parted 56 = .ok (.istore 5, 2) := by decide +kernel
theorem d_MO_parted_58 : decode b_MO_parted 58 = .ok (.aload_n 0, 1) := by decide +kernel
theorem d_MO_parted_59 : decode b_MO_parted 59 = .ok (.getfield 73, 3) := by decide +kernel
theorem d_MO_parted_62 : decode b_MO_parted 62 = .ok (.iload_n 3, 1) := by decide +kernel
theorem d_MO_parted_63 : decode b_MO_parted 63 = .ok (.iaload, 1) := by decide +kernel
theorem d_MO_parted_64 : decode b_MO_parted 64 = .ok (.istore_n 3, 1) := by decide +kernel
theorem d_MO_parted_65 : decode b_MO_parted 65 = .ok (.goto (-37), 3) := by decide +kernel
theorem d_MO_parted_68 : decode b_MO_parted 68 = .ok (.aload_n 0, 1) := by decide +kernel
theorem d_MO_parted_69 : decode b_MO_parted 69 = .ok (.getfield 76, 3) := by decide +kernel
theorem d_MO_parted_72 : decode b_MO_parted 72 = .ok (.iload 4, 2) := by decide +kernel
theorem d_MO_parted_74 : decode b_MO_parted 74 = .ok (.iaload, 1) := by decide +kernel
theorem d_MO_parted_75 : decode b_MO_parted 75 = .ok (.istore 5, 2) := by decide +kernel
theorem d_MO_parted_77 : decode b_MO_parted 77 = .ok (.aload_n 0, 1) := by decide +kernel
theorem d_MO_parted_78 : decode b_MO_parted 78 = .ok (.getfield 73, 3) := by decide +kernel
theorem d_MO_parted_81 : decode b_MO_parted 81 = .ok (.iload 4, 2) := by decide +kernel
theorem d_MO_parted_83 : decode b_MO_parted 83 = .ok (.iaload, 1) := by decide +kernel
theorem d_MO_parted_84 : decode b_MO_parted 84 = .ok (.istore 4, 2) := by decide +kernel
theorem d_MO_parted_86 : decode b_MO_parted 86 = .ok (.goto (-58), 3) := by decide +kernel
theorem d_MO_parted_89 : decode b_MO_parted 89 = .ok (.iload 5, 2) := by decide +kernel
theorem d_MO_parted_91 : decode b_MO_parted 91 = .ok (.ireturn, 1) := by decide +kernel
theorem d_MO_findClasses_0 : decode b_MO_findClasses 0 = .ok (.aload_n 0, 1) := by decide +kernel
theorem d_MO_findClasses_1 : decode b_MO_findClasses 1 = .ok (.iconst 0, 1) := by decide +kernel
theorem d_MO_findClasses_2 : decode b_MO_findClasses 2 = .ok (.putfield 177, 3) := by decide +kernel
theorem d_MO_findClasses_5 : decode b_MO_findClasses 5 = .ok (.iconst 0, 1) := by decide +kernel
theorem d_MO_findClasses_6 : decode b_MO_findClasses 6 = .ok (.istore_n 1, 1) := by decide +kernel
theorem d_MO_findClasses_7 : decode b_MO_findClasses 7 = .ok (.iload_n 1, 1) := by decide +kernel
theorem d_MO_findClasses_8 : decode b_MO_findClasses 8 = .ok (.aload_n 0, 1) := by decide +kernel
theorem d_MO_findClasses_9 : decode b_MO_findClasses 9 = .ok (.getfield 152, 3) := by decide +kernel
theorem d_MO_findClasses_12 : decode b_MO_findClasses 12 = .ok (.if_icmp .ge 87, 3) := by decide +kernel
theorem d_MO_findClasses_15 : decode b_MO_findClasses 15 = .ok (.iconst 0, 1) := by decide +kernel
theorem d_MO_findClasses_16 : decode b_MO_findClasses 16 = .ok (.istore_n 2, 1) := by decide +kernel
theorem d_MO_findClasses_17 : decode b_MO_findClasses 17 = .ok (.iload_n 2, 1) := by decide +kernel
theorem d_MO_findClasses_18 : decode b_MO_findClasses 18 = .ok (.aload_n 0, 1) := by decide +kernel
theorem d_MO_findClasses_19 : decode b_MO_findClasses 19 = .ok (.getfield 177, 3) := by decide +kernel
theorem d_MO_findClasses_22 : decode b_MO_findClasses 22 = .ok (.if_icmp .ge 34, 3) := by decide +kernel
theorem d_MO_findClasses_25 : decode b_MO_findClasses 25 = .ok (.aload_n 0, 1) := by decide +kernel
theorem d_MO_findClasses_26 : decode b_MO_findClasses 26 = .ok (.getfield 61, 3) := by decide +kernel
theorem d_MO_findClasses_29 : decode b_MO_findClasses 29 = .ok (.aload_n 0, 1) := by decide +kernel
theorem d_MO_findClasses_30 : decode b_MO_findClasses 30 = .ok (.getfield 94, 3) := by decide +kernel
theorem d_MO_findClasses_33 : decode b_MO_findClasses 33 = .ok (.iload_n 2, 1) := by decide +kernel
theorem d_MO_findClasses_34 : decode b_MO_findClasses 34 = .ok (.iaload, 1) := by decide +kernel
theorem d_MO_findClasses_35 : decode b_MO_findClasses 35 = .ok (.iaload, 1) := by decide +kernel
theorem d_MO_findClasses_36 : decode b_MO_findClasses 36 = .ok (.aload_n 0, 1) := by decide +kernel
theorem d_MO_findClasses_37 : decode b_MO_findClasses 37 = .ok (.getfield 61, 3) := by decide +kernel
theorem d_MO_findClasses_40 : decode b_MO_findClasses 40 = .ok (.aload_n 0, 1) := by decide +kernel
theorem d_MO_findClasses_41 : decode b_MO_findClasses 41 = .ok (.getfield 46, 3) := by decide +kernel
theorem d_MO_findClasses_44 : decode b_MO_findClasses 44 = .ok (.iload_n 1, 1) := by decide +kernel
theorem d_MO_findClasses_45 : decode b_MO_findClasses 45 = .ok (.iaload, 1) := by decide +kernel
theorem d_MO_findClasses_46 : decode b_MO_findClasses 46 = .ok (.iaload, 1) := by decide +kernel
theorem d_MO_findClasses_47 : decode b_MO_findClasses 47 = .ok (.if_icmp .eq 9, 3) := by decide +kernel
theorem d_MO_findClasses_50 : decode b_MO_findClasses 50 = .ok (.iinc 2 1, 3) := by decide +kernel
theorem d_MO_findClasses_53 : decode b_MO_findClasses 53 = .ok (.goto (-36), 3) := by decide +kernel
theorem d_MO_findClasses_56 : decode b_MO_findClasses 56 = .ok (.iload_n 2, 1) := by decide +kernel
theorem d_MO_findClasses_57 : decode b_MO_findClasses 57 = .ok (.aload_n 0, 1) := by decide +kernel
theorem d_MO_findClasses_58 : decode b_MO_findClasses 58 = .ok (.getfield 177, 3) := by decide +kernel
theorem d_MO_findClasses_61 : decode b_MO_findClasses 61 = .ok (.if_icmp .ne 25, 3) := by decide +kernel
theorem d_MO_findClasses_64 : decode b_MO_findClasses 64 = .ok (.aload_n 0, 1) := by decide +kernel
theorem d_MO_findClasses_65 : decode b_MO_findClasses 65 = .ok (.getfield 94, 3) := by decide +kernel
theorem d_MO_findClasses_68 : decode b_MO_findClasses 68 = .ok (.iload_n 2, 1) := by decide +kernel
theorem d_MO_findClasses_69 : decode b_MO_findClasses 69 = .ok (.aload_n 0, 1) := by decide +kernel
theorem d_MO_findClasses_70 : decode b_MO_findClasses 70 = .ok (.getfield 46, 3) := by decide +kernel
theorem d_MO_findClasses_73 : decode b_MO_findClasses 73 = .ok (.iload_n 1, 1) := by decide +kernel
theorem d_MO_findClasses_74 : decode b_MO_findClasses 74 = .ok (.iaload, 1) := by decide +kernel
theorem d_MO_findClasses_75 : decode b_MO_findClasses 75 = .ok (.iastore, 1) := by decide +kernel
theorem d_MO_findClasses_76 : decode b_MO_findClasses 76 = .ok (.aload_n 0, 1) := by decide +kernel
theorem d_MO_findClasses_77 : decode b_MO_findClasses 77 = .ok (.dup, 1) := by decide +kernel
theorem d_MO_findClasses_78 : decode b_MO_findClasses 78 = .ok (.getfield 177, 3) := by decide +kernel
theorem d_MO_findClasses_81 : decode b_MO_findClasses 81 = .ok (.iconst 1, 1) := by decide +kernel
theorem d_MO_findClasses_82 : decode b_MO_findClasses 82 = .ok (.iadd, 1) := by decide +kernel
theorem d_MO_findClasses_83 : decode b_MO_findClasses 83 = .ok (.putfield 177, 3) := by decide +kernel
theorem d_MO_findClasses_86 : decode b_MO_findClasses 86 = .ok (.aload_n 0, 1) := by decide +kernel
theorem d_MO_findClasses_87 : decode b_MO_findClasses 87 = .ok (.getfield 91, 3) := by decide +kernel
theorem d_MO_findClasses_90 : decode b_MO_findClasses 90 = .ok (.iload_n 1, 1) := by decide +kernel
theorem d_MO_findClasses_91 : decode b_MO_findClasses 91 = .ok (.iload_n 2, 1) := by decide +kernel
theorem d_MO_findClasses_92 : decode b_MO_findClasses 92 = .ok (.iastore, 1) := by decide +kernel
theorem d_MO_findClasses_93 : decode b_MO_findClasses 93 = .ok (.iinc 1 1, 3) := by decide +kernel
theorem d_MO_findClasses_96 : decode b_MO_findClasses 96 = .ok (.goto (-89), 3) := by decide +kernel
theorem d_MO_findClasses_99 : decode b_MO_findClasses 99 = .ok (.return_, 1) := by decide +kernel
section Sites
variable {p : Program} {l : Launch} {e : Env} {R : Room} {s : State} {m : MethodId} {args : Array Value} {below : List Frame} {meth : Method} {c : Code} {H H0 : Heap} {locs : List Loc} {cells slots : Nat} {Q : State → Prop} {cc : ByteArray} {pc : Nat} {ls : Array Slot} {rest : List Value} {D : va_G} {A : Nat → Prop} {a : Nat} {TY : List (ClassId × FieldType)} {ws : va_W}
theorem gf_MO_61 (hx : p.tables.exec = Jvm.exec) (hb : c.code = cc) (hts : ∀ w ∈ wsG, w.before args s = true) (hown : s.vm.findClass R_MO = some m.cls) (hK : va_K D vwCl TY s) (hP : va_P D vwCl ws H) (q0 : Nat) {fs : List Value} (he : ws[q0]? = some (a, .inr (7, fs))) {v : Value} (hv : fs[28]? = some v) (hdg : decode cc pc = .ok (.getfield 61, 3)) (kk : W p l e R s m args below meth c H locs cells slots Q (F0 m (pc + 3) ls (v :: rest))) : W p l e R s m args below meth c H locs cells slots Q (F0 m pc ls (.ref a :: rest)) :=
  va_get (D := D) (ci := 7) (C := R_MO) (T := F_MO) (N := 41) hx hb hts i_MO hown hK hP q0 he rfl 28 (by decide) (hts _ k_89) (fun _ h9 => h9) hv hdg kk
theorem gf_MO_43 (hx : p.tables.exec = Jvm.exec) (hb : c.code = cc) (hts : ∀ w ∈ wsG, w.before args s = true) (hown : s.vm.findClass R_MO = some m.cls) (hK : va_K D vwCl TY s) (hP : va_P D vwCl ws H) (q0 : Nat) {fs : List Value} (he : ws[q0]? = some (a, .inr (7, fs))) {v : Value} (hv : fs[18]? = some v) (hdg : decode cc pc = .ok (.getfield 43, 3)) (kk : W p l e R s m args below meth c H locs cells slots Q (F0 m (pc + 3) ls (v :: rest))) : W p l e R s m args below meth c H locs cells slots Q (F0 m pc ls (.ref a :: rest)) :=
  va_get (D := D) (ci := 7) (C := R_MO) (T := F_MO) (N := 41) hx hb hts i_MO hown hK hP q0 he rfl 18 (by decide) (hts _ k_90) (fun _ h9 => h9) hv hdg kk
theorem gf_MO_162 (hx : p.tables.exec = Jvm.exec) (hb : c.code = cc) (hts : ∀ w ∈ wsG, w.before args s = true) (hown : s.vm.findClass R_MO = some m.cls) (hK : va_K D vwCl TY s) (hP : va_P D vwCl ws H) (q0 : Nat) {fs : List Value} (he : ws[q0]? = some (a, .inr (7, fs))) {v : Value} (hv : fs[26]? = some v) (hdg : decode cc pc = .ok (.getfield 162, 3)) (kk : W p l e R s m args below meth c H locs cells slots Q (F0 m (pc + 3) ls (v :: rest))) : W p l e R s m args below meth c H locs cells slots Q (F0 m pc ls (.ref a :: rest)) :=
  va_get (D := D) (ci := 7) (C := R_MO) (T := F_MO) (N := 41) hx hb hts i_MO hown hK hP q0 he rfl 26 (by decide) (hts _ k_91) (fun _ h9 => h9) hv hdg kk
theorem gf_MO_85 (hx : p.tables.exec = Jvm.exec) (hb : c.code = cc) (hts : ∀ w ∈ wsG, w.before args s = true) (hown : s.vm.findClass R_MO = some m.cls) (hK : va_K D vwCl TY s) (hP : va_P D vwCl ws H) (q0 : Nat) {fs : List Value} (he : ws[q0]? = some (a, .inr (7, fs))) {v : Value} (hv : fs[36]? = some v) (hdg : decode cc pc = .ok (.getfield 85, 3)) (kk : W p l e R s m args below meth c H locs cells slots Q (F0 m (pc + 3) ls (v :: rest))) : W p l e R s m args below meth c H locs cells slots Q (F0 m pc ls (.ref a :: rest)) :=
  va_get (D := D) (ci := 7) (C := R_MO) (T := F_MO) (N := 41) hx hb hts i_MO hown hK hP q0 he rfl 36 (by decide) (hts _ k_92) (fun _ h9 => h9) hv hdg kk
theorem gf_MO_64 (hx : p.tables.exec = Jvm.exec) (hb : c.code = cc) (hts : ∀ w ∈ wsG, w.before args s = true) (hown : s.vm.findClass R_MO = some m.cls) (hK : va_K D vwCl TY s) (hP : va_P D vwCl ws H) (q0 : Nat) {fs : List Value} (he : ws[q0]? = some (a, .inr (7, fs))) {v : Value} (hv : fs[29]? = some v) (hdg : decode cc pc = .ok (.getfield 64, 3)) (kk : W p l e R s m args below meth c H locs cells slots Q (F0 m (pc + 3) ls (v :: rest))) : W p l e R s m args below meth c H locs cells slots Q (F0 m pc ls (.ref a :: rest)) :=
  va_get (D := D) (ci := 7) (C := R_MO) (T := F_MO) (N := 41) hx hb hts i_MO hown hK hP q0 he rfl 29 (by decide) (hts _ k_93) (fun _ h9 => h9) hv hdg kk
theorem gf_MO_79 (hx : p.tables.exec = Jvm.exec) (hb : c.code = cc) (hts : ∀ w ∈ wsG, w.before args s = true) (hown : s.vm.findClass R_MO = some m.cls) (hK : va_K D vwCl TY s) (hP : va_P D vwCl ws H) (q0 : Nat) {fs : List Value} (he : ws[q0]? = some (a, .inr (7, fs))) {v : Value} (hv : fs[34]? = some v) (hdg : decode cc pc = .ok (.getfield 79, 3)) (kk : W p l e R s m args below meth c H locs cells slots Q (F0 m (pc + 3) ls (v :: rest))) : W p l e R s m args below meth c H locs cells slots Q (F0 m pc ls (.ref a :: rest)) :=
  va_get (D := D) (ci := 7) (C := R_MO) (T := F_MO) (N := 41) hx hb hts i_MO hown hK hP q0 he rfl 34 (by decide) (hts _ k_94) (fun _ h9 => h9) hv hdg kk
theorem gf_MO_88 (hx : p.tables.exec = Jvm.exec) (hb : c.code = cc) (hts : ∀ w ∈ wsG, w.before args s = true) (hown : s.vm.findClass R_MO = some m.cls) (hK : va_K D vwCl TY s) (hP : va_P D vwCl ws H) (q0 : Nat) {fs : List Value} (he : ws[q0]? = some (a, .inr (7, fs))) {v : Value} (hv : fs[37]? = some v) (hdg : decode cc pc = .ok (.getfield 88, 3)) (kk : W p l e R s m args below meth c H locs cells slots Q (F0 m (pc + 3) ls (v :: rest))) : W p l e R s m args below meth c H locs cells slots Q (F0 m pc ls (.ref a :: rest)) :=
  va_get (D := D) (ci := 7) (C := R_MO) (T := F_MO) (N := 41) hx hb hts i_MO hown hK hP q0 he rfl 37 (by decide) (hts _ k_95) (fun _ h9 => h9) hv hdg kk
theorem gf_MO_82 (hx : p.tables.exec = Jvm.exec) (hb : c.code = cc) (hts : ∀ w ∈ wsG, w.before args s = true) (hown : s.vm.findClass R_MO = some m.cls) (hK : va_K D vwCl TY s) (hP : va_P D vwCl ws H) (q0 : Nat) {fs : List Value} (he : ws[q0]? = some (a, .inr (7, fs))) {v : Value} (hv : fs[35]? = some v) (hdg : decode cc pc = .ok (.getfield 82, 3)) (kk : W p l e R s m args below meth c H locs cells slots Q (F0 m (pc + 3) ls (v :: rest))) : W p l e R s m args below meth c H locs cells slots Q (F0 m pc ls (.ref a :: rest)) :=
  va_get (D := D) (ci := 7) (C := R_MO) (T := F_MO) (N := 41) hx hb hts i_MO hown hK hP q0 he rfl 35 (by decide) (hts _ k_96) (fun _ h9 => h9) hv hdg kk
theorem pf_MO_162 (hx : p.tables.exec = Jvm.exec) (hb : c.code = cc) (hts : ∀ w ∈ wsG, w.before args s = true) (hown : s.vm.findClass R_MO = some m.cls) (hK : va_K D vwCl TY s) (hP : va_P D vwCl ws H) (hD : va_D A ws) (hS : va_S A H0 H locs) (q0 : Nat) {fs : List Value} {v : Value} (he : ws[q0]? = some (a, .inr (7, fs))) (hn : narrow (.int) v = v) (hfit : fits (.int) v = true) (hl : 26 < fs.length) (hdg : decode cc pc = .ok (.putfield 162, 3)) (kk : ∀ (H1 : Heap) (locs1 : List Loc), va_P D vwCl (ws.set q0 (a, .inr (7, fs.set 26 v))) H1 → va_D A (ws.set q0 (a, .inr (7, fs.set 26 v))) → va_S A H0 H1 locs1 → W p l e R s m args below meth c H1 locs1 cells slots Q (F0 m (pc + 3) ls rest)) : W p l e R s m args below meth c H locs cells slots Q (F0 m pc ls (v :: .ref a :: rest)) :=
  va_put (D := D) (ci := 7) (v := v) (ty := .int) (C := R_MO) (T := F_MO) (N := 41) hx hb hts i_MO t_MO t_MO_ok n_MO hown hK hP hD hS q0 he rfl 26 (by decide) (hts _ k_91) (fun _ h9 => h9) rfl (by decide +kernel) hn hfit hl hdg kk
theorem pf_MO_171 (hx : p.tables.exec = Jvm.exec) (hb : c.code = cc) (hts : ∀ w ∈ wsG, w.before args s = true) (hown : s.vm.findClass R_MO = some m.cls) (hK : va_K D vwCl TY s) (hP : va_P D vwCl ws H) (hD : va_D A ws) (hS : va_S A H0 H locs) (q0 : Nat) {fs : List Value} {v : Value} (he : ws[q0]? = some (a, .inr (7, fs))) (hn : narrow (.int) v = v) (hfit : fits (.int) v = true) (hl : 27 < fs.length) (hdg : decode cc pc = .ok (.putfield 171, 3)) (kk : ∀ (H1 : Heap) (locs1 : List Loc), va_P D vwCl (ws.set q0 (a, .inr (7, fs.set 27 v))) H1 → va_D A (ws.set q0 (a, .inr (7, fs.set 27 v))) → va_S A H0 H1 locs1 → W p l e R s m args below meth c H1 locs1 cells slots Q (F0 m (pc + 3) ls rest)) : W p l e R s m args below meth c H locs cells slots Q (F0 m pc ls (v :: .ref a :: rest)) :=
  va_put (D := D) (ci := 7) (v := v) (ty := .int) (C := R_MO) (T := F_MO) (N := 41) hx hb hts i_MO t_MO t_MO_ok n_MO hown hK hP hD hS q0 he rfl 27 (by decide) (hts _ k_97) (fun _ h9 => h9) rfl (by decide +kernel) hn hfit hl hdg kk
theorem gf_MO_67 (hx : p.tables.exec = Jvm.exec) (hb : c.code = cc) (hts : ∀ w ∈ wsG, w.before args s = true) (hown : s.vm.findClass R_MO = some m.cls) (hK : va_K D vwCl TY s) (hP : va_P D vwCl ws H) (q0 : Nat) {fs : List Value} (he : ws[q0]? = some (a, .inr (7, fs))) {v : Value} (hv : fs[30]? = some v) (hdg : decode cc pc = .ok (.getfield 67, 3)) (kk : W p l e R s m args below meth c H locs cells slots Q (F0 m (pc + 3) ls (v :: rest))) : W p l e R s m args below meth c H locs cells slots Q (F0 m pc ls (.ref a :: rest)) :=
  va_get (D := D) (ci := 7) (C := R_MO) (T := F_MO) (N := 41) hx hb hts i_MO hown hK hP q0 he rfl 30 (by decide) (hts _ k_98) (fun _ h9 => h9) hv hdg kk
theorem gf_MO_73 (hx : p.tables.exec = Jvm.exec) (hb : c.code = cc) (hts : ∀ w ∈ wsG, w.before args s = true) (hown : s.vm.findClass R_MO = some m.cls) (hK : va_K D vwCl TY s) (hP : va_P D vwCl ws H) (q0 : Nat) {fs : List Value} (he : ws[q0]? = some (a, .inr (7, fs))) {v : Value} (hv : fs[32]? = some v) (hdg : decode cc pc = .ok (.getfield 73, 3)) (kk : W p l e R s m args below meth c H locs cells slots Q (F0 m (pc + 3) ls (v :: rest))) : W p l e R s m args below meth c H locs cells slots Q (F0 m pc ls (.ref a :: rest)) :=
  va_get (D := D) (ci := 7) (C := R_MO) (T := F_MO) (N := 41) hx hb hts i_MO hown hK hP q0 he rfl 32 (by decide) (hts _ k_99) (fun _ h9 => h9) hv hdg kk
theorem gf_MO_76 (hx : p.tables.exec = Jvm.exec) (hb : c.code = cc) (hts : ∀ w ∈ wsG, w.before args s = true) (hown : s.vm.findClass R_MO = some m.cls) (hK : va_K D vwCl TY s) (hP : va_P D vwCl ws H) (q0 : Nat) {fs : List Value} (he : ws[q0]? = some (a, .inr (7, fs))) {v : Value} (hv : fs[33]? = some v) (hdg : decode cc pc = .ok (.getfield 76, 3)) (kk : W p l e R s m args below meth c H locs cells slots Q (F0 m (pc + 3) ls (v :: rest))) : W p l e R s m args below meth c H locs cells slots Q (F0 m pc ls (.ref a :: rest)) :=
  va_get (D := D) (ci := 7) (C := R_MO) (T := F_MO) (N := 41) hx hb hts i_MO hown hK hP q0 he rfl 33 (by decide) (hts _ k_100) (fun _ h9 => h9) hv hdg kk
theorem gf_MO_70 (hx : p.tables.exec = Jvm.exec) (hb : c.code = cc) (hts : ∀ w ∈ wsG, w.before args s = true) (hown : s.vm.findClass R_MO = some m.cls) (hK : va_K D vwCl TY s) (hP : va_P D vwCl ws H) (q0 : Nat) {fs : List Value} (he : ws[q0]? = some (a, .inr (7, fs))) {v : Value} (hv : fs[31]? = some v) (hdg : decode cc pc = .ok (.getfield 70, 3)) (kk : W p l e R s m args below meth c H locs cells slots Q (F0 m (pc + 3) ls (v :: rest))) : W p l e R s m args below meth c H locs cells slots Q (F0 m pc ls (.ref a :: rest)) :=
  va_get (D := D) (ci := 7) (C := R_MO) (T := F_MO) (N := 41) hx hb hts i_MO hown hK hP q0 he rfl 31 (by decide) (hts _ k_101) (fun _ h9 => h9) hv hdg kk
theorem gf_MO_171 (hx : p.tables.exec = Jvm.exec) (hb : c.code = cc) (hts : ∀ w ∈ wsG, w.before args s = true) (hown : s.vm.findClass R_MO = some m.cls) (hK : va_K D vwCl TY s) (hP : va_P D vwCl ws H) (q0 : Nat) {fs : List Value} (he : ws[q0]? = some (a, .inr (7, fs))) {v : Value} (hv : fs[27]? = some v) (hdg : decode cc pc = .ok (.getfield 171, 3)) (kk : W p l e R s m args below meth c H locs cells slots Q (F0 m (pc + 3) ls (v :: rest))) : W p l e R s m args below meth c H locs cells slots Q (F0 m pc ls (.ref a :: rest)) :=
  va_get (D := D) (ci := 7) (C := R_MO) (T := F_MO) (N := 41) hx hb hts i_MO hown hK hP q0 he rfl 27 (by decide) (hts _ k_97) (fun _ h9 => h9) hv hdg kk
theorem pf_MO_177 (hx : p.tables.exec = Jvm.exec) (hb : c.code = cc) (hts : ∀ w ∈ wsG, w.before args s = true) (hown : s.vm.findClass R_MO = some m.cls) (hK : va_K D vwCl TY s) (hP : va_P D vwCl ws H) (hD : va_D A ws) (hS : va_S A H0 H locs) (q0 : Nat) {fs : List Value} {v : Value} (he : ws[q0]? = some (a, .inr (7, fs))) (hn : narrow (.int) v = v) (hfit : fits (.int) v = true) (hl : 38 < fs.length) (hdg : decode cc pc = .ok (.putfield 177, 3)) (kk : ∀ (H1 : Heap) (locs1 : List Loc), va_P D vwCl (ws.set q0 (a, .inr (7, fs.set 38 v))) H1 → va_D A (ws.set q0 (a, .inr (7, fs.set 38 v))) → va_S A H0 H1 locs1 → W p l e R s m args below meth c H1 locs1 cells slots Q (F0 m (pc + 3) ls rest)) : W p l e R s m args below meth c H locs cells slots Q (F0 m pc ls (v :: .ref a :: rest)) :=
  va_put (D := D) (ci := 7) (v := v) (ty := .int) (C := R_MO) (T := F_MO) (N := 41) hx hb hts i_MO t_MO t_MO_ok n_MO hown hK hP hD hS q0 he rfl 38 (by decide) (hts _ k_102) (fun _ h9 => h9) rfl (by decide +kernel) hn hfit hl hdg kk
theorem gf_MO_177 (hx : p.tables.exec = Jvm.exec) (hb : c.code = cc) (hts : ∀ w ∈ wsG, w.before args s = true) (hown : s.vm.findClass R_MO = some m.cls) (hK : va_K D vwCl TY s) (hP : va_P D vwCl ws H) (q0 : Nat) {fs : List Value} (he : ws[q0]? = some (a, .inr (7, fs))) {v : Value} (hv : fs[38]? = some v) (hdg : decode cc pc = .ok (.getfield 177, 3)) (kk : W p l e R s m args below meth c H locs cells slots Q (F0 m (pc + 3) ls (v :: rest))) : W p l e R s m args below meth c H locs cells slots Q (F0 m pc ls (.ref a :: rest)) :=
  va_get (D := D) (ci := 7) (C := R_MO) (T := F_MO) (N := 41) hx hb hts i_MO hown hK hP q0 he rfl 38 (by decide) (hts _ k_102) (fun _ h9 => h9) hv hdg kk
theorem gf_MO_91 (hx : p.tables.exec = Jvm.exec) (hb : c.code = cc) (hts : ∀ w ∈ wsG, w.before args s = true) (hown : s.vm.findClass R_MO = some m.cls) (hK : va_K D vwCl TY s) (hP : va_P D vwCl ws H) (q0 : Nat) {fs : List Value} (he : ws[q0]? = some (a, .inr (7, fs))) {v : Value} (hv : fs[39]? = some v) (hdg : decode cc pc = .ok (.getfield 91, 3)) (kk : W p l e R s m args below meth c H locs cells slots Q (F0 m (pc + 3) ls (v :: rest))) : W p l e R s m args below meth c H locs cells slots Q (F0 m pc ls (.ref a :: rest)) :=
  va_get (D := D) (ci := 7) (C := R_MO) (T := F_MO) (N := 41) hx hb hts i_MO hown hK hP q0 he rfl 39 (by decide) (hts _ k_103) (fun _ h9 => h9) hv hdg kk
theorem gf_MO_94 (hx : p.tables.exec = Jvm.exec) (hb : c.code = cc) (hts : ∀ w ∈ wsG, w.before args s = true) (hown : s.vm.findClass R_MO = some m.cls) (hK : va_K D vwCl TY s) (hP : va_P D vwCl ws H) (q0 : Nat) {fs : List Value} (he : ws[q0]? = some (a, .inr (7, fs))) {v : Value} (hv : fs[40]? = some v) (hdg : decode cc pc = .ok (.getfield 94, 3)) (kk : W p l e R s m args below meth c H locs cells slots Q (F0 m (pc + 3) ls (v :: rest))) : W p l e R s m args below meth c H locs cells slots Q (F0 m pc ls (.ref a :: rest)) :=
  va_get (D := D) (ci := 7) (C := R_MO) (T := F_MO) (N := 41) hx hb hts i_MO hown hK hP q0 he rfl 40 (by decide) (hts _ k_104) (fun _ h9 => h9) hv hdg kk
theorem cw_MO_165 {rm : Room} (hts : ∀ w ∈ wsG, w.before args s = true) (hR : rm.frames + 1 ≤ R.frames ∧ 8 + (5 + 11) + rm.locals ≤ R.locals) : CallW R s args R_MO R_MO 165 y_MO_chainOf b_MO_chainOf 5 (some .int) (.code y_MO_chainOf b_MO_chainOf 5 (some .int) :: wsG) rm rm.cells rm.slots 2 :=
  ky_cwV 2 hts k_105 k_106 k_107 k_108 k_51 (by decide +kernel) hR
theorem cw_MO_168 {rm : Room} (hts : ∀ w ∈ wsG, w.before args s = true) (hR : rm.frames + 1 ≤ R.frames ∧ 8 + (6 + 11) + rm.locals ≤ R.locals) : CallW R s args R_MO R_MO 168 y_MO_together b_MO_together 6 (some .boolean) (.code y_MO_together b_MO_together 6 (some .boolean) :: wsG) rm rm.cells rm.slots 3 :=
  ky_cwV 3 hts k_109 k_110 k_111 k_112 k_51 (by decide +kernel) hR
theorem cw_MO_174 {rm : Room} (hts : ∀ w ∈ wsG, w.before args s = true) (hR : rm.frames + 1 ≤ R.frames ∧ 8 + (7 + 11) + rm.locals ≤ R.locals) : CallW R s args R_MO R_MO 174 y_MO_partRound b_MO_partRound 7 (some .int) (.code y_MO_partRound b_MO_partRound 7 (some .int) :: wsG) rm rm.cells rm.slots 2 :=
  ky_cwV 2 hts k_113 k_114 k_115 k_116 k_51 (by decide +kernel) hR
end Sites

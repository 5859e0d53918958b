abbrev b_MO_work : ByteArray := prog_9_method_26_code
def y_MO_work : MethodName := ⟨R_MO, "work", "()V"⟩
abbrev b_MO_hasRoom : ByteArray := prog_9_method_27_code
def y_MO_hasRoom : MethodName := ⟨R_MO, "hasRoom", "()Z"⟩
abbrev b_MO_walked : ByteArray := prog_9_method_28_code
def y_MO_walked : MethodName := ⟨R_MO, "walked", "()I"⟩
abbrev b_MO_state : ByteArray := prog_9_method_29_code
def y_MO_state : MethodName := ⟨R_MO, "state", "(I)I"⟩
abbrev b_MO_number : ByteArray := prog_9_method_30_code
def y_MO_number : MethodName := ⟨R_MO, "number", "(I)I"⟩
abbrev b_MO_way : ByteArray := prog_9_method_31_code
def y_MO_way : MethodName := ⟨R_MO, "way", "(II)I"⟩
abbrev b_MO_alike : ByteArray := prog_9_method_32_code
def y_MO_alike : MethodName := ⟨R_MO, "alike", "(II)Z"⟩
abbrev b_MO_firstOf : ByteArray := prog_9_method_33_code
def y_MO_firstOf : MethodName := ⟨R_MO, "firstOf", "(III)I"⟩
abbrev b_MO_word : ByteArray := prog_9_method_34_code
def y_MO_word : MethodName := ⟨R_MO, "word", "(III)I"⟩
abbrev b_MO_classes : ByteArray := prog_9_method_35_code
def y_MO_classes : MethodName := ⟨R_MO, "classes", "()I"⟩
abbrev b_MO_classOf : ByteArray := prog_9_method_36_code
def y_MO_classOf : MethodName := ⟨R_MO, "classOf", "(I)I"⟩
abbrev b_MO_least : ByteArray := prog_9_method_37_code
def y_MO_least : MethodName := ⟨R_MO, "least", "(III)I"⟩
abbrev b_MO_intoMany : ByteArray := prog_9_method_38_code
def y_MO_intoMany : MethodName := ⟨R_MO, "intoMany", "()I"⟩
abbrev b_MO_stays : ByteArray := prog_9_method_39_code
def y_MO_stays : MethodName := ⟨R_MO, "stays", "()I"⟩
abbrev b_MO_count : ByteArray := prog_9_method_40_code
def y_MO_count : MethodName := ⟨R_MO, "count", "(I)I"⟩
theorem k_117 : Cond.code y_MO_walk b_MO_walk 4 none ∈ wsG := by decide +kernel
theorem k_118 : Cond.methodLink R_MO 180 y_MO_walk ∈ wsG := by decide +kernel
theorem k_119 : Cond.instanceMethod y_MO_walk ∈ wsG := by decide +kernel
theorem k_120 : Cond.selects R_MO y_MO_walk y_MO_walk ∈ wsG := by decide +kernel
theorem k_121 : Cond.code y_MO_partAll b_MO_partAll 7 none ∈ wsG := by decide +kernel
theorem k_122 : Cond.methodLink R_MO 183 y_MO_partAll ∈ wsG := by decide +kernel
theorem k_123 : Cond.instanceMethod y_MO_partAll ∈ wsG := by decide +kernel
theorem k_124 : Cond.selects R_MO y_MO_partAll y_MO_partAll ∈ wsG := by decide +kernel
theorem k_125 : Cond.code y_MO_findClasses b_MO_findClasses 3 none ∈ wsG := by decide +kernel
theorem k_126 : Cond.methodLink R_MO 186 y_MO_findClasses ∈ wsG := by decide +kernel
theorem k_127 : Cond.instanceMethod y_MO_findClasses ∈ wsG := by decide +kernel
theorem k_128 : Cond.selects R_MO y_MO_findClasses y_MO_findClasses ∈ wsG := by decide +kernel
theorem k_129 : Cond.code y_MO_work b_MO_work 3 none ∈ wsG := by decide +kernel
theorem k_130 : Cond.methodLink R_MO 189 y_MO_work ∈ wsG := by decide +kernel
theorem k_131 : Cond.instanceMethod y_MO_work ∈ wsG := by decide +kernel
theorem k_132 : Cond.selects R_MO y_MO_work y_MO_work ∈ wsG := by decide +kernel
theorem k_133 : Cond.code y_MO_hasRoom b_MO_hasRoom 1 (some .boolean) ∈ wsG := by decide +kernel
theorem k_134 : Cond.methodLink R_MO 192 y_MO_hasRoom ∈ wsG := by decide +kernel
theorem k_135 : Cond.instanceMethod y_MO_hasRoom ∈ wsG := by decide +kernel
theorem k_136 : Cond.selects R_MO y_MO_hasRoom y_MO_hasRoom ∈ wsG := by decide +kernel
theorem k_137 : Cond.code y_MO_parted b_MO_parted 6 (some .int) ∈ wsG := by decide +kernel
theorem k_138 : Cond.methodLink R_MO 196 y_MO_parted ∈ wsG := by decide +kernel
theorem k_139 : Cond.instanceMethod y_MO_parted ∈ wsG := by decide +kernel
theorem k_140 : Cond.selects R_MO y_MO_parted y_MO_parted ∈ wsG := by decide +kernel
theorem k_141 : Cond.code y_MO_firstOf b_MO_firstOf 5 (some .int) ∈ wsG := by decide +kernel
theorem k_142 : Cond.methodLink R_MO 199 y_MO_firstOf ∈ wsG := by decide +kernel
theorem k_143 : Cond.instanceMethod y_MO_firstOf ∈ wsG := by decide +kernel
theorem k_144 : Cond.selects R_MO y_MO_firstOf y_MO_firstOf ∈ wsG := by decide +kernel
theorem k_145 : Cond.code y_MO_stays b_MO_stays 5 (some .int) ∈ wsG := by decide +kernel
theorem k_146 : Cond.methodLink R_MO 207 y_MO_stays ∈ wsG := by decide +kernel
theorem k_147 : Cond.instanceMethod y_MO_stays ∈ wsG := by decide +kernel
theorem k_148 : Cond.selects R_MO y_MO_stays y_MO_stays ∈ wsG := by decide +kernel
theorem k_149 : Cond.code y_MO_intoMany b_MO_intoMany 4 (some .int) ∈ wsG := by decide +kernel
theorem k_150 : Cond.methodLink R_MO 203 y_MO_intoMany ∈ wsG := by decide +kernel
theorem k_151 : Cond.instanceMethod y_MO_intoMany ∈ wsG := by decide +kernel
theorem k_152 : Cond.selects R_MO y_MO_intoMany y_MO_intoMany ∈ wsG := by decide +kernel
theorem d_MO_work_0 : decode b_MO_work 0 = .ok (.aload_n 0, 1) := by decide +kernel
theorem d_MO_work_1 : decode b_MO_work 1 = .ok (.getfield 121, 3) := by decide +kernel
theorem d_MO_work_4 : decode b_MO_work 4 = .ok (.ifCond .eq 4, 3) := by decide +kernel
theorem d_MO_work_7 : decode b_MO_work 7 = .ok (.return_, 1) := by decide +kernel
theorem d_MO_work_8 : decode b_MO_work 8 = .ok (.iconst 0, 1) := by decide +kernel
theorem d_MO_work_9 : decode b_MO_work 9 = .ok (.istore_n 1, 1) := by decide +kernel
theorem d_MO_work_10 : decode b_MO_work 10 = .ok (.iload_n 1, 1) := by decide +kernel
theorem d_MO_work_11 : decode b_MO_work 11 = .ok (.iconst 1, 1) := by decide +kernel
theorem d_MO_work_12 : decode b_MO_work 12 = .ok (.aload_n 0, 1) := by decide +kernel
theorem d_MO_work_13 : decode b_MO_work 13 = .ok (.getfield 118, 3) := by decide +kernel
theorem d_MO_work_16 : decode b_MO_work 16 = .ok (.ishl, 1) := by decide +kernel
theorem d_MO_work_17 : decode b_MO_work 17 = .ok (.if_icmp .ge 57, 3) := by decide +kernel
theorem d_MO_work_20 : decode b_MO_work 20 = .ok (.iconst 0, 1) := by decide +kernel
theorem d_MO_work_21 : decode b_MO_work 21 = .ok (.istore_n 2, 1) := by decide +kernel
theorem d_MO_work_22 : decode b_MO_work 22 = .ok (.iload_n 2, 1) := by decide +kernel
theorem d_MO_work_23 : decode b_MO_work 23 = .ok (.aload_n 0, 1) := by decide +kernel
theorem d_MO_work_24 : decode b_MO_work 24 = .ok (.getfield 112, 3) := by decide +kernel
theorem d_MO_work_27 : decode b_MO_work 27 = .ok (.if_icmp .ge 41, 3) := by decide +kernel
theorem d_MO_work_30 : decode b_MO_work 30 = .ok (.aload_n 0, 1) := by decide +kernel
theorem d_MO_work_31 : decode b_MO_work 31 = .ok (.getfield 40, 3) := by decide +kernel
theorem d_MO_work_34 : decode b_MO_work 34 = .ok (.iconst 4, 1) := by decide +kernel
theorem d_MO_work_35 : decode b_MO_work 35 = .ok (.iload_n 1, 1) := by decide +kernel
theorem d_MO_work_36 : decode b_MO_work 36 = .ok (.imul, 1) := by decide +kernel
theorem d_MO_work_37 : decode b_MO_work 37 = .ok (.iload_n 2, 1) := by decide +kernel
theorem d_MO_work_38 : decode b_MO_work 38 = .ok (.iadd, 1) := by decide +kernel
theorem d_MO_work_39 : decode b_MO_work 39 = .ok (.aload_n 0, 1) := by decide +kernel
theorem d_MO_work_40 : decode b_MO_work 40 = .ok (.iload_n 1, 1) := by decide +kernel
theorem d_MO_work_41 : decode b_MO_work 41 = .ok (.iload_n 2, 1) := by decide +kernel
theorem d_MO_work_42 : decode b_MO_work 42 = .ok (.invokevirtual 146, 3) := by decide +kernel
theorem d_MO_work_45 : decode b_MO_work 45 = .ok (.iastore, 1) := by decide +kernel
theorem d_MO_work_46 : decode b_MO_work 46 = .ok (.aload_n 0, 1) := by decide +kernel
theorem d_MO_work_47 : decode b_MO_work 47 = .ok (.getfield 43, 3) := by decide +kernel
theorem d_MO_work_50 : decode b_MO_work 50 = .ok (.iconst 4, 1) := by decide +kernel
theorem d_MO_work_51 : decode b_MO_work 51 = .ok (.iload_n 1, 1) := by decide +kernel
theorem d_MO_work_52 : decode b_MO_work 52 = .ok (.imul, 1) := by decide +kernel
theorem d_MO_work_53 : decode b_MO_work 53 = .ok (.iload_n 2, 1) := by decide +kernel
theorem d_MO_work_54 : decode b_MO_work 54 = .ok (.iadd, 1) := by decide +kernel
theorem d_MO_work_55 : decode b_MO_work 55 = .ok (.aload_n 0, 1) := by decide +kernel
theorem d_MO_work_56 : decode b_MO_work 56 = .ok (.iload_n 1, 1) := by decide +kernel
theorem d_MO_work_57 : decode b_MO_work 57 = .ok (.iload_n 2, 1) := by decide +kernel
theorem d_MO_work_58 : decode b_MO_work 58 = .ok (.invokevirtual 149, 3) := by decide +kernel
theorem d_MO_work_61 : decode b_MO_work 61 = .ok (.iastore, 1) := by decide +kernel
theorem d_MO_work_62 : decode b_MO_work 62 = .ok (.iinc 2 1, 3) := by decide +kernel
theorem d_MO_work_65 : decode b_MO_work 65 = .ok (.goto (-43), 3) := by decide +kernel
theorem d_MO_work_68 : decode b_MO_work 68 = .ok (.iinc 1 1, 3) := by decide +kernel
theorem d_MO_work_71 : decode b_MO_work 71 = .ok (.goto (-61), 3) := by decide +kernel
theorem d_MO_work_74 : decode b_MO_work 74 = .ok (.aload_n 0, 1) := by decide +kernel
theorem d_MO_work_75 : decode b_MO_work 75 = .ok (.invokevirtual 180, 3) := by decide +kernel
theorem d_MO_work_78 : decode b_MO_work 78 = .ok (.aload_n 0, 1) := by decide +kernel
theorem d_MO_work_79 : decode b_MO_work 79 = .ok (.invokevirtual 183, 3) := by decide +kernel
theorem d_MO_work_82 : decode b_MO_work 82 = .ok (.aload_n 0, 1) := by decide +kernel
theorem d_MO_work_83 : decode b_MO_work 83 = .ok (.getfield 155, 3) := by decide +kernel
theorem d_MO_work_86 : decode b_MO_work 86 = .ok (.ifCond .eq 7, 3) := by decide +kernel
theorem d_MO_work_89 : decode b_MO_work 89 = .ok (.aload_n 0, 1) := by decide +kernel
theorem d_MO_work_90 : decode b_MO_work 90 = .ok (.invokevirtual 186, 3) := by decide +kernel
theorem d_MO_work_93 : decode b_MO_work 93 = .ok (.aload_n 0, 1) := by decide +kernel
theorem d_MO_work_94 : decode b_MO_work 94 = .ok (.iconst 1, 1) := by decide +kernel
theorem d_MO_work_95 : decode b_MO_work 95 = .ok (.putfield 121, 3) := by decide +kernel
theorem d_MO_work_98 : decode b_MO_work 98 = .ok (.return_, 1) := by decide +kernel
theorem d_MO_hasRoom_0 : decode b_MO_hasRoom 0 = .ok (.aload_n 0, 1) := by decide +kernel
theorem d_MO_hasRoom_1 : decode b_MO_hasRoom 1 = .ok (.invokevirtual 189, 3) := by decide +kernel
theorem d_MO_hasRoom_4 : decode b_MO_hasRoom 4 = .ok (.aload_n 0, 1) := by decide +kernel
theorem d_MO_hasRoom_5 : decode b_MO_hasRoom 5 = .ok (.aload_n 0, 1) := by decide +kernel
theorem d_MO_hasRoom_6 : decode b_MO_hasRoom 6 = .ok (.getfield 155, 3) := by decide +kernel
theorem d_MO_hasRoom_9 : decode b_MO_hasRoom 9 = .ok (.ifCond .eq 7, 3) := by decide +kernel
theorem d_MO_hasRoom_12 : decode b_MO_hasRoom 12 = .ok (.iconst 0, 1) := by decide +kernel
theorem d_MO_hasRoom_13 : decode b_MO_hasRoom 13 = .ok (.goto 4, 3) := by decide +kernel
theorem d_MO_hasRoom_16 : decode b_MO_hasRoom 16 = .ok (.iconst 1, 1) := by decide +kernel
theorem d_MO_hasRoom_17 : decode b_MO_hasRoom 17 = .ok (.putfield 101, 3) := by decide +kernel
theorem d_MO_hasRoom_20 : decode b_MO_hasRoom 20 = .ok (.aload_n 0, 1) := by decide +kernel
theorem d_MO_hasRoom_21 : decode b_MO_hasRoom 21 = .ok (.getfield 155, 3) := by decide +kernel
theorem d_MO_hasRoom_24 : decode b_MO_hasRoom 24 = .ok (.ireturn, 1) := by decide +kernel
theorem d_MO_walked_0 : decode b_MO_walked 0 = .ok (.aload_n 0, 1) := by decide +kernel
theorem d_MO_walked_1 : decode b_MO_walked 1 = .ok (.invokevirtual 192, 3) := by decide +kernel
theorem d_MO_walked_4 : decode b_MO_walked 4 = .ok (.ifCond .eq 10, 3) := by decide +kernel
theorem d_MO_walked_7 : decode b_MO_walked 7 = .ok (.aload_n 0, 1) := by decide +kernel
theorem d_MO_walked_8 : decode b_MO_walked 8 = .ok (.getfield 152, 3) := by decide +kernel
theorem d_MO_walked_11 : decode b_MO_walked 11 = .ok (.goto 4, 3) := by decide +kernel
theorem d_MO_walked_14 : decode b_MO_walked 14 = .ok (.iconst 0, 1) := by decide +kernel
theorem d_MO_walked_15 : decode b_MO_walked 15 = .ok (.ireturn, 1) := by decide +kernel
theorem d_MO_state_0 : decode b_MO_state 0 = .ok (.aload_n 0, 1) := by decide +kernel
theorem d_MO_state_1 : decode b_MO_state 1 = .ok (.invokevirtual 192, 3) := by decide +kernel
theorem d_MO_state_4 : decode b_MO_state 4 = .ok (.ifCond .ne 5, 3) := by decide +kernel
theorem d_MO_state_7 : decode b_MO_state 7 = .ok (.iconst 0, 1) := by decide +kernel
theorem d_MO_state_8 : decode b_MO_state 8 = .ok (.ireturn, 1) := by decide +kernel
theorem d_MO_state_9 : decode b_MO_state 9 = .ok (.iload_n 1, 1) := by decide +kernel
theorem d_MO_state_10 : decode b_MO_state 10 = .ok (.iconst 0, 1) := by decide +kernel
theorem d_MO_state_11 : decode b_MO_state 11 = .ok (.aload_n 0, 1) := by decide +kernel
theorem d_MO_state_12 : decode b_MO_state 12 = .ok (.getfield 152, 3) := by decide +kernel
theorem d_MO_state_15 : decode b_MO_state 15 = .ok (.iconst 1, 1) := by decide +kernel
theorem d_MO_state_16 : decode b_MO_state 16 = .ok (.isub, 1) := by decide +kernel
theorem d_MO_state_17 : decode b_MO_state 17 = .ok (.invokestatic 104, 3) := by decide +kernel
theorem d_MO_state_20 : decode b_MO_state 20 = .ok (.ifCond .eq 12, 3) := by decide +kernel
theorem d_MO_state_23 : decode b_MO_state 23 = .ok (.aload_n 0, 1) := by decide +kernel
theorem d_MO_state_24 : decode b_MO_state 24 = .ok (.getfield 46, 3) := by decide +kernel
theorem d_MO_state_27 : decode b_MO_state 27 = .ok (.iload_n 1, 1) := by decide +kernel
theorem d_MO_state_28 : decode b_MO_state 28 = .ok (.iaload, 1) := by decide +kernel
theorem d_MO_state_29 : decode b_MO_state 29 = .ok (.goto 8, 3) := by decide +kernel
theorem d_MO_state_32 : decode b_MO_state 32 = .ok (.aload_n 0, 1) := by decide +kernel
theorem d_MO_state_33 : decode b_MO_state 33 = .ok (.iconst 2, 1) := by decide +kernel
theorem d_MO_state_34 : decode b_MO_state 34 = .ok (.invokevirtual 108, 3) := by decide +kernel
theorem d_MO_state_37 : decode b_MO_state 37 = .ok (.ireturn, 1) := by decide +kernel
theorem d_MO_number_0 : decode b_MO_number 0 = .ok (.aload_n 0, 1) := by decide +kernel
theorem d_MO_number_1 : decode b_MO_number 1 = .ok (.invokevirtual 192, 3) := by decide +kernel
theorem d_MO_number_4 : decode b_MO_number 4 = .ok (.ifCond .ne 5, 3) := by decide +kernel
theorem d_MO_number_7 : decode b_MO_number 7 = .ok (.iconst 0, 1) := by decide +kernel
theorem d_MO_number_8 : decode b_MO_number 8 = .ok (.ireturn, 1) := by decide +kernel
theorem d_MO_number_9 : decode b_MO_number 9 = .ok (.aload_n 0, 1) := by decide +kernel
theorem d_MO_number_10 : decode b_MO_number 10 = .ok (.iload_n 1, 1) := by decide +kernel
theorem d_MO_number_11 : decode b_MO_number 11 = .ok (.invokevirtual 132, 3) := by decide +kernel
theorem d_MO_number_14 : decode b_MO_number 14 = .ok (.ifCond .eq 12, 3) := by decide +kernel
theorem d_MO_number_17 : decode b_MO_number 17 = .ok (.aload_n 0, 1) := by decide +kernel
theorem d_MO_number_18 : decode b_MO_number 18 = .ok (.getfield 58, 3) := by decide +kernel
theorem d_MO_number_21 : decode b_MO_number 21 = .ok (.iload_n 1, 1) := by decide +kernel
theorem d_MO_number_22 : decode b_MO_number 22 = .ok (.iaload, 1) := by decide +kernel
theorem d_MO_number_23 : decode b_MO_number 23 = .ok (.goto 8, 3) := by decide +kernel
theorem d_MO_number_26 : decode b_MO_number 26 = .ok (.aload_n 0, 1) := by decide +kernel
theorem d_MO_number_27 : decode b_MO_number 27 = .ok (.iconst 2, 1) := by decide +kernel
theorem d_MO_number_28 : decode b_MO_number 28 = .ok (.invokevirtual 108, 3) := by decide +kernel
theorem d_MO_number_31 : decode b_MO_number 31 = .ok (.ireturn, 1) := by decide +kernel
theorem d_MO_way_0 : decode b_MO_way 0 = .ok (.aload_n 0, 1) := by decide +kernel
theorem d_MO_way_1 : decode b_MO_way 1 = .ok (.invokevirtual 192, 3) := by decide +kernel
theorem d_MO_way_4 : decode b_MO_way 4 = .ok (.ifCond .ne 5, 3) := by decide +kernel
theorem d_MO_way_7 : decode b_MO_way 7 = .ok (.iconst 0, 1) := by decide +kernel
theorem d_MO_way_8 : decode b_MO_way 8 = .ok (.ireturn, 1) := by decide +kernel
theorem d_MO_way_9 : decode b_MO_way 9 = .ok (.iload_n 1, 1) := by decide +kernel
theorem d_MO_way_10 : decode b_MO_way 10 = .ok (.iconst 0, 1) := by decide +kernel
theorem d_MO_way_11 : decode b_MO_way 11 = .ok (.aload_n 0, 1) := by decide +kernel
theorem d_MO_way_12 : decode b_MO_way 12 = .ok (.getfield 152, 3) := by decide +kernel
theorem d_MO_way_15 : decode b_MO_way 15 = .ok (.iconst 1, 1) := by decide +kernel
theorem d_MO_way_16 : decode b_MO_way 16 = .ok (.isub, 1) := by decide +kernel
theorem d_MO_way_17 : decode b_MO_way 17 = .ok (.invokestatic 104, 3) := by decide +kernel
theorem d_MO_way_20 : decode b_MO_way 20 = .ok (.ifCond .eq 7, 3) := by decide +kernel
theorem d_MO_way_23 : decode b_MO_way 23 = .ok (.iload_n 2, 1) := by decide +kernel
theorem d_MO_way_24 : decode b_MO_way 24 = .ok (.ifCond .ge 9, 3) := by decide +kernel
theorem d_MO_way_27 : decode b_MO_way 27 = .ok (.aload_n 0, 1) := by decide +kernel
theorem d_MO_way_28 : decode b_MO_way 28 = .ok (.iconst 2, 1) := by decide +kernel
theorem d_MO_way_29 : decode b_MO_way 29 = .ok (.invokevirtual 108, 3) := by decide +kernel
theorem d_MO_way_32 : decode b_MO_way 32 = .ok (.ireturn, 1) := by decide +kernel
theorem d_MO_way_33 : decode b_MO_way 33 = .ok (.iload_n 1, 1) := by decide +kernel
theorem d_MO_way_34 : decode b_MO_way 34 = .ok (.istore_n 3, 1) := by decide +kernel
theorem d_MO_way_35 : decode b_MO_way 35 = .ok (.iload_n 2, 1) := by decide +kernel
theorem d_MO_way_36 : decode b_MO_way 36 = .ok (.aload_n 0, 1) := by decide +kernel
theorem d_MO_way_37 : decode b_MO_way 37 = .ok (.getfield 55, 3) := by decide +kernel
theorem d_MO_way_40 : decode b_MO_way 40 = .ok (.iload_n 1, 1) := by decide +kernel
theorem d_MO_way_41 : decode b_MO_way 41 = .ok (.iaload, 1) := by decide +kernel
theorem d_MO_way_42 : decode b_MO_way 42 = .ok (.if_icmp .lt 5, 3) := by decide +kernel
theorem d_MO_way_45 : decode b_MO_way 45 = .ok (.iconst (-1), 1) := by decide +kernel
theorem d_MO_way_46 : decode b_MO_way 46 = .ok (.ireturn, 1) := by decide +kernel
theorem d_MO_way_47 : decode b_MO_way 47 = .ok (.aload_n 0, 1) := by decide +kernel
theorem d_MO_way_48 : decode b_MO_way 48 = .ok (.getfield 55, 3) := by decide +kernel
theorem d_MO_way_51 : decode b_MO_way 51 = .ok (.iload_n 3, 1) := by decide +kernel
theorem d_MO_way_52 : decode b_MO_way 52 = .ok (.iaload, 1) := by decide +kernel
theorem d_MO_way_53 : decode b_MO_way 53 = .ok (.iload_n 2, 1) := by decide +kernel
theorem d_MO_way_54 : decode b_MO_way 54 = .ok (.iconst 1, 1) := by decide +kernel
theorem d_MO_way_55 : decode b_MO_way 55 = .ok (.iadd, 1) := by decide +kernel
theorem d_MO_way_56 : decode b_MO_way 56 = .ok (.if_icmp .le 13, 3) := by decide +kernel
theorem d_MO_way_59 : decode b_MO_way 59 = .ok (.aload_n 0, 1) := by decide +kernel
theorem d_MO_way_60 : decode b_MO_way 60 = .ok (.getfield 49, 3) := by decide +kernel
theorem d_MO_way_63 : decode b_MO_way 63 = .ok (.iload_n 3, 1) := by decide +kernel
theorem d_MO_way_64 : decode b_MO_way 64 = .ok (.iaload, 1) := by decide +kernel
theorem d_MO_way_65 : decode b_MO_way 65 = .ok (.istore_n 3, 1) := by decide +kernel
theorem d_MO_way_66 : decode b_MO_way 66 = .ok (.goto (-19), 3) := by decide +kernel
theorem d_MO_way_69 : decode b_MO_way 69 = .ok (.aload_n 0, 1) := by decide +kernel
theorem d_MO_way_70 : decode b_MO_way 70 = .ok (.getfield 52, 3) := by decide +kernel
theorem d_MO_way_73 : decode b_MO_way 73 = .ok (.iload_n 3, 1) := by decide +kernel
theorem d_MO_way_74 : decode b_MO_way 74 = .ok (.iaload, 1) := by decide +kernel
theorem d_MO_way_75 : decode b_MO_way 75 = .ok (.ireturn, 1) := by decide +kernel
theorem d_MO_alike_0 : decode b_MO_alike 0 = .ok (.aload_n 0, 1) := by decide +kernel
theorem d_MO_alike_1 : decode b_MO_alike 1 = .ok (.aload_n 0, 1) := by decide +kernel
theorem d_MO_alike_2 : decode b_MO_alike 2 = .ok (.iload_n 1, 1) := by decide +kernel
theorem d_MO_alike_3 : decode b_MO_alike 3 = .ok (.invokevirtual 132, 3) := by decide +kernel
theorem d_MO_alike_6 : decode b_MO_alike 6 = .ok (.ifCond .eq 15, 3) := by decide +kernel
theorem d_MO_alike_9 : decode b_MO_alike 9 = .ok (.aload_n 0, 1) := by decide +kernel
theorem d_MO_alike_10 : decode b_MO_alike 10 = .ok (.iload_n 2, 1) := by decide +kernel
theorem d_MO_alike_11 : decode b_MO_alike 11 = .ok (.invokevirtual 132, 3) := by decide +kernel
theorem d_MO_alike_14 : decode b_MO_alike 14 = .ok (.ifCond .eq 7, 3) := by decide +kernel
theorem d_MO_alike_17 : decode b_MO_alike 17 = .ok (.iconst 0, 1) := by decide +kernel
theorem d_MO_alike_18 : decode b_MO_alike 18 = .ok (.goto 4, 3) := by decide +kernel
theorem d_MO_alike_21 : decode b_MO_alike 21 = .ok (.iconst 1, 1) := by decide +kernel
theorem d_MO_alike_22 : decode b_MO_alike 22 = .ok (.putfield 101, 3) := by decide +kernel
theorem d_MO_alike_25 : decode b_MO_alike 25 = .ok (.aload_n 0, 1) := by decide +kernel
theorem d_MO_alike_26 : decode b_MO_alike 26 = .ok (.getfield 101, 3) := by decide +kernel
theorem d_MO_alike_29 : decode b_MO_alike 29 = .ok (.ifCond .le 5, 3) := by decide +kernel
theorem d_MO_alike_32 : decode b_MO_alike 32 = .ok (.iconst 0, 1) := by decide +kernel
theorem d_MO_alike_33 : decode b_MO_alike 33 = .ok (.ireturn, 1) := by decide +kernel
theorem d_MO_alike_34 : decode b_MO_alike 34 = .ok (.aload_n 0, 1) := by decide +kernel
theorem d_MO_alike_35 : decode b_MO_alike 35 = .ok (.invokevirtual 189, 3) := by decide +kernel
theorem d_MO_alike_38 : decode b_MO_alike 38 = .ok (.aload_n 0, 1) := by decide +kernel
theorem d_MO_alike_39 : decode b_MO_alike 39 = .ok (.getfield 61, 3) := by decide +kernel
theorem d_MO_alike_42 : decode b_MO_alike 42 = .ok (.iload_n 1, 1) := by decide +kernel
theorem d_MO_alike_43 : decode b_MO_alike 43 = .ok (.iaload, 1) := by decide +kernel
theorem d_MO_alike_44 : decode b_MO_alike 44 = .ok (.aload_n 0, 1) := by decide +kernel
theorem d_MO_alike_45 : decode b_MO_alike 45 = .ok (.getfield 61, 3) := by decide +kernel
theorem d_MO_alike_48 : decode b_MO_alike 48 = .ok (.iload_n 2, 1) := by decide +kernel
theorem d_MO_alike_49 : decode b_MO_alike 49 = .ok (.iaload, 1) := by decide +kernel
theorem d_MO_alike_50 : decode b_MO_alike 50 = .ok (.if_icmp .ne 7, 3) := by decide +kernel
theorem d_MO_alike_53 : decode b_MO_alike 53 = .ok (.iconst 1, 1) := by decide +kernel
theorem d_MO_alike_54 : decode b_MO_alike 54 = .ok (.goto 4, 3) := by decide +kernel
theorem d_MO_alike_57 : decode b_MO_alike 57 = .ok (.iconst 0, 1) := by decide +kernel
theorem d_MO_alike_58 : decode b_MO_alike 58 = .ok (.ireturn, 1) := by decide +kernel
theorem d_MO_firstOf_0 : decode b_MO_firstOf 0 = .ok (.iconst 0, 1) := by decide +kernel
theorem d_MO_firstOf_1 : decode b_MO_firstOf 1 = .ok (.istore 4, 2) := by decide +kernel
theorem d_MO_firstOf_3 : decode b_MO_firstOf 3 = .ok (.iload_n 3, 1) := by decide +kernel
theorem d_MO_firstOf_4 : decode b_MO_firstOf 4 = .ok (.iconst 1, 1) := by decide +kernel
theorem d_MO_firstOf_5 : decode b_MO_firstOf 5 = .ok (.if_icmp .ne 31, 3) := by decide +kernel
theorem d_MO_firstOf_8 : decode b_MO_firstOf 8 = .ok (.aload_n 0, 1) := by decide +kernel
theorem d_MO_firstOf_9 : decode b_MO_firstOf 9 = .ok (.getfield 43, 3) := by decide +kernel
theorem d_MO_firstOf_12 : decode b_MO_firstOf 12 = .ok (.iconst 4, 1) := by decide +kernel
theorem d_MO_firstOf_13 : decode b_MO_firstOf 13 = .ok (.iload_n 1, 1) := by decide +kernel
theorem d_MO_firstOf_14 : decode b_MO_firstOf 14 = .ok (.imul, 1) := by decide +kernel
theorem d_MO_firstOf_15 : decode b_MO_firstOf 15 = .ok (.iload 4, 2) := by decide +kernel
theorem d_MO_firstOf_17 : decode b_MO_firstOf 17 = .ok (.iadd, 1) := by decide +kernel
theorem d_MO_firstOf_18 : decode b_MO_firstOf 18 = .ok (.iaload, 1) := by decide +kernel
theorem d_MO_firstOf_19 : decode b_MO_firstOf 19 = .ok (.aload_n 0, 1) := by decide +kernel
theorem d_MO_firstOf_20 : decode b_MO_firstOf 20 = .ok (.getfield 43, 3) := by decide +kernel
theorem d_MO_firstOf_23 : decode b_MO_firstOf 23 = .ok (.iconst 4, 1) := by decide +kernel
theorem d_MO_firstOf_24 : decode b_MO_firstOf 24 = .ok (.iload_n 2, 1) := by decide +kernel
theorem d_MO_firstOf_25 : decode b_MO_firstOf 25 = .ok (.imul, 1) := by decide +kernel
theorem d_MO_firstOf_26 : decode b_MO_firstOf 26 = .ok (.iload 4, 2) := by decide +kernel
theorem d_MO_firstOf_28 : decode b_MO_firstOf 28 = .ok (.iadd, 1) := by decide +kernel
theorem d_MO_firstOf_29 : decode b_MO_firstOf 29 = .ok (.iaload, 1) := by decide +kernel
theorem d_MO_firstOf_30 : decode b_MO_firstOf 30 = .ok (.if_icmp .ne 44, 3) := by decide +kernel
theorem d_MO_firstOf_33 : decode b_MO_firstOf 33 = .ok (.goto 35, 3) := by decide +kernel
theorem d_MO_firstOf_36 : decode b_MO_firstOf 36 = .ok (.aload_n 0, 1) := by decide +kernel
theorem d_MO_firstOf_37 : decode b_MO_firstOf 37 = .ok (.aload_n 0, 1) := by decide +kernel
theorem d_MO_firstOf_38 : decode b_MO_firstOf 38 = .ok (.getfield 40, 3) := by decide +kernel
theorem d_MO_firstOf_41 : decode b_MO_firstOf 41 = .ok (.iconst 4, 1) := by decide +kernel
theorem d_MO_firstOf_42 : decode b_MO_firstOf 42 = .ok (.iload_n 1, 1) := by decide +kernel
theorem d_MO_firstOf_43 : decode b_MO_firstOf 43 = .ok (.imul, 1) := by decide +kernel
theorem d_MO_firstOf_44 : decode b_MO_firstOf 44 = .ok (.iload 4, 2) := by decide +kernel
theorem d_MO_firstOf_46 : decode b_MO_firstOf 46 = .ok (.iadd, 1) := by decide +kernel
theorem d_MO_firstOf_47 : decode b_MO_firstOf 47 = .ok (.iaload, 1) := by decide +kernel
theorem d_MO_firstOf_48 : decode b_MO_firstOf 48 = .ok (.aload_n 0, 1) := by decide +kernel
theorem d_MO_firstOf_49 : decode b_MO_firstOf 49 = .ok (.getfield 40, 3) := by decide +kernel
theorem d_MO_firstOf_52 : decode b_MO_firstOf 52 = .ok (.iconst 4, 1) := by decide +kernel
theorem d_MO_firstOf_53 : decode b_MO_firstOf 53 = .ok (.iload_n 2, 1) := by decide +kernel
theorem d_MO_firstOf_54 : decode b_MO_firstOf 54 = .ok (.imul, 1) := by decide +kernel
theorem d_MO_firstOf_55 : decode b_MO_firstOf 55 = .ok (.iload 4, 2) := by decide +kernel
theorem d_MO_firstOf_57 : decode b_MO_firstOf 57 = .ok (.iadd, 1) := by decide +kernel
theorem d_MO_firstOf_58 : decode b_MO_firstOf 58 = .ok (.iaload, 1) := by decide +kernel
theorem d_MO_firstOf_59 : decode b_MO_firstOf 59 = .ok (.invokevirtual 196, 3) := by decide +kernel
theorem d_MO_firstOf_62 : decode b_MO_firstOf 62 = .ok (.iload_n 3, 1) := by decide +kernel
theorem d_MO_firstOf_63 : decode b_MO_firstOf 63 = .ok (.iconst 1, 1) := by decide +kernel
theorem d_MO_firstOf_64 : decode b_MO_firstOf 64 = .ok (.isub, 1) := by decide +kernel
theorem d_MO_firstOf_65 : decode b_MO_firstOf 65 = .ok (.if_icmp .eq 9, 3) := by decide +kernel
theorem d_MO_firstOf_68 : decode b_MO_firstOf 68 = .ok (.iinc 4 1, 3) := by decide +kernel
theorem d_MO_firstOf_71 : decode b_MO_firstOf 71 = .ok (.goto (-68), 3) := by decide +kernel
theorem d_MO_firstOf_74 : decode b_MO_firstOf 74 = .ok (.iload 4, 2) := by decide +kernel
theorem d_MO_firstOf_76 : decode b_MO_firstOf 76 = .ok (.ireturn, 1) := by decide +kernel
theorem d_MO_word_0 : decode b_MO_word 0 = .ok (.aload_n 0, 1) := by decide +kernel
theorem d_MO_word_1 : decode b_MO_word 1 = .ok (.iconst 0, 1) := by decide +kernel
theorem d_MO_word_2 : decode b_MO_word 2 = .ok (.putfield 101, 3) := by decide +kernel
theorem d_MO_word_5 : decode b_MO_word 5 = .ok (.aload_n 0, 1) := by decide +kernel
theorem d_MO_word_6 : decode b_MO_word 6 = .ok (.iload_n 1, 1) := by decide +kernel
theorem d_MO_word_7 : decode b_MO_word 7 = .ok (.invokevirtual 132, 3) := by decide +kernel
theorem d_MO_word_10 : decode b_MO_word 10 = .ok (.ifCond .eq 11, 3) := by decide +kernel
theorem d_MO_word_13 : decode b_MO_word 13 = .ok (.aload_n 0, 1) := by decide +kernel
theorem d_MO_word_14 : decode b_MO_word 14 = .ok (.iload_n 2, 1) := by decide +kernel
theorem d_MO_word_15 : decode b_MO_word 15 = .ok (.invokevirtual 132, 3) := by decide +kernel
theorem d_MO_word_18 : decode b_MO_word 18 = .ok (.ifCond .ne 9, 3) := by decide +kernel
theorem d_MO_word_21 : decode b_MO_word 21 = .ok (.aload_n 0, 1) := by decide +kernel
theorem d_MO_word_22 : decode b_MO_word 22 = .ok (.iconst 1, 1) := by decide +kernel
theorem d_MO_word_23 : decode b_MO_word 23 = .ok (.invokevirtual 108, 3) := by decide +kernel
theorem d_MO_word_26 : decode b_MO_word 26 = .ok (.ireturn, 1) := by decide +kernel
theorem d_MO_word_27 : decode b_MO_word 27 = .ok (.iload_n 3, 1) := by decide +kernel
theorem d_MO_word_28 : decode b_MO_word 28 = .ok (.ifCond .ge 9, 3) := by decide +kernel
theorem d_MO_word_31 : decode b_MO_word 31 = .ok (.aload_n 0, 1) := by decide +kernel
theorem d_MO_word_32 : decode b_MO_word 32 = .ok (.iconst 2, 1) := by decide +kernel
theorem d_MO_word_33 : decode b_MO_word 33 = .ok (.invokevirtual 108, 3) := by decide +kernel
theorem d_MO_word_36 : decode b_MO_word 36 = .ok (.ireturn, 1) := by decide +kernel
theorem d_MO_word_37 : decode b_MO_word 37 = .ok (.aload_n 0, 1) := by decide +kernel
theorem d_MO_word_38 : decode b_MO_word 38 = .ok (.invokevirtual 189, 3) := by decide +kernel
theorem d_MO_word_41 : decode b_MO_word 41 = .ok (.iload_n 1, 1) := by decide +kernel
theorem d_MO_word_42 : decode b_MO_word 42 = .ok (.istore 4, 2) := by decide +kernel
theorem d_MO_word_44 : decode b_MO_word 44 = .ok (.iload_n 2, 1) := by decide +kernel
theorem d_MO_word_45 : decode b_MO_word 45 = .ok (.istore 5, 2) := by decide +kernel
theorem d_MO_word_47 : decode b_MO_word 47 = .ok (.aload_n 0, 1) := by decide +kernel
theorem d_MO_word_48 : decode b_MO_word 48 = .ok (.iload 4, 2) := by decide +kernel
theorem d_MO_word_50 : decode b_MO_word 50 = .ok (.iload 5, 2) := by decide +kernel
theorem d_MO_word_52 : decode b_MO_word 52 = .ok (.invokevirtual 196, 3) := by decide +kernel
theorem d_MO_word_55 : decode b_MO_word 55 = .ok (.istore 6, 2) := by decide +kernel
theorem d_MO_word_57 : decode b_MO_word 57 = .ok (.iload_n 3, 1) := by decide +kernel
theorem d_MO_word_58 : decode b_MO_word 58 = .ok (.iload 6, 2) := by decide +kernel
theorem d_MO_word_60 : decode b_MO_word 60 = .ok (.if_icmp .lt 5, 3) := by decide +kernel
theorem d_MO_word_63 : decode b_MO_word 63 = .ok (.iconst (-1), 1) := by decide +kernel
theorem d_MO_word_64 : decode b_MO_word 64 = .ok (.ireturn, 1) := by decide +kernel
theorem d_MO_word_65 : decode b_MO_word 65 = .ok (.iconst 0, 1) := by decide +kernel
theorem d_MO_word_66 : decode b_MO_word 66 = .ok (.istore 7, 2) := by decide +kernel
theorem d_MO_word_68 : decode b_MO_word 68 = .ok (.iload 7, 2) := by decide +kernel
theorem d_MO_word_70 : decode b_MO_word 70 = .ok (.iload_n 3, 1) := by decide +kernel
theorem d_MO_word_71 : decode b_MO_word 71 = .ok (.if_icmp .ge 52, 3) := by decide +kernel
theorem d_MO_word_74 : decode b_MO_word 74 = .ok (.aload_n 0, 1) := by decide +kernel
theorem d_MO_word_75 : decode b_MO_word 75 = .ok (.iload 4, 2) := by decide +kernel
theorem d_MO_word_77 : decode b_MO_word 77 = .ok (.iload 5, 2) := by decide +kernel
theorem d_MO_word_79 : decode b_MO_word 79 = .ok (.iload 6, 2) := by decide +kernel
theorem d_MO_word_81 : decode b_MO_word 81 = .ok (.iload 7, 2) := by decide +kernel
theorem d_MO_word_83 : decode b_MO_word 83 = .ok (.isub, 1) := by decide +kernel
theorem d_MO_word_84 : decode b_MO_word 84 = .ok (.invokevirtual 199, 3) := by decide +kernel
theorem d_MO_word_87 : decode b_MO_word 87 = .ok (.istore 8, 2) := by decide +kernel
theorem d_MO_word_89 : decode b_MO_word 89 = .ok (.aload_n 0, 1) := by decide +kernel
theorem d_MO_word_90 : decode b_MO_word 90 = .ok (.getfield 40, 3) := by decide +kernel
theorem d_MO_word_93 : decode b_MO_word 93 = .ok (.iconst 4, 1) := by decide +kernel
theorem d_MO_word_94 : decode b_MO_word 94 = .ok (.iload 4, 2) := by decide +kernel
theorem d_MO_word_96 : decode b_MO_word 96 = .ok (.imul, 1) := by decide +kernel
theorem d_MO_word_97 : decode b_MO_word 97 = .ok (.iload 8, 2) := by decide +kernel
theorem d_MO_word_99 : decode b_MO_word 99 = .ok (.iadd, 1) := by decide +kernel
theorem d_MO_word_100 : decode b_MO_word 100 = .ok (.iaload, 1) := by decide +kernel
theorem d_MO_word_101 : decode b_MO_word 101 = .ok (.istore 4, 2) := by decide +kernel
theorem d_MO_word_103 : decode b_MO_word 103 = .ok (.aload_n 0, 1) := by decide +kernel
theorem d_MO_word_104 : decode b_MO_word 104 = .ok (.getfield 40, 3) := by decide +kernel
theorem d_MO_word_107 : decode b_MO_word 107 = .ok (.iconst 4, 1) := by decide +kernel
theorem d_MO_word_108 : decode b_MO_word 108 = .ok (.iload 5, 2) := by decide +kernel
theorem d_MO_word_110 : decode b_MO_word 110 = .ok (.imul, 1) := by decide +kernel
theorem d_MO_word_111 : decode b_MO_word 111 = .ok (.iload 8, 2) := by decide +kernel
theorem d_MO_word_113 : decode b_MO_word 113 = .ok (.iadd, 1) := by decide +kernel
theorem d_MO_word_114 : decode b_MO_word 114 = .ok (.iaload, 1) := by decide +kernel
theorem d_MO_word_115 : decode b_MO_word 115 = .ok (.istore 5, 2) := by decide +kernel
theorem d_MO_word_117 : decode b_MO_word 117 = .ok (.iinc 7 1, 3) := by decide +kernel
theorem d_MO_word_120 : decode b_MO_word 120 = .ok (.goto (-52), 3) := by decide +kernel
theorem d_MO_word_123 : decode b_MO_word 123 = .ok (.aload_n 0, 1) := by decide +kernel
theorem d_MO_word_124 : decode b_MO_word 124 = .ok (.iload 4, 2) := by decide +kernel
theorem d_MO_word_126 : decode b_MO_word 126 = .ok (.iload 5, 2) := by decide +kernel
theorem d_MO_word_128 : decode b_MO_word 128 = .ok (.iload 6, 2) := by decide +kernel
theorem d_MO_word_130 : decode b_MO_word 130 = .ok (.iload_n 3, 1) := by decide +kernel
theorem d_MO_word_131 : decode b_MO_word 131 = .ok (.isub, 1) := by decide +kernel
theorem d_MO_word_132 : decode b_MO_word 132 = .ok (.invokevirtual 199, 3) := by decide +kernel
theorem d_MO_word_135 : decode b_MO_word 135 = .ok (.ireturn, 1) := by decide +kernel
theorem d_MO_classes_0 : decode b_MO_classes 0 = .ok (.aload_n 0, 1) := by decide +kernel
theorem d_MO_classes_1 : decode b_MO_classes 1 = .ok (.invokevirtual 192, 3) := by decide +kernel
theorem d_MO_classes_4 : decode b_MO_classes 4 = .ok (.ifCond .eq 10, 3) := by decide +kernel
theorem d_MO_classes_7 : decode b_MO_classes 7 = .ok (.aload_n 0, 1) := by decide +kernel
theorem d_MO_classes_8 : decode b_MO_classes 8 = .ok (.getfield 177, 3) := by decide +kernel
theorem d_MO_classes_11 : decode b_MO_classes 11 = .ok (.goto 4, 3) := by decide +kernel
theorem d_MO_classes_14 : decode b_MO_classes 14 = .ok (.iconst 0, 1) := by decide +kernel
theorem d_MO_classes_15 : decode b_MO_classes 15 = .ok (.ireturn, 1) := by decide +kernel
theorem d_MO_classOf_0 : decode b_MO_classOf 0 = .ok (.aload_n 0, 1) := by decide +kernel
theorem d_MO_classOf_1 : decode b_MO_classOf 1 = .ok (.invokevirtual 192, 3) := by decide +kernel
theorem d_MO_classOf_4 : decode b_MO_classOf 4 = .ok (.ifCond .ne 5, 3) := by decide +kernel
theorem d_MO_classOf_7 : decode b_MO_classOf 7 = .ok (.iconst 0, 1) := by decide +kernel
theorem d_MO_classOf_8 : decode b_MO_classOf 8 = .ok (.ireturn, 1) := by decide +kernel
theorem d_MO_classOf_9 : decode b_MO_classOf 9 = .ok (.iload_n 1, 1) := by decide +kernel
theorem d_MO_classOf_10 : decode b_MO_classOf 10 = .ok (.iconst 0, 1) := by decide +kernel
theorem d_MO_classOf_11 : decode b_MO_classOf 11 = .ok (.aload_n 0, 1) := by decide +kernel
theorem d_MO_classOf_12 : decode b_MO_classOf 12 = .ok (.getfield 152, 3) := by decide +kernel
theorem d_MO_classOf_15 : decode b_MO_classOf 15 = .ok (.iconst 1, 1) := by decide +kernel
theorem d_MO_classOf_16 : decode b_MO_classOf 16 = .ok (.isub, 1) := by decide +kernel
theorem d_MO_classOf_17 : decode b_MO_classOf 17 = .ok (.invokestatic 104, 3) := by decide +kernel
theorem d_MO_classOf_20 : decode b_MO_classOf 20 = .ok (.ifCond .eq 12, 3) := by decide +kernel
theorem d_MO_classOf_23 : decode b_MO_classOf 23 = .ok (.aload_n 0, 1) := by decide +kernel
theorem d_MO_classOf_24 : decode b_MO_classOf 24 = .ok (.getfield 91, 3) := by decide +kernel
theorem d_MO_classOf_27 : decode b_MO_classOf 27 = .ok (.iload_n 1, 1) := by decide +kernel
theorem d_MO_classOf_28 : decode b_MO_classOf 28 = .ok (.iaload, 1) := by decide +kernel
theorem d_MO_classOf_29 : decode b_MO_classOf 29 = .ok (.goto 8, 3) := by decide +kernel
theorem d_MO_classOf_32 : decode b_MO_classOf 32 = .ok (.aload_n 0, 1) := by decide +kernel
theorem d_MO_classOf_33 : decode b_MO_classOf 33 = .ok (.iconst 2, 1) := by decide +kernel
theorem d_MO_classOf_34 : decode b_MO_classOf 34 = .ok (.invokevirtual 108, 3) := by decide +kernel
theorem d_MO_classOf_37 : decode b_MO_classOf 37 = .ok (.ireturn, 1) := by decide +kernel
theorem d_MO_least_0 : decode b_MO_least 0 = .ok (.aload_n 0, 1) := by decide +kernel
theorem d_MO_least_1 : decode b_MO_least 1 = .ok (.invokevirtual 192, 3) := by decide +kernel
theorem d_MO_least_4 : decode b_MO_least 4 = .ok (.ifCond .ne 5, 3) := by decide +kernel
theorem d_MO_least_7 : decode b_MO_least 7 = .ok (.iconst 0, 1) := by decide +kernel
theorem d_MO_least_8 : decode b_MO_least 8 = .ok (.ireturn, 1) := by decide +kernel
theorem d_MO_least_9 : decode b_MO_least 9 = .ok (.iload_n 1, 1) := by decide +kernel
theorem d_MO_least_10 : decode b_MO_least 10 = .ok (.iconst 0, 1) := by decide +kernel
theorem d_MO_least_11 : decode b_MO_least 11 = .ok (.aload_n 0, 1) := by decide +kernel
theorem d_MO_least_12 : decode b_MO_least 12 = .ok (.getfield 177, 3) := by decide +kernel
theorem d_MO_least_15 : decode b_MO_least 15 = .ok (.iconst 1, 1) := by decide +kernel
theorem d_MO_least_16 : decode b_MO_least 16 = .ok (.isub, 1) := by decide +kernel
theorem d_MO_least_17 : decode b_MO_least 17 = .ok (.invokestatic 104, 3) := by decide +kernel
theorem d_MO_least_20 : decode b_MO_least 20 = .ok (.ifCond .eq 26, 3) := by decide +kernel
theorem d_MO_least_23 : decode b_MO_least 23 = .ok (.iload_n 2, 1) := by decide +kernel
theorem d_MO_least_24 : decode b_MO_least 24 = .ok (.iconst 0, 1) := by decide +kernel
theorem d_MO_least_25 : decode b_MO_least 25 = .ok (.aload_n 0, 1) := by decide +kernel
theorem d_MO_least_26 : decode b_MO_least 26 = .ok (.getfield 112, 3) := by decide +kernel
theorem d_MO_least_29 : decode b_MO_least 29 = .ok (.iconst 1, 1) := by decide +kernel
theorem d_MO_least_30 : decode b_MO_least 30 = .ok (.isub, 1) := by decide +kernel
theorem d_MO_least_31 : decode b_MO_least 31 = .ok (.invokestatic 104, 3) := by decide +kernel
theorem d_MO_least_34 : decode b_MO_least 34 = .ok (.ifCond .eq 12, 3) := by decide +kernel
theorem d_MO_least_37 : decode b_MO_least 37 = .ok (.iload_n 3, 1) := by decide +kernel
theorem d_MO_least_38 : decode b_MO_least 38 = .ok (.iconst 0, 1) := by decide +kernel
theorem d_MO_least_39 : decode b_MO_least 39 = .ok (.iconst 1, 1) := by decide +kernel
theorem d_MO_least_40 : decode b_MO_least 40 = .ok (.invokestatic 104, 3) := by decide +kernel
theorem d_MO_least_43 : decode b_MO_least 43 = .ok (.ifCond .ne 9, 3) := by decide +kernel
theorem d_MO_least_46 : decode b_MO_least 46 = .ok (.aload_n 0, 1) := by decide +kernel
theorem d_MO_least_47 : decode b_MO_least 47 = .ok (.iconst 2, 1) := by decide +kernel
theorem d_MO_least_48 : decode b_MO_least 48 = .ok (.invokevirtual 108, 3) := by decide +kernel
theorem d_MO_least_51 : decode b_MO_least 51 = .ok (.ireturn, 1) := by decide +kernel
theorem d_MO_least_52 : decode b_MO_least 52 = .ok (.iconst 4, 1) := by decide +kernel
theorem d_MO_least_53 : decode b_MO_least 53 = .ok (.aload_n 0, 1) := by decide +kernel
theorem d_MO_least_54 : decode b_MO_least 54 = .ok (.getfield 94, 3) := by decide +kernel
theorem d_MO_least_57 : decode b_MO_least 57 = .ok (.iload_n 1, 1) := by decide +kernel
theorem d_MO_least_58 : decode b_MO_least 58 = .ok (.iaload, 1) := by decide +kernel
theorem d_MO_least_59 : decode b_MO_least 59 = .ok (.imul, 1) := by decide +kernel
theorem d_MO_least_60 : decode b_MO_least 60 = .ok (.iload_n 2, 1) := by decide +kernel
theorem d_MO_least_61 : decode b_MO_least 61 = .ok (.iadd, 1) := by decide +kernel
theorem d_MO_least_62 : decode b_MO_least 62 = .ok (.istore 4, 2) := by decide +kernel
theorem d_MO_least_64 : decode b_MO_least 64 = .ok (.iload_n 3, 1) := by decide +kernel
theorem d_MO_least_65 : decode b_MO_least 65 = .ok (.iconst 1, 1) := by decide +kernel
theorem d_MO_least_66 : decode b_MO_least 66 = .ok (.if_icmp .ne 13, 3) := by decide +kernel
theorem d_MO_least_69 : decode b_MO_least 69 = .ok (.aload_n 0, 1) := by decide +kernel
theorem d_MO_least_70 : decode b_MO_least 70 = .ok (.getfield 43, 3) := by decide +kernel
theorem d_MO_least_73 : decode b_MO_least 73 = .ok (.iload 4, 2) := by decide +kernel
theorem d_MO_least_75 : decode b_MO_least 75 = .ok (.iaload, 1) := by decide +kernel
theorem d_MO_least_76 : decode b_MO_least 76 = .ok (.goto 20, 3) := by decide +kernel
theorem d_MO_least_79 : decode b_MO_least 79 = .ok (.aload_n 0, 1) := by decide +kernel
theorem d_MO_least_80 : decode b_MO_least 80 = .ok (.getfield 91, 3) := by decide +kernel
theorem d_MO_least_83 : decode b_MO_least 83 = .ok (.aload_n 0, 1) := by decide +kernel
theorem d_MO_least_84 : decode b_MO_least 84 = .ok (.getfield 58, 3) := by decide +kernel
theorem d_MO_least_87 : decode b_MO_least 87 = .ok (.aload_n 0, 1) := by decide +kernel
theorem d_MO_least_88 : decode b_MO_least 88 = .ok (.getfield 40, 3) := by decide +kernel
theorem d_MO_least_91 : decode b_MO_least 91 = .ok (.iload 4, 2) := by decide +kernel
theorem d_MO_least_93 : decode b_MO_least 93 = .ok (.iaload, 1) := by decide +kernel
theorem d_MO_least_94 : decode b_MO_least 94 = .ok (.iaload, 1) := by decide +kernel
theorem d_MO_least_95 : decode b_MO_least 95 = .ok (.iaload, 1) := by decide +kernel
theorem d_MO_least_96 : decode b_MO_least 96 = .ok (.ireturn, 1) := by decide +kernel
theorem d_MO_intoMany_0 : decode b_MO_intoMany 0 = .ok (.iconst 0, 1) := by decide +kernel
theorem d_MO_intoMany_1 : decode b_MO_intoMany 1 = .ok (.istore_n 1, 1) := by decide +kernel
theorem d_MO_intoMany_2 : decode b_MO_intoMany 2 = .ok (.iconst 0, 1) := by decide +kernel
theorem d_MO_intoMany_3 : decode b_MO_intoMany 3 = .ok (.istore_n 2, 1) := by decide +kernel
theorem d_MO_intoMany_4 : decode b_MO_intoMany 4 = .ok (.iload_n 2, 1) := by decide +kernel
theorem d_MO_intoMany_5 : decode b_MO_intoMany 5 = .ok (.aload_n 0, 1) := by decide +kernel
theorem d_MO_intoMany_6 : decode b_MO_intoMany 6 = .ok (.getfield 152, 3) := by decide +kernel
theorem d_MO_intoMany_9 : decode b_MO_intoMany 9 = .ok (.if_icmp .ge 16, 3) := by decide +kernel
theorem d_MO_intoMany_12 : decode b_MO_intoMany 12 = .ok (.aload_n 0, 1) := by decide +kernel
theorem d_MO_intoMany_13 : decode b_MO_intoMany 13 = .ok (.getfield 82, 3) := by decide +kernel
theorem d_MO_intoMany_16 : decode b_MO_intoMany 16 = .ok (.iload_n 2, 1) := by decide +kernel
theorem d_MO_intoMany_17 : decode b_MO_intoMany 17 = .ok (.iconst 0, 1) := by decide +kernel
theorem d_MO_intoMany_18 : decode b_MO_intoMany 18 = .ok (.iastore, 1) := by decide +kernel
theorem d_MO_intoMany_19 : decode b_MO_intoMany 19 = .ok (.iinc 2 1, 3) := by decide +kernel
theorem d_MO_intoMany_22 : decode b_MO_intoMany 22 = .ok (.goto (-18), 3) := by decide +kernel
theorem d_MO_intoMany_25 : decode b_MO_intoMany 25 = .ok (.iconst 0, 1) := by decide +kernel
theorem d_MO_intoMany_26 : decode b_MO_intoMany 26 = .ok (.istore_n 2, 1) := by decide +kernel
theorem d_MO_intoMany_27 : decode b_MO_intoMany 27 = .ok (.iload_n 2, 1) := by decide +kernel
theorem d_MO_intoMany_28 : decode b_MO_intoMany 28 = .ok (.aload_n 0, 1) := by decide +kernel
theorem d_MO_intoMany_29 : decode b_MO_intoMany 29 = .ok (.getfield 152, 3) := by decide +kernel
theorem d_MO_intoMany_32 : decode b_MO_intoMany 32 = .ok (.if_icmp .ge 54, 3) := by decide +kernel
theorem d_MO_intoMany_35 : decode b_MO_intoMany 35 = .ok (.iconst 0, 1) := by decide +kernel
theorem d_MO_intoMany_36 : decode b_MO_intoMany 36 = .ok (.istore_n 3, 1) := by decide +kernel
theorem d_MO_intoMany_37 : decode b_MO_intoMany 37 = .ok (.iload_n 3, 1) := by decide +kernel
theorem d_MO_intoMany_38 : decode b_MO_intoMany 38 = .ok (.aload_n 0, 1) := by decide +kernel
theorem d_MO_intoMany_39 : decode b_MO_intoMany 39 = .ok (.getfield 112, 3) := by decide +kernel
theorem d_MO_intoMany_42 : decode b_MO_intoMany 42 = .ok (.if_icmp .ge 38, 3) := by decide +kernel
theorem d_MO_intoMany_45 : decode b_MO_intoMany 45 = .ok (.aload_n 0, 1) := by decide +kernel
theorem d_MO_intoMany_46 : decode b_MO_intoMany 46 = .ok (.getfield 82, 3) := by decide +kernel
theorem d_MO_intoMany_49 : decode b_MO_intoMany 49 = .ok (.aload_n 0, 1) := by decide +kernel
theorem d_MO_intoMany_50 : decode b_MO_intoMany 50 = .ok (.getfield 58, 3) := by decide +kernel
theorem d_MO_intoMany_53 : decode b_MO_intoMany 53 = .ok (.aload_n 0, 1) := by decide +kernel
theorem d_MO_intoMany_54 : decode b_MO_intoMany 54 = .ok (.getfield 40, 3) := by decide +kernel
theorem d_MO_intoMany_57 : decode b_MO_intoMany 57 = .ok (.iconst 4, 1) := by decide +kernel
theorem d_MO_intoMany_58 : decode b_MO_intoMany 58 = .ok (.aload_n 0, 1) := by decide +kernel
theorem d_MO_intoMany_59 : decode b_MO_intoMany 59 = .ok (.getfield 46, 3) := by decide +kernel
theorem d_MO_intoMany_62 : decode b_MO_intoMany 62 = .ok (.iload_n 2, 1) := by decide +kernel
theorem d_MO_intoMany_63 : decode b_MO_intoMany 63 = .ok (.iaload, 1) := by decide +kernel
theorem d_MO_intoMany_64 : decode b_MO_intoMany 64 = .ok (.imul, 1) := by decide +kernel
theorem d_MO_intoMany_65 : decode b_MO_intoMany 65 = .ok (.iload_n 3, 1) := by decide +kernel
theorem d_MO_intoMany_66 : decode b_MO_intoMany 66 = .ok (.iadd, 1) := by decide +kernel
theorem d_MO_intoMany_67 : decode b_MO_intoMany 67 = .ok (.iaload, 1) := by decide +kernel
theorem d_MO_intoMany_68 : decode b_MO_intoMany 68 = .ok (.iaload, 1) := by decide +kernel
theorem d_MO_intoMany_69 : decode b_MO_intoMany 69 = .ok (.dup2, 1) := by decide +kernel
theorem d_MO_intoMany_70 : decode b_MO_intoMany 70 = .ok (.iaload, 1) := by decide +kernel
theorem d_MO_intoMany_71 : decode b_MO_intoMany 71 = .ok (.iconst 1, 1) := by decide +kernel
theorem d_MO_intoMany_72 : decode b_MO_intoMany 72 = .ok (.iadd, 1) := by decide +kernel
theorem d_MO_intoMany_73 : decode b_MO_intoMany 73 = .ok (.iastore, 1) := by decide +kernel
theorem d_MO_intoMany_74 : decode b_MO_intoMany 74 = .ok (.iinc 3 1, 3) := by decide +kernel
theorem d_MO_intoMany_77 : decode b_MO_intoMany 77 = .ok (.goto (-40), 3) := by decide +kernel
theorem d_MO_intoMany_80 : decode b_MO_intoMany 80 = .ok (.iinc 2 1, 3) := by decide +kernel
theorem d_MO_intoMany_83 : decode b_MO_intoMany 83 = .ok (.goto (-56), 3) := by decide +kernel
theorem d_MO_intoMany_86 : decode b_MO_intoMany 86 = .ok (.iconst 0, 1) := by decide +kernel
theorem d_MO_intoMany_87 : decode b_MO_intoMany 87 = .ok (.istore_n 2, 1) := by decide +kernel
theorem d_MO_intoMany_88 : decode b_MO_intoMany 88 = .ok (.iload_n 2, 1) := by decide +kernel
theorem d_MO_intoMany_89 : decode b_MO_intoMany 89 = .ok (.aload_n 0, 1) := by decide +kernel
theorem d_MO_intoMany_90 : decode b_MO_intoMany 90 = .ok (.getfield 152, 3) := by decide +kernel
theorem d_MO_intoMany_93 : decode b_MO_intoMany 93 = .ok (.if_icmp .ge 27, 3) := by decide +kernel
theorem d_MO_intoMany_96 : decode b_MO_intoMany 96 = .ok (.iload_n 1, 1) := by decide +kernel
theorem d_MO_intoMany_97 : decode b_MO_intoMany 97 = .ok (.aload_n 0, 1) := by decide +kernel
theorem d_MO_intoMany_98 : decode b_MO_intoMany 98 = .ok (.getfield 82, 3) := by decide +kernel
theorem d_MO_intoMany_101 : decode b_MO_intoMany 101 = .ok (.iload_n 2, 1) := by decide +kernel
theorem d_MO_intoMany_102 : decode b_MO_intoMany 102 = .ok (.iaload, 1) := by decide +kernel
theorem d_MO_intoMany_103 : decode b_MO_intoMany 103 = .ok (.iconst 1, 1) := by decide +kernel
theorem d_MO_intoMany_104 : decode b_MO_intoMany 104 = .ok (.if_icmp .le 7, 3) := by decide +kernel
theorem d_MO_intoMany_107 : decode b_MO_intoMany 107 = .ok (.iconst 1, 1) := by decide +kernel
theorem d_MO_intoMany_108 : decode b_MO_intoMany 108 = .ok (.goto 4, 3) := by decide +kernel
theorem d_MO_intoMany_111 : decode b_MO_intoMany 111 = .ok (.iconst 0, 1) := by decide +kernel
theorem d_MO_intoMany_112 : decode b_MO_intoMany 112 = .ok (.iadd, 1) := by decide +kernel
theorem d_MO_intoMany_113 : decode b_MO_intoMany 113 = .ok (.istore_n 1, 1) := by decide +kernel
theorem d_MO_intoMany_114 : decode b_MO_intoMany 114 = .ok (.iinc 2 1, 3) := by decide +kernel
theorem d_MO_intoMany_117 : decode b_MO_intoMany 117 = .ok (.goto (-29), 3) := by decide +kernel
theorem d_MO_intoMany_120 : decode b_MO_intoMany 120 = .ok (.iload_n 1, 1) := by decide +kernel
theorem d_MO_intoMany_121 : decode b_MO_intoMany 121 = .ok (.ireturn, 1) := by decide +kernel
theorem d_MO_stays_0 : decode b_MO_stays 0 = .ok (.iconst 0, 1) := by decide +kernel
theorem d_MO_stays_1 : decode b_MO_stays 1 = .ok (.istore_n 1, 1) := by decide +kernel
theorem d_MO_stays_2 : decode b_MO_stays 2 = .ok (.iconst 0, 1) := by decide +kernel
theorem d_MO_stays_3 : decode b_MO_stays 3 = .ok (.istore_n 2, 1) := by decide +kernel
theorem d_MO_stays_4 : decode b_MO_stays 4 = .ok (.iload_n 2, 1) := by decide +kernel
theorem d_MO_stays_5 : decode b_MO_stays 5 = .ok (.aload_n 0, 1) := by decide +kernel
theorem d_MO_stays_6 : decode b_MO_stays 6 = .ok (.getfield 152, 3) := by decide +kernel
theorem d_MO_stays_9 : decode b_MO_stays 9 = .ok (.if_icmp .ge 76, 3) := by decide +kernel
theorem d_MO_stays_12 : decode b_MO_stays 12 = .ok (.iconst 1, 1) := by decide +kernel
theorem d_MO_stays_13 : decode b_MO_stays 13 = .ok (.istore_n 3, 1) := by decide +kernel
theorem d_MO_stays_14 : decode b_MO_stays 14 = .ok (.iconst 0, 1) := by decide +kernel
theorem d_MO_stays_15 : decode b_MO_stays 15 = .ok (.istore 4, 2) := by decide +kernel
theorem d_MO_stays_17 : decode b_MO_stays 17 = .ok (.iload 4, 2) := by decide +kernel
theorem d_MO_stays_19 : decode b_MO_stays 19 = .ok (.aload_n 0, 1) := by decide +kernel
theorem d_MO_stays_20 : decode b_MO_stays 20 = .ok (.getfield 112, 3) := by decide +kernel
theorem d_MO_stays_23 : decode b_MO_stays 23 = .ok (.if_icmp .ge 44, 3) := by decide +kernel
theorem d_MO_stays_26 : decode b_MO_stays 26 = .ok (.iload_n 3, 1) := by decide +kernel
theorem d_MO_stays_27 : decode b_MO_stays 27 = .ok (.ifCond .eq 32, 3) := by decide +kernel
theorem d_MO_stays_30 : decode b_MO_stays 30 = .ok (.aload_n 0, 1) := by decide +kernel
theorem d_MO_stays_31 : decode b_MO_stays 31 = .ok (.getfield 40, 3) := by decide +kernel
theorem d_MO_stays_34 : decode b_MO_stays 34 = .ok (.iconst 4, 1) := by decide +kernel
theorem d_MO_stays_35 : decode b_MO_stays 35 = .ok (.aload_n 0, 1) := by decide +kernel
theorem d_MO_stays_36 : decode b_MO_stays 36 = .ok (.getfield 46, 3) := by decide +kernel
theorem d_MO_stays_39 : decode b_MO_stays 39 = .ok (.iload_n 2, 1) := by decide +kernel
theorem d_MO_stays_40 : decode b_MO_stays 40 = .ok (.iaload, 1) := by decide +kernel
theorem d_MO_stays_41 : decode b_MO_stays 41 = .ok (.imul, 1) := by decide +kernel
theorem d_MO_stays_42 : decode b_MO_stays 42 = .ok (.iload 4, 2) := by decide +kernel
theorem d_MO_stays_44 : decode b_MO_stays 44 = .ok (.iadd, 1) := by decide +kernel
theorem d_MO_stays_45 : decode b_MO_stays 45 = .ok (.iaload, 1) := by decide +kernel
theorem d_MO_stays_46 : decode b_MO_stays 46 = .ok (.aload_n 0, 1) := by decide +kernel
theorem d_MO_stays_47 : decode b_MO_stays 47 = .ok (.getfield 46, 3) := by decide +kernel
theorem d_MO_stays_50 : decode b_MO_stays 50 = .ok (.iload_n 2, 1) := by decide +kernel
theorem d_MO_stays_51 : decode b_MO_stays 51 = .ok (.iaload, 1) := by decide +kernel
theorem d_MO_stays_52 : decode b_MO_stays 52 = .ok (.if_icmp .ne 7, 3) := by decide +kernel
theorem d_MO_stays_55 : decode b_MO_stays 55 = .ok (.iconst 1, 1) := by decide +kernel
theorem d_MO_stays_56 : decode b_MO_stays 56 = .ok (.goto 4, 3) := by decide +kernel
theorem d_MO_stays_59 : decode b_MO_stays 59 = .ok (.iconst 0, 1) := by decide +kernel
theorem d_MO_stays_60 : decode b_MO_stays 60 = .ok (.istore_n 3, 1) := by decide +kernel
theorem d_MO_stays_61 : decode b_MO_stays 61 = .ok (.iinc 4 1, 3) := by decide +kernel
theorem d_MO_stays_64 : decode b_MO_stays 64 = .ok (.goto (-47), 3) := by decide +kernel
theorem d_MO_stays_67 : decode b_MO_stays 67 = .ok (.iload_n 1, 1) := by decide +kernel
theorem d_MO_stays_68 : decode b_MO_stays 68 = .ok (.iload_n 3, 1) := by decide +kernel
theorem d_MO_stays_69 : decode b_MO_stays 69 = .ok (.ifCond .eq 7, 3) := by decide +kernel
theorem d_MO_stays_72 : decode b_MO_stays 72 = .ok (.iconst 1, 1) := by decide +kernel
theorem d_MO_stays_73 : decode b_MO_stays 73 = .ok (.goto 4, 3) := by decide +kernel
theorem d_MO_stays_76 : decode b_MO_stays 76 = .ok (.iconst 0, 1) := by decide +kernel
theorem d_MO_stays_77 : decode b_MO_stays 77 = .ok (.iadd, 1) := by decide +kernel
theorem d_MO_stays_78 : decode b_MO_stays 78 = .ok (.istore_n 1, 1) := by decide +kernel
theorem d_MO_stays_79 : decode b_MO_stays 79 = .ok (.iinc 2 1, 3) := by decide +kernel
theorem d_MO_stays_82 : decode b_MO_stays 82 = .ok (.goto (-78), 3) := by decide +kernel
theorem d_MO_stays_85 : decode b_MO_stays 85 = .ok (.iload_n 1, 1) := by decide +kernel
theorem d_MO_stays_86 : decode b_MO_stays 86 = .ok (.ireturn, 1) := by decide +kernel
theorem d_MO_count_0 : decode b_MO_count 0 = .ok (.aload_n 0, 1) := by decide +kernel
theorem d_MO_count_1 : decode b_MO_count 1 = .ok (.iconst 0, 1) := by decide +kernel
theorem d_MO_count_2 : decode b_MO_count 2 = .ok (.putfield 101, 3) := by decide +kernel
theorem d_MO_count_5 : decode b_MO_count 5 = .ok (.iload_n 1, 1) := by decide +kernel
theorem d_MO_count_6 : decode b_MO_count 6 = .ok (.iconst 0, 1) := by decide +kernel
theorem d_MO_count_7 : decode b_MO_count 7 = .ok (.bipush 8, 2) := by decide +kernel
theorem d_MO_count_9 : decode b_MO_count 9 = .ok (.invokestatic 104, 3) := by decide +kernel
theorem d_MO_count_12 : decode b_MO_count 12 = .ok (.ifCond .ne 5, 3) := by decide +kernel
theorem d_MO_count_15 : decode b_MO_count 15 = .ok (.iconst (-1), 1) := by decide +kernel
theorem d_MO_count_16 : decode b_MO_count 16 = .ok (.ireturn, 1) := by decide +kernel
theorem d_MO_count_17 : decode b_MO_count 17 = .ok (.iload_n 1, 1) := by decide +kernel
theorem d_MO_count_18 : decode b_MO_count 18 = .ok (.iconst 3, 1) := by decide +kernel
theorem d_MO_count_19 : decode b_MO_count 19 = .ok (.if_icmp .ne 31, 3) := by decide +kernel
theorem d_MO_count_22 : decode b_MO_count 22 = .ok (.aload_n 0, 1) := by decide +kernel
theorem d_MO_count_23 : decode b_MO_count 23 = .ok (.getfield 25, 3) := by decide +kernel
theorem d_MO_count_26 : decode b_MO_count 26 = .ok (.iconst 0, 1) := by decide +kernel
theorem d_MO_count_27 : decode b_MO_count 27 = .ok (.iaload, 1) := by decide +kernel
theorem d_MO_count_28 : decode b_MO_count 28 = .ok (.aload_n 0, 1) := by decide +kernel
theorem d_MO_count_29 : decode b_MO_count 29 = .ok (.getfield 25, 3) := by decide +kernel
theorem d_MO_count_32 : decode b_MO_count 32 = .ok (.iconst 1, 1) := by decide +kernel
theorem d_MO_count_33 : decode b_MO_count 33 = .ok (.iaload, 1) := by decide +kernel
theorem d_MO_count_34 : decode b_MO_count 34 = .ok (.iadd, 1) := by decide +kernel
theorem d_MO_count_35 : decode b_MO_count 35 = .ok (.aload_n 0, 1) := by decide +kernel
theorem d_MO_count_36 : decode b_MO_count 36 = .ok (.getfield 25, 3) := by decide +kernel
theorem d_MO_count_39 : decode b_MO_count 39 = .ok (.iconst 2, 1) := by decide +kernel
theorem d_MO_count_40 : decode b_MO_count 40 = .ok (.iaload, 1) := by decide +kernel
theorem d_MO_count_41 : decode b_MO_count 41 = .ok (.iadd, 1) := by decide +kernel
theorem d_MO_count_42 : decode b_MO_count 42 = .ok (.aload_n 0, 1) := by decide +kernel
theorem d_MO_count_43 : decode b_MO_count 43 = .ok (.getfield 25, 3) := by decide +kernel
theorem d_MO_count_46 : decode b_MO_count 46 = .ok (.iconst 3, 1) := by decide +kernel
theorem d_MO_count_47 : decode b_MO_count 47 = .ok (.iaload, 1) := by decide +kernel
theorem d_MO_count_48 : decode b_MO_count 48 = .ok (.iadd, 1) := by decide +kernel
theorem d_MO_count_49 : decode b_MO_count 49 = .ok (.ireturn, 1) := by decide +kernel
theorem d_MO_count_50 : decode b_MO_count 50 = .ok (.iload_n 1, 1) := by decide +kernel
theorem d_MO_count_51 : decode b_MO_count 51 = .ok (.bipush 6, 2) := by decide +kernel
theorem d_MO_count_53 : decode b_MO_count 53 = .ok (.if_icmp .ge 55, 3) := by decide +kernel
theorem d_MO_count_56 : decode b_MO_count 56 = .ok (.iload_n 1, 1) := by decide +kernel
theorem d_MO_count_57 : decode b_MO_count 57 = .ok (.ifCond .ne 10, 3) := by decide +kernel
theorem d_MO_count_60 : decode b_MO_count 60 = .ok (.aload_n 0, 1) := by decide +kernel
theorem d_MO_count_61 : decode b_MO_count 61 = .ok (.getfield 115, 3) := by decide +kernel
theorem d_MO_count_64 : decode b_MO_count 64 = .ok (.goto 43, 3) := by decide +kernel
theorem d_MO_count_67 : decode b_MO_count 67 = .ok (.iload_n 1, 1) := by decide +kernel
theorem d_MO_count_68 : decode b_MO_count 68 = .ok (.iconst 1, 1) := by decide +kernel
theorem d_MO_count_69 : decode b_MO_count 69 = .ok (.if_icmp .ne 10, 3) := by decide +kernel
theorem d_MO_count_72 : decode b_MO_count 72 = .ok (.aload_n 0, 1) := by decide +kernel
theorem d_MO_count_73 : decode b_MO_count 73 = .ok (.getfield 118, 3) := by decide +kernel
theorem d_MO_count_76 : decode b_MO_count 76 = .ok (.goto 31, 3) := by decide +kernel
theorem d_MO_count_79 : decode b_MO_count 79 = .ok (.iload_n 1, 1) := by decide +kernel
theorem d_MO_count_80 : decode b_MO_count 80 = .ok (.iconst 2, 1) := by decide +kernel
theorem d_MO_count_81 : decode b_MO_count 81 = .ok (.if_icmp .ne 10, 3) := by decide +kernel
theorem d_MO_count_84 : decode b_MO_count 84 = .ok (.aload_n 0, 1) := by decide +kernel
theorem d_MO_count_85 : decode b_MO_count 85 = .ok (.getfield 112, 3) := by decide +kernel
theorem d_MO_count_88 : decode b_MO_count 88 = .ok (.goto 19, 3) := by decide +kernel
theorem d_MO_count_91 : decode b_MO_count 91 = .ok (.iload_n 1, 1) := by decide +kernel
theorem d_MO_count_92 : decode b_MO_count 92 = .ok (.iconst 4, 1) := by decide +kernel
theorem d_MO_count_93 : decode b_MO_count 93 = .ok (.if_icmp .ne 10, 3) := by decide +kernel
theorem d_MO_count_96 : decode b_MO_count 96 = .ok (.aload_n 0, 1) := by decide +kernel
theorem d_MO_count_97 : decode b_MO_count 97 = .ok (.getfield 97, 3) := by decide +kernel
theorem d_MO_count_100 : decode b_MO_count 100 = .ok (.goto 7, 3) := by decide +kernel
theorem d_MO_count_103 : decode b_MO_count 103 = .ok (.aload_n 0, 1) := by decide +kernel
theorem d_MO_count_104 : decode b_MO_count 104 = .ok (.getfield 135, 3) := by decide +kernel
theorem d_MO_count_107 : decode b_MO_count 107 = .ok (.ireturn, 1) := by decide +kernel
theorem d_MO_count_108 : decode b_MO_count 108 = .ok (.aload_n 0, 1) := by decide +kernel
theorem d_MO_count_109 : decode b_MO_count 109 = .ok (.invokevirtual 189, 3) := by decide +kernel
theorem d_MO_count_112 : decode b_MO_count 112 = .ok (.aload_n 0, 1) := by decide +kernel
theorem d_MO_count_113 : decode b_MO_count 113 = .ok (.getfield 155, 3) := by decide +kernel
theorem d_MO_count_116 : decode b_MO_count 116 = .ok (.ifCond .ne 5, 3) := by decide +kernel
theorem d_MO_count_119 : decode b_MO_count 119 = .ok (.iconst (-1), 1) := by decide +kernel
theorem d_MO_count_120 : decode b_MO_count 120 = .ok (.ireturn, 1) := by decide +kernel
theorem d_MO_count_121 : decode b_MO_count 121 = .ok (.iload_n 1, 1) := by decide +kernel
theorem d_MO_count_122 : decode b_MO_count 122 = .ok (.bipush 6, 2) := by decide +kernel
theorem d_MO_count_124 : decode b_MO_count 124 = .ok (.if_icmp .ne 17, 3) := by decide +kernel
theorem d_MO_count_127 : decode b_MO_count 127 = .ok (.aload_n 0, 1) := by decide +kernel
theorem d_MO_count_128 : decode b_MO_count 128 = .ok (.getfield 55, 3) := by decide +kernel
theorem d_MO_count_131 : decode b_MO_count 131 = .ok (.aload_n 0, 1) := by decide +kernel
theorem d_MO_count_132 : decode b_MO_count 132 = .ok (.getfield 152, 3) := by decide +kernel
theorem d_MO_count_135 : decode b_MO_count 135 = .ok (.iconst 1, 1) := by decide +kernel
theorem d_MO_count_136 : decode b_MO_count 136 = .ok (.isub, 1) := by decide +kernel
theorem d_MO_count_137 : decode b_MO_count 137 = .ok (.iaload, 1) := by decide +kernel
theorem d_MO_count_138 : decode b_MO_count 138 = .ok (.goto 20, 3) := by decide +kernel
theorem d_MO_count_141 : decode b_MO_count 141 = .ok (.iload_n 1, 1) := by decide +kernel
theorem d_MO_count_142 : decode b_MO_count 142 = .ok (.bipush 7, 2) := by decide +kernel
theorem d_MO_count_144 : decode b_MO_count 144 = .ok (.if_icmp .ne 10, 3) := by decide +kernel
theorem d_MO_count_147 : decode b_MO_count 147 = .ok (.aload_n 0, 1) := by decide +kernel
theorem d_MO_count_148 : decode b_MO_count 148 = .ok (.invokevirtual 203, 3) := by decide +kernel
theorem d_MO_count_151 : decode b_MO_count 151 = .ok (.goto 7, 3) := by decide +kernel
theorem d_MO_count_154 : decode b_MO_count 154 = .ok (.aload_n 0, 1) := by decide +kernel
theorem d_MO_count_155 : decode b_MO_count 155 = .ok (.invokevirtual 207, 3) := by decide +kernel
theorem d_MO_count_158 : decode b_MO_count 158 = .ok (.ireturn, 1) := by decide +kernel
section Sites
variable {p : Program} {l : Launch} {e : Env} {R : Room} {s : State} {m : MethodId} {args : Array Value} {below : List Frame} {meth : Method} {c : Code} {H H0 : Heap} {locs : List Loc} {cells slots : Nat} {Q : State → Prop} {cc : ByteArray} {pc : Nat} {ls : Array Slot} {rest : List Value} {D : va_G} {A : Nat → Prop} {a : Nat} {TY : List (ClassId × FieldType)} {ws : va_W}
theorem gf_MO_121 (hx : p.tables.exec = Jvm.exec) (hb : c.code = cc) (hts : ∀ w ∈ wsG, w.before args s = true) (hown : s.vm.findClass R_MO = some m.cls) (hK : va_K D vwCl TY s) (hP : va_P D vwCl ws H) (q0 : Nat) {fs : List Value} (he : ws[q0]? = some (a, .inr (7, fs))) {v : Value} (hv : fs[16]? = some v) (hdg : decode cc pc = .ok (.getfield 121, 3)) (kk : W p l e R s m args below meth c H locs cells slots Q (F0 m (pc + 3) ls (v :: rest))) : W p l e R s m args below meth c H locs cells slots Q (F0 m pc ls (.ref a :: rest)) :=
  va_get (D := D) (ci := 7) (C := R_MO) (T := F_MO) (N := 41) hx hb hts i_MO hown hK hP q0 he rfl 16 (by decide) (hts _ k_30) (fun _ h9 => h9) hv hdg kk
theorem cw_MO_180 {rm : Room} (hts : ∀ w ∈ wsG, w.before args s = true) (hR : rm.frames + 1 ≤ R.frames ∧ 8 + (4 + 11) + rm.locals ≤ R.locals) : CallW R s args R_MO R_MO 180 y_MO_walk b_MO_walk 4 none (.code y_MO_walk b_MO_walk 4 none :: wsG) rm rm.cells rm.slots 0 :=
  ky_cwV 0 hts k_117 k_118 k_119 k_120 k_51 (by decide +kernel) hR
theorem cw_MO_183 {rm : Room} (hts : ∀ w ∈ wsG, w.before args s = true) (hR : rm.frames + 1 ≤ R.frames ∧ 8 + (7 + 11) + rm.locals ≤ R.locals) : CallW R s args R_MO R_MO 183 y_MO_partAll b_MO_partAll 7 none (.code y_MO_partAll b_MO_partAll 7 none :: wsG) rm rm.cells rm.slots 0 :=
  ky_cwV 0 hts k_121 k_122 k_123 k_124 k_51 (by decide +kernel) hR
theorem cw_MO_186 {rm : Room} (hts : ∀ w ∈ wsG, w.before args s = true) (hR : rm.frames + 1 ≤ R.frames ∧ 8 + (3 + 11) + rm.locals ≤ R.locals) : CallW R s args R_MO R_MO 186 y_MO_findClasses b_MO_findClasses 3 none (.code y_MO_findClasses b_MO_findClasses 3 none :: wsG) rm rm.cells rm.slots 0 :=
  ky_cwV 0 hts k_125 k_126 k_127 k_128 k_51 (by decide +kernel) hR
theorem cw_MO_189 {rm : Room} (hts : ∀ w ∈ wsG, w.before args s = true) (hR : rm.frames + 1 ≤ R.frames ∧ 8 + (3 + 11) + rm.locals ≤ R.locals) : CallW R s args R_MO R_MO 189 y_MO_work b_MO_work 3 none (.code y_MO_work b_MO_work 3 none :: wsG) rm rm.cells rm.slots 0 :=
  ky_cwV 0 hts k_129 k_130 k_131 k_132 k_51 (by decide +kernel) hR
theorem cw_MO_192 {rm : Room} (hts : ∀ w ∈ wsG, w.before args s = true) (hR : rm.frames + 1 ≤ R.frames ∧ 8 + (1 + 11) + rm.locals ≤ R.locals) : CallW R s args R_MO R_MO 192 y_MO_hasRoom b_MO_hasRoom 1 (some .boolean) (.code y_MO_hasRoom b_MO_hasRoom 1 (some .boolean) :: wsG) rm rm.cells rm.slots 0 :=
  ky_cwV 0 hts k_133 k_134 k_135 k_136 k_51 (by decide +kernel) hR
theorem cw_MO_196 {rm : Room} (hts : ∀ w ∈ wsG, w.before args s = true) (hR : rm.frames + 1 ≤ R.frames ∧ 8 + (6 + 11) + rm.locals ≤ R.locals) : CallW R s args R_MO R_MO 196 y_MO_parted b_MO_parted 6 (some .int) (.code y_MO_parted b_MO_parted 6 (some .int) :: wsG) rm rm.cells rm.slots 2 :=
  ky_cwV 2 hts k_137 k_138 k_139 k_140 k_51 (by decide +kernel) hR
theorem cw_MO_199 {rm : Room} (hts : ∀ w ∈ wsG, w.before args s = true) (hR : rm.frames + 1 ≤ R.frames ∧ 8 + (5 + 11) + rm.locals ≤ R.locals) : CallW R s args R_MO R_MO 199 y_MO_firstOf b_MO_firstOf 5 (some .int) (.code y_MO_firstOf b_MO_firstOf 5 (some .int) :: wsG) rm rm.cells rm.slots 3 :=
  ky_cwV 3 hts k_141 k_142 k_143 k_144 k_51 (by decide +kernel) hR
theorem cw_MO_207 {rm : Room} (hts : ∀ w ∈ wsG, w.before args s = true) (hR : rm.frames + 1 ≤ R.frames ∧ 8 + (5 + 11) + rm.locals ≤ R.locals) : CallW R s args R_MO R_MO 207 y_MO_stays b_MO_stays 5 (some .int) (.code y_MO_stays b_MO_stays 5 (some .int) :: wsG) rm rm.cells rm.slots 0 :=
  ky_cwV 0 hts k_145 k_146 k_147 k_148 k_51 (by decide +kernel) hR
theorem cw_MO_203 {rm : Room} (hts : ∀ w ∈ wsG, w.before args s = true) (hR : rm.frames + 1 ≤ R.frames ∧ 8 + (4 + 11) + rm.locals ≤ R.locals) : CallW R s args R_MO R_MO 203 y_MO_intoMany b_MO_intoMany 4 (some .int) (.code y_MO_intoMany b_MO_intoMany 4 (some .int) :: wsG) rm rm.cells rm.slots 0 :=
  ky_cwV 0 hts k_149 k_150 k_151 k_152 k_51 (by decide +kernel) hR
end Sites

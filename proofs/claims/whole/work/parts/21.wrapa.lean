abbrev b_LW_register : ByteArray := method_3_code
def y_LW_register : MethodName := ⟨R_LW, "register", "(LSmallExhaust;I[J)I"⟩
abbrev b_LW_input : ByteArray := method_4_code
def y_LW_input : MethodName := ⟨R_LW, "input", "(LSmallExhaust;III[J)I"⟩
abbrev b_LW_transfer : ByteArray := method_5_code
def y_LW_transfer : MethodName := ⟨R_LW, "transfer", "(LSmallExhaust;IIIII[J)I"⟩
abbrev b_LW_first : ByteArray := method_6_code
def y_LW_first : MethodName := ⟨R_LW, "first", "(LSmallExhaust;I[J)I"⟩
abbrev b_LW_step : ByteArray := method_7_code
def y_LW_step : MethodName := ⟨R_LW, "step", "(LSmallExhaust;II[J)I"⟩
abbrev b_LW_output : ByteArray := method_8_code
def y_LW_output : MethodName := ⟨R_LW, "output", "(LSmallExhaust;II[J)I"⟩
abbrev b_LW_walked : ByteArray := method_9_code
def y_LW_walked : MethodName := ⟨R_LW, "walked", "(LSmallExhaust;[J)I"⟩
abbrev b_LW_state : ByteArray := method_10_code
def y_LW_state : MethodName := ⟨R_LW, "state", "(LSmallExhaust;I[J)I"⟩
abbrev b_LW_number : ByteArray := method_11_code
def y_LW_number : MethodName := ⟨R_LW, "number", "(LSmallExhaust;I[J)I"⟩
abbrev b_LW_way : ByteArray := method_12_code
def y_LW_way : MethodName := ⟨R_LW, "way", "(LSmallExhaust;II[J)I"⟩
abbrev b_LW_alike : ByteArray := method_13_code
def y_LW_alike : MethodName := ⟨R_LW, "alike", "(LSmallExhaust;II[J)I"⟩
abbrev b_LW_word : ByteArray := method_14_code
def y_LW_word : MethodName := ⟨R_LW, "word", "(LSmallExhaust;III[J)I"⟩
abbrev b_LW_classes : ByteArray := method_15_code
def y_LW_classes : MethodName := ⟨R_LW, "classes", "(LSmallExhaust;[J)I"⟩
abbrev b_LW_classOf : ByteArray := method_16_code
def y_LW_classOf : MethodName := ⟨R_LW, "classOf", "(LSmallExhaust;I[J)I"⟩
abbrev b_LW_least : ByteArray := method_17_code
def y_LW_least : MethodName := ⟨R_LW, "least", "(LSmallExhaust;III[J)I"⟩
def kx_Fine2 (s0 : State) : Prop := (Cond.not (.castable (kx_nm 1) (kx_nm 3))).before #[] s0 = true ∧ (Cond.not (.castable (kx_nm 2) (kx_nm 1))).before #[] s0 = true ∧ (Cond.not (.castable (kx_nm 3) (kx_nm 1))).before #[] s0 = true ∧ (Cond.not (.castable (kx_nm 3) (kx_nm 2))).before #[] s0 = true ∧ (Cond.not (.castable (kx_nm 4) (kx_nm 1))).before #[] s0 = true ∧ (Cond.not (.castable (kx_nm 4) (kx_nm 3))).before #[] s0 = true
theorem kx_n1_3 {s0 : State} (h : kx_Fine2 s0) : (Cond.not (.castable (kx_nm 1) (kx_nm 3))).before #[] s0 = true := h.1
theorem kx_n2_1 {s0 : State} (h : kx_Fine2 s0) : (Cond.not (.castable (kx_nm 2) (kx_nm 1))).before #[] s0 = true := h.2.1
theorem kx_n3_1 {s0 : State} (h : kx_Fine2 s0) : (Cond.not (.castable (kx_nm 3) (kx_nm 1))).before #[] s0 = true := h.2.2.1
theorem kx_n3_2 {s0 : State} (h : kx_Fine2 s0) : (Cond.not (.castable (kx_nm 3) (kx_nm 2))).before #[] s0 = true := h.2.2.2.1
theorem kx_n4_1 {s0 : State} (h : kx_Fine2 s0) : (Cond.not (.castable (kx_nm 4) (kx_nm 1))).before #[] s0 = true := h.2.2.2.2.1
theorem kx_n4_3 {s0 : State} (h : kx_Fine2 s0) : (Cond.not (.castable (kx_nm 4) (kx_nm 3))).before #[] s0 = true := h.2.2.2.2.2
theorem kx_c1 {s0 s : State} (h : kx_Fine s0) (hS : kx_S s0 s) : (Cond.castable (kx_nm 1) (kx_nm 1)).before #[] s = true := kx_move hS rfl (kx_f1 h _ (by decide +kernel))
theorem kx_c2 {s0 s : State} (h : kx_Fine s0) (hS : kx_S s0 s) : (Cond.castable (kx_nm 2) (kx_nm 2)).before #[] s = true := kx_move hS rfl (kx_f2 h _ (by decide +kernel))
theorem kx_c3 {s0 s : State} (h : kx_Fine s0) (hS : kx_S s0 s) : (Cond.castable (kx_nm 3) (kx_nm 3)).before #[] s = true := kx_move hS rfl (kx_f3 h _ (by decide +kernel))
theorem kx_c4 {s0 s : State} (h : kx_Fine s0) (hS : kx_S s0 s) : (Cond.castable (kx_nm 4) (kx_nm 4)).before #[] s = true := kx_move hS rfl (kx_f4 h _ (by decide +kernel))
abbrev hs_LW_register : List (Nat × Nat × Nat × Nat) := [(0, 9, 12, 13), (0, 9, 15, 15), (0, 9, 18, 17)]
abbrev hs_LW_input : List (Nat × Nat × Nat × Nat) := [(0, 12, 15, 13), (0, 12, 19, 17)]
abbrev hs_LW_transfer : List (Nat × Nat × Nat × Nat) := [(0, 16, 19, 13), (0, 16, 23, 17)]
abbrev hs_LW_first : List (Nat × Nat × Nat × Nat) := [(0, 9, 12, 13)]
abbrev hs_LW_step : List (Nat × Nat × Nat × Nat) := [(0, 10, 13, 13)]
abbrev hs_LW_output : List (Nat × Nat × Nat × Nat) := [(0, 10, 13, 13)]
abbrev hs_LW_walked : List (Nat × Nat × Nat × Nat) := [(0, 8, 11, 17)]
abbrev hs_LW_state : List (Nat × Nat × Nat × Nat) := [(0, 9, 12, 17), (0, 9, 15, 44)]
abbrev hs_LW_number : List (Nat × Nat × Nat × Nat) := [(0, 9, 12, 17), (0, 9, 15, 13)]
abbrev hs_LW_way : List (Nat × Nat × Nat × Nat) := [(0, 10, 13, 17), (0, 10, 17, 44)]
abbrev hs_LW_alike : List (Nat × Nat × Nat × Nat) := [(0, 17, 20, 13)]
abbrev hs_LW_word : List (Nat × Nat × Nat × Nat) := [(0, 12, 15, 13), (0, 12, 19, 44)]
abbrev hs_LW_classes : List (Nat × Nat × Nat × Nat) := [(0, 8, 11, 17)]
abbrev hs_LW_classOf : List (Nat × Nat × Nat × Nat) := [(0, 9, 12, 17), (0, 9, 15, 44)]
abbrev hs_LW_least : List (Nat × Nat × Nat × Nat) := [(0, 12, 15, 17), (0, 12, 19, 44)]
theorem k_475 : Cond.classLink R_LW 13 "java/lang/IllegalArgumentException" ∈ wsG := by decide +kernel
theorem k_476 : Cond.classLink R_LW 15 "java/lang/IllegalStateException" ∈ wsG := by decide +kernel
theorem k_477 : Cond.classLink R_LW 17 "java/lang/UnsupportedOperationException" ∈ wsG := by decide +kernel
theorem k_478 : Cond.classLink R_LW 44 "java/lang/IndexOutOfBoundsException" ∈ wsG := by decide +kernel
theorem k_479 : Cond.code y_SE_register b_SE_register 2 (some .int) ∈ wsG := by decide +kernel
theorem k_480 : Cond.methodLink R_LW 7 y_SE_register ∈ wsG := by decide +kernel
theorem k_481 : Cond.instanceMethod y_SE_register ∈ wsG := by decide +kernel
theorem k_482 : Cond.selects R_SE y_SE_register y_SE_register ∈ wsG := by decide +kernel
theorem k_483 : Cond.code y_SE_input b_SE_input 4 (some .int) ∈ wsG := by decide +kernel
theorem k_484 : Cond.methodLink R_LW 19 y_SE_input ∈ wsG := by decide +kernel
theorem k_485 : Cond.instanceMethod y_SE_input ∈ wsG := by decide +kernel
theorem k_486 : Cond.selects R_SE y_SE_input y_SE_input ∈ wsG := by decide +kernel
theorem k_487 : Cond.code y_SE_transfer b_SE_transfer 6 (some .int) ∈ wsG := by decide +kernel
theorem k_488 : Cond.methodLink R_LW 23 y_SE_transfer ∈ wsG := by decide +kernel
theorem k_489 : Cond.instanceMethod y_SE_transfer ∈ wsG := by decide +kernel
theorem k_490 : Cond.selects R_SE y_SE_transfer y_SE_transfer ∈ wsG := by decide +kernel
theorem k_491 : Cond.code y_SE_first b_SE_first 3 (some .int) ∈ wsG := by decide +kernel
theorem k_492 : Cond.methodLink R_LW 27 y_SE_first ∈ wsG := by decide +kernel
theorem k_493 : Cond.instanceMethod y_SE_first ∈ wsG := by decide +kernel
theorem k_494 : Cond.selects R_SE y_SE_first y_SE_first ∈ wsG := by decide +kernel
theorem k_495 : Cond.code y_SE_step b_SE_step 3 (some .int) ∈ wsG := by decide +kernel
theorem k_496 : Cond.methodLink R_LW 30 y_SE_step ∈ wsG := by decide +kernel
theorem k_497 : Cond.instanceMethod y_SE_step ∈ wsG := by decide +kernel
theorem k_498 : Cond.selects R_SE y_SE_step y_SE_step ∈ wsG := by decide +kernel
theorem k_499 : Cond.code y_SE_output b_SE_output 3 (some .int) ∈ wsG := by decide +kernel
theorem k_500 : Cond.methodLink R_LW 34 y_SE_output ∈ wsG := by decide +kernel
theorem k_501 : Cond.instanceMethod y_SE_output ∈ wsG := by decide +kernel
theorem k_502 : Cond.selects R_SE y_SE_output y_SE_output ∈ wsG := by decide +kernel
theorem k_503 : Cond.code y_SE_walked b_SE_walked 1 (some .int) ∈ wsG := by decide +kernel
theorem k_504 : Cond.methodLink R_LW 37 y_SE_walked ∈ wsG := by decide +kernel
theorem k_505 : Cond.instanceMethod y_SE_walked ∈ wsG := by decide +kernel
theorem k_506 : Cond.selects R_SE y_SE_walked y_SE_walked ∈ wsG := by decide +kernel
theorem k_507 : Cond.code y_SE_state b_SE_state 2 (some .int) ∈ wsG := by decide +kernel
theorem k_508 : Cond.methodLink R_LW 41 y_SE_state ∈ wsG := by decide +kernel
theorem k_509 : Cond.instanceMethod y_SE_state ∈ wsG := by decide +kernel
theorem k_510 : Cond.selects R_SE y_SE_state y_SE_state ∈ wsG := by decide +kernel
theorem k_511 : Cond.code y_SE_number b_SE_number 2 (some .int) ∈ wsG := by decide +kernel
theorem k_512 : Cond.methodLink R_LW 46 y_SE_number ∈ wsG := by decide +kernel
theorem k_513 : Cond.instanceMethod y_SE_number ∈ wsG := by decide +kernel
theorem k_514 : Cond.selects R_SE y_SE_number y_SE_number ∈ wsG := by decide +kernel
theorem k_515 : Cond.code y_SE_way b_SE_way 3 (some .int) ∈ wsG := by decide +kernel
theorem k_516 : Cond.methodLink R_LW 49 y_SE_way ∈ wsG := by decide +kernel
theorem k_517 : Cond.instanceMethod y_SE_way ∈ wsG := by decide +kernel
theorem k_518 : Cond.selects R_SE y_SE_way y_SE_way ∈ wsG := by decide +kernel
theorem k_519 : Cond.code y_SE_alike b_SE_alike 3 (some .boolean) ∈ wsG := by decide +kernel
theorem k_520 : Cond.methodLink R_LW 52 y_SE_alike ∈ wsG := by decide +kernel
theorem k_521 : Cond.instanceMethod y_SE_alike ∈ wsG := by decide +kernel
theorem k_522 : Cond.selects R_SE y_SE_alike y_SE_alike ∈ wsG := by decide +kernel
theorem k_523 : Cond.code y_SE_word b_SE_word 4 (some .int) ∈ wsG := by decide +kernel
theorem k_524 : Cond.methodLink R_LW 56 y_SE_word ∈ wsG := by decide +kernel
theorem k_525 : Cond.instanceMethod y_SE_word ∈ wsG := by decide +kernel
theorem k_526 : Cond.selects R_SE y_SE_word y_SE_word ∈ wsG := by decide +kernel
theorem k_527 : Cond.code y_SE_classes b_SE_classes 1 (some .int) ∈ wsG := by decide +kernel
theorem k_528 : Cond.methodLink R_LW 59 y_SE_classes ∈ wsG := by decide +kernel
theorem k_529 : Cond.instanceMethod y_SE_classes ∈ wsG := by decide +kernel
theorem k_530 : Cond.selects R_SE y_SE_classes y_SE_classes ∈ wsG := by decide +kernel
theorem k_531 : Cond.code y_SE_classOf b_SE_classOf 2 (some .int) ∈ wsG := by decide +kernel
theorem k_532 : Cond.methodLink R_LW 62 y_SE_classOf ∈ wsG := by decide +kernel
theorem k_533 : Cond.instanceMethod y_SE_classOf ∈ wsG := by decide +kernel
theorem k_534 : Cond.selects R_SE y_SE_classOf y_SE_classOf ∈ wsG := by decide +kernel
theorem k_535 : Cond.code y_SE_least b_SE_least 5 (some .int) ∈ wsG := by decide +kernel
theorem k_536 : Cond.methodLink R_LW 65 y_SE_least ∈ wsG := by decide +kernel
theorem k_537 : Cond.instanceMethod y_SE_least ∈ wsG := by decide +kernel
theorem k_538 : Cond.selects R_SE y_SE_least y_SE_least ∈ wsG := by decide +kernel
theorem d_LW_register_0 : decode b_LW_register 0 = .ok (.aload_n 2, 1) := by decide +kernel
theorem d_LW_register_1 : decode b_LW_register 1 = .ok (.iconst 0, 1) := by decide +kernel
theorem d_LW_register_2 : decode b_LW_register 2 = .ok (.aload_n 0, 1) := by decide +kernel
theorem d_LW_register_3 : decode b_LW_register 3 = .ok (.iload_n 1, 1) := by decide +kernel
theorem d_LW_register_4 : decode b_LW_register 4 = .ok (.invokevirtual 7, 3) := by decide +kernel
theorem d_LW_register_7 : decode b_LW_register 7 = .ok (.i2l, 1) := by decide +kernel
theorem d_LW_register_8 : decode b_LW_register 8 = .ok (.lastore, 1) := by decide +kernel
theorem d_LW_register_9 : decode b_LW_register 9 = .ok (.goto 12, 3) := by decide +kernel
theorem d_LW_register_12 : decode b_LW_register 12 = .ok (.astore_n 3, 1) := by decide +kernel
theorem d_LW_register_13 : decode b_LW_register 13 = .ok (.iconst 1, 1) := by decide +kernel
theorem d_LW_register_14 : decode b_LW_register 14 = .ok (.ireturn, 1) := by decide +kernel
theorem d_LW_register_15 : decode b_LW_register 15 = .ok (.astore_n 3, 1) := by decide +kernel
theorem d_LW_register_16 : decode b_LW_register 16 = .ok (.iconst 2, 1) := by decide +kernel
theorem d_LW_register_17 : decode b_LW_register 17 = .ok (.ireturn, 1) := by decide +kernel
theorem d_LW_register_18 : decode b_LW_register 18 = .ok (.astore_n 3, 1) := by decide +kernel
theorem d_LW_register_19 : decode b_LW_register 19 = .ok (.iconst 3, 1) := by decide +kernel
theorem d_LW_register_20 : decode b_LW_register 20 = .ok (.ireturn, 1) := by decide +kernel
theorem d_LW_register_21 : decode b_LW_register 21 = .ok (.iconst 0, 1) := by decide +kernel
theorem d_LW_register_22 : decode b_LW_register 22 = .ok (.ireturn, 1) := by decide +kernel
theorem d_LW_input_0 : decode b_LW_input 0 = .ok (.aload 4, 2) := by decide +kernel
theorem d_LW_input_2 : decode b_LW_input 2 = .ok (.iconst 0, 1) := by decide +kernel
theorem d_LW_input_3 : decode b_LW_input 3 = .ok (.aload_n 0, 1) := by decide +kernel
theorem d_LW_input_4 : decode b_LW_input 4 = .ok (.iload_n 1, 1) := by decide +kernel
theorem d_LW_input_5 : decode b_LW_input 5 = .ok (.iload_n 2, 1) := by decide +kernel
theorem d_LW_input_6 : decode b_LW_input 6 = .ok (.iload_n 3, 1) := by decide +kernel
theorem d_LW_input_7 : decode b_LW_input 7 = .ok (.invokevirtual 19, 3) := by decide +kernel
theorem d_LW_input_10 : decode b_LW_input 10 = .ok (.i2l, 1) := by decide +kernel
theorem d_LW_input_11 : decode b_LW_input 11 = .ok (.lastore, 1) := by decide +kernel
theorem d_LW_input_12 : decode b_LW_input 12 = .ok (.goto 11, 3) := by decide +kernel
theorem d_LW_input_15 : decode b_LW_input 15 = .ok (.astore 5, 2) := by decide +kernel
theorem d_LW_input_17 : decode b_LW_input 17 = .ok (.iconst 1, 1) := by decide +kernel
theorem d_LW_input_18 : decode b_LW_input 18 = .ok (.ireturn, 1) := by decide +kernel
theorem d_LW_input_19 : decode b_LW_input 19 = .ok (.astore 5, 2) := by decide +kernel
theorem d_LW_input_21 : decode b_LW_input 21 = .ok (.iconst 2, 1) := by decide +kernel
theorem d_LW_input_22 : decode b_LW_input 22 = .ok (.ireturn, 1) := by decide +kernel
theorem d_LW_input_23 : decode b_LW_input 23 = .ok (.iconst 0, 1) := by decide +kernel
theorem d_LW_input_24 : decode b_LW_input 24 = .ok (.ireturn, 1) := by decide +kernel
theorem d_LW_transfer_0 : decode b_LW_transfer 0 = .ok (.aload 6, 2) := by decide +kernel
theorem d_LW_transfer_2 : decode b_LW_transfer 2 = .ok (.iconst 0, 1) := by decide +kernel
theorem d_LW_transfer_3 : decode b_LW_transfer 3 = .ok (.aload_n 0, 1) := by decide +kernel
theorem d_LW_transfer_4 : decode b_LW_transfer 4 = .ok (.iload_n 1, 1) := by decide +kernel
theorem d_LW_transfer_5 : decode b_LW_transfer 5 = .ok (.iload_n 2, 1) := by decide +kernel
theorem d_LW_transfer_6 : decode b_LW_transfer 6 = .ok (.iload_n 3, 1) := by decide +kernel
theorem d_LW_transfer_7 : decode b_LW_transfer 7 = .ok (.iload 4, 2) := by decide +kernel
theorem d_LW_transfer_9 : decode b_LW_transfer 9 = .ok (.iload 5, 2) := by decide +kernel
theorem d_LW_transfer_11 : decode b_LW_transfer 11 = .ok (.invokevirtual 23, 3) := by decide +kernel
theorem d_LW_transfer_14 : decode b_LW_transfer 14 = .ok (.i2l, 1) := by decide +kernel
theorem d_LW_transfer_15 : decode b_LW_transfer 15 = .ok (.lastore, 1) := by decide +kernel
theorem d_LW_transfer_16 : decode b_LW_transfer 16 = .ok (.goto 11, 3) := by decide +kernel
theorem d_LW_transfer_19 : decode b_LW_transfer 19 = .ok (.astore 7, 2) := by decide +kernel
theorem d_LW_transfer_21 : decode b_LW_transfer 21 = .ok (.iconst 1, 1) := by decide +kernel
theorem d_LW_transfer_22 : decode b_LW_transfer 22 = .ok (.ireturn, 1) := by decide +kernel
theorem d_LW_transfer_23 : decode b_LW_transfer 23 = .ok (.astore 7, 2) := by decide +kernel
theorem d_LW_transfer_25 : decode b_LW_transfer 25 = .ok (.iconst 2, 1) := by decide +kernel
theorem d_LW_transfer_26 : decode b_LW_transfer 26 = .ok (.ireturn, 1) := by decide +kernel
theorem d_LW_transfer_27 : decode b_LW_transfer 27 = .ok (.iconst 0, 1) := by decide +kernel
theorem d_LW_transfer_28 : decode b_LW_transfer 28 = .ok (.ireturn, 1) := by decide +kernel
theorem d_LW_first_0 : decode b_LW_first 0 = .ok (.aload_n 2, 1) := by decide +kernel
theorem d_LW_first_1 : decode b_LW_first 1 = .ok (.iconst 0, 1) := by decide +kernel
theorem d_LW_first_2 : decode b_LW_first 2 = .ok (.aload_n 0, 1) := by decide +kernel
theorem d_LW_first_3 : decode b_LW_first 3 = .ok (.iload_n 1, 1) := by decide +kernel
theorem d_LW_first_4 : decode b_LW_first 4 = .ok (.invokevirtual 27, 3) := by decide +kernel
theorem d_LW_first_7 : decode b_LW_first 7 = .ok (.i2l, 1) := by decide +kernel
theorem d_LW_first_8 : decode b_LW_first 8 = .ok (.lastore, 1) := by decide +kernel
theorem d_LW_first_9 : decode b_LW_first 9 = .ok (.goto 6, 3) := by decide +kernel
theorem d_LW_first_12 : decode b_LW_first 12 = .ok (.astore_n 3, 1) := by decide +kernel
theorem d_LW_first_13 : decode b_LW_first 13 = .ok (.iconst 1, 1) := by decide +kernel
theorem d_LW_first_14 : decode b_LW_first 14 = .ok (.ireturn, 1) := by decide +kernel
theorem d_LW_first_15 : decode b_LW_first 15 = .ok (.iconst 0, 1) := by decide +kernel
theorem d_LW_first_16 : decode b_LW_first 16 = .ok (.ireturn, 1) := by decide +kernel
theorem d_LW_step_0 : decode b_LW_step 0 = .ok (.aload_n 3, 1) := by decide +kernel
theorem d_LW_step_1 : decode b_LW_step 1 = .ok (.iconst 0, 1) := by decide +kernel
theorem d_LW_step_2 : decode b_LW_step 2 = .ok (.aload_n 0, 1) := by decide +kernel
theorem d_LW_step_3 : decode b_LW_step 3 = .ok (.iload_n 1, 1) := by decide +kernel
theorem d_LW_step_4 : decode b_LW_step 4 = .ok (.iload_n 2, 1) := by decide +kernel
theorem d_LW_step_5 : decode b_LW_step 5 = .ok (.invokevirtual 30, 3) := by decide +kernel
theorem d_LW_step_8 : decode b_LW_step 8 = .ok (.i2l, 1) := by decide +kernel
theorem d_LW_step_9 : decode b_LW_step 9 = .ok (.lastore, 1) := by decide +kernel
theorem d_LW_step_10 : decode b_LW_step 10 = .ok (.goto 7, 3) := by decide +kernel
theorem d_LW_step_13 : decode b_LW_step 13 = .ok (.astore 4, 2) := by decide +kernel
theorem d_LW_step_15 : decode b_LW_step 15 = .ok (.iconst 1, 1) := by decide +kernel
theorem d_LW_step_16 : decode b_LW_step 16 = .ok (.ireturn, 1) := by decide +kernel
theorem d_LW_step_17 : decode b_LW_step 17 = .ok (.iconst 0, 1) := by decide +kernel
theorem d_LW_step_18 : decode b_LW_step 18 = .ok (.ireturn, 1) := by decide +kernel
theorem d_LW_output_0 : decode b_LW_output 0 = .ok (.aload_n 3, 1) := by decide +kernel
theorem d_LW_output_1 : decode b_LW_output 1 = .ok (.iconst 0, 1) := by decide +kernel
theorem d_LW_output_2 : decode b_LW_output 2 = .ok (.aload_n 0, 1) := by decide +kernel
theorem d_LW_output_3 : decode b_LW_output 3 = .ok (.iload_n 1, 1) := by decide +kernel
theorem d_LW_output_4 : decode b_LW_output 4 = .ok (.iload_n 2, 1) := by decide +kernel
theorem d_LW_output_5 : decode b_LW_output 5 = .ok (.invokevirtual 34, 3) := by decide +kernel
theorem d_LW_output_8 : decode b_LW_output 8 = .ok (.i2l, 1) := by decide +kernel
theorem d_LW_output_9 : decode b_LW_output 9 = .ok (.lastore, 1) := by decide +kernel
theorem d_LW_output_10 : decode b_LW_output 10 = .ok (.goto 7, 3) := by decide +kernel
theorem d_LW_output_13 : decode b_LW_output 13 = .ok (.astore 4, 2) := by decide +kernel
theorem d_LW_output_15 : decode b_LW_output 15 = .ok (.iconst 1, 1) := by decide +kernel
theorem d_LW_output_16 : decode b_LW_output 16 = .ok (.ireturn, 1) := by decide +kernel
theorem d_LW_output_17 : decode b_LW_output 17 = .ok (.iconst 0, 1) := by decide +kernel
theorem d_LW_output_18 : decode b_LW_output 18 = .ok (.ireturn, 1) := by decide +kernel
theorem d_LW_walked_0 : decode b_LW_walked 0 = .ok (.aload_n 1, 1) := by decide +kernel
theorem d_LW_walked_1 : decode b_LW_walked 1 = .ok (.iconst 0, 1) := by decide +kernel
theorem d_LW_walked_2 : decode b_LW_walked 2 = .ok (.aload_n 0, 1) := by decide +kernel
theorem d_LW_walked_3 : decode b_LW_walked 3 = .ok (.invokevirtual 37, 3) := by decide +kernel
theorem d_LW_walked_6 : decode b_LW_walked 6 = .ok (.i2l, 1) := by decide +kernel
theorem d_LW_walked_7 : decode b_LW_walked 7 = .ok (.lastore, 1) := by decide +kernel
theorem d_LW_walked_8 : decode b_LW_walked 8 = .ok (.goto 6, 3) := by decide +kernel
theorem d_LW_walked_11 : decode b_LW_walked 11 = .ok (.astore_n 2, 1) := by decide +kernel
theorem d_LW_walked_12 : decode b_LW_walked 12 = .ok (.iconst 1, 1) := by decide +kernel
theorem d_LW_walked_13 : decode b_LW_walked 13 = .ok (.ireturn, 1) := by decide +kernel
theorem d_LW_walked_14 : decode b_LW_walked 14 = .ok (.iconst 0, 1) := by decide +kernel
theorem d_LW_walked_15 : decode b_LW_walked 15 = .ok (.ireturn, 1) := by decide +kernel
theorem d_LW_state_0 : decode b_LW_state 0 = .ok (.aload_n 2, 1) := by decide +kernel
theorem d_LW_state_1 : decode b_LW_state 1 = .ok (.iconst 0, 1) := by decide +kernel
theorem d_LW_state_2 : decode b_LW_state 2 = .ok (.aload_n 0, 1) := by decide +kernel
theorem d_LW_state_3 : decode b_LW_state 3 = .ok (.iload_n 1, 1) := by decide +kernel
theorem d_LW_state_4 : decode b_LW_state 4 = .ok (.invokevirtual 41, 3) := by decide +kernel
theorem d_LW_state_7 : decode b_LW_state 7 = .ok (.i2l, 1) := by decide +kernel
theorem d_LW_state_8 : decode b_LW_state 8 = .ok (.lastore, 1) := by decide +kernel
theorem d_LW_state_9 : decode b_LW_state 9 = .ok (.goto 9, 3) := by decide +kernel
theorem d_LW_state_12 : decode b_LW_state 12 = .ok (.astore_n 3, 1) := by decide +kernel
theorem d_LW_state_13 : decode b_LW_state 13 = .ok (.iconst 1, 1) := by decide +kernel
theorem d_LW_state_14 : decode b_LW_state 14 = .ok (.ireturn, 1) := by decide +kernel
theorem d_LW_state_15 : decode b_LW_state 15 = .ok (.astore_n 3, 1) := by decide +kernel
theorem d_LW_state_16 : decode b_LW_state 16 = .ok (.iconst 2, 1) := by decide +kernel
theorem d_LW_state_17 : decode b_LW_state 17 = .ok (.ireturn, 1) := by decide +kernel
theorem d_LW_state_18 : decode b_LW_state 18 = .ok (.iconst 0, 1) := by decide +kernel
theorem d_LW_state_19 : decode b_LW_state 19 = .ok (.ireturn, 1) := by decide +kernel
theorem d_LW_number_0 : decode b_LW_number 0 = .ok (.aload_n 2, 1) := by decide +kernel
theorem d_LW_number_1 : decode b_LW_number 1 = .ok (.iconst 0, 1) := by decide +kernel
theorem d_LW_number_2 : decode b_LW_number 2 = .ok (.aload_n 0, 1) := by decide +kernel
theorem d_LW_number_3 : decode b_LW_number 3 = .ok (.iload_n 1, 1) := by decide +kernel
theorem d_LW_number_4 : decode b_LW_number 4 = .ok (.invokevirtual 46, 3) := by decide +kernel
theorem d_LW_number_7 : decode b_LW_number 7 = .ok (.i2l, 1) := by decide +kernel
theorem d_LW_number_8 : decode b_LW_number 8 = .ok (.lastore, 1) := by decide +kernel
theorem d_LW_number_9 : decode b_LW_number 9 = .ok (.goto 9, 3) := by decide +kernel
theorem d_LW_number_12 : decode b_LW_number 12 = .ok (.astore_n 3, 1) := by decide +kernel
theorem d_LW_number_13 : decode b_LW_number 13 = .ok (.iconst 1, 1) := by decide +kernel
theorem d_LW_number_14 : decode b_LW_number 14 = .ok (.ireturn, 1) := by decide +kernel
theorem d_LW_number_15 : decode b_LW_number 15 = .ok (.astore_n 3, 1) := by decide +kernel
theorem d_LW_number_16 : decode b_LW_number 16 = .ok (.iconst 2, 1) := by decide +kernel
theorem d_LW_number_17 : decode b_LW_number 17 = .ok (.ireturn, 1) := by decide +kernel
theorem d_LW_number_18 : decode b_LW_number 18 = .ok (.iconst 0, 1) := by decide +kernel
theorem d_LW_number_19 : decode b_LW_number 19 = .ok (.ireturn, 1) := by decide +kernel
theorem d_LW_way_0 : decode b_LW_way 0 = .ok (.aload_n 3, 1) := by decide +kernel
theorem d_LW_way_1 : decode b_LW_way 1 = .ok (.iconst 0, 1) := by decide +kernel
theorem d_LW_way_2 : decode b_LW_way 2 = .ok (.aload_n 0, 1) := by decide +kernel
theorem d_LW_way_3 : decode b_LW_way 3 = .ok (.iload_n 1, 1) := by decide +kernel
theorem d_LW_way_4 : decode b_LW_way 4 = .ok (.iload_n 2, 1) := by decide +kernel
theorem d_LW_way_5 : decode b_LW_way 5 = .ok (.invokevirtual 49, 3) := by decide +kernel
theorem d_LW_way_8 : decode b_LW_way 8 = .ok (.i2l, 1) := by decide +kernel
theorem d_LW_way_9 : decode b_LW_way 9 = .ok (.lastore, 1) := by decide +kernel
theorem d_LW_way_10 : decode b_LW_way 10 = .ok (.goto 11, 3) := by decide +kernel
theorem d_LW_way_13 : decode b_LW_way 13 = .ok (.astore 4, 2) := by decide +kernel
theorem d_LW_way_15 : decode b_LW_way 15 = .ok (.iconst 1, 1) := by decide +kernel
theorem d_LW_way_16 : decode b_LW_way 16 = .ok (.ireturn, 1) := by decide +kernel
theorem d_LW_way_17 : decode b_LW_way 17 = .ok (.astore 4, 2) := by decide +kernel
theorem d_LW_way_19 : decode b_LW_way 19 = .ok (.iconst 2, 1) := by decide +kernel
theorem d_LW_way_20 : decode b_LW_way 20 = .ok (.ireturn, 1) := by decide +kernel
theorem d_LW_way_21 : decode b_LW_way 21 = .ok (.iconst 0, 1) := by decide +kernel
theorem d_LW_way_22 : decode b_LW_way 22 = .ok (.ireturn, 1) := by decide +kernel
theorem d_LW_alike_0 : decode b_LW_alike 0 = .ok (.aload_n 3, 1) := by decide +kernel
theorem d_LW_alike_1 : decode b_LW_alike 1 = .ok (.iconst 0, 1) := by decide +kernel
theorem d_LW_alike_2 : decode b_LW_alike 2 = .ok (.aload_n 0, 1) := by decide +kernel
theorem d_LW_alike_3 : decode b_LW_alike 3 = .ok (.iload_n 1, 1) := by decide +kernel
theorem d_LW_alike_4 : decode b_LW_alike 4 = .ok (.iload_n 2, 1) := by decide +kernel
theorem d_LW_alike_5 : decode b_LW_alike 5 = .ok (.invokevirtual 52, 3) := by decide +kernel
theorem d_LW_alike_8 : decode b_LW_alike 8 = .ok (.ifCond .eq 7, 3) := by decide +kernel
theorem d_LW_alike_11 : decode b_LW_alike 11 = .ok (.lconst 1, 1) := by decide +kernel
theorem d_LW_alike_12 : decode b_LW_alike 12 = .ok (.goto 4, 3) := by decide +kernel
theorem d_LW_alike_15 : decode b_LW_alike 15 = .ok (.lconst 0, 1) := by decide +kernel
theorem d_LW_alike_16 : decode b_LW_alike 16 = .ok (.lastore, 1) := by decide +kernel
theorem d_LW_alike_17 : decode b_LW_alike 17 = .ok (.goto 7, 3) := by decide +kernel
theorem d_LW_alike_20 : decode b_LW_alike 20 = .ok (.astore 4, 2) := by decide +kernel
theorem d_LW_alike_22 : decode b_LW_alike 22 = .ok (.iconst 1, 1) := by decide +kernel
theorem d_LW_alike_23 : decode b_LW_alike 23 = .ok (.ireturn, 1) := by decide +kernel
theorem d_LW_alike_24 : decode b_LW_alike 24 = .ok (.iconst 0, 1) := by decide +kernel
theorem d_LW_alike_25 : decode b_LW_alike 25 = .ok (.ireturn, 1) := by decide +kernel
theorem d_LW_word_0 : decode b_LW_word 0 = .ok (.aload 4, 2) := by decide +kernel
theorem d_LW_word_2 : decode b_LW_word 2 = .ok (.iconst 0, 1) := by decide +kernel
theorem d_LW_word_3 : decode b_LW_word 3 = .ok (.aload_n 0, 1) := by decide +kernel
theorem d_LW_word_4 : decode b_LW_word 4 = .ok (.iload_n 1, 1) := by decide +kernel
theorem d_LW_word_5 : decode b_LW_word 5 = .ok (.iload_n 2, 1) := by decide +kernel
theorem d_LW_word_6 : decode b_LW_word 6 = .ok (.iload_n 3, 1) := by decide +kernel
theorem d_LW_word_7 : decode b_LW_word 7 = .ok (.invokevirtual 56, 3) := by decide +kernel
theorem d_LW_word_10 : decode b_LW_word 10 = .ok (.i2l, 1) := by decide +kernel
theorem d_LW_word_11 : decode b_LW_word 11 = .ok (.lastore, 1) := by decide +kernel
theorem d_LW_word_12 : decode b_LW_word 12 = .ok (.goto 11, 3) := by decide +kernel
theorem d_LW_word_15 : decode b_LW_word 15 = .ok (.astore 5, 2) := by decide +kernel
theorem d_LW_word_17 : decode b_LW_word 17 = .ok (.iconst 1, 1) := by decide +kernel
theorem d_LW_word_18 : decode b_LW_word 18 = .ok (.ireturn, 1) := by decide +kernel
theorem d_LW_word_19 : decode b_LW_word 19 = .ok (.astore 5, 2) := by decide +kernel
theorem d_LW_word_21 : decode b_LW_word 21 = .ok (.iconst 2, 1) := by decide +kernel
theorem d_LW_word_22 : decode b_LW_word 22 = .ok (.ireturn, 1) := by decide +kernel
theorem d_LW_word_23 : decode b_LW_word 23 = .ok (.iconst 0, 1) := by decide +kernel
theorem d_LW_word_24 : decode b_LW_word 24 = .ok (.ireturn, 1) := by decide +kernel
theorem d_LW_classes_0 : decode b_LW_classes 0 = .ok (.aload_n 1, 1) := by decide +kernel
theorem d_LW_classes_1 : decode b_LW_classes 1 = .ok (.iconst 0, 1) := by decide +kernel
theorem d_LW_classes_2 : decode b_LW_classes 2 = .ok (.aload_n 0, 1) := by decide +kernel
theorem d_LW_classes_3 : decode b_LW_classes 3 = .ok (.invokevirtual 59, 3) := by decide +kernel
theorem d_LW_classes_6 : decode b_LW_classes 6 = .ok (.i2l, 1) := by decide +kernel
theorem d_LW_classes_7 : decode b_LW_classes 7 = .ok (.lastore, 1) := by decide +kernel
theorem d_LW_classes_8 : decode b_LW_classes 8 = .ok (.goto 6, 3) := by decide +kernel
theorem d_LW_classes_11 : decode b_LW_classes 11 = .ok (.astore_n 2, 1) := by decide +kernel
theorem d_LW_classes_12 : decode b_LW_classes 12 = .ok (.iconst 1, 1) := by decide +kernel
theorem d_LW_classes_13 : decode b_LW_classes 13 = .ok (.ireturn, 1) := by decide +kernel
theorem d_LW_classes_14 : decode b_LW_classes 14 = .ok (.iconst 0, 1) := by decide +kernel
theorem d_LW_classes_15 : decode b_LW_classes 15 = .ok (.ireturn, 1) := by decide +kernel
theorem d_LW_classOf_0 : decode b_LW_classOf 0 = .ok (.aload_n 2, 1) := by decide +kernel
theorem d_LW_classOf_1 : decode b_LW_classOf 1 = .ok (.iconst 0, 1) := by decide +kernel
theorem d_LW_classOf_2 : decode b_LW_classOf 2 = .ok (.aload_n 0, 1) := by decide +kernel
theorem d_LW_classOf_3 : decode b_LW_classOf 3 = .ok (.iload_n 1, 1) := by decide +kernel
theorem d_LW_classOf_4 : decode b_LW_classOf 4 = .ok (.invokevirtual 62, 3) := by decide +kernel
theorem d_LW_classOf_7 : decode b_LW_classOf 7 = .ok (.i2l, 1) := by decide +kernel
theorem d_LW_classOf_8 : decode b_LW_classOf 8 = .ok (.lastore, 1) := by decide +kernel
theorem d_LW_classOf_9 : decode b_LW_classOf 9 = .ok (.goto 9, 3) := by decide +kernel
theorem d_LW_classOf_12 : decode b_LW_classOf 12 = .ok (.astore_n 3, 1) := by decide +kernel
theorem d_LW_classOf_13 : decode b_LW_classOf 13 = .ok (.iconst 1, 1) := by decide +kernel
theorem d_LW_classOf_14 : decode b_LW_classOf 14 = .ok (.ireturn, 1) := by decide +kernel
theorem d_LW_classOf_15 : decode b_LW_classOf 15 = .ok (.astore_n 3, 1) := by decide +kernel
theorem d_LW_classOf_16 : decode b_LW_classOf 16 = .ok (.iconst 2, 1) := by decide +kernel
theorem d_LW_classOf_17 : decode b_LW_classOf 17 = .ok (.ireturn, 1) := by decide +kernel
theorem d_LW_classOf_18 : decode b_LW_classOf 18 = .ok (.iconst 0, 1) := by decide +kernel
theorem d_LW_classOf_19 : decode b_LW_classOf 19 = .ok (.ireturn, 1) := by decide +kernel
theorem d_LW_least_0 : decode b_LW_least 0 = .ok (.aload 4, 2) := by decide +kernel
theorem d_LW_least_2 : decode b_LW_least 2 = .ok (.iconst 0, 1) := by decide +kernel
theorem d_LW_least_3 : decode b_LW_least 3 = .ok (.aload_n 0, 1) := by decide +kernel
theorem d_LW_least_4 : decode b_LW_least 4 = .ok (.iload_n 1, 1) := by decide +kernel
theorem d_LW_least_5 : decode b_LW_least 5 = .ok (.iload_n 2, 1) := by decide +kernel
theorem d_LW_least_6 : decode b_LW_least 6 = .ok (.iload_n 3, 1) := by decide +kernel
theorem d_LW_least_7 : decode b_LW_least 7 = .ok (.invokevirtual 65, 3) := by decide +kernel
theorem d_LW_least_10 : decode b_LW_least 10 = .ok (.i2l, 1) := by decide +kernel
theorem d_LW_least_11 : decode b_LW_least 11 = .ok (.lastore, 1) := by decide +kernel
theorem d_LW_least_12 : decode b_LW_least 12 = .ok (.goto 11, 3) := by decide +kernel
theorem d_LW_least_15 : decode b_LW_least 15 = .ok (.astore 5, 2) := by decide +kernel
theorem d_LW_least_17 : decode b_LW_least 17 = .ok (.iconst 1, 1) := by decide +kernel
theorem d_LW_least_18 : decode b_LW_least 18 = .ok (.ireturn, 1) := by decide +kernel
theorem d_LW_least_19 : decode b_LW_least 19 = .ok (.astore 5, 2) := by decide +kernel
theorem d_LW_least_21 : decode b_LW_least 21 = .ok (.iconst 2, 1) := by decide +kernel
theorem d_LW_least_22 : decode b_LW_least 22 = .ok (.ireturn, 1) := by decide +kernel
theorem d_LW_least_23 : decode b_LW_least 23 = .ok (.iconst 0, 1) := by decide +kernel
theorem d_LW_least_24 : decode b_LW_least 24 = .ok (.ireturn, 1) := by decide +kernel
section Sites
variable {p : Program} {l : Launch} {e : Env} {R : Room} {s : State} {m : MethodId} {args : Array Value} {below : List Frame} {meth : Method} {c : Code} {H H0 : Heap} {locs : List Loc} {cells slots : Nat} {Q : State → Prop} {cc : ByteArray} {pc : Nat} {ls : Array Slot} {rest : List Value} {D : va_G} {A : Nat → Prop} {a : Nat} {TY : List (ClassId × FieldType)} {ws : va_W}
theorem cw_LW_7 {rm : Room} (hts : ∀ w ∈ wsG, w.before args s = true) (hR : rm.frames + 1 ≤ R.frames ∧ 8 + (2 + 11) + rm.locals ≤ R.locals) : CallW R s args R_LW R_SE 7 y_SE_register b_SE_register 2 (some .int) (.code y_SE_register b_SE_register 2 (some .int) :: wsG) rm rm.cells rm.slots 1 :=
  ky_cwV 1 hts k_479 k_480 k_481 k_482 k_361 (by decide +kernel) hR
theorem cw_LW_19 {rm : Room} (hts : ∀ w ∈ wsG, w.before args s = true) (hR : rm.frames + 1 ≤ R.frames ∧ 8 + (4 + 11) + rm.locals ≤ R.locals) : CallW R s args R_LW R_SE 19 y_SE_input b_SE_input 4 (some .int) (.code y_SE_input b_SE_input 4 (some .int) :: wsG) rm rm.cells rm.slots 3 :=
  ky_cwV 3 hts k_483 k_484 k_485 k_486 k_361 (by decide +kernel) hR
theorem cw_LW_23 {rm : Room} (hts : ∀ w ∈ wsG, w.before args s = true) (hR : rm.frames + 1 ≤ R.frames ∧ 8 + (6 + 11) + rm.locals ≤ R.locals) : CallW R s args R_LW R_SE 23 y_SE_transfer b_SE_transfer 6 (some .int) (.code y_SE_transfer b_SE_transfer 6 (some .int) :: wsG) rm rm.cells rm.slots 5 :=
  ky_cwV 5 hts k_487 k_488 k_489 k_490 k_361 (by decide +kernel) hR
theorem cw_LW_27 {rm : Room} (hts : ∀ w ∈ wsG, w.before args s = true) (hR : rm.frames + 1 ≤ R.frames ∧ 8 + (3 + 11) + rm.locals ≤ R.locals) : CallW R s args R_LW R_SE 27 y_SE_first b_SE_first 3 (some .int) (.code y_SE_first b_SE_first 3 (some .int) :: wsG) rm rm.cells rm.slots 1 :=
  ky_cwV 1 hts k_491 k_492 k_493 k_494 k_361 (by decide +kernel) hR
theorem cw_LW_30 {rm : Room} (hts : ∀ w ∈ wsG, w.before args s = true) (hR : rm.frames + 1 ≤ R.frames ∧ 8 + (3 + 11) + rm.locals ≤ R.locals) : CallW R s args R_LW R_SE 30 y_SE_step b_SE_step 3 (some .int) (.code y_SE_step b_SE_step 3 (some .int) :: wsG) rm rm.cells rm.slots 2 :=
  ky_cwV 2 hts k_495 k_496 k_497 k_498 k_361 (by decide +kernel) hR
theorem cw_LW_34 {rm : Room} (hts : ∀ w ∈ wsG, w.before args s = true) (hR : rm.frames + 1 ≤ R.frames ∧ 8 + (3 + 11) + rm.locals ≤ R.locals) : CallW R s args R_LW R_SE 34 y_SE_output b_SE_output 3 (some .int) (.code y_SE_output b_SE_output 3 (some .int) :: wsG) rm rm.cells rm.slots 2 :=
  ky_cwV 2 hts k_499 k_500 k_501 k_502 k_361 (by decide +kernel) hR
theorem cw_LW_37 {rm : Room} (hts : ∀ w ∈ wsG, w.before args s = true) (hR : rm.frames + 1 ≤ R.frames ∧ 8 + (1 + 11) + rm.locals ≤ R.locals) : CallW R s args R_LW R_SE 37 y_SE_walked b_SE_walked 1 (some .int) (.code y_SE_walked b_SE_walked 1 (some .int) :: wsG) rm rm.cells rm.slots 0 :=
  ky_cwV 0 hts k_503 k_504 k_505 k_506 k_361 (by decide +kernel) hR
theorem cw_LW_41 {rm : Room} (hts : ∀ w ∈ wsG, w.before args s = true) (hR : rm.frames + 1 ≤ R.frames ∧ 8 + (2 + 11) + rm.locals ≤ R.locals) : CallW R s args R_LW R_SE 41 y_SE_state b_SE_state 2 (some .int) (.code y_SE_state b_SE_state 2 (some .int) :: wsG) rm rm.cells rm.slots 1 :=
  ky_cwV 1 hts k_507 k_508 k_509 k_510 k_361 (by decide +kernel) hR
theorem cw_LW_46 {rm : Room} (hts : ∀ w ∈ wsG, w.before args s = true) (hR : rm.frames + 1 ≤ R.frames ∧ 8 + (2 + 11) + rm.locals ≤ R.locals) : CallW R s args R_LW R_SE 46 y_SE_number b_SE_number 2 (some .int) (.code y_SE_number b_SE_number 2 (some .int) :: wsG) rm rm.cells rm.slots 1 :=
  ky_cwV 1 hts k_511 k_512 k_513 k_514 k_361 (by decide +kernel) hR
theorem cw_LW_49 {rm : Room} (hts : ∀ w ∈ wsG, w.before args s = true) (hR : rm.frames + 1 ≤ R.frames ∧ 8 + (3 + 11) + rm.locals ≤ R.locals) : CallW R s args R_LW R_SE 49 y_SE_way b_SE_way 3 (some .int) (.code y_SE_way b_SE_way 3 (some .int) :: wsG) rm rm.cells rm.slots 2 :=
  ky_cwV 2 hts k_515 k_516 k_517 k_518 k_361 (by decide +kernel) hR
theorem cw_LW_52 {rm : Room} (hts : ∀ w ∈ wsG, w.before args s = true) (hR : rm.frames + 1 ≤ R.frames ∧ 8 + (3 + 11) + rm.locals ≤ R.locals) : CallW R s args R_LW R_SE 52 y_SE_alike b_SE_alike 3 (some .boolean) (.code y_SE_alike b_SE_alike 3 (some .boolean) :: wsG) rm rm.cells rm.slots 2 :=
  ky_cwV 2 hts k_519 k_520 k_521 k_522 k_361 (by decide +kernel) hR
theorem cw_LW_56 {rm : Room} (hts : ∀ w ∈ wsG, w.before args s = true) (hR : rm.frames + 1 ≤ R.frames ∧ 8 + (4 + 11) + rm.locals ≤ R.locals) : CallW R s args R_LW R_SE 56 y_SE_word b_SE_word 4 (some .int) (.code y_SE_word b_SE_word 4 (some .int) :: wsG) rm rm.cells rm.slots 3 :=
  ky_cwV 3 hts k_523 k_524 k_525 k_526 k_361 (by decide +kernel) hR
theorem cw_LW_59 {rm : Room} (hts : ∀ w ∈ wsG, w.before args s = true) (hR : rm.frames + 1 ≤ R.frames ∧ 8 + (1 + 11) + rm.locals ≤ R.locals) : CallW R s args R_LW R_SE 59 y_SE_classes b_SE_classes 1 (some .int) (.code y_SE_classes b_SE_classes 1 (some .int) :: wsG) rm rm.cells rm.slots 0 :=
  ky_cwV 0 hts k_527 k_528 k_529 k_530 k_361 (by decide +kernel) hR
theorem cw_LW_62 {rm : Room} (hts : ∀ w ∈ wsG, w.before args s = true) (hR : rm.frames + 1 ≤ R.frames ∧ 8 + (2 + 11) + rm.locals ≤ R.locals) : CallW R s args R_LW R_SE 62 y_SE_classOf b_SE_classOf 2 (some .int) (.code y_SE_classOf b_SE_classOf 2 (some .int) :: wsG) rm rm.cells rm.slots 1 :=
  ky_cwV 1 hts k_531 k_532 k_533 k_534 k_361 (by decide +kernel) hR
theorem cw_LW_65 {rm : Room} (hts : ∀ w ∈ wsG, w.before args s = true) (hR : rm.frames + 1 ≤ R.frames ∧ 8 + (5 + 11) + rm.locals ≤ R.locals) : CallW R s args R_LW R_SE 65 y_SE_least b_SE_least 5 (some .int) (.code y_SE_least b_SE_least 5 (some .int) :: wsG) rm rm.cells rm.slots 3 :=
  ky_cwV 3 hts k_535 k_536 k_537 k_538 k_361 (by decide +kernel) hR
end Sites

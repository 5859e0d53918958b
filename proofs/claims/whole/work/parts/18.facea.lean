abbrev b_SE_forgetWalk : ByteArray := prog_1_method_24_code
def y_SE_forgetWalk : MethodName := ⟨R_SE, "forgetWalk", "()V"⟩
abbrev b_SE_forgetMachine : ByteArray := prog_1_method_25_code
def y_SE_forgetMachine : MethodName := ⟨R_SE, "forgetMachine", "()V"⟩
abbrev b_SE_register : ByteArray := prog_1_method_2_code
def y_SE_register : MethodName := ⟨R_SE, "register", "(I)I"⟩
abbrev b_SE_input : ByteArray := prog_1_method_3_code
def y_SE_input : MethodName := ⟨R_SE, "input", "(III)I"⟩
abbrev b_SE_transfer : ByteArray := prog_1_method_4_code
def y_SE_transfer : MethodName := ⟨R_SE, "transfer", "(IIIII)I"⟩
abbrev b_SE_needState : ByteArray := prog_1_method_19_code
def y_SE_needState : MethodName := ⟨R_SE, "needState", "(I)V"⟩
abbrev b_SE_first : ByteArray := prog_1_method_5_code
def y_SE_first : MethodName := ⟨R_SE, "first", "(I)I"⟩
abbrev b_SE_needInput : ByteArray := prog_1_method_20_code
def y_SE_needInput : MethodName := ⟨R_SE, "needInput", "(I)V"⟩
abbrev b_SE_step : ByteArray := prog_1_method_6_code
def y_SE_step : MethodName := ⟨R_SE, "step", "(II)I"⟩
abbrev b_SE_output : ByteArray := prog_1_method_7_code
def y_SE_output : MethodName := ⟨R_SE, "output", "(II)I"⟩
abbrev b_SE_needRoom : ByteArray := prog_1_method_21_code
def y_SE_needRoom : MethodName := ⟨R_SE, "needRoom", "()V"⟩
abbrev b_SE_walked : ByteArray := prog_1_method_8_code
def y_SE_walked : MethodName := ⟨R_SE, "walked", "()I"⟩
abbrev b_SE_needWalked : ByteArray := prog_1_method_22_code
def y_SE_needWalked : MethodName := ⟨R_SE, "needWalked", "(I)V"⟩
abbrev b_SE_state : ByteArray := prog_1_method_9_code
def y_SE_state : MethodName := ⟨R_SE, "state", "(I)I"⟩
abbrev b_SE_number : ByteArray := prog_1_method_10_code
def y_SE_number : MethodName := ⟨R_SE, "number", "(I)I"⟩
abbrev b_SE_needPlace : ByteArray := prog_1_method_23_code
def y_SE_needPlace : MethodName := ⟨R_SE, "needPlace", "(I)V"⟩
abbrev b_SE_way : ByteArray := prog_1_method_11_code
def y_SE_way : MethodName := ⟨R_SE, "way", "(II)I"⟩
abbrev b_SE_alike : ByteArray := prog_1_method_12_code
def y_SE_alike : MethodName := ⟨R_SE, "alike", "(II)Z"⟩
abbrev b_SE_word : ByteArray := prog_1_method_13_code
def y_SE_word : MethodName := ⟨R_SE, "word", "(III)I"⟩
abbrev b_SE_classes : ByteArray := prog_1_method_14_code
def y_SE_classes : MethodName := ⟨R_SE, "classes", "()I"⟩
abbrev b_SE_classOf : ByteArray := prog_1_method_15_code
def y_SE_classOf : MethodName := ⟨R_SE, "classOf", "(I)I"⟩
abbrev b_SE_least : ByteArray := prog_1_method_16_code
def y_SE_least : MethodName := ⟨R_SE, "least", "(III)I"⟩
abbrev b_SE_countWalk : ByteArray := prog_1_method_18_code
def y_SE_countWalk : MethodName := ⟨R_SE, "countWalk", "(I)I"⟩
abbrev b_SE_count : ByteArray := prog_1_method_17_code
def y_SE_count : MethodName := ⟨R_SE, "count", "(I)I"⟩
theorem k_363 : Cond.classLink R_SE 50 (kx_nm 1) ∈ wsG := by decide +kernel
theorem k_364 : Cond.instantiable (kx_nm 1) 6 ∈ wsG := by decide +kernel
theorem k_365 : Cond.initialized (kx_nm 1) ∈ wsG := by decide +kernel
theorem k_366 : Cond.classLink R_SE 71 (kx_nm 3) ∈ wsG := by decide +kernel
theorem k_367 : Cond.instantiable (kx_nm 3) 6 ∈ wsG := by decide +kernel
theorem k_368 : Cond.initialized (kx_nm 3) ∈ wsG := by decide +kernel
theorem k_369 : Cond.classLink R_SE 60 (kx_nm 2) ∈ wsG := by decide +kernel
theorem k_370 : Cond.instantiable (kx_nm 2) 6 ∈ wsG := by decide +kernel
theorem k_371 : Cond.initialized (kx_nm 2) ∈ wsG := by decide +kernel
theorem k_372 : Cond.classLink R_SE 182 (kx_nm 4) ∈ wsG := by decide +kernel
theorem k_373 : Cond.instantiable (kx_nm 4) 6 ∈ wsG := by decide +kernel
theorem k_374 : Cond.initialized (kx_nm 4) ∈ wsG := by decide +kernel
theorem k_375 : Cond.fieldLink R_SE 220 R_WA "stands" "Z" ∈ wsG := by decide +kernel
theorem k_376 : Cond.fieldLink R_SE 223 R_GR "stands" "Z" ∈ wsG := by decide +kernel
theorem k_377 : Cond.fieldLink R_SE 224 R_TE "stands" "Z" ∈ wsG := by decide +kernel
theorem k_378 : Cond.fieldLink R_SE 57 R_MA "inputs" "I" ∈ wsG := by decide +kernel
theorem k_379 : Cond.fieldLink R_SE 65 R_MA "registers" "I" ∈ wsG := by decide +kernel
theorem k_380 : Cond.fieldLink R_SE 68 R_MA "bits" "I" ∈ wsG := by decide +kernel
theorem k_381 : Cond.fieldLink R_SE 104 R_MA "rules" "[LSmallExhaust$Rule;" ∈ wsG := by decide +kernel
theorem k_382 : Cond.fieldLink R_SE 108 R_RU "transfers" "I" ∈ wsG := by decide +kernel
theorem k_383 : Cond.fieldLink R_SE 195 R_WA "fits" "Z" ∈ wsG := by decide +kernel
theorem k_384 : Cond.fieldLink R_SE 138 R_WA "size" "I" ∈ wsG := by decide +kernel
theorem k_385 : Cond.fieldLink R_SE 144 R_WA "order" "[I" ∈ wsG := by decide +kernel
theorem k_386 : Cond.fieldLink R_SE 148 R_WA "numberOf" "[I" ∈ wsG := by decide +kernel
theorem k_387 : Cond.fieldLink R_SE 154 R_WA "ways" "LSmallExhaust$Trail;" ∈ wsG := by decide +kernel
theorem k_388 : Cond.fieldLink R_SE 167 R_TE "apart" "Z" ∈ wsG := by decide +kernel
theorem k_389 : Cond.fieldLink R_SE 176 R_GR "groups" "I" ∈ wsG := by decide +kernel
theorem k_390 : Cond.fieldLink R_SE 179 R_GR "groupOf" "[I" ∈ wsG := by decide +kernel
theorem k_391 : Cond.fieldLink R_SE 187 R_GR "lowest" "[I" ∈ wsG := by decide +kernel
theorem k_392 : Cond.fieldLink R_SE 204 R_WA "resting" "I" ∈ wsG := by decide +kernel
theorem k_393 : Cond.fieldLink R_SE 201 R_WA "joined" "I" ∈ wsG := by decide +kernel
theorem k_394 : Cond.fieldLink R_SE 190 R_MA "transfers" "I" ∈ wsG := by decide +kernel
theorem k_395 : Cond.code y_SE_forgetWalk b_SE_forgetWalk 1 none ∈ wsG := by decide +kernel
theorem k_396 : Cond.methodLink R_SE 123 y_SE_forgetWalk ∈ wsG := by decide +kernel
theorem k_397 : Cond.instanceMethod y_SE_forgetWalk ∈ wsG := by decide +kernel
theorem k_398 : Cond.selects R_SE y_SE_forgetWalk y_SE_forgetWalk ∈ wsG := by decide +kernel
theorem k_399 : Cond.code y_SE_forgetMachine b_SE_forgetMachine 1 none ∈ wsG := by decide +kernel
theorem k_400 : Cond.methodLink R_SE 76 y_SE_forgetMachine ∈ wsG := by decide +kernel
theorem k_401 : Cond.instanceMethod y_SE_forgetMachine ∈ wsG := by decide +kernel
theorem k_402 : Cond.selects R_SE y_SE_forgetMachine y_SE_forgetMachine ∈ wsG := by decide +kernel
theorem k_403 : Cond.code y_MA_addRegister b_MA_addRegister 3 (some .int) ∈ wsG := by decide +kernel
theorem k_404 : Cond.methodLink R_SE 79 y_MA_addRegister ∈ wsG := by decide +kernel
theorem k_405 : Cond.instanceMethod y_MA_addRegister ∈ wsG := by decide +kernel
theorem k_406 : Cond.selects R_MA y_MA_addRegister y_MA_addRegister ∈ wsG := by decide +kernel
theorem k_407 : Cond.code y_MA_hasExpression b_MA_hasExpression 4 (some .boolean) ∈ wsG := by decide +kernel
theorem k_408 : Cond.methodLink R_SE 83 y_MA_hasExpression ∈ wsG := by decide +kernel
theorem k_409 : Cond.instanceMethod y_MA_hasExpression ∈ wsG := by decide +kernel
theorem k_410 : Cond.selects R_MA y_MA_hasExpression y_MA_hasExpression ∈ wsG := by decide +kernel
theorem k_411 : Cond.code y_MA_addInput b_MA_addInput 6 (some .int) ∈ wsG := by decide +kernel
theorem k_412 : Cond.methodLink R_SE 91 y_MA_addInput ∈ wsG := by decide +kernel
theorem k_413 : Cond.instanceMethod y_MA_addInput ∈ wsG := by decide +kernel
theorem k_414 : Cond.selects R_MA y_MA_addInput y_MA_addInput ∈ wsG := by decide +kernel
theorem k_415 : Cond.code y_MA_hasInput b_MA_hasInput 2 (some .boolean) ∈ wsG := by decide +kernel
theorem k_416 : Cond.methodLink R_SE 95 y_MA_hasInput ∈ wsG := by decide +kernel
theorem k_417 : Cond.instanceMethod y_MA_hasInput ∈ wsG := by decide +kernel
theorem k_418 : Cond.selects R_MA y_MA_hasInput y_MA_hasInput ∈ wsG := by decide +kernel
theorem k_419 : Cond.code y_MA_hasRegister b_MA_hasRegister 2 (some .boolean) ∈ wsG := by decide +kernel
theorem k_420 : Cond.methodLink R_SE 99 y_MA_hasRegister ∈ wsG := by decide +kernel
theorem k_421 : Cond.instanceMethod y_MA_hasRegister ∈ wsG := by decide +kernel
theorem k_422 : Cond.selects R_MA y_MA_hasRegister y_MA_hasRegister ∈ wsG := by decide +kernel
theorem k_423 : Cond.code y_MA_addTransfer b_MA_addTransfer 7 (some .int) ∈ wsG := by decide +kernel
theorem k_424 : Cond.methodLink R_SE 115 y_MA_addTransfer ∈ wsG := by decide +kernel
theorem k_425 : Cond.instanceMethod y_MA_addTransfer ∈ wsG := by decide +kernel
theorem k_426 : Cond.selects R_MA y_MA_addTransfer y_MA_addTransfer ∈ wsG := by decide +kernel
theorem k_427 : Cond.code y_MA_hasState b_MA_hasState 2 (some .boolean) ∈ wsG := by decide +kernel
theorem k_428 : Cond.methodLink R_SE 207 y_MA_hasState ∈ wsG := by decide +kernel
theorem k_429 : Cond.instanceMethod y_MA_hasState ∈ wsG := by decide +kernel
theorem k_430 : Cond.selects R_MA y_MA_hasState y_MA_hasState ∈ wsG := by decide +kernel
theorem k_431 : Cond.code y_SE_needState b_SE_needState 2 none ∈ wsG := by decide +kernel
theorem k_432 : Cond.methodLink R_SE 119 y_SE_needState ∈ wsG := by decide +kernel
theorem k_433 : Cond.instanceMethod y_SE_needState ∈ wsG := by decide +kernel
theorem k_434 : Cond.selects R_SE y_SE_needState y_SE_needState ∈ wsG := by decide +kernel
theorem k_435 : Cond.code y_SE_needInput b_SE_needInput 2 none ∈ wsG := by decide +kernel
theorem k_436 : Cond.methodLink R_SE 126 y_SE_needInput ∈ wsG := by decide +kernel
theorem k_437 : Cond.instanceMethod y_SE_needInput ∈ wsG := by decide +kernel
theorem k_438 : Cond.selects R_SE y_SE_needInput y_SE_needInput ∈ wsG := by decide +kernel
theorem k_439 : Cond.methodLink R_SE 129 y_MA_next ∈ wsG := by decide +kernel
theorem k_440 : Cond.methodLink R_SE 132 y_MA_given ∈ wsG := by decide +kernel
theorem k_441 : Cond.code y_WA_run b_WA_run 6 none ∈ wsG := by decide +kernel
theorem k_442 : Cond.methodLink R_SE 194 y_WA_run ∈ wsG := by decide +kernel
theorem k_443 : Cond.instanceMethod y_WA_run ∈ wsG := by decide +kernel
theorem k_444 : Cond.selects R_WA y_WA_run y_WA_run ∈ wsG := by decide +kernel
theorem k_445 : Cond.code y_SE_needRoom b_SE_needRoom 1 none ∈ wsG := by decide +kernel
theorem k_446 : Cond.methodLink R_SE 135 y_SE_needRoom ∈ wsG := by decide +kernel
theorem k_447 : Cond.instanceMethod y_SE_needRoom ∈ wsG := by decide +kernel
theorem k_448 : Cond.selects R_SE y_SE_needRoom y_SE_needRoom ∈ wsG := by decide +kernel
theorem k_449 : Cond.code y_SE_needWalked b_SE_needWalked 2 none ∈ wsG := by decide +kernel
theorem k_450 : Cond.methodLink R_SE 141 y_SE_needWalked ∈ wsG := by decide +kernel
theorem k_451 : Cond.instanceMethod y_SE_needWalked ∈ wsG := by decide +kernel
theorem k_452 : Cond.selects R_SE y_SE_needWalked y_SE_needWalked ∈ wsG := by decide +kernel
theorem k_453 : Cond.code y_SE_needPlace b_SE_needPlace 2 none ∈ wsG := by decide +kernel
theorem k_454 : Cond.methodLink R_SE 151 y_SE_needPlace ∈ wsG := by decide +kernel
theorem k_455 : Cond.instanceMethod y_SE_needPlace ∈ wsG := by decide +kernel
theorem k_456 : Cond.selects R_SE y_SE_needPlace y_SE_needPlace ∈ wsG := by decide +kernel
theorem k_457 : Cond.methodLink R_SE 158 y_TR_letter ∈ wsG := by decide +kernel
theorem k_458 : Cond.code y_TE_run b_TE_run 6 none ∈ wsG := by decide +kernel
theorem k_459 : Cond.methodLink R_SE 163 y_TE_run ∈ wsG := by decide +kernel
theorem k_460 : Cond.instanceMethod y_TE_run ∈ wsG := by decide +kernel
theorem k_461 : Cond.selects R_TE y_TE_run y_TE_run ∈ wsG := by decide +kernel
theorem k_462 : Cond.code y_TE_letter b_TE_letter 2 (some .int) ∈ wsG := by decide +kernel
theorem k_463 : Cond.methodLink R_SE 171 y_TE_letter ∈ wsG := by decide +kernel
theorem k_464 : Cond.instanceMethod y_TE_letter ∈ wsG := by decide +kernel
theorem k_465 : Cond.selects R_TE y_TE_letter y_TE_letter ∈ wsG := by decide +kernel
theorem k_466 : Cond.code y_GR_run b_GR_run 6 none ∈ wsG := by decide +kernel
theorem k_467 : Cond.methodLink R_SE 173 y_GR_run ∈ wsG := by decide +kernel
theorem k_468 : Cond.instanceMethod y_GR_run ∈ wsG := by decide +kernel
theorem k_469 : Cond.selects R_GR y_GR_run y_GR_run ∈ wsG := by decide +kernel
theorem k_470 : Cond.methodLink R_SE 198 y_TR_length ∈ wsG := by decide +kernel
theorem k_471 : Cond.code y_SE_countWalk b_SE_countWalk 2 (some .int) ∈ wsG := by decide +kernel
theorem k_472 : Cond.methodLink R_SE 191 y_SE_countWalk ∈ wsG := by decide +kernel
theorem k_473 : Cond.instanceMethod y_SE_countWalk ∈ wsG := by decide +kernel
theorem k_474 : Cond.selects R_SE y_SE_countWalk y_SE_countWalk ∈ wsG := by decide +kernel
theorem d_SE_forgetWalk_0 : decode b_SE_forgetWalk 0 = .ok (.aload_n 0, 1) := by decide +kernel
theorem d_SE_forgetWalk_1 : decode b_SE_forgetWalk 1 = .ok (.getfield 19, 3) := by decide +kernel
theorem d_SE_forgetWalk_4 : decode b_SE_forgetWalk 4 = .ok (.iconst 0, 1) := by decide +kernel
theorem d_SE_forgetWalk_5 : decode b_SE_forgetWalk 5 = .ok (.putfield 220, 3) := by decide +kernel
theorem d_SE_forgetWalk_8 : decode b_SE_forgetWalk 8 = .ok (.aload_n 0, 1) := by decide +kernel
theorem d_SE_forgetWalk_9 : decode b_SE_forgetWalk 9 = .ok (.getfield 26, 3) := by decide +kernel
theorem d_SE_forgetWalk_12 : decode b_SE_forgetWalk 12 = .ok (.iconst 0, 1) := by decide +kernel
theorem d_SE_forgetWalk_13 : decode b_SE_forgetWalk 13 = .ok (.putfield 223, 3) := by decide +kernel
theorem d_SE_forgetWalk_16 : decode b_SE_forgetWalk 16 = .ok (.return_, 1) := by decide +kernel
theorem d_SE_forgetMachine_0 : decode b_SE_forgetMachine 0 = .ok (.aload_n 0, 1) := by decide +kernel
theorem d_SE_forgetMachine_1 : decode b_SE_forgetMachine 1 = .ok (.invokevirtual 123, 3) := by decide +kernel
theorem d_SE_forgetMachine_4 : decode b_SE_forgetMachine 4 = .ok (.aload_n 0, 1) := by decide +kernel
theorem d_SE_forgetMachine_5 : decode b_SE_forgetMachine 5 = .ok (.getfield 33, 3) := by decide +kernel
theorem d_SE_forgetMachine_8 : decode b_SE_forgetMachine 8 = .ok (.iconst 0, 1) := by decide +kernel
theorem d_SE_forgetMachine_9 : decode b_SE_forgetMachine 9 = .ok (.putfield 224, 3) := by decide +kernel
theorem d_SE_forgetMachine_12 : decode b_SE_forgetMachine 12 = .ok (.return_, 1) := by decide +kernel
theorem d_SE_register_0 : decode b_SE_register 0 = .ok (.iload_n 1, 1) := by decide +kernel
theorem d_SE_register_1 : decode b_SE_register 1 = .ok (.iconst 1, 1) := by decide +kernel
theorem d_SE_register_2 : decode b_SE_register 2 = .ok (.if_icmp .lt 8, 3) := by decide +kernel
theorem d_SE_register_5 : decode b_SE_register 5 = .ok (.iload_n 1, 1) := by decide +kernel
theorem d_SE_register_6 : decode b_SE_register 6 = .ok (.iconst 4, 1) := by decide +kernel
theorem d_SE_register_7 : decode b_SE_register 7 = .ok (.if_icmp .le 13, 3) := by decide +kernel
theorem d_SE_register_10 : decode b_SE_register 10 = .ok (.new 50, 3) := by decide +kernel
theorem d_SE_register_13 : decode b_SE_register 13 = .ok (.dup, 1) := by decide +kernel
theorem d_SE_register_14 : decode b_SE_register 14 = .ok (.ldc 52, 2) := by decide +kernel
theorem d_SE_register_16 : decode b_SE_register 16 = .ok (.invokespecial 54, 3) := by decide +kernel
theorem d_SE_register_19 : decode b_SE_register 19 = .ok (.athrow, 1) := by decide +kernel
theorem d_SE_register_20 : decode b_SE_register 20 = .ok (.aload_n 0, 1) := by decide +kernel
theorem d_SE_register_21 : decode b_SE_register 21 = .ok (.getfield 12, 3) := by decide +kernel
theorem d_SE_register_24 : decode b_SE_register 24 = .ok (.getfield 57, 3) := by decide +kernel
theorem d_SE_register_27 : decode b_SE_register 27 = .ok (.ifCond .le 13, 3) := by decide +kernel
theorem d_SE_register_30 : decode b_SE_register 30 = .ok (.new 60, 3) := by decide +kernel
theorem d_SE_register_33 : decode b_SE_register 33 = .ok (.dup, 1) := by decide +kernel
theorem d_SE_register_34 : decode b_SE_register 34 = .ok (.ldc 62, 2) := by decide +kernel
theorem d_SE_register_36 : decode b_SE_register 36 = .ok (.invokespecial 64, 3) := by decide +kernel
theorem d_SE_register_39 : decode b_SE_register 39 = .ok (.athrow, 1) := by decide +kernel
theorem d_SE_register_40 : decode b_SE_register 40 = .ok (.aload_n 0, 1) := by decide +kernel
theorem d_SE_register_41 : decode b_SE_register 41 = .ok (.getfield 12, 3) := by decide +kernel
theorem d_SE_register_44 : decode b_SE_register 44 = .ok (.getfield 65, 3) := by decide +kernel
theorem d_SE_register_47 : decode b_SE_register 47 = .ok (.iconst 4, 1) := by decide +kernel
theorem d_SE_register_48 : decode b_SE_register 48 = .ok (.if_icmp .ge 17, 3) := by decide +kernel
theorem d_SE_register_51 : decode b_SE_register 51 = .ok (.aload_n 0, 1) := by decide +kernel
theorem d_SE_register_52 : decode b_SE_register 52 = .ok (.getfield 12, 3) := by decide +kernel
theorem d_SE_register_55 : decode b_SE_register 55 = .ok (.getfield 68, 3) := by decide +kernel
theorem d_SE_register_58 : decode b_SE_register 58 = .ok (.iload_n 1, 1) := by decide +kernel
theorem d_SE_register_59 : decode b_SE_register 59 = .ok (.iadd, 1) := by decide +kernel
theorem d_SE_register_60 : decode b_SE_register 60 = .ok (.bipush 12, 2) := by decide +kernel
theorem d_SE_register_62 : decode b_SE_register 62 = .ok (.if_icmp .le 13, 3) := by decide +kernel
theorem d_SE_register_65 : decode b_SE_register 65 = .ok (.new 71, 3) := by decide +kernel
theorem d_SE_register_68 : decode b_SE_register 68 = .ok (.dup, 1) := by decide +kernel
theorem d_SE_register_69 : decode b_SE_register 69 = .ok (.ldc 73, 2) := by decide +kernel
theorem d_SE_register_71 : decode b_SE_register 71 = .ok (.invokespecial 75, 3) := by decide +kernel
theorem d_SE_register_74 : decode b_SE_register 74 = .ok (.athrow, 1) := by decide +kernel
theorem d_SE_register_75 : decode b_SE_register 75 = .ok (.aload_n 0, 1) := by decide +kernel
theorem d_SE_register_76 : decode b_SE_register 76 = .ok (.invokevirtual 76, 3) := by decide +kernel
theorem d_SE_register_79 : decode b_SE_register 79 = .ok (.aload_n 0, 1) := by decide +kernel
theorem d_SE_register_80 : decode b_SE_register 80 = .ok (.getfield 12, 3) := by decide +kernel
theorem d_SE_register_83 : decode b_SE_register 83 = .ok (.iload_n 1, 1) := by decide +kernel
theorem d_SE_register_84 : decode b_SE_register 84 = .ok (.invokevirtual 79, 3) := by decide +kernel
theorem d_SE_register_87 : decode b_SE_register 87 = .ok (.ireturn, 1) := by decide +kernel
theorem d_SE_input_0 : decode b_SE_input 0 = .ok (.aload_n 0, 1) := by decide +kernel
theorem d_SE_input_1 : decode b_SE_input 1 = .ok (.getfield 12, 3) := by decide +kernel
theorem d_SE_input_4 : decode b_SE_input 4 = .ok (.iload_n 1, 1) := by decide +kernel
theorem d_SE_input_5 : decode b_SE_input 5 = .ok (.iload_n 2, 1) := by decide +kernel
theorem d_SE_input_6 : decode b_SE_input 6 = .ok (.iload_n 3, 1) := by decide +kernel
theorem d_SE_input_7 : decode b_SE_input 7 = .ok (.invokevirtual 83, 3) := by decide +kernel
theorem d_SE_input_10 : decode b_SE_input 10 = .ok (.ifCond .ne 13, 3) := by decide +kernel
theorem d_SE_input_13 : decode b_SE_input 13 = .ok (.new 50, 3) := by decide +kernel
theorem d_SE_input_16 : decode b_SE_input 16 = .ok (.dup, 1) := by decide +kernel
theorem d_SE_input_17 : decode b_SE_input 17 = .ok (.ldc 87, 2) := by decide +kernel
theorem d_SE_input_19 : decode b_SE_input 19 = .ok (.invokespecial 54, 3) := by decide +kernel
theorem d_SE_input_22 : decode b_SE_input 22 = .ok (.athrow, 1) := by decide +kernel
theorem d_SE_input_23 : decode b_SE_input 23 = .ok (.aload_n 0, 1) := by decide +kernel
theorem d_SE_input_24 : decode b_SE_input 24 = .ok (.getfield 12, 3) := by decide +kernel
theorem d_SE_input_27 : decode b_SE_input 27 = .ok (.getfield 57, 3) := by decide +kernel
theorem d_SE_input_30 : decode b_SE_input 30 = .ok (.iconst 4, 1) := by decide +kernel
theorem d_SE_input_31 : decode b_SE_input 31 = .ok (.if_icmp .lt 13, 3) := by decide +kernel
theorem d_SE_input_34 : decode b_SE_input 34 = .ok (.new 71, 3) := by decide +kernel
theorem d_SE_input_37 : decode b_SE_input 37 = .ok (.dup, 1) := by decide +kernel
theorem d_SE_input_38 : decode b_SE_input 38 = .ok (.ldc 89, 2) := by decide +kernel
theorem d_SE_input_40 : decode b_SE_input 40 = .ok (.invokespecial 75, 3) := by decide +kernel
theorem d_SE_input_43 : decode b_SE_input 43 = .ok (.athrow, 1) := by decide +kernel
theorem d_SE_input_44 : decode b_SE_input 44 = .ok (.aload_n 0, 1) := by decide +kernel
theorem d_SE_input_45 : decode b_SE_input 45 = .ok (.invokevirtual 76, 3) := by decide +kernel
theorem d_SE_input_48 : decode b_SE_input 48 = .ok (.aload_n 0, 1) := by decide +kernel
theorem d_SE_input_49 : decode b_SE_input 49 = .ok (.getfield 12, 3) := by decide +kernel
theorem d_SE_input_52 : decode b_SE_input 52 = .ok (.iload_n 1, 1) := by decide +kernel
theorem d_SE_input_53 : decode b_SE_input 53 = .ok (.iload_n 2, 1) := by decide +kernel
theorem d_SE_input_54 : decode b_SE_input 54 = .ok (.iload_n 3, 1) := by decide +kernel
theorem d_SE_input_55 : decode b_SE_input 55 = .ok (.invokevirtual 91, 3) := by decide +kernel
theorem d_SE_input_58 : decode b_SE_input 58 = .ok (.ireturn, 1) := by decide +kernel
theorem d_SE_transfer_0 : decode b_SE_transfer 0 = .ok (.aload_n 0, 1) := by decide +kernel
theorem d_SE_transfer_1 : decode b_SE_transfer 1 = .ok (.getfield 12, 3) := by decide +kernel
theorem d_SE_transfer_4 : decode b_SE_transfer 4 = .ok (.iload_n 1, 1) := by decide +kernel
theorem d_SE_transfer_5 : decode b_SE_transfer 5 = .ok (.invokevirtual 95, 3) := by decide +kernel
theorem d_SE_transfer_8 : decode b_SE_transfer 8 = .ok (.ifCond .eq 29, 3) := by decide +kernel
theorem d_SE_transfer_11 : decode b_SE_transfer 11 = .ok (.aload_n 0, 1) := by decide +kernel
theorem d_SE_transfer_12 : decode b_SE_transfer 12 = .ok (.getfield 12, 3) := by decide +kernel
theorem d_SE_transfer_15 : decode b_SE_transfer 15 = .ok (.iload_n 2, 1) := by decide +kernel
theorem d_SE_transfer_16 : decode b_SE_transfer 16 = .ok (.invokevirtual 99, 3) := by decide +kernel
theorem d_SE_transfer_19 : decode b_SE_transfer 19 = .ok (.ifCond .eq 18, 3) := by decide +kernel
theorem d_SE_transfer_22 : decode b_SE_transfer 22 = .ok (.aload_n 0, 1) := by decide +kernel
theorem d_SE_transfer_23 : decode b_SE_transfer 23 = .ok (.getfield 12, 3) := by decide +kernel
theorem d_SE_transfer_26 : decode b_SE_transfer 26 = .ok (.iload_n 3, 1) := by decide +kernel
theorem d_SE_transfer_27 : decode b_SE_transfer 27 = .ok (.iload 4, 2) := by decide +kernel
theorem d_SE_transfer_29 : decode b_SE_transfer 29 = .ok (.iload 5, 2) := by decide +kernel
theorem d_SE_transfer_31 : decode b_SE_transfer 31 = .ok (.invokevirtual 83, 3) := by decide +kernel
theorem d_SE_transfer_34 : decode b_SE_transfer 34 = .ok (.ifCond .ne 13, 3) := by decide +kernel
theorem d_SE_transfer_37 : decode b_SE_transfer 37 = .ok (.new 50, 3) := by decide +kernel
theorem d_SE_transfer_40 : decode b_SE_transfer 40 = .ok (.dup, 1) := by decide +kernel
theorem d_SE_transfer_41 : decode b_SE_transfer 41 = .ok (.ldc 102, 2) := by decide +kernel
theorem d_SE_transfer_43 : decode b_SE_transfer 43 = .ok (.invokespecial 54, 3) := by decide +kernel
theorem d_SE_transfer_46 : decode b_SE_transfer 46 = .ok (.athrow, 1) := by decide +kernel
theorem d_SE_transfer_47 : decode b_SE_transfer 47 = .ok (.aload_n 0, 1) := by decide +kernel
theorem d_SE_transfer_48 : decode b_SE_transfer 48 = .ok (.getfield 12, 3) := by decide +kernel
theorem d_SE_transfer_51 : decode b_SE_transfer 51 = .ok (.getfield 104, 3) := by decide +kernel
theorem d_SE_transfer_54 : decode b_SE_transfer 54 = .ok (.iload_n 1, 1) := by decide +kernel
theorem d_SE_transfer_55 : decode b_SE_transfer 55 = .ok (.aaload, 1) := by decide +kernel
theorem d_SE_transfer_56 : decode b_SE_transfer 56 = .ok (.getfield 108, 3) := by decide +kernel
theorem d_SE_transfer_59 : decode b_SE_transfer 59 = .ok (.bipush 8, 2) := by decide +kernel
theorem d_SE_transfer_61 : decode b_SE_transfer 61 = .ok (.if_icmp .lt 13, 3) := by decide +kernel
theorem d_SE_transfer_64 : decode b_SE_transfer 64 = .ok (.new 71, 3) := by decide +kernel
theorem d_SE_transfer_67 : decode b_SE_transfer 67 = .ok (.dup, 1) := by decide +kernel
theorem d_SE_transfer_68 : decode b_SE_transfer 68 = .ok (.ldc 113, 2) := by decide +kernel
theorem d_SE_transfer_70 : decode b_SE_transfer 70 = .ok (.invokespecial 75, 3) := by decide +kernel
theorem d_SE_transfer_73 : decode b_SE_transfer 73 = .ok (.athrow, 1) := by decide +kernel
theorem d_SE_transfer_74 : decode b_SE_transfer 74 = .ok (.aload_n 0, 1) := by decide +kernel
theorem d_SE_transfer_75 : decode b_SE_transfer 75 = .ok (.invokevirtual 76, 3) := by decide +kernel
theorem d_SE_transfer_78 : decode b_SE_transfer 78 = .ok (.aload_n 0, 1) := by decide +kernel
theorem d_SE_transfer_79 : decode b_SE_transfer 79 = .ok (.getfield 12, 3) := by decide +kernel
theorem d_SE_transfer_82 : decode b_SE_transfer 82 = .ok (.iload_n 1, 1) := by decide +kernel
theorem d_SE_transfer_83 : decode b_SE_transfer 83 = .ok (.iload_n 2, 1) := by decide +kernel
theorem d_SE_transfer_84 : decode b_SE_transfer 84 = .ok (.iload_n 3, 1) := by decide +kernel
theorem d_SE_transfer_85 : decode b_SE_transfer 85 = .ok (.iload 4, 2) := by decide +kernel
theorem d_SE_transfer_87 : decode b_SE_transfer 87 = .ok (.iload 5, 2) := by decide +kernel
theorem d_SE_transfer_89 : decode b_SE_transfer 89 = .ok (.invokevirtual 115, 3) := by decide +kernel
theorem d_SE_transfer_92 : decode b_SE_transfer 92 = .ok (.ireturn, 1) := by decide +kernel
theorem d_SE_needState_0 : decode b_SE_needState 0 = .ok (.aload_n 0, 1) := by decide +kernel
theorem d_SE_needState_1 : decode b_SE_needState 1 = .ok (.getfield 12, 3) := by decide +kernel
theorem d_SE_needState_4 : decode b_SE_needState 4 = .ok (.iload_n 1, 1) := by decide +kernel
theorem d_SE_needState_5 : decode b_SE_needState 5 = .ok (.invokevirtual 207, 3) := by decide +kernel
theorem d_SE_needState_8 : decode b_SE_needState 8 = .ok (.ifCond .ne 13, 3) := by decide +kernel
theorem d_SE_needState_11 : decode b_SE_needState 11 = .ok (.new 50, 3) := by decide +kernel
theorem d_SE_needState_14 : decode b_SE_needState 14 = .ok (.dup, 1) := by decide +kernel
theorem d_SE_needState_15 : decode b_SE_needState 15 = .ok (.ldc 210, 2) := by decide +kernel
theorem d_SE_needState_17 : decode b_SE_needState 17 = .ok (.invokespecial 54, 3) := by decide +kernel
theorem d_SE_needState_20 : decode b_SE_needState 20 = .ok (.athrow, 1) := by decide +kernel
theorem d_SE_needState_21 : decode b_SE_needState 21 = .ok (.return_, 1) := by decide +kernel
theorem d_SE_first_0 : decode b_SE_first 0 = .ok (.aload_n 0, 1) := by decide +kernel
theorem d_SE_first_1 : decode b_SE_first 1 = .ok (.iload_n 1, 1) := by decide +kernel
theorem d_SE_first_2 : decode b_SE_first 2 = .ok (.invokevirtual 119, 3) := by decide +kernel
theorem d_SE_first_5 : decode b_SE_first 5 = .ok (.aload_n 0, 1) := by decide +kernel
theorem d_SE_first_6 : decode b_SE_first 6 = .ok (.getfield 37, 3) := by decide +kernel
theorem d_SE_first_9 : decode b_SE_first 9 = .ok (.istore_n 2, 1) := by decide +kernel
theorem d_SE_first_10 : decode b_SE_first 10 = .ok (.iload_n 1, 1) := by decide +kernel
theorem d_SE_first_11 : decode b_SE_first 11 = .ok (.iload_n 2, 1) := by decide +kernel
theorem d_SE_first_12 : decode b_SE_first 12 = .ok (.if_icmp .eq 12, 3) := by decide +kernel
theorem d_SE_first_15 : decode b_SE_first 15 = .ok (.aload_n 0, 1) := by decide +kernel
theorem d_SE_first_16 : decode b_SE_first 16 = .ok (.iload_n 1, 1) := by decide +kernel
theorem d_SE_first_17 : decode b_SE_first 17 = .ok (.putfield 37, 3) := by decide +kernel
theorem d_SE_first_20 : decode b_SE_first 20 = .ok (.aload_n 0, 1) := by decide +kernel
theorem d_SE_first_21 : decode b_SE_first 21 = .ok (.invokevirtual 123, 3) := by decide +kernel
theorem d_SE_first_24 : decode b_SE_first 24 = .ok (.iload_n 2, 1) := by decide +kernel
theorem d_SE_first_25 : decode b_SE_first 25 = .ok (.ireturn, 1) := by decide +kernel
theorem d_SE_needInput_0 : decode b_SE_needInput 0 = .ok (.aload_n 0, 1) := by decide +kernel
theorem d_SE_needInput_1 : decode b_SE_needInput 1 = .ok (.getfield 12, 3) := by decide +kernel
theorem d_SE_needInput_4 : decode b_SE_needInput 4 = .ok (.iload_n 1, 1) := by decide +kernel
theorem d_SE_needInput_5 : decode b_SE_needInput 5 = .ok (.invokevirtual 95, 3) := by decide +kernel
theorem d_SE_needInput_8 : decode b_SE_needInput 8 = .ok (.ifCond .ne 13, 3) := by decide +kernel
theorem d_SE_needInput_11 : decode b_SE_needInput 11 = .ok (.new 50, 3) := by decide +kernel
theorem d_SE_needInput_14 : decode b_SE_needInput 14 = .ok (.dup, 1) := by decide +kernel
theorem d_SE_needInput_15 : decode b_SE_needInput 15 = .ok (.ldc 212, 2) := by decide +kernel
theorem d_SE_needInput_17 : decode b_SE_needInput 17 = .ok (.invokespecial 54, 3) := by decide +kernel
theorem d_SE_needInput_20 : decode b_SE_needInput 20 = .ok (.athrow, 1) := by decide +kernel
theorem d_SE_needInput_21 : decode b_SE_needInput 21 = .ok (.return_, 1) := by decide +kernel
theorem d_SE_step_0 : decode b_SE_step 0 = .ok (.aload_n 0, 1) := by decide +kernel
theorem d_SE_step_1 : decode b_SE_step 1 = .ok (.iload_n 1, 1) := by decide +kernel
theorem d_SE_step_2 : decode b_SE_step 2 = .ok (.invokevirtual 119, 3) := by decide +kernel
theorem d_SE_step_5 : decode b_SE_step 5 = .ok (.aload_n 0, 1) := by decide +kernel
theorem d_SE_step_6 : decode b_SE_step 6 = .ok (.iload_n 2, 1) := by decide +kernel
theorem d_SE_step_7 : decode b_SE_step 7 = .ok (.invokevirtual 126, 3) := by decide +kernel
theorem d_SE_step_10 : decode b_SE_step 10 = .ok (.aload_n 0, 1) := by decide +kernel
theorem d_SE_step_11 : decode b_SE_step 11 = .ok (.getfield 12, 3) := by decide +kernel
theorem d_SE_step_14 : decode b_SE_step 14 = .ok (.iload_n 1, 1) := by decide +kernel
theorem d_SE_step_15 : decode b_SE_step 15 = .ok (.iload_n 2, 1) := by decide +kernel
theorem d_SE_step_16 : decode b_SE_step 16 = .ok (.invokevirtual 129, 3) := by decide +kernel
theorem d_SE_step_19 : decode b_SE_step 19 = .ok (.ireturn, 1) := by decide +kernel
theorem d_SE_output_0 : decode b_SE_output 0 = .ok (.aload_n 0, 1) := by decide +kernel
theorem d_SE_output_1 : decode b_SE_output 1 = .ok (.iload_n 1, 1) := by decide +kernel
theorem d_SE_output_2 : decode b_SE_output 2 = .ok (.invokevirtual 119, 3) := by decide +kernel
theorem d_SE_output_5 : decode b_SE_output 5 = .ok (.aload_n 0, 1) := by decide +kernel
theorem d_SE_output_6 : decode b_SE_output 6 = .ok (.iload_n 2, 1) := by decide +kernel
theorem d_SE_output_7 : decode b_SE_output 7 = .ok (.invokevirtual 126, 3) := by decide +kernel
theorem d_SE_output_10 : decode b_SE_output 10 = .ok (.aload_n 0, 1) := by decide +kernel
theorem d_SE_output_11 : decode b_SE_output 11 = .ok (.getfield 12, 3) := by decide +kernel
theorem d_SE_output_14 : decode b_SE_output 14 = .ok (.iload_n 1, 1) := by decide +kernel
theorem d_SE_output_15 : decode b_SE_output 15 = .ok (.iload_n 2, 1) := by decide +kernel
theorem d_SE_output_16 : decode b_SE_output 16 = .ok (.invokevirtual 132, 3) := by decide +kernel
theorem d_SE_output_19 : decode b_SE_output 19 = .ok (.ireturn, 1) := by decide +kernel
theorem d_SE_needRoom_0 : decode b_SE_needRoom 0 = .ok (.aload_n 0, 1) := by decide +kernel
theorem d_SE_needRoom_1 : decode b_SE_needRoom 1 = .ok (.getfield 19, 3) := by decide +kernel
theorem d_SE_needRoom_4 : decode b_SE_needRoom 4 = .ok (.aload_n 0, 1) := by decide +kernel
theorem d_SE_needRoom_5 : decode b_SE_needRoom 5 = .ok (.getfield 12, 3) := by decide +kernel
theorem d_SE_needRoom_8 : decode b_SE_needRoom 8 = .ok (.aload_n 0, 1) := by decide +kernel
theorem d_SE_needRoom_9 : decode b_SE_needRoom 9 = .ok (.getfield 37, 3) := by decide +kernel
theorem d_SE_needRoom_12 : decode b_SE_needRoom 12 = .ok (.aload_n 0, 1) := by decide +kernel
theorem d_SE_needRoom_13 : decode b_SE_needRoom 13 = .ok (.getfield 47, 3) := by decide +kernel
theorem d_SE_needRoom_16 : decode b_SE_needRoom 16 = .ok (.invokevirtual 194, 3) := by decide +kernel
theorem d_SE_needRoom_19 : decode b_SE_needRoom 19 = .ok (.aload_n 0, 1) := by decide +kernel
theorem d_SE_needRoom_20 : decode b_SE_needRoom 20 = .ok (.getfield 19, 3) := by decide +kernel
theorem d_SE_needRoom_23 : decode b_SE_needRoom 23 = .ok (.getfield 195, 3) := by decide +kernel
theorem d_SE_needRoom_26 : decode b_SE_needRoom 26 = .ok (.ifCond .ne 13, 3) := by decide +kernel
theorem d_SE_needRoom_29 : decode b_SE_needRoom 29 = .ok (.new 71, 3) := by decide +kernel
theorem d_SE_needRoom_32 : decode b_SE_needRoom 32 = .ok (.dup, 1) := by decide +kernel
theorem d_SE_needRoom_33 : decode b_SE_needRoom 33 = .ok (.ldc 214, 2) := by decide +kernel
theorem d_SE_needRoom_35 : decode b_SE_needRoom 35 = .ok (.invokespecial 75, 3) := by decide +kernel
theorem d_SE_needRoom_38 : decode b_SE_needRoom 38 = .ok (.athrow, 1) := by decide +kernel
theorem d_SE_needRoom_39 : decode b_SE_needRoom 39 = .ok (.return_, 1) := by decide +kernel
theorem d_SE_walked_0 : decode b_SE_walked 0 = .ok (.aload_n 0, 1) := by decide +kernel
theorem d_SE_walked_1 : decode b_SE_walked 1 = .ok (.invokevirtual 135, 3) := by decide +kernel
theorem d_SE_walked_4 : decode b_SE_walked 4 = .ok (.aload_n 0, 1) := by decide +kernel
theorem d_SE_walked_5 : decode b_SE_walked 5 = .ok (.getfield 19, 3) := by decide +kernel
theorem d_SE_walked_8 : decode b_SE_walked 8 = .ok (.getfield 138, 3) := by decide +kernel
theorem d_SE_walked_11 : decode b_SE_walked 11 = .ok (.ireturn, 1) := by decide +kernel
theorem d_SE_needWalked_0 : decode b_SE_needWalked 0 = .ok (.iload_n 1, 1) := by decide +kernel
theorem d_SE_needWalked_1 : decode b_SE_needWalked 1 = .ok (.ifCond .lt 14, 3) := by decide +kernel
theorem d_SE_needWalked_4 : decode b_SE_needWalked 4 = .ok (.iload_n 1, 1) := by decide +kernel
theorem d_SE_needWalked_5 : decode b_SE_needWalked 5 = .ok (.aload_n 0, 1) := by decide +kernel
theorem d_SE_needWalked_6 : decode b_SE_needWalked 6 = .ok (.getfield 19, 3) := by decide +kernel
theorem d_SE_needWalked_9 : decode b_SE_needWalked 9 = .ok (.getfield 138, 3) := by decide +kernel
theorem d_SE_needWalked_12 : decode b_SE_needWalked 12 = .ok (.if_icmp .lt 13, 3) := by decide +kernel
theorem d_SE_needWalked_15 : decode b_SE_needWalked 15 = .ok (.new 182, 3) := by decide +kernel
theorem d_SE_needWalked_18 : decode b_SE_needWalked 18 = .ok (.dup, 1) := by decide +kernel
theorem d_SE_needWalked_19 : decode b_SE_needWalked 19 = .ok (.ldc 216, 2) := by decide +kernel
theorem d_SE_needWalked_21 : decode b_SE_needWalked 21 = .ok (.invokespecial 186, 3) := by decide +kernel
theorem d_SE_needWalked_24 : decode b_SE_needWalked 24 = .ok (.athrow, 1) := by decide +kernel
theorem d_SE_needWalked_25 : decode b_SE_needWalked 25 = .ok (.return_, 1) := by decide +kernel
theorem d_SE_state_0 : decode b_SE_state 0 = .ok (.aload_n 0, 1) := by decide +kernel
theorem d_SE_state_1 : decode b_SE_state 1 = .ok (.invokevirtual 135, 3) := by decide +kernel
theorem d_SE_state_4 : decode b_SE_state 4 = .ok (.aload_n 0, 1) := by decide +kernel
theorem d_SE_state_5 : decode b_SE_state 5 = .ok (.iload_n 1, 1) := by decide +kernel
theorem d_SE_state_6 : decode b_SE_state 6 = .ok (.invokevirtual 141, 3) := by decide +kernel
theorem d_SE_state_9 : decode b_SE_state 9 = .ok (.aload_n 0, 1) := by decide +kernel
theorem d_SE_state_10 : decode b_SE_state 10 = .ok (.getfield 19, 3) := by decide +kernel
theorem d_SE_state_13 : decode b_SE_state 13 = .ok (.getfield 144, 3) := by decide +kernel
theorem d_SE_state_16 : decode b_SE_state 16 = .ok (.iload_n 1, 1) := by decide +kernel
theorem d_SE_state_17 : decode b_SE_state 17 = .ok (.iaload, 1) := by decide +kernel
theorem d_SE_state_18 : decode b_SE_state 18 = .ok (.ireturn, 1) := by decide +kernel
theorem d_SE_number_0 : decode b_SE_number 0 = .ok (.aload_n 0, 1) := by decide +kernel
theorem d_SE_number_1 : decode b_SE_number 1 = .ok (.invokevirtual 135, 3) := by decide +kernel
theorem d_SE_number_4 : decode b_SE_number 4 = .ok (.aload_n 0, 1) := by decide +kernel
theorem d_SE_number_5 : decode b_SE_number 5 = .ok (.iload_n 1, 1) := by decide +kernel
theorem d_SE_number_6 : decode b_SE_number 6 = .ok (.invokevirtual 119, 3) := by decide +kernel
theorem d_SE_number_9 : decode b_SE_number 9 = .ok (.aload_n 0, 1) := by decide +kernel
theorem d_SE_number_10 : decode b_SE_number 10 = .ok (.getfield 19, 3) := by decide +kernel
theorem d_SE_number_13 : decode b_SE_number 13 = .ok (.getfield 148, 3) := by decide +kernel
theorem d_SE_number_16 : decode b_SE_number 16 = .ok (.iload_n 1, 1) := by decide +kernel
theorem d_SE_number_17 : decode b_SE_number 17 = .ok (.iaload, 1) := by decide +kernel
theorem d_SE_number_18 : decode b_SE_number 18 = .ok (.ireturn, 1) := by decide +kernel
theorem d_SE_needPlace_0 : decode b_SE_needPlace 0 = .ok (.iload_n 1, 1) := by decide +kernel
theorem d_SE_needPlace_1 : decode b_SE_needPlace 1 = .ok (.ifCond .ge 13, 3) := by decide +kernel
theorem d_SE_needPlace_4 : decode b_SE_needPlace 4 = .ok (.new 182, 3) := by decide +kernel
theorem d_SE_needPlace_7 : decode b_SE_needPlace 7 = .ok (.dup, 1) := by decide +kernel
theorem d_SE_needPlace_8 : decode b_SE_needPlace 8 = .ok (.ldc 218, 2) := by decide +kernel
theorem d_SE_needPlace_10 : decode b_SE_needPlace 10 = .ok (.invokespecial 186, 3) := by decide +kernel
theorem d_SE_needPlace_13 : decode b_SE_needPlace 13 = .ok (.athrow, 1) := by decide +kernel
theorem d_SE_needPlace_14 : decode b_SE_needPlace 14 = .ok (.return_, 1) := by decide +kernel
theorem d_SE_way_0 : decode b_SE_way 0 = .ok (.aload_n 0, 1) := by decide +kernel
theorem d_SE_way_1 : decode b_SE_way 1 = .ok (.invokevirtual 135, 3) := by decide +kernel
theorem d_SE_way_4 : decode b_SE_way 4 = .ok (.aload_n 0, 1) := by decide +kernel
theorem d_SE_way_5 : decode b_SE_way 5 = .ok (.iload_n 1, 1) := by decide +kernel
theorem d_SE_way_6 : decode b_SE_way 6 = .ok (.invokevirtual 141, 3) := by decide +kernel
theorem d_SE_way_9 : decode b_SE_way 9 = .ok (.aload_n 0, 1) := by decide +kernel
theorem d_SE_way_10 : decode b_SE_way 10 = .ok (.iload_n 2, 1) := by decide +kernel
theorem d_SE_way_11 : decode b_SE_way 11 = .ok (.invokevirtual 151, 3) := by decide +kernel
theorem d_SE_way_14 : decode b_SE_way 14 = .ok (.aload_n 0, 1) := by decide +kernel
theorem d_SE_way_15 : decode b_SE_way 15 = .ok (.getfield 19, 3) := by decide +kernel
theorem d_SE_way_18 : decode b_SE_way 18 = .ok (.getfield 154, 3) := by decide +kernel
theorem d_SE_way_21 : decode b_SE_way 21 = .ok (.iload_n 1, 1) := by decide +kernel
theorem d_SE_way_22 : decode b_SE_way 22 = .ok (.iload_n 2, 1) := by decide +kernel
theorem d_SE_way_23 : decode b_SE_way 23 = .ok (.invokevirtual 158, 3) := by decide +kernel
theorem d_SE_way_26 : decode b_SE_way 26 = .ok (.ireturn, 1) := by decide +kernel
theorem d_SE_alike_0 : decode b_SE_alike 0 = .ok (.aload_n 0, 1) := by decide +kernel
theorem d_SE_alike_1 : decode b_SE_alike 1 = .ok (.iload_n 1, 1) := by decide +kernel
theorem d_SE_alike_2 : decode b_SE_alike 2 = .ok (.invokevirtual 119, 3) := by decide +kernel
theorem d_SE_alike_5 : decode b_SE_alike 5 = .ok (.aload_n 0, 1) := by decide +kernel
theorem d_SE_alike_6 : decode b_SE_alike 6 = .ok (.iload_n 2, 1) := by decide +kernel
theorem d_SE_alike_7 : decode b_SE_alike 7 = .ok (.invokevirtual 119, 3) := by decide +kernel
theorem d_SE_alike_10 : decode b_SE_alike 10 = .ok (.aload_n 0, 1) := by decide +kernel
theorem d_SE_alike_11 : decode b_SE_alike 11 = .ok (.getfield 33, 3) := by decide +kernel
theorem d_SE_alike_14 : decode b_SE_alike 14 = .ok (.aload_n 0, 1) := by decide +kernel
theorem d_SE_alike_15 : decode b_SE_alike 15 = .ok (.getfield 12, 3) := by decide +kernel
theorem d_SE_alike_18 : decode b_SE_alike 18 = .ok (.iload_n 1, 1) := by decide +kernel
theorem d_SE_alike_19 : decode b_SE_alike 19 = .ok (.iload_n 2, 1) := by decide +kernel
theorem d_SE_alike_20 : decode b_SE_alike 20 = .ok (.invokevirtual 163, 3) := by decide +kernel
theorem d_SE_alike_23 : decode b_SE_alike 23 = .ok (.aload_n 0, 1) := by decide +kernel
theorem d_SE_alike_24 : decode b_SE_alike 24 = .ok (.getfield 33, 3) := by decide +kernel
theorem d_SE_alike_27 : decode b_SE_alike 27 = .ok (.getfield 167, 3) := by decide +kernel
theorem d_SE_alike_30 : decode b_SE_alike 30 = .ok (.ifCond .ne 7, 3) := by decide +kernel
theorem d_SE_alike_33 : decode b_SE_alike 33 = .ok (.iconst 1, 1) := by decide +kernel
theorem d_SE_alike_34 : decode b_SE_alike 34 = .ok (.goto 4, 3) := by decide +kernel
theorem d_SE_alike_37 : decode b_SE_alike 37 = .ok (.iconst 0, 1) := by decide +kernel
theorem d_SE_alike_38 : decode b_SE_alike 38 = .ok (.ireturn, 1) := by decide +kernel
theorem d_SE_word_0 : decode b_SE_word 0 = .ok (.aload_n 0, 1) := by decide +kernel
theorem d_SE_word_1 : decode b_SE_word 1 = .ok (.iload_n 1, 1) := by decide +kernel
theorem d_SE_word_2 : decode b_SE_word 2 = .ok (.invokevirtual 119, 3) := by decide +kernel
theorem d_SE_word_5 : decode b_SE_word 5 = .ok (.aload_n 0, 1) := by decide +kernel
theorem d_SE_word_6 : decode b_SE_word 6 = .ok (.iload_n 2, 1) := by decide +kernel
theorem d_SE_word_7 : decode b_SE_word 7 = .ok (.invokevirtual 119, 3) := by decide +kernel
theorem d_SE_word_10 : decode b_SE_word 10 = .ok (.aload_n 0, 1) := by decide +kernel
theorem d_SE_word_11 : decode b_SE_word 11 = .ok (.iload_n 3, 1) := by decide +kernel
theorem d_SE_word_12 : decode b_SE_word 12 = .ok (.invokevirtual 151, 3) := by decide +kernel
theorem d_SE_word_15 : decode b_SE_word 15 = .ok (.aload_n 0, 1) := by decide +kernel
theorem d_SE_word_16 : decode b_SE_word 16 = .ok (.getfield 33, 3) := by decide +kernel
theorem d_SE_word_19 : decode b_SE_word 19 = .ok (.aload_n 0, 1) := by decide +kernel
theorem d_SE_word_20 : decode b_SE_word 20 = .ok (.getfield 12, 3) := by decide +kernel
theorem d_SE_word_23 : decode b_SE_word 23 = .ok (.iload_n 1, 1) := by decide +kernel
theorem d_SE_word_24 : decode b_SE_word 24 = .ok (.iload_n 2, 1) := by decide +kernel
theorem d_SE_word_25 : decode b_SE_word 25 = .ok (.invokevirtual 163, 3) := by decide +kernel
theorem d_SE_word_28 : decode b_SE_word 28 = .ok (.aload_n 0, 1) := by decide +kernel
theorem d_SE_word_29 : decode b_SE_word 29 = .ok (.getfield 33, 3) := by decide +kernel
theorem d_SE_word_32 : decode b_SE_word 32 = .ok (.iload_n 3, 1) := by decide +kernel
theorem d_SE_word_33 : decode b_SE_word 33 = .ok (.invokevirtual 171, 3) := by decide +kernel
theorem d_SE_word_36 : decode b_SE_word 36 = .ok (.ireturn, 1) := by decide +kernel
theorem d_SE_classes_0 : decode b_SE_classes 0 = .ok (.aload_n 0, 1) := by decide +kernel
theorem d_SE_classes_1 : decode b_SE_classes 1 = .ok (.invokevirtual 135, 3) := by decide +kernel
theorem d_SE_classes_4 : decode b_SE_classes 4 = .ok (.aload_n 0, 1) := by decide +kernel
theorem d_SE_classes_5 : decode b_SE_classes 5 = .ok (.getfield 26, 3) := by decide +kernel
theorem d_SE_classes_8 : decode b_SE_classes 8 = .ok (.aload_n 0, 1) := by decide +kernel
theorem d_SE_classes_9 : decode b_SE_classes 9 = .ok (.getfield 12, 3) := by decide +kernel
theorem d_SE_classes_12 : decode b_SE_classes 12 = .ok (.aload_n 0, 1) := by decide +kernel
theorem d_SE_classes_13 : decode b_SE_classes 13 = .ok (.getfield 19, 3) := by decide +kernel
theorem d_SE_classes_16 : decode b_SE_classes 16 = .ok (.invokevirtual 173, 3) := by decide +kernel
theorem d_SE_classes_19 : decode b_SE_classes 19 = .ok (.aload_n 0, 1) := by decide +kernel
theorem d_SE_classes_20 : decode b_SE_classes 20 = .ok (.getfield 26, 3) := by decide +kernel
theorem d_SE_classes_23 : decode b_SE_classes 23 = .ok (.getfield 176, 3) := by decide +kernel
theorem d_SE_classes_26 : decode b_SE_classes 26 = .ok (.ireturn, 1) := by decide +kernel
theorem d_SE_classOf_0 : decode b_SE_classOf 0 = .ok (.aload_n 0, 1) := by decide +kernel
theorem d_SE_classOf_1 : decode b_SE_classOf 1 = .ok (.invokevirtual 135, 3) := by decide +kernel
theorem d_SE_classOf_4 : decode b_SE_classOf 4 = .ok (.aload_n 0, 1) := by decide +kernel
theorem d_SE_classOf_5 : decode b_SE_classOf 5 = .ok (.iload_n 1, 1) := by decide +kernel
theorem d_SE_classOf_6 : decode b_SE_classOf 6 = .ok (.invokevirtual 141, 3) := by decide +kernel
theorem d_SE_classOf_9 : decode b_SE_classOf 9 = .ok (.aload_n 0, 1) := by decide +kernel
theorem d_SE_classOf_10 : decode b_SE_classOf 10 = .ok (.getfield 26, 3) := by decide +kernel
theorem d_SE_classOf_13 : decode b_SE_classOf 13 = .ok (.aload_n 0, 1) := by decide +kernel
theorem d_SE_classOf_14 : decode b_SE_classOf 14 = .ok (.getfield 12, 3) := by decide +kernel
theorem d_SE_classOf_17 : decode b_SE_classOf 17 = .ok (.aload_n 0, 1) := by decide +kernel
theorem d_SE_classOf_18 : decode b_SE_classOf 18 = .ok (.getfield 19, 3) := by decide +kernel
theorem d_SE_classOf_21 : decode b_SE_classOf 21 = .ok (.invokevirtual 173, 3) := by decide +kernel
theorem d_SE_classOf_24 : decode b_SE_classOf 24 = .ok (.aload_n 0, 1) := by decide +kernel
theorem d_SE_classOf_25 : decode b_SE_classOf 25 = .ok (.getfield 26, 3) := by decide +kernel
theorem d_SE_classOf_28 : decode b_SE_classOf 28 = .ok (.getfield 179, 3) := by decide +kernel
theorem d_SE_classOf_31 : decode b_SE_classOf 31 = .ok (.iload_n 1, 1) := by decide +kernel
theorem d_SE_classOf_32 : decode b_SE_classOf 32 = .ok (.iaload, 1) := by decide +kernel
theorem d_SE_classOf_33 : decode b_SE_classOf 33 = .ok (.ireturn, 1) := by decide +kernel
theorem d_SE_least_0 : decode b_SE_least 0 = .ok (.aload_n 0, 1) := by decide +kernel
theorem d_SE_least_1 : decode b_SE_least 1 = .ok (.invokevirtual 135, 3) := by decide +kernel
theorem d_SE_least_4 : decode b_SE_least 4 = .ok (.aload_n 0, 1) := by decide +kernel
theorem d_SE_least_5 : decode b_SE_least 5 = .ok (.getfield 26, 3) := by decide +kernel
theorem d_SE_least_8 : decode b_SE_least 8 = .ok (.aload_n 0, 1) := by decide +kernel
theorem d_SE_least_9 : decode b_SE_least 9 = .ok (.getfield 12, 3) := by decide +kernel
theorem d_SE_least_12 : decode b_SE_least 12 = .ok (.aload_n 0, 1) := by decide +kernel
theorem d_SE_least_13 : decode b_SE_least 13 = .ok (.getfield 19, 3) := by decide +kernel
theorem d_SE_least_16 : decode b_SE_least 16 = .ok (.invokevirtual 173, 3) := by decide +kernel
theorem d_SE_least_19 : decode b_SE_least 19 = .ok (.iload_n 1, 1) := by decide +kernel
theorem d_SE_least_20 : decode b_SE_least 20 = .ok (.ifCond .lt 34, 3) := by decide +kernel
theorem d_SE_least_23 : decode b_SE_least 23 = .ok (.iload_n 1, 1) := by decide +kernel
theorem d_SE_least_24 : decode b_SE_least 24 = .ok (.aload_n 0, 1) := by decide +kernel
theorem d_SE_least_25 : decode b_SE_least 25 = .ok (.getfield 26, 3) := by decide +kernel
theorem d_SE_least_28 : decode b_SE_least 28 = .ok (.getfield 176, 3) := by decide +kernel
theorem d_SE_least_31 : decode b_SE_least 31 = .ok (.if_icmp .ge 23, 3) := by decide +kernel
theorem d_SE_least_34 : decode b_SE_least 34 = .ok (.aload_n 0, 1) := by decide +kernel
theorem d_SE_least_35 : decode b_SE_least 35 = .ok (.getfield 12, 3) := by decide +kernel
theorem d_SE_least_38 : decode b_SE_least 38 = .ok (.iload_n 2, 1) := by decide +kernel
theorem d_SE_least_39 : decode b_SE_least 39 = .ok (.invokevirtual 95, 3) := by decide +kernel
theorem d_SE_least_42 : decode b_SE_least 42 = .ok (.ifCond .eq 12, 3) := by decide +kernel
theorem d_SE_least_45 : decode b_SE_least 45 = .ok (.iload_n 3, 1) := by decide +kernel
theorem d_SE_least_46 : decode b_SE_least 46 = .ok (.ifCond .lt 8, 3) := by decide +kernel
theorem d_SE_least_49 : decode b_SE_least 49 = .ok (.iload_n 3, 1) := by decide +kernel
theorem d_SE_least_50 : decode b_SE_least 50 = .ok (.iconst 1, 1) := by decide +kernel
theorem d_SE_least_51 : decode b_SE_least 51 = .ok (.if_icmp .le 13, 3) := by decide +kernel
theorem d_SE_least_54 : decode b_SE_least 54 = .ok (.new 182, 3) := by decide +kernel
theorem d_SE_least_57 : decode b_SE_least 57 = .ok (.dup, 1) := by decide +kernel
theorem d_SE_least_58 : decode b_SE_least 58 = .ok (.ldc 184, 2) := by decide +kernel
theorem d_SE_least_60 : decode b_SE_least 60 = .ok (.invokespecial 186, 3) := by decide +kernel
theorem d_SE_least_63 : decode b_SE_least 63 = .ok (.athrow, 1) := by decide +kernel
theorem d_SE_least_64 : decode b_SE_least 64 = .ok (.aload_n 0, 1) := by decide +kernel
theorem d_SE_least_65 : decode b_SE_least 65 = .ok (.getfield 19, 3) := by decide +kernel
theorem d_SE_least_68 : decode b_SE_least 68 = .ok (.getfield 144, 3) := by decide +kernel
theorem d_SE_least_71 : decode b_SE_least 71 = .ok (.aload_n 0, 1) := by decide +kernel
theorem d_SE_least_72 : decode b_SE_least 72 = .ok (.getfield 26, 3) := by decide +kernel
theorem d_SE_least_75 : decode b_SE_least 75 = .ok (.getfield 187, 3) := by decide +kernel
theorem d_SE_least_78 : decode b_SE_least 78 = .ok (.iload_n 1, 1) := by decide +kernel
theorem d_SE_least_79 : decode b_SE_least 79 = .ok (.iaload, 1) := by decide +kernel
theorem d_SE_least_80 : decode b_SE_least 80 = .ok (.iaload, 1) := by decide +kernel
theorem d_SE_least_81 : decode b_SE_least 81 = .ok (.istore 4, 2) := by decide +kernel
theorem d_SE_least_83 : decode b_SE_least 83 = .ok (.iload_n 3, 1) := by decide +kernel
theorem d_SE_least_84 : decode b_SE_least 84 = .ok (.iconst 1, 1) := by decide +kernel
theorem d_SE_least_85 : decode b_SE_least 85 = .ok (.if_icmp .ne 14, 3) := by decide +kernel
theorem d_SE_least_88 : decode b_SE_least 88 = .ok (.aload_n 0, 1) := by decide +kernel
theorem d_SE_least_89 : decode b_SE_least 89 = .ok (.getfield 12, 3) := by decide +kernel
theorem d_SE_least_92 : decode b_SE_least 92 = .ok (.iload 4, 2) := by decide +kernel
theorem d_SE_least_94 : decode b_SE_least 94 = .ok (.iload_n 2, 1) := by decide +kernel
theorem d_SE_least_95 : decode b_SE_least 95 = .ok (.invokevirtual 132, 3) := by decide +kernel
theorem d_SE_least_98 : decode b_SE_least 98 = .ok (.ireturn, 1) := by decide +kernel
theorem d_SE_least_99 : decode b_SE_least 99 = .ok (.aload_n 0, 1) := by decide +kernel
theorem d_SE_least_100 : decode b_SE_least 100 = .ok (.getfield 26, 3) := by decide +kernel
theorem d_SE_least_103 : decode b_SE_least 103 = .ok (.getfield 179, 3) := by decide +kernel
theorem d_SE_least_106 : decode b_SE_least 106 = .ok (.aload_n 0, 1) := by decide +kernel
theorem d_SE_least_107 : decode b_SE_least 107 = .ok (.getfield 19, 3) := by decide +kernel
theorem d_SE_least_110 : decode b_SE_least 110 = .ok (.getfield 148, 3) := by decide +kernel
theorem d_SE_least_113 : decode b_SE_least 113 = .ok (.aload_n 0, 1) := by decide +kernel
theorem d_SE_least_114 : decode b_SE_least 114 = .ok (.getfield 12, 3) := by decide +kernel
theorem d_SE_least_117 : decode b_SE_least 117 = .ok (.iload 4, 2) := by decide +kernel
theorem d_SE_least_119 : decode b_SE_least 119 = .ok (.iload_n 2, 1) := by decide +kernel
theorem d_SE_least_120 : decode b_SE_least 120 = .ok (.invokevirtual 129, 3) := by decide +kernel
theorem d_SE_least_123 : decode b_SE_least 123 = .ok (.iaload, 1) := by decide +kernel
theorem d_SE_least_124 : decode b_SE_least 124 = .ok (.iaload, 1) := by decide +kernel
theorem d_SE_least_125 : decode b_SE_least 125 = .ok (.ireturn, 1) := by decide +kernel
theorem d_SE_countWalk_0 : decode b_SE_countWalk 0 = .ok (.aload_n 0, 1) := by decide +kernel
theorem d_SE_countWalk_1 : decode b_SE_countWalk 1 = .ok (.getfield 19, 3) := by decide +kernel
theorem d_SE_countWalk_4 : decode b_SE_countWalk 4 = .ok (.aload_n 0, 1) := by decide +kernel
theorem d_SE_countWalk_5 : decode b_SE_countWalk 5 = .ok (.getfield 12, 3) := by decide +kernel
theorem d_SE_countWalk_8 : decode b_SE_countWalk 8 = .ok (.aload_n 0, 1) := by decide +kernel
theorem d_SE_countWalk_9 : decode b_SE_countWalk 9 = .ok (.getfield 37, 3) := by decide +kernel
theorem d_SE_countWalk_12 : decode b_SE_countWalk 12 = .ok (.aload_n 0, 1) := by decide +kernel
theorem d_SE_countWalk_13 : decode b_SE_countWalk 13 = .ok (.getfield 47, 3) := by decide +kernel
theorem d_SE_countWalk_16 : decode b_SE_countWalk 16 = .ok (.invokevirtual 194, 3) := by decide +kernel
theorem d_SE_countWalk_19 : decode b_SE_countWalk 19 = .ok (.aload_n 0, 1) := by decide +kernel
theorem d_SE_countWalk_20 : decode b_SE_countWalk 20 = .ok (.getfield 19, 3) := by decide +kernel
theorem d_SE_countWalk_23 : decode b_SE_countWalk 23 = .ok (.getfield 195, 3) := by decide +kernel
theorem d_SE_countWalk_26 : decode b_SE_countWalk 26 = .ok (.ifCond .ne 5, 3) := by decide +kernel
theorem d_SE_countWalk_29 : decode b_SE_countWalk 29 = .ok (.iconst (-1), 1) := by decide +kernel
theorem d_SE_countWalk_30 : decode b_SE_countWalk 30 = .ok (.ireturn, 1) := by decide +kernel
theorem d_SE_countWalk_31 : decode b_SE_countWalk 31 = .ok (.iload_n 1, 1) := by decide +kernel
theorem d_SE_countWalk_32 : decode b_SE_countWalk 32 = .ok (.bipush 6, 2) := by decide +kernel
theorem d_SE_countWalk_34 : decode b_SE_countWalk 34 = .ok (.if_icmp .ne 23, 3) := by decide +kernel
theorem d_SE_countWalk_37 : decode b_SE_countWalk 37 = .ok (.aload_n 0, 1) := by decide +kernel
theorem d_SE_countWalk_38 : decode b_SE_countWalk 38 = .ok (.getfield 19, 3) := by decide +kernel
theorem d_SE_countWalk_41 : decode b_SE_countWalk 41 = .ok (.getfield 154, 3) := by decide +kernel
theorem d_SE_countWalk_44 : decode b_SE_countWalk 44 = .ok (.aload_n 0, 1) := by decide +kernel
theorem d_SE_countWalk_45 : decode b_SE_countWalk 45 = .ok (.getfield 19, 3) := by decide +kernel
theorem d_SE_countWalk_48 : decode b_SE_countWalk 48 = .ok (.getfield 138, 3) := by decide +kernel
theorem d_SE_countWalk_51 : decode b_SE_countWalk 51 = .ok (.iconst 1, 1) := by decide +kernel
theorem d_SE_countWalk_52 : decode b_SE_countWalk 52 = .ok (.isub, 1) := by decide +kernel
theorem d_SE_countWalk_53 : decode b_SE_countWalk 53 = .ok (.invokevirtual 198, 3) := by decide +kernel
theorem d_SE_countWalk_56 : decode b_SE_countWalk 56 = .ok (.ireturn, 1) := by decide +kernel
theorem d_SE_countWalk_57 : decode b_SE_countWalk 57 = .ok (.iload_n 1, 1) := by decide +kernel
theorem d_SE_countWalk_58 : decode b_SE_countWalk 58 = .ok (.bipush 7, 2) := by decide +kernel
theorem d_SE_countWalk_60 : decode b_SE_countWalk 60 = .ok (.if_icmp .ne 13, 3) := by decide +kernel
theorem d_SE_countWalk_63 : decode b_SE_countWalk 63 = .ok (.aload_n 0, 1) := by decide +kernel
theorem d_SE_countWalk_64 : decode b_SE_countWalk 64 = .ok (.getfield 19, 3) := by decide +kernel
theorem d_SE_countWalk_67 : decode b_SE_countWalk 67 = .ok (.getfield 201, 3) := by decide +kernel
theorem d_SE_countWalk_70 : decode b_SE_countWalk 70 = .ok (.goto 10, 3) := by decide +kernel
theorem d_SE_countWalk_73 : decode b_SE_countWalk 73 = .ok (.aload_n 0, 1) := by decide +kernel
theorem d_SE_countWalk_74 : decode b_SE_countWalk 74 = .ok (.getfield 19, 3) := by decide +kernel
theorem d_SE_countWalk_77 : decode b_SE_countWalk 77 = .ok (.getfield 204, 3) := by decide +kernel
theorem d_SE_countWalk_80 : decode b_SE_countWalk 80 = .ok (.ireturn, 1) := by decide +kernel
theorem d_SE_count_0 : decode b_SE_count 0 = .ok (.iload_n 1, 1) := by decide +kernel
theorem d_SE_count_1 : decode b_SE_count 1 = .ok (.tableswitch 99 0 8 #[51, 59, 67, 75, 83, 88, 93, 93, 93], 51) := by decide +kernel
theorem d_SE_count_52 : decode b_SE_count 52 = .ok (.aload_n 0, 1) := by decide +kernel
theorem d_SE_count_53 : decode b_SE_count 53 = .ok (.getfield 12, 3) := by decide +kernel
theorem d_SE_count_56 : decode b_SE_count 56 = .ok (.getfield 65, 3) := by decide +kernel
theorem d_SE_count_59 : decode b_SE_count 59 = .ok (.ireturn, 1) := by decide +kernel
theorem d_SE_count_60 : decode b_SE_count 60 = .ok (.aload_n 0, 1) := by decide +kernel
theorem d_SE_count_61 : decode b_SE_count 61 = .ok (.getfield 12, 3) := by decide +kernel
theorem d_SE_count_64 : decode b_SE_count 64 = .ok (.getfield 68, 3) := by decide +kernel
theorem d_SE_count_67 : decode b_SE_count 67 = .ok (.ireturn, 1) := by decide +kernel
theorem d_SE_count_68 : decode b_SE_count 68 = .ok (.aload_n 0, 1) := by decide +kernel
theorem d_SE_count_69 : decode b_SE_count 69 = .ok (.getfield 12, 3) := by decide +kernel
theorem d_SE_count_72 : decode b_SE_count 72 = .ok (.getfield 57, 3) := by decide +kernel
theorem d_SE_count_75 : decode b_SE_count 75 = .ok (.ireturn, 1) := by decide +kernel
theorem d_SE_count_76 : decode b_SE_count 76 = .ok (.aload_n 0, 1) := by decide +kernel
theorem d_SE_count_77 : decode b_SE_count 77 = .ok (.getfield 12, 3) := by decide +kernel
theorem d_SE_count_80 : decode b_SE_count 80 = .ok (.getfield 190, 3) := by decide +kernel
theorem d_SE_count_83 : decode b_SE_count 83 = .ok (.ireturn, 1) := by decide +kernel
theorem d_SE_count_84 : decode b_SE_count 84 = .ok (.aload_n 0, 1) := by decide +kernel
theorem d_SE_count_85 : decode b_SE_count 85 = .ok (.getfield 47, 3) := by decide +kernel
theorem d_SE_count_88 : decode b_SE_count 88 = .ok (.ireturn, 1) := by decide +kernel
theorem d_SE_count_89 : decode b_SE_count 89 = .ok (.aload_n 0, 1) := by decide +kernel
theorem d_SE_count_90 : decode b_SE_count 90 = .ok (.getfield 37, 3) := by decide +kernel
theorem d_SE_count_93 : decode b_SE_count 93 = .ok (.ireturn, 1) := by decide +kernel
theorem d_SE_count_94 : decode b_SE_count 94 = .ok (.aload_n 0, 1) := by decide +kernel
theorem d_SE_count_95 : decode b_SE_count 95 = .ok (.iload_n 1, 1) := by decide +kernel
theorem d_SE_count_96 : decode b_SE_count 96 = .ok (.invokevirtual 191, 3) := by decide +kernel
theorem d_SE_count_99 : decode b_SE_count 99 = .ok (.ireturn, 1) := by decide +kernel
theorem d_SE_count_100 : decode b_SE_count 100 = .ok (.iconst (-1), 1) := by decide +kernel
theorem d_SE_count_101 : decode b_SE_count 101 = .ok (.ireturn, 1) := by decide +kernel
section Sites
variable {p : Program} {l : Launch} {e : Env} {R : Room} {s : State} {m : MethodId} {args : Array Value} {below : List Frame} {meth : Method} {c : Code} {H H0 : Heap} {locs : List Loc} {cells slots : Nat} {Q : State → Prop} {cc : ByteArray} {pc : Nat} {ls : Array Slot} {rest : List Value} {D : va_G} {A : Nat → Prop} {a : Nat} {TY : List (ClassId × FieldType)} {ws : va_W}
theorem gf_SE_19 (hx : p.tables.exec = Jvm.exec) (hb : c.code = cc) (hts : ∀ w ∈ wsG, w.before args s = true) (hown : s.vm.findClass R_SE = some m.cls) (hK : va_K D vwCl TY s) (hP : va_P D vwCl ws H) (q0 : Nat) {fs : List Value} (he : ws[q0]? = some (a, .inr (6, fs))) {v : Value} (hv : fs[1]? = some v) (hdg : decode cc pc = .ok (.getfield 19, 3)) (kk : W p l e R s m args below meth c H locs cells slots Q (F0 m (pc + 3) ls (v :: rest))) : W p l e R s m args below meth c H locs cells slots Q (F0 m pc ls (.ref a :: rest)) :=
  va_get (D := D) (ci := 6) (C := R_SE) (T := F_SE) (N := 6) hx hb hts i_SE hown hK hP q0 he rfl 1 (by decide) (hts _ k_332) (fun _ h9 => h9) hv hdg kk
theorem pf_SE_220 (hx : p.tables.exec = Jvm.exec) (hb : c.code = cc) (hts : ∀ w ∈ wsG, w.before args s = true) (hown : s.vm.findClass R_SE = some m.cls) (hK : va_K D vwCl TY s) (hP : va_P D vwCl ws H) (hD : va_D A ws) (hS : va_S A H0 H locs) (q0 : Nat) {fs : List Value} {v : Value} (he : ws[q0]? = some (a, .inr (3, fs))) (hn : narrow (.boolean) v = v) (hfit : fits (.boolean) v = true) (hl : 4 < fs.length) (hdg : decode cc pc = .ok (.putfield 220, 3)) (kk : ∀ (H1 : Heap) (locs1 : List Loc), va_P D vwCl (ws.set q0 (a, .inr (3, fs.set 4 v))) H1 → va_D A (ws.set q0 (a, .inr (3, fs.set 4 v))) → va_S A H0 H1 locs1 → W p l e R s m args below meth c H1 locs1 cells slots Q (F0 m (pc + 3) ls rest)) : W p l e R s m args below meth c H locs cells slots Q (F0 m pc ls (v :: .ref a :: rest)) :=
  va_put (D := D) (ci := 3) (v := v) (ty := .boolean) (C := R_WA) (T := F_WA) (N := 9) hx hb hts i_WA t_WA t_WA_ok n_WA hown hK hP hD hS q0 he rfl 4 (by decide) (hts _ k_375) (fun _ h9 => h9) rfl (by decide +kernel) hn hfit hl hdg kk
theorem gf_SE_26 (hx : p.tables.exec = Jvm.exec) (hb : c.code = cc) (hts : ∀ w ∈ wsG, w.before args s = true) (hown : s.vm.findClass R_SE = some m.cls) (hK : va_K D vwCl TY s) (hP : va_P D vwCl ws H) (q0 : Nat) {fs : List Value} (he : ws[q0]? = some (a, .inr (6, fs))) {v : Value} (hv : fs[2]? = some v) (hdg : decode cc pc = .ok (.getfield 26, 3)) (kk : W p l e R s m args below meth c H locs cells slots Q (F0 m (pc + 3) ls (v :: rest))) : W p l e R s m args below meth c H locs cells slots Q (F0 m pc ls (.ref a :: rest)) :=
  va_get (D := D) (ci := 6) (C := R_SE) (T := F_SE) (N := 6) hx hb hts i_SE hown hK hP q0 he rfl 2 (by decide) (hts _ k_333) (fun _ h9 => h9) hv hdg kk
theorem pf_SE_223 (hx : p.tables.exec = Jvm.exec) (hb : c.code = cc) (hts : ∀ w ∈ wsG, w.before args s = true) (hown : s.vm.findClass R_SE = some m.cls) (hK : va_K D vwCl TY s) (hP : va_P D vwCl ws H) (hD : va_D A ws) (hS : va_S A H0 H locs) (q0 : Nat) {fs : List Value} {v : Value} (he : ws[q0]? = some (a, .inr (4, fs))) (hn : narrow (.boolean) v = v) (hfit : fits (.boolean) v = true) (hl : 3 < fs.length) (hdg : decode cc pc = .ok (.putfield 223, 3)) (kk : ∀ (H1 : Heap) (locs1 : List Loc), va_P D vwCl (ws.set q0 (a, .inr (4, fs.set 3 v))) H1 → va_D A (ws.set q0 (a, .inr (4, fs.set 3 v))) → va_S A H0 H1 locs1 → W p l e R s m args below meth c H1 locs1 cells slots Q (F0 m (pc + 3) ls rest)) : W p l e R s m args below meth c H locs cells slots Q (F0 m pc ls (v :: .ref a :: rest)) :=
  va_put (D := D) (ci := 4) (v := v) (ty := .boolean) (C := R_GR) (T := F_GR) (N := 7) hx hb hts i_GR t_GR t_GR_ok n_GR hown hK hP hD hS q0 he rfl 3 (by decide) (hts _ k_376) (fun _ h9 => h9) rfl (by decide +kernel) hn hfit hl hdg kk
theorem gf_SE_33 (hx : p.tables.exec = Jvm.exec) (hb : c.code = cc) (hts : ∀ w ∈ wsG, w.before args s = true) (hown : s.vm.findClass R_SE = some m.cls) (hK : va_K D vwCl TY s) (hP : va_P D vwCl ws H) (q0 : Nat) {fs : List Value} (he : ws[q0]? = some (a, .inr (6, fs))) {v : Value} (hv : fs[3]? = some v) (hdg : decode cc pc = .ok (.getfield 33, 3)) (kk : W p l e R s m args below meth c H locs cells slots Q (F0 m (pc + 3) ls (v :: rest))) : W p l e R s m args below meth c H locs cells slots Q (F0 m pc ls (.ref a :: rest)) :=
  va_get (D := D) (ci := 6) (C := R_SE) (T := F_SE) (N := 6) hx hb hts i_SE hown hK hP q0 he rfl 3 (by decide) (hts _ k_334) (fun _ h9 => h9) hv hdg kk
theorem pf_SE_224 (hx : p.tables.exec = Jvm.exec) (hb : c.code = cc) (hts : ∀ w ∈ wsG, w.before args s = true) (hown : s.vm.findClass R_SE = some m.cls) (hK : va_K D vwCl TY s) (hP : va_P D vwCl ws H) (hD : va_D A ws) (hS : va_S A H0 H locs) (q0 : Nat) {fs : List Value} {v : Value} (he : ws[q0]? = some (a, .inr (5, fs))) (hn : narrow (.boolean) v = v) (hfit : fits (.boolean) v = true) (hl : 0 < fs.length) (hdg : decode cc pc = .ok (.putfield 224, 3)) (kk : ∀ (H1 : Heap) (locs1 : List Loc), va_P D vwCl (ws.set q0 (a, .inr (5, fs.set 0 v))) H1 → va_D A (ws.set q0 (a, .inr (5, fs.set 0 v))) → va_S A H0 H1 locs1 → W p l e R s m args below meth c H1 locs1 cells slots Q (F0 m (pc + 3) ls rest)) : W p l e R s m args below meth c H locs cells slots Q (F0 m pc ls (v :: .ref a :: rest)) :=
  va_put (D := D) (ci := 5) (v := v) (ty := .boolean) (C := R_TE) (T := F_TE) (N := 9) hx hb hts i_TE t_TE t_TE_ok n_TE hown hK hP hD hS q0 he rfl 0 (by decide) (hts _ k_377) (fun _ h9 => h9) rfl (by decide +kernel) hn hfit hl hdg kk
theorem gf_SE_12 (hx : p.tables.exec = Jvm.exec) (hb : c.code = cc) (hts : ∀ w ∈ wsG, w.before args s = true) (hown : s.vm.findClass R_SE = some m.cls) (hK : va_K D vwCl TY s) (hP : va_P D vwCl ws H) (q0 : Nat) {fs : List Value} (he : ws[q0]? = some (a, .inr (6, fs))) {v : Value} (hv : fs[0]? = some v) (hdg : decode cc pc = .ok (.getfield 12, 3)) (kk : W p l e R s m args below meth c H locs cells slots Q (F0 m (pc + 3) ls (v :: rest))) : W p l e R s m args below meth c H locs cells slots Q (F0 m pc ls (.ref a :: rest)) :=
  va_get (D := D) (ci := 6) (C := R_SE) (T := F_SE) (N := 6) hx hb hts i_SE hown hK hP q0 he rfl 0 (by decide) (hts _ k_331) (fun _ h9 => h9) hv hdg kk
theorem gf_SE_57 (hx : p.tables.exec = Jvm.exec) (hb : c.code = cc) (hts : ∀ w ∈ wsG, w.before args s = true) (hown : s.vm.findClass R_SE = some m.cls) (hK : va_K D vwCl TY s) (hP : va_P D vwCl ws H) (q0 : Nat) {fs : List Value} (he : ws[q0]? = some (a, .inr (2, fs))) {v : Value} (hv : fs[5]? = some v) (hdg : decode cc pc = .ok (.getfield 57, 3)) (kk : W p l e R s m args below meth c H locs cells slots Q (F0 m (pc + 3) ls (v :: rest))) : W p l e R s m args below meth c H locs cells slots Q (F0 m pc ls (.ref a :: rest)) :=
  va_get (D := D) (ci := 2) (C := R_MA) (T := F_MA) (N := 7) hx hb hts i_MA hown hK hP q0 he rfl 5 (by decide) (hts _ k_378) (fun _ h9 => h9) hv hdg kk
theorem gf_SE_65 (hx : p.tables.exec = Jvm.exec) (hb : c.code = cc) (hts : ∀ w ∈ wsG, w.before args s = true) (hown : s.vm.findClass R_SE = some m.cls) (hK : va_K D vwCl TY s) (hP : va_P D vwCl ws H) (q0 : Nat) {fs : List Value} (he : ws[q0]? = some (a, .inr (2, fs))) {v : Value} (hv : fs[3]? = some v) (hdg : decode cc pc = .ok (.getfield 65, 3)) (kk : W p l e R s m args below meth c H locs cells slots Q (F0 m (pc + 3) ls (v :: rest))) : W p l e R s m args below meth c H locs cells slots Q (F0 m pc ls (.ref a :: rest)) :=
  va_get (D := D) (ci := 2) (C := R_MA) (T := F_MA) (N := 7) hx hb hts i_MA hown hK hP q0 he rfl 3 (by decide) (hts _ k_379) (fun _ h9 => h9) hv hdg kk
theorem gf_SE_68 (hx : p.tables.exec = Jvm.exec) (hb : c.code = cc) (hts : ∀ w ∈ wsG, w.before args s = true) (hown : s.vm.findClass R_SE = some m.cls) (hK : va_K D vwCl TY s) (hP : va_P D vwCl ws H) (q0 : Nat) {fs : List Value} (he : ws[q0]? = some (a, .inr (2, fs))) {v : Value} (hv : fs[4]? = some v) (hdg : decode cc pc = .ok (.getfield 68, 3)) (kk : W p l e R s m args below meth c H locs cells slots Q (F0 m (pc + 3) ls (v :: rest))) : W p l e R s m args below meth c H locs cells slots Q (F0 m pc ls (.ref a :: rest)) :=
  va_get (D := D) (ci := 2) (C := R_MA) (T := F_MA) (N := 7) hx hb hts i_MA hown hK hP q0 he rfl 4 (by decide) (hts _ k_380) (fun _ h9 => h9) hv hdg kk
theorem gf_SE_104 (hx : p.tables.exec = Jvm.exec) (hb : c.code = cc) (hts : ∀ w ∈ wsG, w.before args s = true) (hown : s.vm.findClass R_SE = some m.cls) (hK : va_K D vwCl TY s) (hP : va_P D vwCl ws H) (q0 : Nat) {fs : List Value} (he : ws[q0]? = some (a, .inr (2, fs))) {v : Value} (hv : fs[2]? = some v) (hdg : decode cc pc = .ok (.getfield 104, 3)) (kk : W p l e R s m args below meth c H locs cells slots Q (F0 m (pc + 3) ls (v :: rest))) : W p l e R s m args below meth c H locs cells slots Q (F0 m pc ls (.ref a :: rest)) :=
  va_get (D := D) (ci := 2) (C := R_MA) (T := F_MA) (N := 7) hx hb hts i_MA hown hK hP q0 he rfl 2 (by decide) (hts _ k_381) (fun _ h9 => h9) hv hdg kk
theorem gf_SE_108 (hx : p.tables.exec = Jvm.exec) (hb : c.code = cc) (hts : ∀ w ∈ wsG, w.before args s = true) (hown : s.vm.findClass R_SE = some m.cls) (hK : va_K D vwCl TY s) (hP : va_P D vwCl ws H) (q0 : Nat) {fs : List Value} (he : ws[q0]? = some (a, .inr (0, fs))) {v : Value} (hv : fs[4]? = some v) (hdg : decode cc pc = .ok (.getfield 108, 3)) (kk : W p l e R s m args below meth c H locs cells slots Q (F0 m (pc + 3) ls (v :: rest))) : W p l e R s m args below meth c H locs cells slots Q (F0 m pc ls (.ref a :: rest)) :=
  va_get (D := D) (ci := 0) (C := R_RU) (T := F_RU) (N := 6) hx hb hts i_RU hown hK hP q0 he rfl 4 (by decide) (hts _ k_382) (fun _ h9 => h9) hv hdg kk
theorem gf_SE_37 (hx : p.tables.exec = Jvm.exec) (hb : c.code = cc) (hts : ∀ w ∈ wsG, w.before args s = true) (hown : s.vm.findClass R_SE = some m.cls) (hK : va_K D vwCl TY s) (hP : va_P D vwCl ws H) (q0 : Nat) {fs : List Value} (he : ws[q0]? = some (a, .inr (6, fs))) {v : Value} (hv : fs[5]? = some v) (hdg : decode cc pc = .ok (.getfield 37, 3)) (kk : W p l e R s m args below meth c H locs cells slots Q (F0 m (pc + 3) ls (v :: rest))) : W p l e R s m args below meth c H locs cells slots Q (F0 m pc ls (.ref a :: rest)) :=
  va_get (D := D) (ci := 6) (C := R_SE) (T := F_SE) (N := 6) hx hb hts i_SE hown hK hP q0 he rfl 5 (by decide) (hts _ k_335) (fun _ h9 => h9) hv hdg kk
theorem gf_SE_47 (hx : p.tables.exec = Jvm.exec) (hb : c.code = cc) (hts : ∀ w ∈ wsG, w.before args s = true) (hown : s.vm.findClass R_SE = some m.cls) (hK : va_K D vwCl TY s) (hP : va_P D vwCl ws H) (q0 : Nat) {fs : List Value} (he : ws[q0]? = some (a, .inr (6, fs))) {v : Value} (hv : fs[4]? = some v) (hdg : decode cc pc = .ok (.getfield 47, 3)) (kk : W p l e R s m args below meth c H locs cells slots Q (F0 m (pc + 3) ls (v :: rest))) : W p l e R s m args below meth c H locs cells slots Q (F0 m pc ls (.ref a :: rest)) :=
  va_get (D := D) (ci := 6) (C := R_SE) (T := F_SE) (N := 6) hx hb hts i_SE hown hK hP q0 he rfl 4 (by decide) (hts _ k_336) (fun _ h9 => h9) hv hdg kk
theorem gf_SE_195 (hx : p.tables.exec = Jvm.exec) (hb : c.code = cc) (hts : ∀ w ∈ wsG, w.before args s = true) (hown : s.vm.findClass R_SE = some m.cls) (hK : va_K D vwCl TY s) (hP : va_P D vwCl ws H) (q0 : Nat) {fs : List Value} (he : ws[q0]? = some (a, .inr (3, fs))) {v : Value} (hv : fs[5]? = some v) (hdg : decode cc pc = .ok (.getfield 195, 3)) (kk : W p l e R s m args below meth c H locs cells slots Q (F0 m (pc + 3) ls (v :: rest))) : W p l e R s m args below meth c H locs cells slots Q (F0 m pc ls (.ref a :: rest)) :=
  va_get (D := D) (ci := 3) (C := R_WA) (T := F_WA) (N := 9) hx hb hts i_WA hown hK hP q0 he rfl 5 (by decide) (hts _ k_383) (fun _ h9 => h9) hv hdg kk
theorem gf_SE_138 (hx : p.tables.exec = Jvm.exec) (hb : c.code = cc) (hts : ∀ w ∈ wsG, w.before args s = true) (hown : s.vm.findClass R_SE = some m.cls) (hK : va_K D vwCl TY s) (hP : va_P D vwCl ws H) (q0 : Nat) {fs : List Value} (he : ws[q0]? = some (a, .inr (3, fs))) {v : Value} (hv : fs[3]? = some v) (hdg : decode cc pc = .ok (.getfield 138, 3)) (kk : W p l e R s m args below meth c H locs cells slots Q (F0 m (pc + 3) ls (v :: rest))) : W p l e R s m args below meth c H locs cells slots Q (F0 m pc ls (.ref a :: rest)) :=
  va_get (D := D) (ci := 3) (C := R_WA) (T := F_WA) (N := 9) hx hb hts i_WA hown hK hP q0 he rfl 3 (by decide) (hts _ k_384) (fun _ h9 => h9) hv hdg kk
theorem gf_SE_144 (hx : p.tables.exec = Jvm.exec) (hb : c.code = cc) (hts : ∀ w ∈ wsG, w.before args s = true) (hown : s.vm.findClass R_SE = some m.cls) (hK : va_K D vwCl TY s) (hP : va_P D vwCl ws H) (q0 : Nat) {fs : List Value} (he : ws[q0]? = some (a, .inr (3, fs))) {v : Value} (hv : fs[1]? = some v) (hdg : decode cc pc = .ok (.getfield 144, 3)) (kk : W p l e R s m args below meth c H locs cells slots Q (F0 m (pc + 3) ls (v :: rest))) : W p l e R s m args below meth c H locs cells slots Q (F0 m pc ls (.ref a :: rest)) :=
  va_get (D := D) (ci := 3) (C := R_WA) (T := F_WA) (N := 9) hx hb hts i_WA hown hK hP q0 he rfl 1 (by decide) (hts _ k_385) (fun _ h9 => h9) hv hdg kk
theorem gf_SE_148 (hx : p.tables.exec = Jvm.exec) (hb : c.code = cc) (hts : ∀ w ∈ wsG, w.before args s = true) (hown : s.vm.findClass R_SE = some m.cls) (hK : va_K D vwCl TY s) (hP : va_P D vwCl ws H) (q0 : Nat) {fs : List Value} (he : ws[q0]? = some (a, .inr (3, fs))) {v : Value} (hv : fs[2]? = some v) (hdg : decode cc pc = .ok (.getfield 148, 3)) (kk : W p l e R s m args below meth c H locs cells slots Q (F0 m (pc + 3) ls (v :: rest))) : W p l e R s m args below meth c H locs cells slots Q (F0 m pc ls (.ref a :: rest)) :=
  va_get (D := D) (ci := 3) (C := R_WA) (T := F_WA) (N := 9) hx hb hts i_WA hown hK hP q0 he rfl 2 (by decide) (hts _ k_386) (fun _ h9 => h9) hv hdg kk
theorem gf_SE_154 (hx : p.tables.exec = Jvm.exec) (hb : c.code = cc) (hts : ∀ w ∈ wsG, w.before args s = true) (hown : s.vm.findClass R_SE = some m.cls) (hK : va_K D vwCl TY s) (hP : va_P D vwCl ws H) (q0 : Nat) {fs : List Value} (he : ws[q0]? = some (a, .inr (3, fs))) {v : Value} (hv : fs[0]? = some v) (hdg : decode cc pc = .ok (.getfield 154, 3)) (kk : W p l e R s m args below meth c H locs cells slots Q (F0 m (pc + 3) ls (v :: rest))) : W p l e R s m args below meth c H locs cells slots Q (F0 m pc ls (.ref a :: rest)) :=
  va_get (D := D) (ci := 3) (C := R_WA) (T := F_WA) (N := 9) hx hb hts i_WA hown hK hP q0 he rfl 0 (by decide) (hts _ k_387) (fun _ h9 => h9) hv hdg kk
theorem gf_SE_167 (hx : p.tables.exec = Jvm.exec) (hb : c.code = cc) (hts : ∀ w ∈ wsG, w.before args s = true) (hown : s.vm.findClass R_SE = some m.cls) (hK : va_K D vwCl TY s) (hP : va_P D vwCl ws H) (q0 : Nat) {fs : List Value} (he : ws[q0]? = some (a, .inr (5, fs))) {v : Value} (hv : fs[1]? = some v) (hdg : decode cc pc = .ok (.getfield 167, 3)) (kk : W p l e R s m args below meth c H locs cells slots Q (F0 m (pc + 3) ls (v :: rest))) : W p l e R s m args below meth c H locs cells slots Q (F0 m pc ls (.ref a :: rest)) :=
  va_get (D := D) (ci := 5) (C := R_TE) (T := F_TE) (N := 9) hx hb hts i_TE hown hK hP q0 he rfl 1 (by decide) (hts _ k_388) (fun _ h9 => h9) hv hdg kk
theorem gf_SE_176 (hx : p.tables.exec = Jvm.exec) (hb : c.code = cc) (hts : ∀ w ∈ wsG, w.before args s = true) (hown : s.vm.findClass R_SE = some m.cls) (hK : va_K D vwCl TY s) (hP : va_P D vwCl ws H) (q0 : Nat) {fs : List Value} (he : ws[q0]? = some (a, .inr (4, fs))) {v : Value} (hv : fs[2]? = some v) (hdg : decode cc pc = .ok (.getfield 176, 3)) (kk : W p l e R s m args below meth c H locs cells slots Q (F0 m (pc + 3) ls (v :: rest))) : W p l e R s m args below meth c H locs cells slots Q (F0 m pc ls (.ref a :: rest)) :=
  va_get (D := D) (ci := 4) (C := R_GR) (T := F_GR) (N := 7) hx hb hts i_GR hown hK hP q0 he rfl 2 (by decide) (hts _ k_389) (fun _ h9 => h9) hv hdg kk
theorem gf_SE_179 (hx : p.tables.exec = Jvm.exec) (hb : c.code = cc) (hts : ∀ w ∈ wsG, w.before args s = true) (hown : s.vm.findClass R_SE = some m.cls) (hK : va_K D vwCl TY s) (hP : va_P D vwCl ws H) (q0 : Nat) {fs : List Value} (he : ws[q0]? = some (a, .inr (4, fs))) {v : Value} (hv : fs[0]? = some v) (hdg : decode cc pc = .ok (.getfield 179, 3)) (kk : W p l e R s m args below meth c H locs cells slots Q (F0 m (pc + 3) ls (v :: rest))) : W p l e R s m args below meth c H locs cells slots Q (F0 m pc ls (.ref a :: rest)) :=
  va_get (D := D) (ci := 4) (C := R_GR) (T := F_GR) (N := 7) hx hb hts i_GR hown hK hP q0 he rfl 0 (by decide) (hts _ k_390) (fun _ h9 => h9) hv hdg kk
theorem gf_SE_187 (hx : p.tables.exec = Jvm.exec) (hb : c.code = cc) (hts : ∀ w ∈ wsG, w.before args s = true) (hown : s.vm.findClass R_SE = some m.cls) (hK : va_K D vwCl TY s) (hP : va_P D vwCl ws H) (q0 : Nat) {fs : List Value} (he : ws[q0]? = some (a, .inr (4, fs))) {v : Value} (hv : fs[1]? = some v) (hdg : decode cc pc = .ok (.getfield 187, 3)) (kk : W p l e R s m args below meth c H locs cells slots Q (F0 m (pc + 3) ls (v :: rest))) : W p l e R s m args below meth c H locs cells slots Q (F0 m pc ls (.ref a :: rest)) :=
  va_get (D := D) (ci := 4) (C := R_GR) (T := F_GR) (N := 7) hx hb hts i_GR hown hK hP q0 he rfl 1 (by decide) (hts _ k_391) (fun _ h9 => h9) hv hdg kk
theorem gf_SE_204 (hx : p.tables.exec = Jvm.exec) (hb : c.code = cc) (hts : ∀ w ∈ wsG, w.before args s = true) (hown : s.vm.findClass R_SE = some m.cls) (hK : va_K D vwCl TY s) (hP : va_P D vwCl ws H) (q0 : Nat) {fs : List Value} (he : ws[q0]? = some (a, .inr (3, fs))) {v : Value} (hv : fs[7]? = some v) (hdg : decode cc pc = .ok (.getfield 204, 3)) (kk : W p l e R s m args below meth c H locs cells slots Q (F0 m (pc + 3) ls (v :: rest))) : W p l e R s m args below meth c H locs cells slots Q (F0 m pc ls (.ref a :: rest)) :=
  va_get (D := D) (ci := 3) (C := R_WA) (T := F_WA) (N := 9) hx hb hts i_WA hown hK hP q0 he rfl 7 (by decide) (hts _ k_392) (fun _ h9 => h9) hv hdg kk
theorem gf_SE_201 (hx : p.tables.exec = Jvm.exec) (hb : c.code = cc) (hts : ∀ w ∈ wsG, w.before args s = true) (hown : s.vm.findClass R_SE = some m.cls) (hK : va_K D vwCl TY s) (hP : va_P D vwCl ws H) (q0 : Nat) {fs : List Value} (he : ws[q0]? = some (a, .inr (3, fs))) {v : Value} (hv : fs[6]? = some v) (hdg : decode cc pc = .ok (.getfield 201, 3)) (kk : W p l e R s m args below meth c H locs cells slots Q (F0 m (pc + 3) ls (v :: rest))) : W p l e R s m args below meth c H locs cells slots Q (F0 m pc ls (.ref a :: rest)) :=
  va_get (D := D) (ci := 3) (C := R_WA) (T := F_WA) (N := 9) hx hb hts i_WA hown hK hP q0 he rfl 6 (by decide) (hts _ k_393) (fun _ h9 => h9) hv hdg kk
theorem gf_SE_190 (hx : p.tables.exec = Jvm.exec) (hb : c.code = cc) (hts : ∀ w ∈ wsG, w.before args s = true) (hown : s.vm.findClass R_SE = some m.cls) (hK : va_K D vwCl TY s) (hP : va_P D vwCl ws H) (q0 : Nat) {fs : List Value} (he : ws[q0]? = some (a, .inr (2, fs))) {v : Value} (hv : fs[6]? = some v) (hdg : decode cc pc = .ok (.getfield 190, 3)) (kk : W p l e R s m args below meth c H locs cells slots Q (F0 m (pc + 3) ls (v :: rest))) : W p l e R s m args below meth c H locs cells slots Q (F0 m pc ls (.ref a :: rest)) :=
  va_get (D := D) (ci := 2) (C := R_MA) (T := F_MA) (N := 7) hx hb hts i_MA hown hK hP q0 he rfl 6 (by decide) (hts _ k_394) (fun _ h9 => h9) hv hdg kk
theorem cw_SE_123 {rm : Room} (hts : ∀ w ∈ wsG, w.before args s = true) (hR : rm.frames + 1 ≤ R.frames ∧ 8 + (1 + 11) + rm.locals ≤ R.locals) : CallW R s args R_SE R_SE 123 y_SE_forgetWalk b_SE_forgetWalk 1 none (.code y_SE_forgetWalk b_SE_forgetWalk 1 none :: wsG) rm rm.cells rm.slots 0 :=
  ky_cwV 0 hts k_395 k_396 k_397 k_398 k_361 (by decide +kernel) hR
theorem cw_SE_76 {rm : Room} (hts : ∀ w ∈ wsG, w.before args s = true) (hR : rm.frames + 1 ≤ R.frames ∧ 8 + (1 + 11) + rm.locals ≤ R.locals) : CallW R s args R_SE R_SE 76 y_SE_forgetMachine b_SE_forgetMachine 1 none (.code y_SE_forgetMachine b_SE_forgetMachine 1 none :: wsG) rm rm.cells rm.slots 0 :=
  ky_cwV 0 hts k_399 k_400 k_401 k_402 k_361 (by decide +kernel) hR
theorem cw_SE_79 {rm : Room} (hts : ∀ w ∈ wsG, w.before args s = true) (hR : rm.frames + 1 ≤ R.frames ∧ 8 + (3 + 11) + rm.locals ≤ R.locals) : CallW R s args R_SE R_MA 79 y_MA_addRegister b_MA_addRegister 3 (some .int) (.code y_MA_addRegister b_MA_addRegister 3 (some .int) :: wsG) rm rm.cells rm.slots 1 :=
  ky_cwV 1 hts k_403 k_404 k_405 k_406 k_17 (by decide +kernel) hR
theorem cw_SE_83 {rm : Room} (hts : ∀ w ∈ wsG, w.before args s = true) (hR : rm.frames + 1 ≤ R.frames ∧ 8 + (4 + 11) + rm.locals ≤ R.locals) : CallW R s args R_SE R_MA 83 y_MA_hasExpression b_MA_hasExpression 4 (some .boolean) (.code y_MA_hasExpression b_MA_hasExpression 4 (some .boolean) :: wsG) rm rm.cells rm.slots 3 :=
  ky_cwV 3 hts k_407 k_408 k_409 k_410 k_17 (by decide +kernel) hR
theorem cw_SE_91 {rm : Room} (hts : ∀ w ∈ wsG, w.before args s = true) (hR : rm.frames + 1 ≤ R.frames ∧ 8 + (6 + 11) + rm.locals ≤ R.locals) : CallW R s args R_SE R_MA 91 y_MA_addInput b_MA_addInput 6 (some .int) (.code y_MA_addInput b_MA_addInput 6 (some .int) :: wsG) rm rm.cells rm.slots 3 :=
  ky_cwV 3 hts k_411 k_412 k_413 k_414 k_17 (by decide +kernel) hR
theorem cw_SE_95 {rm : Room} (hts : ∀ w ∈ wsG, w.before args s = true) (hR : rm.frames + 1 ≤ R.frames ∧ 8 + (2 + 11) + rm.locals ≤ R.locals) : CallW R s args R_SE R_MA 95 y_MA_hasInput b_MA_hasInput 2 (some .boolean) (.code y_MA_hasInput b_MA_hasInput 2 (some .boolean) :: wsG) rm rm.cells rm.slots 1 :=
  ky_cwV 1 hts k_415 k_416 k_417 k_418 k_17 (by decide +kernel) hR
theorem cw_SE_99 {rm : Room} (hts : ∀ w ∈ wsG, w.before args s = true) (hR : rm.frames + 1 ≤ R.frames ∧ 8 + (2 + 11) + rm.locals ≤ R.locals) : CallW R s args R_SE R_MA 99 y_MA_hasRegister b_MA_hasRegister 2 (some .boolean) (.code y_MA_hasRegister b_MA_hasRegister 2 (some .boolean) :: wsG) rm rm.cells rm.slots 1 :=
  ky_cwV 1 hts k_419 k_420 k_421 k_422 k_17 (by decide +kernel) hR
theorem cw_SE_115 {rm : Room} (hts : ∀ w ∈ wsG, w.before args s = true) (hR : rm.frames + 1 ≤ R.frames ∧ 8 + (7 + 11) + rm.locals ≤ R.locals) : CallW R s args R_SE R_MA 115 y_MA_addTransfer b_MA_addTransfer 7 (some .int) (.code y_MA_addTransfer b_MA_addTransfer 7 (some .int) :: wsG) rm rm.cells rm.slots 5 :=
  ky_cwV 5 hts k_423 k_424 k_425 k_426 k_17 (by decide +kernel) hR
theorem cw_SE_207 {rm : Room} (hts : ∀ w ∈ wsG, w.before args s = true) (hR : rm.frames + 1 ≤ R.frames ∧ 8 + (2 + 11) + rm.locals ≤ R.locals) : CallW R s args R_SE R_MA 207 y_MA_hasState b_MA_hasState 2 (some .boolean) (.code y_MA_hasState b_MA_hasState 2 (some .boolean) :: wsG) rm rm.cells rm.slots 1 :=
  ky_cwV 1 hts k_427 k_428 k_429 k_430 k_17 (by decide +kernel) hR
theorem cw_SE_119 {rm : Room} (hts : ∀ w ∈ wsG, w.before args s = true) (hR : rm.frames + 1 ≤ R.frames ∧ 8 + (2 + 11) + rm.locals ≤ R.locals) : CallW R s args R_SE R_SE 119 y_SE_needState b_SE_needState 2 none (.code y_SE_needState b_SE_needState 2 none :: wsG) rm rm.cells rm.slots 1 :=
  ky_cwV 1 hts k_431 k_432 k_433 k_434 k_361 (by decide +kernel) hR
theorem cw_SE_126 {rm : Room} (hts : ∀ w ∈ wsG, w.before args s = true) (hR : rm.frames + 1 ≤ R.frames ∧ 8 + (2 + 11) + rm.locals ≤ R.locals) : CallW R s args R_SE R_SE 126 y_SE_needInput b_SE_needInput 2 none (.code y_SE_needInput b_SE_needInput 2 none :: wsG) rm rm.cells rm.slots 1 :=
  ky_cwV 1 hts k_435 k_436 k_437 k_438 k_361 (by decide +kernel) hR
theorem cw_SE_129 {rm : Room} (hts : ∀ w ∈ wsG, w.before args s = true) (hR : rm.frames + 1 ≤ R.frames ∧ 8 + (3 + 11) + rm.locals ≤ R.locals) : CallW R s args R_SE R_MA 129 y_MA_next b_MA_next 3 (some .int) (.code y_MA_next b_MA_next 3 (some .int) :: wsG) rm rm.cells rm.slots 2 :=
  ky_cwV 2 hts k_199 k_439 k_201 k_202 k_17 (by decide +kernel) hR
theorem cw_SE_132 {rm : Room} (hts : ∀ w ∈ wsG, w.before args s = true) (hR : rm.frames + 1 ≤ R.frames ∧ 8 + (3 + 11) + rm.locals ≤ R.locals) : CallW R s args R_SE R_MA 132 y_MA_given b_MA_given 3 (some .int) (.code y_MA_given b_MA_given 3 (some .int) :: wsG) rm rm.cells rm.slots 2 :=
  ky_cwV 2 hts k_251 k_440 k_253 k_254 k_17 (by decide +kernel) hR
theorem cw_SE_194 {rm : Room} (hts : ∀ w ∈ wsG, w.before args s = true) (hR : rm.frames + 1 ≤ R.frames ∧ 8 + (6 + 11) + rm.locals ≤ R.locals) : CallW R s args R_SE R_WA 194 y_WA_run b_WA_run 6 none (.code y_WA_run b_WA_run 6 none :: wsG) rm rm.cells rm.slots 3 :=
  ky_cwV 3 hts k_441 k_442 k_443 k_444 k_205 (by decide +kernel) hR
theorem cw_SE_135 {rm : Room} (hts : ∀ w ∈ wsG, w.before args s = true) (hR : rm.frames + 1 ≤ R.frames ∧ 8 + (1 + 11) + rm.locals ≤ R.locals) : CallW R s args R_SE R_SE 135 y_SE_needRoom b_SE_needRoom 1 none (.code y_SE_needRoom b_SE_needRoom 1 none :: wsG) rm rm.cells rm.slots 0 :=
  ky_cwV 0 hts k_445 k_446 k_447 k_448 k_361 (by decide +kernel) hR
theorem cw_SE_141 {rm : Room} (hts : ∀ w ∈ wsG, w.before args s = true) (hR : rm.frames + 1 ≤ R.frames ∧ 8 + (2 + 11) + rm.locals ≤ R.locals) : CallW R s args R_SE R_SE 141 y_SE_needWalked b_SE_needWalked 2 none (.code y_SE_needWalked b_SE_needWalked 2 none :: wsG) rm rm.cells rm.slots 1 :=
  ky_cwV 1 hts k_449 k_450 k_451 k_452 k_361 (by decide +kernel) hR
theorem cw_SE_151 {rm : Room} (hts : ∀ w ∈ wsG, w.before args s = true) (hR : rm.frames + 1 ≤ R.frames ∧ 8 + (2 + 11) + rm.locals ≤ R.locals) : CallW R s args R_SE R_SE 151 y_SE_needPlace b_SE_needPlace 2 none (.code y_SE_needPlace b_SE_needPlace 2 none :: wsG) rm rm.cells rm.slots 1 :=
  ky_cwV 1 hts k_453 k_454 k_455 k_456 k_361 (by decide +kernel) hR
theorem cw_SE_158 {rm : Room} (hts : ∀ w ∈ wsG, w.before args s = true) (hR : rm.frames + 1 ≤ R.frames ∧ 8 + (6 + 11) + rm.locals ≤ R.locals) : CallW R s args R_SE R_TR 158 y_TR_letter b_TR_letter 6 (some .int) (.code y_TR_letter b_TR_letter 6 (some .int) :: wsG) rm rm.cells rm.slots 2 :=
  ky_cwV 2 hts k_307 k_457 k_309 k_310 k_12 (by decide +kernel) hR
theorem cw_SE_163 {rm : Room} (hts : ∀ w ∈ wsG, w.before args s = true) (hR : rm.frames + 1 ≤ R.frames ∧ 8 + (6 + 11) + rm.locals ≤ R.locals) : CallW R s args R_SE R_TE 163 y_TE_run b_TE_run 6 none (.code y_TE_run b_TE_run 6 none :: wsG) rm rm.cells rm.slots 3 :=
  ky_cwV 3 hts k_458 k_459 k_460 k_461 k_287 (by decide +kernel) hR
theorem cw_SE_171 {rm : Room} (hts : ∀ w ∈ wsG, w.before args s = true) (hR : rm.frames + 1 ≤ R.frames ∧ 8 + (2 + 11) + rm.locals ≤ R.locals) : CallW R s args R_SE R_TE 171 y_TE_letter b_TE_letter 2 (some .int) (.code y_TE_letter b_TE_letter 2 (some .int) :: wsG) rm rm.cells rm.slots 1 :=
  ky_cwV 1 hts k_462 k_463 k_464 k_465 k_287 (by decide +kernel) hR
theorem cw_SE_173 {rm : Room} (hts : ∀ w ∈ wsG, w.before args s = true) (hR : rm.frames + 1 ≤ R.frames ∧ 8 + (6 + 11) + rm.locals ≤ R.locals) : CallW R s args R_SE R_GR 173 y_GR_run b_GR_run 6 none (.code y_GR_run b_GR_run 6 none :: wsG) rm rm.cells rm.slots 2 :=
  ky_cwV 2 hts k_466 k_467 k_468 k_469 k_247 (by decide +kernel) hR
theorem cw_SE_198 {rm : Room} (hts : ∀ w ∈ wsG, w.before args s = true) (hR : rm.frames + 1 ≤ R.frames ∧ 8 + (4 + 11) + rm.locals ≤ R.locals) : CallW R s args R_SE R_TR 198 y_TR_length b_TR_length 4 (some .int) (.code y_TR_length b_TR_length 4 (some .int) :: wsG) rm rm.cells rm.slots 1 :=
  ky_cwV 1 hts k_10 k_470 k_13 k_14 k_12 (by decide +kernel) hR
theorem cw_SE_191 {rm : Room} (hts : ∀ w ∈ wsG, w.before args s = true) (hR : rm.frames + 1 ≤ R.frames ∧ 8 + (2 + 11) + rm.locals ≤ R.locals) : CallW R s args R_SE R_SE 191 y_SE_countWalk b_SE_countWalk 2 (some .int) (.code y_SE_countWalk b_SE_countWalk 2 (some .int) :: wsG) rm rm.cells rm.slots 1 :=
  ky_cwV 1 hts k_471 k_472 k_473 k_474 k_361 (by decide +kernel) hR
end Sites
def kx_Fine (s0 : State) : Prop := (∀ w ∈ Bundle.ownAtoms R_SE 54 (kx_nm 1) kx_nms, w.before #[] s0 = true) ∧ (∀ w ∈ Bundle.ownAtoms R_SE 64 (kx_nm 2) kx_nms, w.before #[] s0 = true) ∧ (∀ w ∈ Bundle.ownAtoms R_SE 75 (kx_nm 3) kx_nms, w.before #[] s0 = true) ∧ (∀ w ∈ Bundle.ownAtoms R_SE 186 (kx_nm 4) kx_nms, w.before #[] s0 = true) ∧ (∃ q, vk_R R_SE 52 "no such width" q s0) ∧ (∃ q, vk_R R_SE 62 "there is an input" q s0) ∧ (∃ q, vk_R R_SE 73 "no more registers or bits" q s0) ∧ (∃ q, vk_R R_SE 87 "no such op or operand" q s0) ∧ (∃ q, vk_R R_SE 89 "no more inputs" q s0) ∧ (∃ q, vk_R R_SE 102 "no such input, register, op or operand" q s0) ∧ (∃ q, vk_R R_SE 113 "no more transfers" q s0) ∧ (∃ q, vk_R R_SE 184 "no such class, input or what" q s0) ∧ (∃ q, vk_R R_SE 210 "no such state" q s0) ∧ (∃ q, vk_R R_SE 212 "no such input" q s0) ∧ (∃ q, vk_R R_SE 214 "more states come than there is room for" q s0) ∧ (∃ q, vk_R R_SE 216 "no such walked state" q s0) ∧ (∃ q, vk_R R_SE 218 "a place below 0" q s0)
theorem kx_f1 {s0 : State} (h : kx_Fine s0) : ∀ w ∈ Bundle.ownAtoms R_SE 54 (kx_nm 1) kx_nms, w.before #[] s0 = true := h.1
theorem kx_at1 : ∀ w ∈ Bundle.ownAtoms R_SE 54 (kx_nm 1) kx_nms, kx_ok w = true := by decide +kernel
theorem kx_f2 {s0 : State} (h : kx_Fine s0) : ∀ w ∈ Bundle.ownAtoms R_SE 64 (kx_nm 2) kx_nms, w.before #[] s0 = true := h.2.1
theorem kx_at2 : ∀ w ∈ Bundle.ownAtoms R_SE 64 (kx_nm 2) kx_nms, kx_ok w = true := by decide +kernel
theorem kx_f3 {s0 : State} (h : kx_Fine s0) : ∀ w ∈ Bundle.ownAtoms R_SE 75 (kx_nm 3) kx_nms, w.before #[] s0 = true := h.2.2.1
theorem kx_at3 : ∀ w ∈ Bundle.ownAtoms R_SE 75 (kx_nm 3) kx_nms, kx_ok w = true := by decide +kernel
theorem kx_f4 {s0 : State} (h : kx_Fine s0) : ∀ w ∈ Bundle.ownAtoms R_SE 186 (kx_nm 4) kx_nms, w.before #[] s0 = true := h.2.2.2.1
theorem kx_at4 : ∀ w ∈ Bundle.ownAtoms R_SE 186 (kx_nm 4) kx_nms, kx_ok w = true := by decide +kernel
theorem kx_s52 {s0 : State} (h : kx_Fine s0) : ∃ q, vk_R R_SE 52 "no such width" q s0 := h.2.2.2.2.1
theorem kx_s62 {s0 : State} (h : kx_Fine s0) : ∃ q, vk_R R_SE 62 "there is an input" q s0 := h.2.2.2.2.2.1
theorem kx_s73 {s0 : State} (h : kx_Fine s0) : ∃ q, vk_R R_SE 73 "no more registers or bits" q s0 := h.2.2.2.2.2.2.1
theorem kx_s87 {s0 : State} (h : kx_Fine s0) : ∃ q, vk_R R_SE 87 "no such op or operand" q s0 := h.2.2.2.2.2.2.2.1
theorem kx_s89 {s0 : State} (h : kx_Fine s0) : ∃ q, vk_R R_SE 89 "no more inputs" q s0 := h.2.2.2.2.2.2.2.2.1
theorem kx_s102 {s0 : State} (h : kx_Fine s0) : ∃ q, vk_R R_SE 102 "no such input, register, op or operand" q s0 := h.2.2.2.2.2.2.2.2.2.1
theorem kx_s113 {s0 : State} (h : kx_Fine s0) : ∃ q, vk_R R_SE 113 "no more transfers" q s0 := h.2.2.2.2.2.2.2.2.2.2.1
theorem kx_s184 {s0 : State} (h : kx_Fine s0) : ∃ q, vk_R R_SE 184 "no such class, input or what" q s0 := h.2.2.2.2.2.2.2.2.2.2.2.1
theorem kx_s210 {s0 : State} (h : kx_Fine s0) : ∃ q, vk_R R_SE 210 "no such state" q s0 := h.2.2.2.2.2.2.2.2.2.2.2.2.1
theorem kx_s212 {s0 : State} (h : kx_Fine s0) : ∃ q, vk_R R_SE 212 "no such input" q s0 := h.2.2.2.2.2.2.2.2.2.2.2.2.2.1
theorem kx_s214 {s0 : State} (h : kx_Fine s0) : ∃ q, vk_R R_SE 214 "more states come than there is room for" q s0 := h.2.2.2.2.2.2.2.2.2.2.2.2.2.2.1
theorem kx_s216 {s0 : State} (h : kx_Fine s0) : ∃ q, vk_R R_SE 216 "no such walked state" q s0 := h.2.2.2.2.2.2.2.2.2.2.2.2.2.2.2.1
theorem kx_s218 {s0 : State} (h : kx_Fine s0) : ∃ q, vk_R R_SE 218 "a place below 0" q s0 := h.2.2.2.2.2.2.2.2.2.2.2.2.2.2.2.2

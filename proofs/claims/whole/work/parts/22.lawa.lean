abbrev wl_LC (cI cL cR : ClassId) (a_x : Nat) (a_x_machine : Nat) (a_x_walk : Nat) (a_x_grouping : Nat) (a_x_telling : Nat) (a_x_machine_shifts : Nat) (a_x_machine_masks : Nat) (a_x_machine_rules : Nat) (aRu_x_machine_rules_4 : Nat → Nat) (aTg_x_machine_rules_4 : Nat → Nat) (aOp_x_machine_rules_4 : Nat → Nat) (aLf_x_machine_rules_4 : Nat → Nat) (aRt_x_machine_rules_4 : Nat → Nat) (a_x_walk_ways : Nat) (a_x_telling_words : Nat) (a_m : Nat) (a_m_width : Nat) (a_m_shift : Nat) (a_m_outOp : Nat) (a_m_outA : Nat) (a_m_outB : Nat) (a_m_transfers : Nat) (a_m_to : Nat) (a_m_op : Nat) (a_m_opA : Nat) (a_m_opB : Nat) (a_m_next : Nat) (a_m_gives : Nat) (a_m_state : Nat) (a_m_from : Nat) (a_m_by : Nat) (a_m_depth : Nat) (a_m_number : Nat) (a_m_part : Nat) (a_m_newPart : Nat) (a_m_node : Nat) (a_m_newNode : Nat) (a_m_parent : Nat) (a_m_born : Nat) (a_m_one : Nat) (a_m_pieces : Nat) (a_m_chain : Nat) (a_m_behind : Nat) (a_m_classOf : Nat) (a_m_classState : Nat) (a_o : Nat) (x_room : Int32) (x_firstState : Int32) (x_machine_registers : Int32) (x_machine_bits : Int32) (x_machine_inputs : Int32) (x_machine_transfers : Int32) (n_x_machine_shifts : Nat) (f_x_machine_shifts : Nat → Int32) (n_x_machine_masks : Nat) (f_x_machine_masks : Nat → Int32) (n_x_machine_rules : Nat) (f_x_machine_rules : Nat → Option Nat) (aMv_x_machine_rules_4 : Nat → Nat) (vTr_x_machine_rules_4 : Nat → Int32) (fTg_x_machine_rules_4 : Nat → Nat → Int32) (fOp_x_machine_rules_4 : Nat → Nat → Int32) (fLf_x_machine_rules_4 : Nat → Nat → Int32) (fRt_x_machine_rules_4 : Nat → Nat → Int32) (nMv_x_machine_rules_4 : Nat → Nat) (fMv_x_machine_rules_4 : Nat → Nat → Int32) (x_walk_size : Int32) (x_walk_stands : Int32) (x_walk_fits : Int32) (x_walk_joined : Int32) (x_walk_resting : Int32) (n_x_walk_ways_back : Nat) (f_x_walk_ways_back : Nat → Int32) (n_x_walk_order : Nat) (f_x_walk_order : Nat → Int32) (n_x_walk_numberOf : Nat) (f_x_walk_numberOf : Nat → Int32) (n_x_walk_entered : Nat) (f_x_walk_entered : Nat → Int32) (x_grouping_groups : Int32) (x_grouping_stands : Int32) (x_grouping_lastSlot : Int32) (n_x_grouping_groupOf : Nat) (f_x_grouping_groupOf : Nat → Int32) (n_x_grouping_lowest : Nat) (f_x_grouping_lowest : Nat → Int32) (n_x_grouping_keys : Nat) (f_x_grouping_keys : Nat → Int64) (n_x_grouping_slots : Nat) (f_x_grouping_slots : Nat → Int32) (x_telling_stands : Int32) (x_telling_apart : Int32) (x_telling_left : Int32) (x_telling_right : Int32) (x_telling_size : Int32) (n_x_telling_words_back : Nat) (f_x_telling_words_back : Nat → Int32) (n_x_telling_lefts : Nat) (f_x_telling_lefts : Nat → Int32) (n_x_telling_rights : Nat) (f_x_telling_rights : Nat → Int32) (n_x_telling_joinedTo : Nat) (f_x_telling_joinedTo : Nat → Int32) (m_thrown : Int32) (m_room : Int32) (m_registers : Int32) (m_bits : Int32) (m_inputs : Int32) (m_first : Int32) (m_isFresh : Int32) (m_isRoom : Int32) (m_walked : Int32) (m_parts : Int32) (m_nodes : Int32) (m_classes : Int32) (n_m_width : Nat) (f_m_width : Nat → Int32) (n_m_shift : Nat) (f_m_shift : Nat → Int32) (n_m_outOp : Nat) (f_m_outOp : Nat → Int32) (n_m_outA : Nat) (f_m_outA : Nat → Int32) (n_m_outB : Nat) (f_m_outB : Nat → Int32) (n_m_transfers : Nat) (f_m_transfers : Nat → Int32) (n_m_to : Nat) (f_m_to : Nat → Int32) (n_m_op : Nat) (f_m_op : Nat → Int32) (n_m_opA : Nat) (f_m_opA : Nat → Int32) (n_m_opB : Nat) (f_m_opB : Nat → Int32) (n_m_next : Nat) (f_m_next : Nat → Int32) (n_m_gives : Nat) (f_m_gives : Nat → Int32) (n_m_state : Nat) (f_m_state : Nat → Int32) (n_m_from : Nat) (f_m_from : Nat → Int32) (n_m_by : Nat) (f_m_by : Nat → Int32) (n_m_depth : Nat) (f_m_depth : Nat → Int32) (n_m_number : Nat) (f_m_number : Nat → Int32) (n_m_part : Nat) (f_m_part : Nat → Int32) (n_m_newPart : Nat) (f_m_newPart : Nat → Int32) (n_m_node : Nat) (f_m_node : Nat → Int32) (n_m_newNode : Nat) (f_m_newNode : Nat → Int32) (n_m_parent : Nat) (f_m_parent : Nat → Int32) (n_m_born : Nat) (f_m_born : Nat → Int32) (n_m_one : Nat) (f_m_one : Nat → Int32) (n_m_pieces : Nat) (f_m_pieces : Nat → Int32) (n_m_chain : Nat) (f_m_chain : Nat → Int32) (n_m_behind : Nat) (f_m_behind : Nat → Int32) (n_m_classOf : Nat) (f_m_classOf : Nat → Int32) (n_m_classState : Nat) (f_m_classState : Nat → Int32) (n_o : Nat) (f_o : Nat → Int64) (a_x_walk_ways_back : Nat) (a_x_walk_order : Nat) (a_x_walk_numberOf : Nat) (a_x_walk_entered : Nat) (a_x_grouping_groupOf : Nat) (a_x_grouping_lowest : Nat) (a_x_grouping_keys : Nat) (a_x_grouping_slots : Nat) (a_x_telling_words_back : Nat) (a_x_telling_lefts : Nat) (a_x_telling_rights : Nat) (a_x_telling_joinedTo : Nat) : va_W := [(a_x, .inr (6, [.ref a_x_machine, .ref a_x_walk, .ref a_x_grouping, .ref a_x_telling, .int x_room, .int x_firstState])), (a_x_machine, .inr (2, [.ref a_x_machine_shifts, .ref a_x_machine_masks, .ref a_x_machine_rules, .int x_machine_registers, .int x_machine_bits, .int x_machine_inputs, .int x_machine_transfers])), (a_x_machine_shifts, .inl (cI, n_x_machine_shifts, .inl f_x_machine_shifts)), (a_x_machine_masks, .inl (cI, n_x_machine_masks, .inl f_x_machine_masks)), (a_x_machine_rules, .inl (cR, n_x_machine_rules, .inr (.inr (.inr (.inr f_x_machine_rules))))), ((aRu_x_machine_rules_4 0), .inr (0, [.ref (aTg_x_machine_rules_4 0), .ref (aOp_x_machine_rules_4 0), .ref (aLf_x_machine_rules_4 0), .ref (aRt_x_machine_rules_4 0), .int (vTr_x_machine_rules_4 0), .ref (aMv_x_machine_rules_4 0)])), ((aTg_x_machine_rules_4 0), .inl (cI, 9, .inl (fTg_x_machine_rules_4 0))), ((aOp_x_machine_rules_4 0), .inl (cI, 9, .inl (fOp_x_machine_rules_4 0))), ((aLf_x_machine_rules_4 0), .inl (cI, 9, .inl (fLf_x_machine_rules_4 0))), ((aRt_x_machine_rules_4 0), .inl (cI, 9, .inl (fRt_x_machine_rules_4 0))), ((aMv_x_machine_rules_4 0), .inl (cI, (nMv_x_machine_rules_4 0), .inl (fMv_x_machine_rules_4 0))), ((aRu_x_machine_rules_4 1), .inr (0, [.ref (aTg_x_machine_rules_4 1), .ref (aOp_x_machine_rules_4 1), .ref (aLf_x_machine_rules_4 1), .ref (aRt_x_machine_rules_4 1), .int (vTr_x_machine_rules_4 1), .ref (aMv_x_machine_rules_4 1)])), ((aTg_x_machine_rules_4 1), .inl (cI, 9, .inl (fTg_x_machine_rules_4 1))), ((aOp_x_machine_rules_4 1), .inl (cI, 9, .inl (fOp_x_machine_rules_4 1))), ((aLf_x_machine_rules_4 1), .inl (cI, 9, .inl (fLf_x_machine_rules_4 1))), ((aRt_x_machine_rules_4 1), .inl (cI, 9, .inl (fRt_x_machine_rules_4 1))), ((aMv_x_machine_rules_4 1), .inl (cI, (nMv_x_machine_rules_4 1), .inl (fMv_x_machine_rules_4 1))), ((aRu_x_machine_rules_4 2), .inr (0, [.ref (aTg_x_machine_rules_4 2), .ref (aOp_x_machine_rules_4 2), .ref (aLf_x_machine_rules_4 2), .ref (aRt_x_machine_rules_4 2), .int (vTr_x_machine_rules_4 2), .ref (aMv_x_machine_rules_4 2)])), ((aTg_x_machine_rules_4 2), .inl (cI, 9, .inl (fTg_x_machine_rules_4 2))), ((aOp_x_machine_rules_4 2), .inl (cI, 9, .inl (fOp_x_machine_rules_4 2))), ((aLf_x_machine_rules_4 2), .inl (cI, 9, .inl (fLf_x_machine_rules_4 2))), ((aRt_x_machine_rules_4 2), .inl (cI, 9, .inl (fRt_x_machine_rules_4 2))), ((aMv_x_machine_rules_4 2), .inl (cI, (nMv_x_machine_rules_4 2), .inl (fMv_x_machine_rules_4 2))), ((aRu_x_machine_rules_4 3), .inr (0, [.ref (aTg_x_machine_rules_4 3), .ref (aOp_x_machine_rules_4 3), .ref (aLf_x_machine_rules_4 3), .ref (aRt_x_machine_rules_4 3), .int (vTr_x_machine_rules_4 3), .ref (aMv_x_machine_rules_4 3)])), ((aTg_x_machine_rules_4 3), .inl (cI, 9, .inl (fTg_x_machine_rules_4 3))), ((aOp_x_machine_rules_4 3), .inl (cI, 9, .inl (fOp_x_machine_rules_4 3))), ((aLf_x_machine_rules_4 3), .inl (cI, 9, .inl (fLf_x_machine_rules_4 3))), ((aRt_x_machine_rules_4 3), .inl (cI, 9, .inl (fRt_x_machine_rules_4 3))), ((aMv_x_machine_rules_4 3), .inl (cI, (nMv_x_machine_rules_4 3), .inl (fMv_x_machine_rules_4 3))), (a_x_walk, .inr (3, [.ref a_x_walk_ways, .ref a_x_walk_order, .ref a_x_walk_numberOf, .int x_walk_size, .int x_walk_stands, .int x_walk_fits, .int x_walk_joined, .int x_walk_resting, .ref a_x_walk_entered])), (a_x_walk_ways, .inr (1, [.ref a_x_walk_ways_back])), (a_x_walk_ways_back, .inl (cI, n_x_walk_ways_back, .inl f_x_walk_ways_back)), (a_x_walk_order, .inl (cI, n_x_walk_order, .inl f_x_walk_order)), (a_x_walk_numberOf, .inl (cI, n_x_walk_numberOf, .inl f_x_walk_numberOf)), (a_x_walk_entered, .inl (cI, n_x_walk_entered, .inl f_x_walk_entered)), (a_x_grouping, .inr (4, [.ref a_x_grouping_groupOf, .ref a_x_grouping_lowest, .int x_grouping_groups, .int x_grouping_stands, .ref a_x_grouping_keys, .ref a_x_grouping_slots, .int x_grouping_lastSlot])), (a_x_grouping_groupOf, .inl (cI, n_x_grouping_groupOf, .inl f_x_grouping_groupOf)), (a_x_grouping_lowest, .inl (cI, n_x_grouping_lowest, .inl f_x_grouping_lowest)), (a_x_grouping_keys, .inl (cL, n_x_grouping_keys, .inr (.inl f_x_grouping_keys))), (a_x_grouping_slots, .inl (cI, n_x_grouping_slots, .inl f_x_grouping_slots)), (a_x_telling, .inr (5, [.int x_telling_stands, .int x_telling_apart, .ref a_x_telling_words, .ref a_x_telling_lefts, .ref a_x_telling_rights, .ref a_x_telling_joinedTo, .int x_telling_left, .int x_telling_right, .int x_telling_size])), (a_x_telling_words, .inr (1, [.ref a_x_telling_words_back])), (a_x_telling_words_back, .inl (cI, n_x_telling_words_back, .inl f_x_telling_words_back)), (a_x_telling_lefts, .inl (cI, n_x_telling_lefts, .inl f_x_telling_lefts)), (a_x_telling_rights, .inl (cI, n_x_telling_rights, .inl f_x_telling_rights)), (a_x_telling_joinedTo, .inl (cI, n_x_telling_joinedTo, .inl f_x_telling_joinedTo)), (a_m, .inr (7, [.int m_thrown, .int m_room, .int m_registers, .int m_bits, .int m_inputs, .int m_first, .ref a_m_width, .ref a_m_shift, .ref a_m_outOp, .ref a_m_outA, .ref a_m_outB, .ref a_m_transfers, .ref a_m_to, .ref a_m_op, .ref a_m_opA, .ref a_m_opB, .int m_isFresh, .ref a_m_next, .ref a_m_gives, .int m_isRoom, .int m_walked, .ref a_m_state, .ref a_m_from, .ref a_m_by, .ref a_m_depth, .ref a_m_number, .int m_parts, .int m_nodes, .ref a_m_part, .ref a_m_newPart, .ref a_m_node, .ref a_m_newNode, .ref a_m_parent, .ref a_m_born, .ref a_m_one, .ref a_m_pieces, .ref a_m_chain, .ref a_m_behind, .int m_classes, .ref a_m_classOf, .ref a_m_classState])), (a_m_width, .inl (cI, n_m_width, .inl f_m_width)), (a_m_shift, .inl (cI, n_m_shift, .inl f_m_shift)), (a_m_outOp, .inl (cI, n_m_outOp, .inl f_m_outOp)), (a_m_outA, .inl (cI, n_m_outA, .inl f_m_outA)), (a_m_outB, .inl (cI, n_m_outB, .inl f_m_outB)), (a_m_transfers, .inl (cI, n_m_transfers, .inl f_m_transfers)), (a_m_to, .inl (cI, n_m_to, .inl f_m_to)), (a_m_op, .inl (cI, n_m_op, .inl f_m_op)), (a_m_opA, .inl (cI, n_m_opA, .inl f_m_opA)), (a_m_opB, .inl (cI, n_m_opB, .inl f_m_opB)), (a_m_next, .inl (cI, n_m_next, .inl f_m_next)), (a_m_gives, .inl (cI, n_m_gives, .inl f_m_gives)), (a_m_state, .inl (cI, n_m_state, .inl f_m_state)), (a_m_from, .inl (cI, n_m_from, .inl f_m_from)), (a_m_by, .inl (cI, n_m_by, .inl f_m_by)), (a_m_depth, .inl (cI, n_m_depth, .inl f_m_depth)), (a_m_number, .inl (cI, n_m_number, .inl f_m_number)), (a_m_part, .inl (cI, n_m_part, .inl f_m_part)), (a_m_newPart, .inl (cI, n_m_newPart, .inl f_m_newPart)), (a_m_node, .inl (cI, n_m_node, .inl f_m_node)), (a_m_newNode, .inl (cI, n_m_newNode, .inl f_m_newNode)), (a_m_parent, .inl (cI, n_m_parent, .inl f_m_parent)), (a_m_born, .inl (cI, n_m_born, .inl f_m_born)), (a_m_one, .inl (cI, n_m_one, .inl f_m_one)), (a_m_pieces, .inl (cI, n_m_pieces, .inl f_m_pieces)), (a_m_chain, .inl (cI, n_m_chain, .inl f_m_chain)), (a_m_behind, .inl (cI, n_m_behind, .inl f_m_behind)), (a_m_classOf, .inl (cI, n_m_classOf, .inl f_m_classOf)), (a_m_classState, .inl (cI, n_m_classState, .inl f_m_classState)), (a_o, .inl (cL, n_o, .inr (.inl f_o)))]
theorem k_539 : Cond.codeWith y_LW_register b_LW_register 4 (some .int) hs_LW_register ∈ wsG := by decide +kernel
theorem k_540 : Cond.methodLink R_LW 80 y_LW_register ∈ wsG := by decide +kernel
theorem k_541 : Cond.static y_LW_register ∈ wsG := by decide +kernel
theorem k_542 : Cond.initialized R_LW ∈ wsG := by decide +kernel
theorem k_543 : Cond.codeWith y_LW_input b_LW_input 6 (some .int) hs_LW_input ∈ wsG := by decide +kernel
theorem k_544 : Cond.methodLink R_LW 87 y_LW_input ∈ wsG := by decide +kernel
theorem k_545 : Cond.static y_LW_input ∈ wsG := by decide +kernel
theorem k_546 : Cond.codeWith y_LW_transfer b_LW_transfer 8 (some .int) hs_LW_transfer ∈ wsG := by decide +kernel
theorem k_547 : Cond.methodLink R_LW 91 y_LW_transfer ∈ wsG := by decide +kernel
theorem k_548 : Cond.static y_LW_transfer ∈ wsG := by decide +kernel
theorem k_549 : Cond.codeWith y_LW_first b_LW_first 4 (some .int) hs_LW_first ∈ wsG := by decide +kernel
theorem k_550 : Cond.methodLink R_LW 95 y_LW_first ∈ wsG := by decide +kernel
theorem k_551 : Cond.static y_LW_first ∈ wsG := by decide +kernel
theorem k_552 : Cond.codeWith y_LW_step b_LW_step 5 (some .int) hs_LW_step ∈ wsG := by decide +kernel
theorem k_553 : Cond.methodLink R_LW 98 y_LW_step ∈ wsG := by decide +kernel
theorem k_554 : Cond.static y_LW_step ∈ wsG := by decide +kernel
theorem k_555 : Cond.codeWith y_LW_output b_LW_output 5 (some .int) hs_LW_output ∈ wsG := by decide +kernel
theorem k_556 : Cond.methodLink R_LW 102 y_LW_output ∈ wsG := by decide +kernel
theorem k_557 : Cond.static y_LW_output ∈ wsG := by decide +kernel
theorem k_558 : Cond.codeWith y_LW_walked b_LW_walked 3 (some .int) hs_LW_walked ∈ wsG := by decide +kernel
theorem k_559 : Cond.methodLink R_LW 105 y_LW_walked ∈ wsG := by decide +kernel
theorem k_560 : Cond.static y_LW_walked ∈ wsG := by decide +kernel
theorem k_561 : Cond.codeWith y_LW_state b_LW_state 4 (some .int) hs_LW_state ∈ wsG := by decide +kernel
theorem k_562 : Cond.methodLink R_LW 109 y_LW_state ∈ wsG := by decide +kernel
theorem k_563 : Cond.static y_LW_state ∈ wsG := by decide +kernel
theorem k_564 : Cond.codeWith y_LW_number b_LW_number 4 (some .int) hs_LW_number ∈ wsG := by decide +kernel
theorem k_565 : Cond.methodLink R_LW 112 y_LW_number ∈ wsG := by decide +kernel
theorem k_566 : Cond.static y_LW_number ∈ wsG := by decide +kernel
theorem k_567 : Cond.codeWith y_LW_way b_LW_way 5 (some .int) hs_LW_way ∈ wsG := by decide +kernel
theorem k_568 : Cond.methodLink R_LW 115 y_LW_way ∈ wsG := by decide +kernel
theorem k_569 : Cond.static y_LW_way ∈ wsG := by decide +kernel
theorem k_570 : Cond.codeWith y_LW_alike b_LW_alike 5 (some .int) hs_LW_alike ∈ wsG := by decide +kernel
theorem k_571 : Cond.methodLink R_LW 118 y_LW_alike ∈ wsG := by decide +kernel
theorem k_572 : Cond.static y_LW_alike ∈ wsG := by decide +kernel
theorem k_573 : Cond.codeWith y_LW_word b_LW_word 6 (some .int) hs_LW_word ∈ wsG := by decide +kernel
theorem k_574 : Cond.methodLink R_LW 121 y_LW_word ∈ wsG := by decide +kernel
theorem k_575 : Cond.static y_LW_word ∈ wsG := by decide +kernel
theorem k_576 : Cond.codeWith y_LW_classes b_LW_classes 3 (some .int) hs_LW_classes ∈ wsG := by decide +kernel
theorem k_577 : Cond.methodLink R_LW 124 y_LW_classes ∈ wsG := by decide +kernel
theorem k_578 : Cond.static y_LW_classes ∈ wsG := by decide +kernel
theorem k_579 : Cond.codeWith y_LW_classOf b_LW_classOf 4 (some .int) hs_LW_classOf ∈ wsG := by decide +kernel
theorem k_580 : Cond.methodLink R_LW 127 y_LW_classOf ∈ wsG := by decide +kernel
theorem k_581 : Cond.static y_LW_classOf ∈ wsG := by decide +kernel
theorem k_582 : Cond.codeWith y_LW_least b_LW_least 6 (some .int) hs_LW_least ∈ wsG := by decide +kernel
theorem k_583 : Cond.methodLink R_LW 130 y_LW_least ∈ wsG := by decide +kernel
theorem k_584 : Cond.static y_LW_least ∈ wsG := by decide +kernel
theorem k_585 : Cond.code y_MO_register b_MO_register 2 (some .int) ∈ wsG := by decide +kernel
theorem k_586 : Cond.methodLink R_LW 83 y_MO_register ∈ wsG := by decide +kernel
theorem k_587 : Cond.instanceMethod y_MO_register ∈ wsG := by decide +kernel
theorem k_588 : Cond.selects R_MO y_MO_register y_MO_register ∈ wsG := by decide +kernel
theorem k_589 : Cond.code y_MO_thrown b_MO_thrown 1 (some .int) ∈ wsG := by decide +kernel
theorem k_590 : Cond.methodLink R_LW 84 y_MO_thrown ∈ wsG := by decide +kernel
theorem k_591 : Cond.instanceMethod y_MO_thrown ∈ wsG := by decide +kernel
theorem k_592 : Cond.selects R_MO y_MO_thrown y_MO_thrown ∈ wsG := by decide +kernel
theorem k_593 : Cond.code y_MO_input b_MO_input 4 (some .int) ∈ wsG := by decide +kernel
theorem k_594 : Cond.methodLink R_LW 90 y_MO_input ∈ wsG := by decide +kernel
theorem k_595 : Cond.instanceMethod y_MO_input ∈ wsG := by decide +kernel
theorem k_596 : Cond.selects R_MO y_MO_input y_MO_input ∈ wsG := by decide +kernel
theorem k_597 : Cond.code y_MO_transfer b_MO_transfer 7 (some .int) ∈ wsG := by decide +kernel
theorem k_598 : Cond.methodLink R_LW 94 y_MO_transfer ∈ wsG := by decide +kernel
theorem k_599 : Cond.instanceMethod y_MO_transfer ∈ wsG := by decide +kernel
theorem k_600 : Cond.selects R_MO y_MO_transfer y_MO_transfer ∈ wsG := by decide +kernel
theorem k_601 : Cond.code y_MO_first b_MO_first 3 (some .int) ∈ wsG := by decide +kernel
theorem k_602 : Cond.methodLink R_LW 97 y_MO_first ∈ wsG := by decide +kernel
theorem k_603 : Cond.instanceMethod y_MO_first ∈ wsG := by decide +kernel
theorem k_604 : Cond.selects R_MO y_MO_first y_MO_first ∈ wsG := by decide +kernel
theorem k_605 : Cond.code y_MO_step b_MO_step 3 (some .int) ∈ wsG := by decide +kernel
theorem k_606 : Cond.methodLink R_LW 101 y_MO_step ∈ wsG := by decide +kernel
theorem k_607 : Cond.instanceMethod y_MO_step ∈ wsG := by decide +kernel
theorem k_608 : Cond.selects R_MO y_MO_step y_MO_step ∈ wsG := by decide +kernel
theorem k_609 : Cond.code y_MO_output b_MO_output 3 (some .int) ∈ wsG := by decide +kernel
theorem k_610 : Cond.methodLink R_LW 104 y_MO_output ∈ wsG := by decide +kernel
theorem k_611 : Cond.instanceMethod y_MO_output ∈ wsG := by decide +kernel
theorem k_612 : Cond.selects R_MO y_MO_output y_MO_output ∈ wsG := by decide +kernel
theorem k_613 : Cond.code y_MO_walked b_MO_walked 1 (some .int) ∈ wsG := by decide +kernel
theorem k_614 : Cond.methodLink R_LW 108 y_MO_walked ∈ wsG := by decide +kernel
theorem k_615 : Cond.instanceMethod y_MO_walked ∈ wsG := by decide +kernel
theorem k_616 : Cond.selects R_MO y_MO_walked y_MO_walked ∈ wsG := by decide +kernel
theorem k_617 : Cond.code y_MO_state b_MO_state 2 (some .int) ∈ wsG := by decide +kernel
theorem k_618 : Cond.methodLink R_LW 111 y_MO_state ∈ wsG := by decide +kernel
theorem k_619 : Cond.instanceMethod y_MO_state ∈ wsG := by decide +kernel
theorem k_620 : Cond.selects R_MO y_MO_state y_MO_state ∈ wsG := by decide +kernel
theorem k_621 : Cond.code y_MO_number b_MO_number 2 (some .int) ∈ wsG := by decide +kernel
theorem k_622 : Cond.methodLink R_LW 114 y_MO_number ∈ wsG := by decide +kernel
theorem k_623 : Cond.instanceMethod y_MO_number ∈ wsG := by decide +kernel
theorem k_624 : Cond.selects R_MO y_MO_number y_MO_number ∈ wsG := by decide +kernel
theorem k_625 : Cond.code y_MO_way b_MO_way 4 (some .int) ∈ wsG := by decide +kernel
theorem k_626 : Cond.methodLink R_LW 117 y_MO_way ∈ wsG := by decide +kernel
theorem k_627 : Cond.instanceMethod y_MO_way ∈ wsG := by decide +kernel
theorem k_628 : Cond.selects R_MO y_MO_way y_MO_way ∈ wsG := by decide +kernel
theorem k_629 : Cond.code y_MO_alike b_MO_alike 3 (some .boolean) ∈ wsG := by decide +kernel
theorem k_630 : Cond.methodLink R_LW 120 y_MO_alike ∈ wsG := by decide +kernel
theorem k_631 : Cond.instanceMethod y_MO_alike ∈ wsG := by decide +kernel
theorem k_632 : Cond.selects R_MO y_MO_alike y_MO_alike ∈ wsG := by decide +kernel
theorem k_633 : Cond.code y_MO_word b_MO_word 9 (some .int) ∈ wsG := by decide +kernel
theorem k_634 : Cond.methodLink R_LW 123 y_MO_word ∈ wsG := by decide +kernel
theorem k_635 : Cond.instanceMethod y_MO_word ∈ wsG := by decide +kernel
theorem k_636 : Cond.selects R_MO y_MO_word y_MO_word ∈ wsG := by decide +kernel
theorem k_637 : Cond.code y_MO_classes b_MO_classes 1 (some .int) ∈ wsG := by decide +kernel
theorem k_638 : Cond.methodLink R_LW 126 y_MO_classes ∈ wsG := by decide +kernel
theorem k_639 : Cond.instanceMethod y_MO_classes ∈ wsG := by decide +kernel
theorem k_640 : Cond.selects R_MO y_MO_classes y_MO_classes ∈ wsG := by decide +kernel
theorem k_641 : Cond.code y_MO_classOf b_MO_classOf 2 (some .int) ∈ wsG := by decide +kernel
theorem k_642 : Cond.methodLink R_LW 129 y_MO_classOf ∈ wsG := by decide +kernel
theorem k_643 : Cond.instanceMethod y_MO_classOf ∈ wsG := by decide +kernel
theorem k_644 : Cond.selects R_MO y_MO_classOf y_MO_classOf ∈ wsG := by decide +kernel
theorem k_645 : Cond.code y_MO_least b_MO_least 5 (some .int) ∈ wsG := by decide +kernel
theorem k_646 : Cond.methodLink R_LW 132 y_MO_least ∈ wsG := by decide +kernel
theorem k_647 : Cond.instanceMethod y_MO_least ∈ wsG := by decide +kernel
theorem k_648 : Cond.selects R_MO y_MO_least y_MO_least ∈ wsG := by decide +kernel
theorem k_649 : Cond.code y_SE_count b_SE_count 2 (some .int) ∈ wsG := by decide +kernel
theorem k_650 : Cond.methodLink R_LW 133 y_SE_count ∈ wsG := by decide +kernel
theorem k_651 : Cond.instanceMethod y_SE_count ∈ wsG := by decide +kernel
theorem k_652 : Cond.selects R_SE y_SE_count y_SE_count ∈ wsG := by decide +kernel
theorem k_653 : Cond.code y_MO_count b_MO_count 2 (some .int) ∈ wsG := by decide +kernel
theorem k_654 : Cond.methodLink R_LW 136 y_MO_count ∈ wsG := by decide +kernel
theorem k_655 : Cond.instanceMethod y_MO_count ∈ wsG := by decide +kernel
theorem k_656 : Cond.selects R_MO y_MO_count y_MO_count ∈ wsG := by decide +kernel
section Sites
variable {p : Program} {l : Launch} {e : Env} {R : Room} {s : State} {m : MethodId} {args : Array Value} {below : List Frame} {meth : Method} {c : Code} {H H0 : Heap} {locs : List Loc} {cells slots : Nat} {Q : State → Prop} {cc : ByteArray} {pc : Nat} {ls : Array Slot} {rest : List Value} {D : va_G} {A : Nat → Prop} {a : Nat} {TY : List (ClassId × FieldType)} {ws : va_W}
theorem cw_LW_83 {rm : Room} (hts : ∀ w ∈ wsG, w.before args s = true) (hR : rm.frames + 1 ≤ R.frames ∧ 8 + (2 + 11) + rm.locals ≤ R.locals) : CallW R s args R_LW R_MO 83 y_MO_register b_MO_register 2 (some .int) (.code y_MO_register b_MO_register 2 (some .int) :: wsG) rm rm.cells rm.slots 1 :=
  ky_cwV 1 hts k_585 k_586 k_587 k_588 k_51 (by decide +kernel) hR
theorem cw_LW_84 {rm : Room} (hts : ∀ w ∈ wsG, w.before args s = true) (hR : rm.frames + 1 ≤ R.frames ∧ 8 + (1 + 11) + rm.locals ≤ R.locals) : CallW R s args R_LW R_MO 84 y_MO_thrown b_MO_thrown 1 (some .int) (.code y_MO_thrown b_MO_thrown 1 (some .int) :: wsG) rm rm.cells rm.slots 0 :=
  ky_cwV 0 hts k_589 k_590 k_591 k_592 k_51 (by decide +kernel) hR
theorem cw_LW_90 {rm : Room} (hts : ∀ w ∈ wsG, w.before args s = true) (hR : rm.frames + 1 ≤ R.frames ∧ 8 + (4 + 11) + rm.locals ≤ R.locals) : CallW R s args R_LW R_MO 90 y_MO_input b_MO_input 4 (some .int) (.code y_MO_input b_MO_input 4 (some .int) :: wsG) rm rm.cells rm.slots 3 :=
  ky_cwV 3 hts k_593 k_594 k_595 k_596 k_51 (by decide +kernel) hR
theorem cw_LW_94 {rm : Room} (hts : ∀ w ∈ wsG, w.before args s = true) (hR : rm.frames + 1 ≤ R.frames ∧ 8 + (7 + 11) + rm.locals ≤ R.locals) : CallW R s args R_LW R_MO 94 y_MO_transfer b_MO_transfer 7 (some .int) (.code y_MO_transfer b_MO_transfer 7 (some .int) :: wsG) rm rm.cells rm.slots 5 :=
  ky_cwV 5 hts k_597 k_598 k_599 k_600 k_51 (by decide +kernel) hR
theorem cw_LW_97 {rm : Room} (hts : ∀ w ∈ wsG, w.before args s = true) (hR : rm.frames + 1 ≤ R.frames ∧ 8 + (3 + 11) + rm.locals ≤ R.locals) : CallW R s args R_LW R_MO 97 y_MO_first b_MO_first 3 (some .int) (.code y_MO_first b_MO_first 3 (some .int) :: wsG) rm rm.cells rm.slots 1 :=
  ky_cwV 1 hts k_601 k_602 k_603 k_604 k_51 (by decide +kernel) hR
theorem cw_LW_101 {rm : Room} (hts : ∀ w ∈ wsG, w.before args s = true) (hR : rm.frames + 1 ≤ R.frames ∧ 8 + (3 + 11) + rm.locals ≤ R.locals) : CallW R s args R_LW R_MO 101 y_MO_step b_MO_step 3 (some .int) (.code y_MO_step b_MO_step 3 (some .int) :: wsG) rm rm.cells rm.slots 2 :=
  ky_cwV 2 hts k_605 k_606 k_607 k_608 k_51 (by decide +kernel) hR
theorem cw_LW_104 {rm : Room} (hts : ∀ w ∈ wsG, w.before args s = true) (hR : rm.frames + 1 ≤ R.frames ∧ 8 + (3 + 11) + rm.locals ≤ R.locals) : CallW R s args R_LW R_MO 104 y_MO_output b_MO_output 3 (some .int) (.code y_MO_output b_MO_output 3 (some .int) :: wsG) rm rm.cells rm.slots 2 :=
  ky_cwV 2 hts k_609 k_610 k_611 k_612 k_51 (by decide +kernel) hR
theorem cw_LW_108 {rm : Room} (hts : ∀ w ∈ wsG, w.before args s = true) (hR : rm.frames + 1 ≤ R.frames ∧ 8 + (1 + 11) + rm.locals ≤ R.locals) : CallW R s args R_LW R_MO 108 y_MO_walked b_MO_walked 1 (some .int) (.code y_MO_walked b_MO_walked 1 (some .int) :: wsG) rm rm.cells rm.slots 0 :=
  ky_cwV 0 hts k_613 k_614 k_615 k_616 k_51 (by decide +kernel) hR
theorem cw_LW_111 {rm : Room} (hts : ∀ w ∈ wsG, w.before args s = true) (hR : rm.frames + 1 ≤ R.frames ∧ 8 + (2 + 11) + rm.locals ≤ R.locals) : CallW R s args R_LW R_MO 111 y_MO_state b_MO_state 2 (some .int) (.code y_MO_state b_MO_state 2 (some .int) :: wsG) rm rm.cells rm.slots 1 :=
  ky_cwV 1 hts k_617 k_618 k_619 k_620 k_51 (by decide +kernel) hR
theorem cw_LW_114 {rm : Room} (hts : ∀ w ∈ wsG, w.before args s = true) (hR : rm.frames + 1 ≤ R.frames ∧ 8 + (2 + 11) + rm.locals ≤ R.locals) : CallW R s args R_LW R_MO 114 y_MO_number b_MO_number 2 (some .int) (.code y_MO_number b_MO_number 2 (some .int) :: wsG) rm rm.cells rm.slots 1 :=
  ky_cwV 1 hts k_621 k_622 k_623 k_624 k_51 (by decide +kernel) hR
theorem cw_LW_117 {rm : Room} (hts : ∀ w ∈ wsG, w.before args s = true) (hR : rm.frames + 1 ≤ R.frames ∧ 8 + (4 + 11) + rm.locals ≤ R.locals) : CallW R s args R_LW R_MO 117 y_MO_way b_MO_way 4 (some .int) (.code y_MO_way b_MO_way 4 (some .int) :: wsG) rm rm.cells rm.slots 2 :=
  ky_cwV 2 hts k_625 k_626 k_627 k_628 k_51 (by decide +kernel) hR
theorem cw_LW_120 {rm : Room} (hts : ∀ w ∈ wsG, w.before args s = true) (hR : rm.frames + 1 ≤ R.frames ∧ 8 + (3 + 11) + rm.locals ≤ R.locals) : CallW R s args R_LW R_MO 120 y_MO_alike b_MO_alike 3 (some .boolean) (.code y_MO_alike b_MO_alike 3 (some .boolean) :: wsG) rm rm.cells rm.slots 2 :=
  ky_cwV 2 hts k_629 k_630 k_631 k_632 k_51 (by decide +kernel) hR
theorem cw_LW_123 {rm : Room} (hts : ∀ w ∈ wsG, w.before args s = true) (hR : rm.frames + 1 ≤ R.frames ∧ 8 + (9 + 11) + rm.locals ≤ R.locals) : CallW R s args R_LW R_MO 123 y_MO_word b_MO_word 9 (some .int) (.code y_MO_word b_MO_word 9 (some .int) :: wsG) rm rm.cells rm.slots 3 :=
  ky_cwV 3 hts k_633 k_634 k_635 k_636 k_51 (by decide +kernel) hR
theorem cw_LW_126 {rm : Room} (hts : ∀ w ∈ wsG, w.before args s = true) (hR : rm.frames + 1 ≤ R.frames ∧ 8 + (1 + 11) + rm.locals ≤ R.locals) : CallW R s args R_LW R_MO 126 y_MO_classes b_MO_classes 1 (some .int) (.code y_MO_classes b_MO_classes 1 (some .int) :: wsG) rm rm.cells rm.slots 0 :=
  ky_cwV 0 hts k_637 k_638 k_639 k_640 k_51 (by decide +kernel) hR
theorem cw_LW_129 {rm : Room} (hts : ∀ w ∈ wsG, w.before args s = true) (hR : rm.frames + 1 ≤ R.frames ∧ 8 + (2 + 11) + rm.locals ≤ R.locals) : CallW R s args R_LW R_MO 129 y_MO_classOf b_MO_classOf 2 (some .int) (.code y_MO_classOf b_MO_classOf 2 (some .int) :: wsG) rm rm.cells rm.slots 1 :=
  ky_cwV 1 hts k_641 k_642 k_643 k_644 k_51 (by decide +kernel) hR
theorem cw_LW_132 {rm : Room} (hts : ∀ w ∈ wsG, w.before args s = true) (hR : rm.frames + 1 ≤ R.frames ∧ 8 + (5 + 11) + rm.locals ≤ R.locals) : CallW R s args R_LW R_MO 132 y_MO_least b_MO_least 5 (some .int) (.code y_MO_least b_MO_least 5 (some .int) :: wsG) rm rm.cells rm.slots 3 :=
  ky_cwV 3 hts k_645 k_646 k_647 k_648 k_51 (by decide +kernel) hR
theorem cw_LW_133 {rm : Room} (hts : ∀ w ∈ wsG, w.before args s = true) (hR : rm.frames + 1 ≤ R.frames ∧ 8 + (2 + 11) + rm.locals ≤ R.locals) : CallW R s args R_LW R_SE 133 y_SE_count b_SE_count 2 (some .int) (.code y_SE_count b_SE_count 2 (some .int) :: wsG) rm rm.cells rm.slots 1 :=
  ky_cwV 1 hts k_649 k_650 k_651 k_652 k_361 (by decide +kernel) hR
theorem cw_LW_136 {rm : Room} (hts : ∀ w ∈ wsG, w.before args s = true) (hR : rm.frames + 1 ≤ R.frames ∧ 8 + (2 + 11) + rm.locals ≤ R.locals) : CallW R s args R_LW R_MO 136 y_MO_count b_MO_count 2 (some .int) (.code y_MO_count b_MO_count 2 (some .int) :: wsG) rm rm.cells rm.slots 1 :=
  ky_cwV 1 hts k_653 k_654 k_655 k_656 k_51 (by decide +kernel) hR
end Sites
theorem d_LC_0 : decode code 0 = .ok (.new 8, 3) := by decide +kernel
theorem d_LC_3 : decode code 3 = .ok (.dup, 1) := by decide +kernel
theorem d_LC_4 : decode code 4 = .ok (.aload_n 0, 1) := by decide +kernel
theorem d_LC_5 : decode code 5 = .ok (.iconst 0, 1) := by decide +kernel
theorem d_LC_6 : decode code 6 = .ok (.invokestatic 68, 3) := by decide +kernel
theorem d_LC_9 : decode code 9 = .ok (.invokespecial 74, 3) := by decide +kernel
theorem d_LC_12 : decode code 12 = .ok (.astore_n 1, 1) := by decide +kernel
theorem d_LC_13 : decode code 13 = .ok (.new 77, 3) := by decide +kernel
theorem d_LC_16 : decode code 16 = .ok (.dup, 1) := by decide +kernel
theorem d_LC_17 : decode code 17 = .ok (.aload_n 0, 1) := by decide +kernel
theorem d_LC_18 : decode code 18 = .ok (.iconst 0, 1) := by decide +kernel
theorem d_LC_19 : decode code 19 = .ok (.invokestatic 68, 3) := by decide +kernel
theorem d_LC_22 : decode code 22 = .ok (.invokespecial 79, 3) := by decide +kernel
theorem d_LC_25 : decode code 25 = .ok (.astore_n 2, 1) := by decide +kernel
theorem d_LC_26 : decode code 26 = .ok (.iconst 1, 1) := by decide +kernel
theorem d_LC_27 : decode code 27 = .ok (.newarray .long, 2) := by decide +kernel
theorem d_LC_29 : decode code 29 = .ok (.astore_n 3, 1) := by decide +kernel
theorem d_LC_30 : decode code 30 = .ok (.iconst 1, 1) := by decide +kernel
theorem d_LC_31 : decode code 31 = .ok (.istore 4, 2) := by decide +kernel
theorem d_LC_33 : decode code 33 = .ok (.iload 4, 2) := by decide +kernel
theorem d_LC_35 : decode code 35 = .ok (.aload_n 0, 1) := by decide +kernel
theorem d_LC_36 : decode code 36 = .ok (.arraylength, 1) := by decide +kernel
theorem d_LC_37 : decode code 37 = .ok (.bipush 6, 2) := by decide +kernel
theorem d_LC_39 : decode code 39 = .ok (.isub, 1) := by decide +kernel
theorem d_LC_40 : decode code 40 = .ok (.if_icmp .gt 1110, 3) := by decide +kernel
theorem d_LC_43 : decode code 43 = .ok (.aload_n 0, 1) := by decide +kernel
theorem d_LC_44 : decode code 44 = .ok (.iload 4, 2) := by decide +kernel
theorem d_LC_46 : decode code 46 = .ok (.iaload, 1) := by decide +kernel
theorem d_LC_47 : decode code 47 = .ok (.bipush 15, 2) := by decide +kernel
theorem d_LC_49 : decode code 49 = .ok (.iand, 1) := by decide +kernel
theorem d_LC_50 : decode code 50 = .ok (.tableswitch 1094 0 15 #[78, 134, 214, 318, 374, 442, 510, 554, 610, 666, 734, 809, 889, 933, 989, 1069], 78) := by decide +kernel
theorem d_LC_128 : decode code 128 = .ok (.aload_n 1, 1) := by decide +kernel
theorem d_LC_129 : decode code 129 = .ok (.aload_n 0, 1) := by decide +kernel
theorem d_LC_130 : decode code 130 = .ok (.iload 4, 2) := by decide +kernel
theorem d_LC_132 : decode code 132 = .ok (.iconst 1, 1) := by decide +kernel
theorem d_LC_133 : decode code 133 = .ok (.iadd, 1) := by decide +kernel
theorem d_LC_134 : decode code 134 = .ok (.iaload, 1) := by decide +kernel
theorem d_LC_135 : decode code 135 = .ok (.aload_n 3, 1) := by decide +kernel
theorem d_LC_136 : decode code 136 = .ok (.invokestatic 80, 3) := by decide +kernel
theorem d_LC_139 : decode code 139 = .ok (.istore 5, 2) := by decide +kernel
theorem d_LC_141 : decode code 141 = .ok (.aload_n 2, 1) := by decide +kernel
theorem d_LC_142 : decode code 142 = .ok (.aload_n 0, 1) := by decide +kernel
theorem d_LC_143 : decode code 143 = .ok (.iload 4, 2) := by decide +kernel
theorem d_LC_145 : decode code 145 = .ok (.iconst 1, 1) := by decide +kernel
theorem d_LC_146 : decode code 146 = .ok (.iadd, 1) := by decide +kernel
theorem d_LC_147 : decode code 147 = .ok (.iaload, 1) := by decide +kernel
theorem d_LC_148 : decode code 148 = .ok (.invokevirtual 83, 3) := by decide +kernel
theorem d_LC_151 : decode code 151 = .ok (.istore 6, 2) := by decide +kernel
theorem d_LC_153 : decode code 153 = .ok (.aload_n 2, 1) := by decide +kernel
theorem d_LC_154 : decode code 154 = .ok (.invokevirtual 84, 3) := by decide +kernel
theorem d_LC_157 : decode code 157 = .ok (.iload 5, 2) := by decide +kernel
theorem d_LC_159 : decode code 159 = .ok (.if_icmp .eq 5, 3) := by decide +kernel
theorem d_LC_162 : decode code 162 = .ok (.iconst 0, 1) := by decide +kernel
theorem d_LC_163 : decode code 163 = .ok (.ireturn, 1) := by decide +kernel
theorem d_LC_164 : decode code 164 = .ok (.iload 5, 2) := by decide +kernel
theorem d_LC_166 : decode code 166 = .ok (.ifCond .ne 15, 3) := by decide +kernel
theorem d_LC_169 : decode code 169 = .ok (.aload_n 3, 1) := by decide +kernel
theorem d_LC_170 : decode code 170 = .ok (.iconst 0, 1) := by decide +kernel
theorem d_LC_171 : decode code 171 = .ok (.laload, 1) := by decide +kernel
theorem d_LC_172 : decode code 172 = .ok (.iload 6, 2) := by decide +kernel
theorem d_LC_174 : decode code 174 = .ok (.i2l, 1) := by decide +kernel
theorem d_LC_175 : decode code 175 = .ok (.lcmp, 1) := by decide +kernel
theorem d_LC_176 : decode code 176 = .ok (.ifCond .eq 5, 3) := by decide +kernel
theorem d_LC_179 : decode code 179 = .ok (.iconst 0, 1) := by decide +kernel
theorem d_LC_180 : decode code 180 = .ok (.ireturn, 1) := by decide +kernel
theorem d_LC_181 : decode code 181 = .ok (.goto 963, 3) := by decide +kernel
theorem d_LC_184 : decode code 184 = .ok (.aload_n 1, 1) := by decide +kernel
theorem d_LC_185 : decode code 185 = .ok (.aload_n 0, 1) := by decide +kernel
theorem d_LC_186 : decode code 186 = .ok (.iload 4, 2) := by decide +kernel
theorem d_LC_188 : decode code 188 = .ok (.iconst 1, 1) := by decide +kernel
theorem d_LC_189 : decode code 189 = .ok (.iadd, 1) := by decide +kernel
theorem d_LC_190 : decode code 190 = .ok (.iaload, 1) := by decide +kernel
theorem d_LC_191 : decode code 191 = .ok (.aload_n 0, 1) := by decide +kernel
theorem d_LC_192 : decode code 192 = .ok (.iload 4, 2) := by decide +kernel
theorem d_LC_194 : decode code 194 = .ok (.iconst 2, 1) := by decide +kernel
theorem d_LC_195 : decode code 195 = .ok (.iadd, 1) := by decide +kernel
theorem d_LC_196 : decode code 196 = .ok (.iaload, 1) := by decide +kernel
theorem d_LC_197 : decode code 197 = .ok (.aload_n 0, 1) := by decide +kernel
theorem d_LC_198 : decode code 198 = .ok (.iload 4, 2) := by decide +kernel
theorem d_LC_200 : decode code 200 = .ok (.iconst 3, 1) := by decide +kernel
theorem d_LC_201 : decode code 201 = .ok (.iadd, 1) := by decide +kernel
theorem d_LC_202 : decode code 202 = .ok (.iaload, 1) := by decide +kernel
theorem d_LC_203 : decode code 203 = .ok (.aload_n 3, 1) := by decide +kernel
theorem d_LC_204 : decode code 204 = .ok (.invokestatic 87, 3) := by decide +kernel
theorem d_LC_207 : decode code 207 = .ok (.istore 5, 2) := by decide +kernel
theorem d_LC_209 : decode code 209 = .ok (.aload_n 2, 1) := by decide +kernel
theorem d_LC_210 : decode code 210 = .ok (.aload_n 0, 1) := by decide +kernel
theorem d_LC_211 : decode code 211 = .ok (.iload 4, 2) := by decide +kernel
theorem d_LC_213 : decode code 213 = .ok (.iconst 1, 1) := by decide +kernel
theorem d_LC_214 : decode code 214 = .ok (.iadd, 1) := by decide +kernel
theorem d_LC_215 : decode code 215 = .ok (.iaload, 1) := by decide +kernel
theorem d_LC_216 : decode code 216 = .ok (.aload_n 0, 1) := by decide +kernel
theorem d_LC_217 : decode code 217 = .ok (.iload 4, 2) := by decide +kernel
theorem d_LC_219 : decode code 219 = .ok (.iconst 2, 1) := by decide +kernel
theorem d_LC_220 : decode code 220 = .ok (.iadd, 1) := by decide +kernel
theorem d_LC_221 : decode code 221 = .ok (.iaload, 1) := by decide +kernel
theorem d_LC_222 : decode code 222 = .ok (.aload_n 0, 1) := by decide +kernel
theorem d_LC_223 : decode code 223 = .ok (.iload 4, 2) := by decide +kernel
theorem d_LC_225 : decode code 225 = .ok (.iconst 3, 1) := by decide +kernel
theorem d_LC_226 : decode code 226 = .ok (.iadd, 1) := by decide +kernel
theorem d_LC_227 : decode code 227 = .ok (.iaload, 1) := by decide +kernel
theorem d_LC_228 : decode code 228 = .ok (.invokevirtual 90, 3) := by decide +kernel
theorem d_LC_231 : decode code 231 = .ok (.istore 6, 2) := by decide +kernel
theorem d_LC_233 : decode code 233 = .ok (.aload_n 2, 1) := by decide +kernel
theorem d_LC_234 : decode code 234 = .ok (.invokevirtual 84, 3) := by decide +kernel
theorem d_LC_237 : decode code 237 = .ok (.iload 5, 2) := by decide +kernel
theorem d_LC_239 : decode code 239 = .ok (.if_icmp .eq 5, 3) := by decide +kernel
theorem d_LC_242 : decode code 242 = .ok (.iconst 0, 1) := by decide +kernel
theorem d_LC_243 : decode code 243 = .ok (.ireturn, 1) := by decide +kernel
theorem d_LC_244 : decode code 244 = .ok (.iload 5, 2) := by decide +kernel
theorem d_LC_246 : decode code 246 = .ok (.ifCond .ne 15, 3) := by decide +kernel
theorem d_LC_249 : decode code 249 = .ok (.aload_n 3, 1) := by decide +kernel
theorem d_LC_250 : decode code 250 = .ok (.iconst 0, 1) := by decide +kernel
theorem d_LC_251 : decode code 251 = .ok (.laload, 1) := by decide +kernel
theorem d_LC_252 : decode code 252 = .ok (.iload 6, 2) := by decide +kernel
theorem d_LC_254 : decode code 254 = .ok (.i2l, 1) := by decide +kernel
theorem d_LC_255 : decode code 255 = .ok (.lcmp, 1) := by decide +kernel
theorem d_LC_256 : decode code 256 = .ok (.ifCond .eq 5, 3) := by decide +kernel
theorem d_LC_259 : decode code 259 = .ok (.iconst 0, 1) := by decide +kernel
theorem d_LC_260 : decode code 260 = .ok (.ireturn, 1) := by decide +kernel
theorem d_LC_261 : decode code 261 = .ok (.goto 883, 3) := by decide +kernel
theorem d_LC_264 : decode code 264 = .ok (.aload_n 1, 1) := by decide +kernel
theorem d_LC_265 : decode code 265 = .ok (.aload_n 0, 1) := by decide +kernel
theorem d_LC_266 : decode code 266 = .ok (.iload 4, 2) := by decide +kernel
theorem d_LC_268 : decode code 268 = .ok (.iconst 1, 1) := by decide +kernel
theorem d_LC_269 : decode code 269 = .ok (.iadd, 1) := by decide +kernel
theorem d_LC_270 : decode code 270 = .ok (.iaload, 1) := by decide +kernel
theorem d_LC_271 : decode code 271 = .ok (.aload_n 0, 1) := by decide +kernel
theorem d_LC_272 : decode code 272 = .ok (.iload 4, 2) := by decide +kernel
theorem d_LC_274 : decode code 274 = .ok (.iconst 2, 1) := by decide +kernel
theorem d_LC_275 : decode code 275 = .ok (.iadd, 1) := by decide +kernel
theorem d_LC_276 : decode code 276 = .ok (.iaload, 1) := by decide +kernel
theorem d_LC_277 : decode code 277 = .ok (.aload_n 0, 1) := by decide +kernel
theorem d_LC_278 : decode code 278 = .ok (.iload 4, 2) := by decide +kernel
theorem d_LC_280 : decode code 280 = .ok (.iconst 3, 1) := by decide +kernel
theorem d_LC_281 : decode code 281 = .ok (.iadd, 1) := by decide +kernel
theorem d_LC_282 : decode code 282 = .ok (.iaload, 1) := by decide +kernel
theorem d_LC_283 : decode code 283 = .ok (.aload_n 0, 1) := by decide +kernel
theorem d_LC_284 : decode code 284 = .ok (.iload 4, 2) := by decide +kernel
theorem d_LC_286 : decode code 286 = .ok (.iconst 4, 1) := by decide +kernel
theorem d_LC_287 : decode code 287 = .ok (.iadd, 1) := by decide +kernel
theorem d_LC_288 : decode code 288 = .ok (.iaload, 1) := by decide +kernel
theorem d_LC_289 : decode code 289 = .ok (.aload_n 0, 1) := by decide +kernel
theorem d_LC_290 : decode code 290 = .ok (.iload 4, 2) := by decide +kernel
theorem d_LC_292 : decode code 292 = .ok (.iconst 5, 1) := by decide +kernel
theorem d_LC_293 : decode code 293 = .ok (.iadd, 1) := by decide +kernel
theorem d_LC_294 : decode code 294 = .ok (.iaload, 1) := by decide +kernel
theorem d_LC_295 : decode code 295 = .ok (.aload_n 3, 1) := by decide +kernel
theorem d_LC_296 : decode code 296 = .ok (.invokestatic 91, 3) := by decide +kernel
theorem d_LC_299 : decode code 299 = .ok (.istore 5, 2) := by decide +kernel
theorem d_LC_301 : decode code 301 = .ok (.aload_n 2, 1) := by decide +kernel
theorem d_LC_302 : decode code 302 = .ok (.aload_n 0, 1) := by decide +kernel
theorem d_LC_303 : decode code 303 = .ok (.iload 4, 2) := by decide +kernel
theorem d_LC_305 : decode code 305 = .ok (.iconst 1, 1) := by decide +kernel
theorem d_LC_306 : decode code 306 = .ok (.iadd, 1) := by decide +kernel
theorem d_LC_307 : decode code 307 = .ok (.iaload, 1) := by decide +kernel
theorem d_LC_308 : decode code 308 = .ok (.aload_n 0, 1) := by decide +kernel
theorem d_LC_309 : decode code 309 = .ok (.iload 4, 2) := by decide +kernel
theorem d_LC_311 : decode code 311 = .ok (.iconst 2, 1) := by decide +kernel
theorem d_LC_312 : decode code 312 = .ok (.iadd, 1) := by decide +kernel
theorem d_LC_313 : decode code 313 = .ok (.iaload, 1) := by decide +kernel
theorem d_LC_314 : decode code 314 = .ok (.aload_n 0, 1) := by decide +kernel
theorem d_LC_315 : decode code 315 = .ok (.iload 4, 2) := by decide +kernel
theorem d_LC_317 : decode code 317 = .ok (.iconst 3, 1) := by decide +kernel
theorem d_LC_318 : decode code 318 = .ok (.iadd, 1) := by decide +kernel
theorem d_LC_319 : decode code 319 = .ok (.iaload, 1) := by decide +kernel
theorem d_LC_320 : decode code 320 = .ok (.aload_n 0, 1) := by decide +kernel
theorem d_LC_321 : decode code 321 = .ok (.iload 4, 2) := by decide +kernel
theorem d_LC_323 : decode code 323 = .ok (.iconst 4, 1) := by decide +kernel
theorem d_LC_324 : decode code 324 = .ok (.iadd, 1) := by decide +kernel
theorem d_LC_325 : decode code 325 = .ok (.iaload, 1) := by decide +kernel
theorem d_LC_326 : decode code 326 = .ok (.aload_n 0, 1) := by decide +kernel
theorem d_LC_327 : decode code 327 = .ok (.iload 4, 2) := by decide +kernel
theorem d_LC_329 : decode code 329 = .ok (.iconst 5, 1) := by decide +kernel
theorem d_LC_330 : decode code 330 = .ok (.iadd, 1) := by decide +kernel
theorem d_LC_331 : decode code 331 = .ok (.iaload, 1) := by decide +kernel
theorem d_LC_332 : decode code 332 = .ok (.invokevirtual 94, 3) := by decide +kernel
theorem d_LC_335 : decode code 335 = .ok (.istore 6, 2) := by decide +kernel
theorem d_LC_337 : decode code 337 = .ok (.aload_n 2, 1) := by decide +kernel
theorem d_LC_338 : decode code 338 = .ok (.invokevirtual 84, 3) := by decide +kernel
theorem d_LC_341 : decode code 341 = .ok (.iload 5, 2) := by decide +kernel
theorem d_LC_343 : decode code 343 = .ok (.if_icmp .eq 5, 3) := by decide +kernel
theorem d_LC_346 : decode code 346 = .ok (.iconst 0, 1) := by decide +kernel
theorem d_LC_347 : decode code 347 = .ok (.ireturn, 1) := by decide +kernel
theorem d_LC_348 : decode code 348 = .ok (.iload 5, 2) := by decide +kernel
theorem d_LC_350 : decode code 350 = .ok (.ifCond .ne 15, 3) := by decide +kernel
theorem d_LC_353 : decode code 353 = .ok (.aload_n 3, 1) := by decide +kernel
theorem d_LC_354 : decode code 354 = .ok (.iconst 0, 1) := by decide +kernel
theorem d_LC_355 : decode code 355 = .ok (.laload, 1) := by decide +kernel
theorem d_LC_356 : decode code 356 = .ok (.iload 6, 2) := by decide +kernel
theorem d_LC_358 : decode code 358 = .ok (.i2l, 1) := by decide +kernel
theorem d_LC_359 : decode code 359 = .ok (.lcmp, 1) := by decide +kernel
theorem d_LC_360 : decode code 360 = .ok (.ifCond .eq 5, 3) := by decide +kernel
theorem d_LC_363 : decode code 363 = .ok (.iconst 0, 1) := by decide +kernel
theorem d_LC_364 : decode code 364 = .ok (.ireturn, 1) := by decide +kernel
theorem d_LC_365 : decode code 365 = .ok (.goto 779, 3) := by decide +kernel
theorem d_LC_368 : decode code 368 = .ok (.aload_n 1, 1) := by decide +kernel
theorem d_LC_369 : decode code 369 = .ok (.aload_n 0, 1) := by decide +kernel
theorem d_LC_370 : decode code 370 = .ok (.iload 4, 2) := by decide +kernel
theorem d_LC_372 : decode code 372 = .ok (.iconst 1, 1) := by decide +kernel
theorem d_LC_373 : decode code 373 = .ok (.iadd, 1) := by decide +kernel
theorem d_LC_374 : decode code 374 = .ok (.iaload, 1) := by decide +kernel
theorem d_LC_375 : decode code 375 = .ok (.aload_n 3, 1) := by decide +kernel
theorem d_LC_376 : decode code 376 = .ok (.invokestatic 95, 3) := by decide +kernel
theorem d_LC_379 : decode code 379 = .ok (.istore 5, 2) := by decide +kernel
theorem d_LC_381 : decode code 381 = .ok (.aload_n 2, 1) := by decide +kernel
theorem d_LC_382 : decode code 382 = .ok (.aload_n 0, 1) := by decide +kernel
theorem d_LC_383 : decode code 383 = .ok (.iload 4, 2) := by decide +kernel
theorem d_LC_385 : decode code 385 = .ok (.iconst 1, 1) := by decide +kernel
theorem d_LC_386 : decode code 386 = .ok (.iadd, 1) := by decide +kernel
theorem d_LC_387 : decode code 387 = .ok (.iaload, 1) := by decide +kernel
theorem d_LC_388 : decode code 388 = .ok (.invokevirtual 97, 3) := by decide +kernel
theorem d_LC_391 : decode code 391 = .ok (.istore 6, 2) := by decide +kernel
theorem d_LC_393 : decode code 393 = .ok (.aload_n 2, 1) := by decide +kernel
theorem d_LC_394 : decode code 394 = .ok (.invokevirtual 84, 3) := by decide +kernel
theorem d_LC_397 : decode code 397 = .ok (.iload 5, 2) := by decide +kernel
theorem d_LC_399 : decode code 399 = .ok (.if_icmp .eq 5, 3) := by decide +kernel
theorem d_LC_402 : decode code 402 = .ok (.iconst 0, 1) := by decide +kernel
theorem d_LC_403 : decode code 403 = .ok (.ireturn, 1) := by decide +kernel
theorem d_LC_404 : decode code 404 = .ok (.iload 5, 2) := by decide +kernel
theorem d_LC_406 : decode code 406 = .ok (.ifCond .ne 15, 3) := by decide +kernel
theorem d_LC_409 : decode code 409 = .ok (.aload_n 3, 1) := by decide +kernel
theorem d_LC_410 : decode code 410 = .ok (.iconst 0, 1) := by decide +kernel
theorem d_LC_411 : decode code 411 = .ok (.laload, 1) := by decide +kernel
theorem d_LC_412 : decode code 412 = .ok (.iload 6, 2) := by decide +kernel
theorem d_LC_414 : decode code 414 = .ok (.i2l, 1) := by decide +kernel
theorem d_LC_415 : decode code 415 = .ok (.lcmp, 1) := by decide +kernel
theorem d_LC_416 : decode code 416 = .ok (.ifCond .eq 5, 3) := by decide +kernel
theorem d_LC_419 : decode code 419 = .ok (.iconst 0, 1) := by decide +kernel
theorem d_LC_420 : decode code 420 = .ok (.ireturn, 1) := by decide +kernel
theorem d_LC_421 : decode code 421 = .ok (.goto 723, 3) := by decide +kernel
theorem d_LC_424 : decode code 424 = .ok (.aload_n 1, 1) := by decide +kernel
theorem d_LC_425 : decode code 425 = .ok (.aload_n 0, 1) := by decide +kernel
theorem d_LC_426 : decode code 426 = .ok (.iload 4, 2) := by decide +kernel

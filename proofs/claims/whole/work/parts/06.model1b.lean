abbrev wl_MO_thrown (cI cL cR : ClassId) (a_t : Nat) (a_t_width : Nat) (a_t_shift : Nat) (a_t_outOp : Nat) (a_t_outA : Nat) (a_t_outB : Nat) (a_t_transfers : Nat) (a_t_to : Nat) (a_t_op : Nat) (a_t_opA : Nat) (a_t_opB : Nat) (a_t_next : Nat) (a_t_gives : Nat) (a_t_state : Nat) (a_t_from : Nat) (a_t_by : Nat) (a_t_depth : Nat) (a_t_number : Nat) (a_t_part : Nat) (a_t_newPart : Nat) (a_t_node : Nat) (a_t_newNode : Nat) (a_t_parent : Nat) (a_t_born : Nat) (a_t_one : Nat) (a_t_pieces : Nat) (a_t_chain : Nat) (a_t_behind : Nat) (a_t_classOf : Nat) (a_t_classState : Nat) (t_thrown : Int32) (t_room : Int32) (t_registers : Int32) (t_bits : Int32) (t_inputs : Int32) (t_first : Int32) (t_isFresh : Int32) (t_isRoom : Int32) (t_walked : Int32) (t_parts : Int32) (t_nodes : Int32) (t_classes : Int32) : va_W := [(a_t, .inr (7, [.int t_thrown, .int t_room, .int t_registers, .int t_bits, .int t_inputs, .int t_first, .ref a_t_width, .ref a_t_shift, .ref a_t_outOp, .ref a_t_outA, .ref a_t_outB, .ref a_t_transfers, .ref a_t_to, .ref a_t_op, .ref a_t_opA, .ref a_t_opB, .int t_isFresh, .ref a_t_next, .ref a_t_gives, .int t_isRoom, .int t_walked, .ref a_t_state, .ref a_t_from, .ref a_t_by, .ref a_t_depth, .ref a_t_number, .int t_parts, .int t_nodes, .ref a_t_part, .ref a_t_newPart, .ref a_t_node, .ref a_t_newNode, .ref a_t_parent, .ref a_t_born, .ref a_t_one, .ref a_t_pieces, .ref a_t_chain, .ref a_t_behind, .int t_classes, .ref a_t_classOf, .ref a_t_classState]))]
def wp_MO_thrown (t_thrown : Int32) (t_room : Int32) (t_registers : Int32) (t_bits : Int32) (t_inputs : Int32) (t_first : Int32) (t_isFresh : Int32) (t_isRoom : Int32) (t_walked : Int32) (t_parts : Int32) (t_nodes : Int32) (t_classes : Int32) (post : Int32 → Prop) : Prop :=
  post t_thrown
abbrev rm_MO_thrown : Room := { frames := 1, cells := 0, slots := 0, locals := 12 }
set_option maxHeartbeats 4000000 in
set_option maxRecDepth 100000 in
theorem c_MO_thrown (l : Launch) (D : va_G) (cI cL cR : ClassId) (a_t a_t_width a_t_shift a_t_outOp a_t_outA a_t_outB a_t_transfers a_t_to a_t_op a_t_opA a_t_opB a_t_next a_t_gives a_t_state a_t_from a_t_by a_t_depth a_t_number a_t_part a_t_newPart a_t_node a_t_newNode a_t_parent a_t_born a_t_one a_t_pieces a_t_chain a_t_behind a_t_classOf a_t_classState : Nat) (t_thrown : Int32) (t_room : Int32) (t_registers : Int32) (t_bits : Int32) (t_inputs : Int32) (t_first : Int32) (t_isFresh : Int32) (t_isRoom : Int32) (t_walked : Int32) (t_parts : Int32) (t_nodes : Int32) (t_classes : Int32) (sz : Nat) (post : Int32 → Prop) (hw : wp_MO_thrown t_thrown t_room t_registers t_bits t_inputs t_first t_isFresh t_isRoom t_walked t_parts t_nodes t_classes post) : ky_M ky_rI l y_MO_thrown (.code y_MO_thrown b_MO_thrown 1 (some .int) :: wsG) rm_MO_thrown D vwCl (ky_T cI cL cR) (wl_MO_thrown cI cL cR a_t a_t_width a_t_shift a_t_outOp a_t_outA a_t_outB a_t_transfers a_t_to a_t_op a_t_opA a_t_opB a_t_next a_t_gives a_t_state a_t_from a_t_by a_t_depth a_t_number a_t_part a_t_newPart a_t_node a_t_newNode a_t_parent a_t_born a_t_one a_t_pieces a_t_chain a_t_behind a_t_classOf a_t_classState t_thrown t_room t_registers t_bits t_inputs t_first t_isFresh t_isRoom t_walked t_parts t_nodes t_classes) sz [.ref a_t] (fun r (u : Unit) => post r) (fun u => wl_MO_thrown cI cL cR a_t a_t_width a_t_shift a_t_outOp a_t_outA a_t_outB a_t_transfers a_t_to a_t_op a_t_opA a_t_opB a_t_next a_t_gives a_t_state a_t_from a_t_by a_t_depth a_t_number a_t_part a_t_newPart a_t_node a_t_newNode a_t_parent a_t_born a_t_one a_t_pieces a_t_chain a_t_behind a_t_classOf a_t_classState t_thrown t_room t_registers t_bits t_inputs t_first t_isFresh t_isRoom t_walked t_parts t_nodes t_classes) := by
  refine ky_ofI (plainFor_of_name (by decide)) (Nat.le_of_ble_eq_true rfl) ?_
  intro p e s m args below meth c A Q ls hI hret
  obtain ⟨hx, hb, hml, hown, hin, hts, hK, hP, hD, hA, hS, hl⟩ := hI
  have hown : s.vm.findClass R_MO = some m.cls := hown
  have hl : lv_has ls 1 [(0, .ref a_t)] := hl
  obtain ⟨H, locs, eH, eL⟩ : ∃ (H : Heap) (locs : List Loc), H = s.heap ∧ locs = [] := ⟨_, _, rfl, rfl⟩
  rw [← eL] at hS ⊢
  have hS : va_S A s.heap H locs := by rw [eH]; exact hS
  have hP : va_P D vwCl (wl_MO_thrown cI cL cR a_t a_t_width a_t_shift a_t_outOp a_t_outA a_t_outB a_t_transfers a_t_to a_t_op a_t_opA a_t_opB a_t_next a_t_gives a_t_state a_t_from a_t_by a_t_depth a_t_number a_t_part a_t_newPart a_t_node a_t_newNode a_t_parent a_t_born a_t_one a_t_pieces a_t_chain a_t_behind a_t_classOf a_t_classState t_thrown t_room t_registers t_bits t_inputs t_first t_isFresh t_isRoom t_walked t_parts t_nodes t_classes) H := by rw [eH]; exact hP
  suffices hgo : W p l e rm_MO_thrown s m args below meth c H locs 0 0 Q (F0 m 0 ls []) by rw [eH] at hgo; exact hgo
  clear eH eL
  unfold wp_MO_thrown at hw
  refine lv_aload_n hx hb d_MO_thrown_0 rfl (lv_at hl 0 rfl) ?_
  refine gf_MO_101 hx hb hts hown hK hP 0 rfl rfl d_MO_thrown_1 ?_
  exact hret t_thrown () H locs _ _ 4 ls d_MO_thrown_4 hP hD hS hw (Nat.le_refl 0) (Nat.le_refl 0)

abbrev wl_MO_fail (cI cL cR : ClassId) (a_t : Nat) (a_t_width : Nat) (a_t_shift : Nat) (a_t_outOp : Nat) (a_t_outA : Nat) (a_t_outB : Nat) (a_t_transfers : Nat) (a_t_to : Nat) (a_t_op : Nat) (a_t_opA : Nat) (a_t_opB : Nat) (a_t_next : Nat) (a_t_gives : Nat) (a_t_state : Nat) (a_t_from : Nat) (a_t_by : Nat) (a_t_depth : Nat) (a_t_number : Nat) (a_t_part : Nat) (a_t_newPart : Nat) (a_t_node : Nat) (a_t_newNode : Nat) (a_t_parent : Nat) (a_t_born : Nat) (a_t_one : Nat) (a_t_pieces : Nat) (a_t_chain : Nat) (a_t_behind : Nat) (a_t_classOf : Nat) (a_t_classState : Nat) (t_thrown : Int32) (t_room : Int32) (t_registers : Int32) (t_bits : Int32) (t_inputs : Int32) (t_first : Int32) (t_isFresh : Int32) (t_isRoom : Int32) (t_walked : Int32) (t_parts : Int32) (t_nodes : Int32) (t_classes : Int32) : va_W := [(a_t, .inr (7, [.int t_thrown, .int t_room, .int t_registers, .int t_bits, .int t_inputs, .int t_first, .ref a_t_width, .ref a_t_shift, .ref a_t_outOp, .ref a_t_outA, .ref a_t_outB, .ref a_t_transfers, .ref a_t_to, .ref a_t_op, .ref a_t_opA, .ref a_t_opB, .int t_isFresh, .ref a_t_next, .ref a_t_gives, .int t_isRoom, .int t_walked, .ref a_t_state, .ref a_t_from, .ref a_t_by, .ref a_t_depth, .ref a_t_number, .int t_parts, .int t_nodes, .ref a_t_part, .ref a_t_newPart, .ref a_t_node, .ref a_t_newNode, .ref a_t_parent, .ref a_t_born, .ref a_t_one, .ref a_t_pieces, .ref a_t_chain, .ref a_t_behind, .int t_classes, .ref a_t_classOf, .ref a_t_classState]))]
def wp_MO_fail (t_thrown : Int32) (t_room : Int32) (t_registers : Int32) (t_bits : Int32) (t_inputs : Int32) (t_first : Int32) (t_isFresh : Int32) (t_isRoom : Int32) (t_walked : Int32) (t_parts : Int32) (t_nodes : Int32) (t_classes : Int32) (a1 : Int32) (post : Int32 → Int32 → Prop) : Prop :=
  post 0 a1
abbrev rm_MO_fail : Room := { frames := 1, cells := 0, slots := 0, locals := 12 }
set_option maxHeartbeats 4000000 in
set_option maxRecDepth 100000 in
theorem c_MO_fail (l : Launch) (D : va_G) (cI cL cR : ClassId) (a_t a_t_width a_t_shift a_t_outOp a_t_outA a_t_outB a_t_transfers a_t_to a_t_op a_t_opA a_t_opB a_t_next a_t_gives a_t_state a_t_from a_t_by a_t_depth a_t_number a_t_part a_t_newPart a_t_node a_t_newNode a_t_parent a_t_born a_t_one a_t_pieces a_t_chain a_t_behind a_t_classOf a_t_classState : Nat) (t_thrown : Int32) (t_room : Int32) (t_registers : Int32) (t_bits : Int32) (t_inputs : Int32) (t_first : Int32) (t_isFresh : Int32) (t_isRoom : Int32) (t_walked : Int32) (t_parts : Int32) (t_nodes : Int32) (t_classes : Int32) (a1 : Int32) (sz : Nat) (post : Int32 → Int32 → Prop) (hw : wp_MO_fail t_thrown t_room t_registers t_bits t_inputs t_first t_isFresh t_isRoom t_walked t_parts t_nodes t_classes a1 post) : ky_M ky_rI l y_MO_fail (.code y_MO_fail b_MO_fail 2 (some .int) :: wsG) rm_MO_fail D vwCl (ky_T cI cL cR) (wl_MO_fail cI cL cR a_t a_t_width a_t_shift a_t_outOp a_t_outA a_t_outB a_t_transfers a_t_to a_t_op a_t_opA a_t_opB a_t_next a_t_gives a_t_state a_t_from a_t_by a_t_depth a_t_number a_t_part a_t_newPart a_t_node a_t_newNode a_t_parent a_t_born a_t_one a_t_pieces a_t_chain a_t_behind a_t_classOf a_t_classState t_thrown t_room t_registers t_bits t_inputs t_first t_isFresh t_isRoom t_walked t_parts t_nodes t_classes) sz [.ref a_t, .int a1] (fun r (u : Int32) => post r u) (fun u => wl_MO_fail cI cL cR a_t a_t_width a_t_shift a_t_outOp a_t_outA a_t_outB a_t_transfers a_t_to a_t_op a_t_opA a_t_opB a_t_next a_t_gives a_t_state a_t_from a_t_by a_t_depth a_t_number a_t_part a_t_newPart a_t_node a_t_newNode a_t_parent a_t_born a_t_one a_t_pieces a_t_chain a_t_behind a_t_classOf a_t_classState u t_room t_registers t_bits t_inputs t_first t_isFresh t_isRoom t_walked t_parts t_nodes t_classes) := by
  refine ky_ofI (plainFor_of_name (by decide)) (Nat.le_of_ble_eq_true rfl) ?_
  intro p e s m args below meth c A Q ls hI hret
  obtain ⟨hx, hb, hml, hown, hin, hts, hK, hP, hD, hA, hS, hl⟩ := hI
  have hown : s.vm.findClass R_MO = some m.cls := hown
  have hl : lv_has ls 2 [(0, .ref a_t), (1, .int a1)] := hl
  obtain ⟨H, locs, eH, eL⟩ : ∃ (H : Heap) (locs : List Loc), H = s.heap ∧ locs = [] := ⟨_, _, rfl, rfl⟩
  rw [← eL] at hS ⊢
  have hS : va_S A s.heap H locs := by rw [eH]; exact hS
  have hP : va_P D vwCl (wl_MO_fail cI cL cR a_t a_t_width a_t_shift a_t_outOp a_t_outA a_t_outB a_t_transfers a_t_to a_t_op a_t_opA a_t_opB a_t_next a_t_gives a_t_state a_t_from a_t_by a_t_depth a_t_number a_t_part a_t_newPart a_t_node a_t_newNode a_t_parent a_t_born a_t_one a_t_pieces a_t_chain a_t_behind a_t_classOf a_t_classState t_thrown t_room t_registers t_bits t_inputs t_first t_isFresh t_isRoom t_walked t_parts t_nodes t_classes) H := by rw [eH]; exact hP
  suffices hgo : W p l e rm_MO_fail s m args below meth c H locs 0 0 Q (F0 m 0 ls []) by rw [eH] at hgo; exact hgo
  clear eH eL
  unfold wp_MO_fail at hw
  refine lv_aload_n hx hb d_MO_fail_0 rfl (lv_at hl 0 rfl) ?_
  refine lv_iload_n hx hb d_MO_fail_1 rfl (lv_at hl 1 rfl) ?_
  refine pf_MO_101 (v := .int a1) hx hb hts hown hK hP hD hS 0 rfl rfl rfl (Nat.le_of_ble_eq_true rfl) d_MO_fail_2 (fun H locs hP hD hS => ?_)
  have hP : va_P D vwCl (wl_MO_fail cI cL cR a_t a_t_width a_t_shift a_t_outOp a_t_outA a_t_outB a_t_transfers a_t_to a_t_op a_t_opA a_t_opB a_t_next a_t_gives a_t_state a_t_from a_t_by a_t_depth a_t_number a_t_part a_t_newPart a_t_node a_t_newNode a_t_parent a_t_born a_t_one a_t_pieces a_t_chain a_t_behind a_t_classOf a_t_classState a1 t_room t_registers t_bits t_inputs t_first t_isFresh t_isRoom t_walked t_parts t_nodes t_classes) H := hP
  have hD : va_D A (wl_MO_fail cI cL cR a_t a_t_width a_t_shift a_t_outOp a_t_outA a_t_outB a_t_transfers a_t_to a_t_op a_t_opA a_t_opB a_t_next a_t_gives a_t_state a_t_from a_t_by a_t_depth a_t_number a_t_part a_t_newPart a_t_node a_t_newNode a_t_parent a_t_born a_t_one a_t_pieces a_t_chain a_t_behind a_t_classOf a_t_classState a1 t_room t_registers t_bits t_inputs t_first t_isFresh t_isRoom t_walked t_parts t_nodes t_classes) := hD
  refine lv_iconst (v := 0) hx hb d_MO_fail_5 (by decide) ?_
  exact hret 0 a1 H locs _ _ 6 ls d_MO_fail_6 hP hD hS hw (Nat.le_refl 0) (Nat.le_refl 0)

abbrev wl_MO_within (cI cL cR : ClassId)  : va_W := []
def wp_MO_within (a0 : Int32) (a1 : Int32) (a2 : Int32) (post : Int32 → Prop) : Prop :=
  ((a0 < a1 → post 0) ∧ (¬ a0 < a1 → ((a2 < a0 → post 0) ∧ (¬ a2 < a0 → post 1))))
abbrev rm_MO_within : Room := { frames := 1, cells := 0, slots := 0, locals := 12 }
set_option maxHeartbeats 4000000 in
set_option maxRecDepth 100000 in
theorem c_MO_within (l : Launch) (D : va_G) (cI cL cR : ClassId)  (a0 : Int32) (a1 : Int32) (a2 : Int32) (sz : Nat) (post : Int32 → Prop) (hw : wp_MO_within a0 a1 a2 post) : ky_M ky_rI l y_MO_within (.code y_MO_within b_MO_within 3 (some .boolean) :: wsG) rm_MO_within D vwCl (ky_T cI cL cR) (wl_MO_within cI cL cR ) sz [.int a0, .int a1, .int a2] (fun r (u : Unit) => post r) (fun u => wl_MO_within cI cL cR ) := by
  refine ky_ofZ (plainFor_of_name (by decide)) (Nat.le_of_ble_eq_true rfl) ?_
  intro p e s m args below meth c A Q ls hI hret
  obtain ⟨hx, hb, hml, hown, hin, hts, hK, hP, hD, hA, hS, hl⟩ := hI
  have hown : s.vm.findClass R_MO = some m.cls := hown
  have hl : lv_has ls 3 [(0, .int a0), (1, .int a1), (2, .int a2)] := hl
  obtain ⟨H, locs, eH, eL⟩ : ∃ (H : Heap) (locs : List Loc), H = s.heap ∧ locs = [] := ⟨_, _, rfl, rfl⟩
  rw [← eL] at hS ⊢
  have hS : va_S A s.heap H locs := by rw [eH]; exact hS
  have hP : va_P D vwCl (wl_MO_within cI cL cR ) H := by rw [eH]; exact hP
  suffices hgo : W p l e rm_MO_within s m args below meth c H locs 0 0 Q (F0 m 0 ls []) by rw [eH] at hgo; exact hgo
  clear eH eL
  unfold wp_MO_within at hw
  refine lv_iload_n hx hb d_MO_within_0 rfl (lv_at hl 0 rfl) ?_
  refine lv_iload_n hx hb d_MO_within_1 rfl (lv_at hl 1 rfl) ?_
  refine lv_icmp_lt (tgt := 14) hx hb d_MO_within_2 (by decide) (fun hc => ?_) (fun hc => ?_)
  · have hw := hw.1 hc
    refine lv_iconst (v := 0) hx hb d_MO_within_14 (by decide) ?_
    exact hret 0 () H locs _ _ 15 ls d_MO_within_15 rfl hP hD hS hw (Nat.le_refl 0) (Nat.le_refl 0)
  · have hw := hw.2 hc
    refine lv_iload_n hx hb d_MO_within_5 rfl (lv_at hl 0 rfl) ?_
    refine lv_iload_n hx hb d_MO_within_6 rfl (lv_at hl 2 rfl) ?_
    refine lv_icmp_gt (tgt := 14) hx hb d_MO_within_7 (by decide) (fun hc => ?_) (fun hc => ?_)
    · have hw := hw.1 hc
      refine lv_iconst (v := 0) hx hb d_MO_within_14 (by decide) ?_
      exact hret 0 () H locs _ _ 15 ls d_MO_within_15 rfl hP hD hS hw (Nat.le_refl 0) (Nat.le_refl 0)
    · have hw := hw.2 hc
      refine lv_iconst (v := 1) hx hb d_MO_within_10 (by decide) ?_
      refine lv_goto (tgt := 15) hx hb d_MO_within_11 (by decide) ?_
      exact hret 1 () H locs _ _ 15 ls d_MO_within_15 rfl hP hD hS hw (Nat.le_refl 0) (Nat.le_refl 0)

abbrev wl_MO_register (cI cL cR : ClassId) (a_t : Nat) (a_t_width : Nat) (a_t_shift : Nat) (a_t_outOp : Nat) (a_t_outA : Nat) (a_t_outB : Nat) (a_t_transfers : Nat) (a_t_to : Nat) (a_t_op : Nat) (a_t_opA : Nat) (a_t_opB : Nat) (a_t_next : Nat) (a_t_gives : Nat) (a_t_state : Nat) (a_t_from : Nat) (a_t_by : Nat) (a_t_depth : Nat) (a_t_number : Nat) (a_t_part : Nat) (a_t_newPart : Nat) (a_t_node : Nat) (a_t_newNode : Nat) (a_t_parent : Nat) (a_t_born : Nat) (a_t_one : Nat) (a_t_pieces : Nat) (a_t_chain : Nat) (a_t_behind : Nat) (a_t_classOf : Nat) (a_t_classState : Nat) (t_thrown : Int32) (t_room : Int32) (t_registers : Int32) (t_bits : Int32) (t_inputs : Int32) (t_first : Int32) (t_isFresh : Int32) (t_isRoom : Int32) (t_walked : Int32) (t_parts : Int32) (t_nodes : Int32) (t_classes : Int32) (n_t_width : Nat) (f_t_width : Nat → Int32) (n_t_shift : Nat) (f_t_shift : Nat → Int32) : va_W := [(a_t, .inr (7, [.int t_thrown, .int t_room, .int t_registers, .int t_bits, .int t_inputs, .int t_first, .ref a_t_width, .ref a_t_shift, .ref a_t_outOp, .ref a_t_outA, .ref a_t_outB, .ref a_t_transfers, .ref a_t_to, .ref a_t_op, .ref a_t_opA, .ref a_t_opB, .int t_isFresh, .ref a_t_next, .ref a_t_gives, .int t_isRoom, .int t_walked, .ref a_t_state, .ref a_t_from, .ref a_t_by, .ref a_t_depth, .ref a_t_number, .int t_parts, .int t_nodes, .ref a_t_part, .ref a_t_newPart, .ref a_t_node, .ref a_t_newNode, .ref a_t_parent, .ref a_t_born, .ref a_t_one, .ref a_t_pieces, .ref a_t_chain, .ref a_t_behind, .int t_classes, .ref a_t_classOf, .ref a_t_classState])), (a_t_width, .inl (cI, n_t_width, .inl f_t_width)), (a_t_shift, .inl (cI, n_t_shift, .inl f_t_shift))]
def wp_MO_register (t_thrown : Int32) (t_room : Int32) (t_registers : Int32) (t_bits : Int32) (t_inputs : Int32) (t_first : Int32) (t_isFresh : Int32) (t_isRoom : Int32) (t_walked : Int32) (t_parts : Int32) (t_nodes : Int32) (t_classes : Int32) (n_t_width : Nat) (f_t_width : Nat → Int32) (n_t_shift : Nat) (f_t_shift : Nat → Int32) (a1 : Int32) (post : Int32 → Int32 → Int32 → Int32 → Int32 → (Nat → Int32) → (Nat → Int32) → Prop) : Prop :=
  wp_MO_within a1 (1 : Int32) (4 : Int32) (fun r1 => ((¬ r1 = 0 → ((t_inputs ≤ 0 → ((t_registers = 4 → wp_MO_fail 0 t_room t_registers t_bits t_inputs t_first t_isFresh t_isRoom t_walked t_parts t_nodes t_classes (3 : Int32) (fun r2 m_thrown_2 => post r2 m_thrown_2 t_registers t_bits t_isFresh f_t_width f_t_shift)) ∧ (¬ t_registers = 4 → (((t_bits + a1) ≤ 12 → (vp_in t_registers n_t_width ∧ (∀ f3 : Nat → Int32, f3 = (upd f_t_width t_registers.toNatClampNeg a1) → (vp_in t_registers n_t_shift ∧ (∀ f4 : Nat → Int32, f4 = (upd f_t_shift t_registers.toNatClampNeg t_bits) → (∀ y5 : Int32, y5 = (t_bits + a1) → (∀ y6 : Int32, y6 = (t_registers + (1 : Int32)) → post (y6 - (1 : Int32)) 0 y6 y5 0 f3 f4))))))) ∧ (¬ (t_bits + a1) ≤ 12 → wp_MO_fail 0 t_room t_registers t_bits t_inputs t_first t_isFresh t_isRoom t_walked t_parts t_nodes t_classes (3 : Int32) (fun r7 m_thrown_7 => post r7 m_thrown_7 t_registers t_bits t_isFresh f_t_width f_t_shift)))))) ∧ (¬ t_inputs ≤ 0 → wp_MO_fail 0 t_room t_registers t_bits t_inputs t_first t_isFresh t_isRoom t_walked t_parts t_nodes t_classes (2 : Int32) (fun r8 m_thrown_8 => post r8 m_thrown_8 t_registers t_bits t_isFresh f_t_width f_t_shift)))) ∧ (r1 = 0 → wp_MO_fail 0 t_room t_registers t_bits t_inputs t_first t_isFresh t_isRoom t_walked t_parts t_nodes t_classes (1 : Int32) (fun r9 m_thrown_9 => post r9 m_thrown_9 t_registers t_bits t_isFresh f_t_width f_t_shift))))
abbrev rm_MO_register : Room := { frames := 2, cells := 0, slots := 0, locals := 35 }
set_option maxHeartbeats 4000000 in
set_option maxRecDepth 100000 in
theorem c_MO_register (l : Launch) (D : va_G) (cI cL cR : ClassId) (a_t a_t_width a_t_shift a_t_outOp a_t_outA a_t_outB a_t_transfers a_t_to a_t_op a_t_opA a_t_opB a_t_next a_t_gives a_t_state a_t_from a_t_by a_t_depth a_t_number a_t_part a_t_newPart a_t_node a_t_newNode a_t_parent a_t_born a_t_one a_t_pieces a_t_chain a_t_behind a_t_classOf a_t_classState : Nat) (t_thrown : Int32) (t_room : Int32) (t_registers : Int32) (t_bits : Int32) (t_inputs : Int32) (t_first : Int32) (t_isFresh : Int32) (t_isRoom : Int32) (t_walked : Int32) (t_parts : Int32) (t_nodes : Int32) (t_classes : Int32) (n_t_width : Nat) (f_t_width : Nat → Int32) (n_t_shift : Nat) (f_t_shift : Nat → Int32) (a1 : Int32) (sz : Nat) (post : Int32 → Int32 → Int32 → Int32 → Int32 → (Nat → Int32) → (Nat → Int32) → Prop) (hw : wp_MO_register t_thrown t_room t_registers t_bits t_inputs t_first t_isFresh t_isRoom t_walked t_parts t_nodes t_classes n_t_width f_t_width n_t_shift f_t_shift a1 post) : ky_M ky_rI l y_MO_register (.code y_MO_register b_MO_register 2 (some .int) :: wsG) rm_MO_register D vwCl (ky_T cI cL cR) (wl_MO_register cI cL cR a_t a_t_width a_t_shift a_t_outOp a_t_outA a_t_outB a_t_transfers a_t_to a_t_op a_t_opA a_t_opB a_t_next a_t_gives a_t_state a_t_from a_t_by a_t_depth a_t_number a_t_part a_t_newPart a_t_node a_t_newNode a_t_parent a_t_born a_t_one a_t_pieces a_t_chain a_t_behind a_t_classOf a_t_classState t_thrown t_room t_registers t_bits t_inputs t_first t_isFresh t_isRoom t_walked t_parts t_nodes t_classes n_t_width f_t_width n_t_shift f_t_shift) sz [.ref a_t, .int a1] (fun r (u : Int32 × Int32 × Int32 × Int32 × (Nat → Int32) × (Nat → Int32)) => post r u.1 u.2.1 u.2.2.1 u.2.2.2.1 u.2.2.2.2.1 u.2.2.2.2.2) (fun u => wl_MO_register cI cL cR a_t a_t_width a_t_shift a_t_outOp a_t_outA a_t_outB a_t_transfers a_t_to a_t_op a_t_opA a_t_opB a_t_next a_t_gives a_t_state a_t_from a_t_by a_t_depth a_t_number a_t_part a_t_newPart a_t_node a_t_newNode a_t_parent a_t_born a_t_one a_t_pieces a_t_chain a_t_behind a_t_classOf a_t_classState u.1 t_room u.2.1 u.2.2.1 t_inputs t_first u.2.2.2.1 t_isRoom t_walked t_parts t_nodes t_classes n_t_width u.2.2.2.2.1 n_t_shift u.2.2.2.2.2) := by
  refine ky_ofI (plainFor_of_name (by decide)) (Nat.le_of_ble_eq_true rfl) ?_
  intro p e s m args below meth c A Q ls hI hret
  obtain ⟨hx, hb, hml, hown, hin, hts, hK, hP, hD, hA, hS, hl⟩ := hI
  have hown : s.vm.findClass R_MO = some m.cls := hown
  have hl : lv_has ls 2 [(0, .ref a_t), (1, .int a1)] := hl
  obtain ⟨H, locs, eH, eL⟩ : ∃ (H : Heap) (locs : List Loc), H = s.heap ∧ locs = [] := ⟨_, _, rfl, rfl⟩
  rw [← eL] at hS ⊢
  have hS : va_S A s.heap H locs := by rw [eH]; exact hS
  have hP : va_P D vwCl (wl_MO_register cI cL cR a_t a_t_width a_t_shift a_t_outOp a_t_outA a_t_outB a_t_transfers a_t_to a_t_op a_t_opA a_t_opB a_t_next a_t_gives a_t_state a_t_from a_t_by a_t_depth a_t_number a_t_part a_t_newPart a_t_node a_t_newNode a_t_parent a_t_born a_t_one a_t_pieces a_t_chain a_t_behind a_t_classOf a_t_classState t_thrown t_room t_registers t_bits t_inputs t_first t_isFresh t_isRoom t_walked t_parts t_nodes t_classes n_t_width f_t_width n_t_shift f_t_shift) H := by rw [eH]; exact hP
  suffices hgo : W p l e rm_MO_register s m args below meth c H locs 0 0 Q (F0 m 0 ls []) by rw [eH] at hgo; exact hgo
  clear eH eL
  unfold wp_MO_register at hw
  refine lv_aload_n hx hb d_MO_register_0 rfl (lv_at hl 0 rfl) ?_
  refine lv_iconst (v := 0) hx hb d_MO_register_1 (by decide) ?_
  refine pf_MO_101 (v := .int 0) hx hb hts hown hK hP hD hS 0 rfl rfl rfl (Nat.le_of_ble_eq_true rfl) d_MO_register_2 (fun H locs hP hD hS => ?_)
  have hP : va_P D vwCl (wl_MO_register cI cL cR a_t a_t_width a_t_shift a_t_outOp a_t_outA a_t_outB a_t_transfers a_t_to a_t_op a_t_opA a_t_opB a_t_next a_t_gives a_t_state a_t_from a_t_by a_t_depth a_t_number a_t_part a_t_newPart a_t_node a_t_newNode a_t_parent a_t_born a_t_one a_t_pieces a_t_chain a_t_behind a_t_classOf a_t_classState 0 t_room t_registers t_bits t_inputs t_first t_isFresh t_isRoom t_walked t_parts t_nodes t_classes n_t_width f_t_width n_t_shift f_t_shift) H := hP
  have hD : va_D A (wl_MO_register cI cL cR a_t a_t_width a_t_shift a_t_outOp a_t_outA a_t_outB a_t_transfers a_t_to a_t_op a_t_opA a_t_opB a_t_next a_t_gives a_t_state a_t_from a_t_by a_t_depth a_t_number a_t_part a_t_newPart a_t_node a_t_newNode a_t_parent a_t_born a_t_one a_t_pieces a_t_chain a_t_behind a_t_classOf a_t_classState 0 t_room t_registers t_bits t_inputs t_first t_isFresh t_isRoom t_walked t_parts t_nodes t_classes n_t_width f_t_width n_t_shift f_t_shift) := hD
  refine lv_iload_n hx hb d_MO_register_5 rfl (lv_at hl 1 rfl) ?_
  refine lv_iconst (v := 1) hx hb d_MO_register_6 (by decide) ?_
  refine lv_iconst (v := 4) hx hb d_MO_register_7 (by decide) ?_
  refine ky_call (wr := [(a_t, .inr (7, [.int 0, .int t_room, .int t_registers, .int t_bits, .int t_inputs, .int t_first, .ref a_t_width, .ref a_t_shift, .ref a_t_outOp, .ref a_t_outA, .ref a_t_outB, .ref a_t_transfers, .ref a_t_to, .ref a_t_op, .ref a_t_opA, .ref a_t_opB, .int t_isFresh, .ref a_t_next, .ref a_t_gives, .int t_isRoom, .int t_walked, .ref a_t_state, .ref a_t_from, .ref a_t_by, .ref a_t_depth, .ref a_t_number, .int t_parts, .int t_nodes, .ref a_t_part, .ref a_t_newPart, .ref a_t_node, .ref a_t_newNode, .ref a_t_parent, .ref a_t_born, .ref a_t_one, .ref a_t_pieces, .ref a_t_chain, .ref a_t_behind, .int t_classes, .ref a_t_classOf, .ref a_t_classState])), (a_t_width, .inl (cI, n_t_width, .inl f_t_width)), (a_t_shift, .inl (cI, n_t_shift, .inl f_t_shift))]) hP hD hS hA [] [0, 1, 2] rfl rfl (by decide) (by decide) (va_runS (As := [.int a1, .int 1, .int 4]) (rest := []) ⟨hx, hb, hml, hown, hts⟩ (c_MO_within l D cI cL cR a1 (1 : Int32) (4 : Int32) H.size _ hw) (cw_MO_104 hts ⟨Nat.le_of_ble_eq_true rfl, Nat.le_of_ble_eq_true rfl⟩) (ky_preS hK hP hD [] rfl (by decide)) rfl rfl hl.1 rfl (lv_room (Nat.le_of_ble_eq_true rfl)) d_MO_register_8 ⟨Nat.le_refl 0, Nat.le_refl 0⟩) (fun r u H locs hw hP hD hS => ?_)
  obtain ⟨r1, rfl⟩ : ∃ z, z = r := ⟨_, rfl⟩
  have hP : va_P D vwCl (wl_MO_register cI cL cR a_t a_t_width a_t_shift a_t_outOp a_t_outA a_t_outB a_t_transfers a_t_to a_t_op a_t_opA a_t_opB a_t_next a_t_gives a_t_state a_t_from a_t_by a_t_depth a_t_number a_t_part a_t_newPart a_t_node a_t_newNode a_t_parent a_t_born a_t_one a_t_pieces a_t_chain a_t_behind a_t_classOf a_t_classState 0 t_room t_registers t_bits t_inputs t_first t_isFresh t_isRoom t_walked t_parts t_nodes t_classes n_t_width f_t_width n_t_shift f_t_shift) H := hP
  have hD : va_D A (wl_MO_register cI cL cR a_t a_t_width a_t_shift a_t_outOp a_t_outA a_t_outB a_t_transfers a_t_to a_t_op a_t_opA a_t_opB a_t_next a_t_gives a_t_state a_t_from a_t_by a_t_depth a_t_number a_t_part a_t_newPart a_t_node a_t_newNode a_t_parent a_t_born a_t_one a_t_pieces a_t_chain a_t_behind a_t_classOf a_t_classState 0 t_room t_registers t_bits t_inputs t_first t_isFresh t_isRoom t_walked t_parts t_nodes t_classes n_t_width f_t_width n_t_shift f_t_shift) := hD
  refine W.widen (k := 0) (n := 0) (Nat.le_refl _) (Nat.le_refl _) ?_
  refine W.eq (g2 := F0 m 11 ls [.int r1]) rfl ?_
  refine lv_if_ne (tgt := 20) hx hb d_MO_register_11 (by decide) (fun hc => ?_) (fun hc => ?_)
  · have hw := hw.1 hc
    refine lv_aload_n hx hb d_MO_register_20 rfl (lv_at hl 0 rfl) ?_
    refine gf_MO_112 hx hb hts hown hK hP 0 rfl rfl d_MO_register_21 ?_
    refine lv_if_le (tgt := 33) hx hb d_MO_register_24 (by decide) (fun hc => ?_) (fun hc => ?_)
    · have hw := hw.1 hc
      refine lv_aload_n hx hb d_MO_register_33 rfl (lv_at hl 0 rfl) ?_
      refine gf_MO_115 hx hb hts hown hK hP 0 rfl rfl d_MO_register_34 ?_
      refine lv_iconst (v := 4) hx hb d_MO_register_37 (by decide) ?_
      refine lv_icmp_eq (tgt := 52) hx hb d_MO_register_38 (by decide) (fun hc => ?_) (fun hc => ?_)
      · have hw := hw.1 hc
        refine lv_aload_n hx hb d_MO_register_52 rfl (lv_at hl 0 rfl) ?_
        refine lv_iconst (v := 3) hx hb d_MO_register_53 (by decide) ?_
        refine ky_call (wr := [(a_t_width, .inl (cI, n_t_width, .inl f_t_width)), (a_t_shift, .inl (cI, n_t_shift, .inl f_t_shift))]) hP hD hS hA [0] [1, 2] rfl rfl (by decide) (by decide) (va_runV (As := [.int 3]) (rest := []) ⟨hx, hb, hml, hown, hts⟩ (c_MO_fail l D cI cL cR a_t a_t_width a_t_shift a_t_outOp a_t_outA a_t_outB a_t_transfers a_t_to a_t_op a_t_opA a_t_opB a_t_next a_t_gives a_t_state a_t_from a_t_by a_t_depth a_t_number a_t_part a_t_newPart a_t_node a_t_newNode a_t_parent a_t_born a_t_one a_t_pieces a_t_chain a_t_behind a_t_classOf a_t_classState 0 t_room t_registers t_bits t_inputs t_first t_isFresh t_isRoom t_walked t_parts t_nodes t_classes (3 : Int32) H.size _ hw) (cw_MO_108 hts ⟨Nat.le_of_ble_eq_true rfl, Nat.le_of_ble_eq_true rfl⟩) (ky_preV hK hP hD [0] rfl (by decide) rfl rfl) rfl rfl hl.1 rfl (lv_room (Nat.le_of_ble_eq_true rfl)) d_MO_register_54 ⟨Nat.le_refl 0, Nat.le_refl 0⟩) (fun r u H locs hw hP hD hS => ?_)
        obtain ⟨m_thrown_2, rfl⟩ : ∃ z, z = u := ⟨_, rfl⟩
        obtain ⟨r2, rfl⟩ : ∃ z, z = r := ⟨_, rfl⟩
        try dsimp only at hw
        have hP : va_P D vwCl (wl_MO_register cI cL cR a_t a_t_width a_t_shift a_t_outOp a_t_outA a_t_outB a_t_transfers a_t_to a_t_op a_t_opA a_t_opB a_t_next a_t_gives a_t_state a_t_from a_t_by a_t_depth a_t_number a_t_part a_t_newPart a_t_node a_t_newNode a_t_parent a_t_born a_t_one a_t_pieces a_t_chain a_t_behind a_t_classOf a_t_classState m_thrown_2 t_room t_registers t_bits t_inputs t_first t_isFresh t_isRoom t_walked t_parts t_nodes t_classes n_t_width f_t_width n_t_shift f_t_shift) H := hP.sub [2, 0, 1] rfl
        have hD : va_D A (wl_MO_register cI cL cR a_t a_t_width a_t_shift a_t_outOp a_t_outA a_t_outB a_t_transfers a_t_to a_t_op a_t_opA a_t_opB a_t_next a_t_gives a_t_state a_t_from a_t_by a_t_depth a_t_number a_t_part a_t_newPart a_t_node a_t_newNode a_t_parent a_t_born a_t_one a_t_pieces a_t_chain a_t_behind a_t_classOf a_t_classState m_thrown_2 t_room t_registers t_bits t_inputs t_first t_isFresh t_isRoom t_walked t_parts t_nodes t_classes n_t_width f_t_width n_t_shift f_t_shift) := hD.sub [2, 0, 1] (by decide) rfl
        refine W.widen (k := 0) (n := 0) (Nat.le_refl _) (Nat.le_refl _) ?_
        refine W.eq (g2 := F0 m 57 ls [.int r2]) rfl ?_
        exact hret r2 (m_thrown_2, t_registers, t_bits, t_isFresh, f_t_width, f_t_shift) H locs _ _ 57 ls d_MO_register_57 hP hD hS hw (Nat.le_refl 0) (Nat.le_refl 0)
      · have hw := hw.2 hc
        refine lv_aload_n hx hb d_MO_register_41 rfl (lv_at hl 0 rfl) ?_
        refine gf_MO_118 hx hb hts hown hK hP 0 rfl rfl d_MO_register_42 ?_
        refine lv_iload_n hx hb d_MO_register_45 rfl (lv_at hl 1 rfl) ?_
        refine lv_iadd hx hb d_MO_register_46 ?_
        refine lv_bipush (v := 12) hx hb d_MO_register_47 (by decide) ?_
        refine lv_icmp_le (tgt := 58) hx hb d_MO_register_49 (by decide) (fun hc => ?_) (fun hc => ?_)
        · have hw := hw.1 hc
          refine lv_aload_n hx hb d_MO_register_58 rfl (lv_at hl 0 rfl) ?_
          refine gf_MO_7 hx hb hts hown hK hP 0 rfl rfl d_MO_register_59 ?_
          refine lv_aload_n hx hb d_MO_register_62 rfl (lv_at hl 0 rfl) ?_
          refine gf_MO_115 hx hb hts hown hK hP 0 rfl rfl d_MO_register_63 ?_
          refine lv_iload_n hx hb d_MO_register_66 rfl (lv_at hl 1 rfl) ?_
          obtain ⟨h1, hw⟩ := hw
          refine va_iast hx hb hK hP hD hS 1 0 rfl rfl h1 d_MO_register_67 (fun H locs hP hD hS => ?_)
          have hP : va_P D vwCl (wl_MO_register cI cL cR a_t a_t_width a_t_shift a_t_outOp a_t_outA a_t_outB a_t_transfers a_t_to a_t_op a_t_opA a_t_opB a_t_next a_t_gives a_t_state a_t_from a_t_by a_t_depth a_t_number a_t_part a_t_newPart a_t_node a_t_newNode a_t_parent a_t_born a_t_one a_t_pieces a_t_chain a_t_behind a_t_classOf a_t_classState 0 t_room t_registers t_bits t_inputs t_first t_isFresh t_isRoom t_walked t_parts t_nodes t_classes n_t_width (upd f_t_width t_registers.toNatClampNeg a1) n_t_shift f_t_shift) H := hP
          have hD : va_D A (wl_MO_register cI cL cR a_t a_t_width a_t_shift a_t_outOp a_t_outA a_t_outB a_t_transfers a_t_to a_t_op a_t_opA a_t_opB a_t_next a_t_gives a_t_state a_t_from a_t_by a_t_depth a_t_number a_t_part a_t_newPart a_t_node a_t_newNode a_t_parent a_t_born a_t_one a_t_pieces a_t_chain a_t_behind a_t_classOf a_t_classState 0 t_room t_registers t_bits t_inputs t_first t_isFresh t_isRoom t_walked t_parts t_nodes t_classes n_t_width (upd f_t_width t_registers.toNatClampNeg a1) n_t_shift f_t_shift) := hD
          generalize ef3 : (upd f_t_width t_registers.toNatClampNeg a1) = f3 at hP hD
          have hw := hw f3 ef3.symm
          refine lv_aload_n hx hb d_MO_register_68 rfl (lv_at hl 0 rfl) ?_
          refine gf_MO_13 hx hb hts hown hK hP 0 rfl rfl d_MO_register_69 ?_
          refine lv_aload_n hx hb d_MO_register_72 rfl (lv_at hl 0 rfl) ?_
          refine gf_MO_115 hx hb hts hown hK hP 0 rfl rfl d_MO_register_73 ?_
          refine lv_aload_n hx hb d_MO_register_76 rfl (lv_at hl 0 rfl) ?_
          refine gf_MO_118 hx hb hts hown hK hP 0 rfl rfl d_MO_register_77 ?_
          obtain ⟨h1, hw⟩ := hw
          refine va_iast hx hb hK hP hD hS 2 0 rfl rfl h1 d_MO_register_80 (fun H locs hP hD hS => ?_)
          have hP : va_P D vwCl (wl_MO_register cI cL cR a_t a_t_width a_t_shift a_t_outOp a_t_outA a_t_outB a_t_transfers a_t_to a_t_op a_t_opA a_t_opB a_t_next a_t_gives a_t_state a_t_from a_t_by a_t_depth a_t_number a_t_part a_t_newPart a_t_node a_t_newNode a_t_parent a_t_born a_t_one a_t_pieces a_t_chain a_t_behind a_t_classOf a_t_classState 0 t_room t_registers t_bits t_inputs t_first t_isFresh t_isRoom t_walked t_parts t_nodes t_classes n_t_width f3 n_t_shift (upd f_t_shift t_registers.toNatClampNeg t_bits)) H := hP
          have hD : va_D A (wl_MO_register cI cL cR a_t a_t_width a_t_shift a_t_outOp a_t_outA a_t_outB a_t_transfers a_t_to a_t_op a_t_opA a_t_opB a_t_next a_t_gives a_t_state a_t_from a_t_by a_t_depth a_t_number a_t_part a_t_newPart a_t_node a_t_newNode a_t_parent a_t_born a_t_one a_t_pieces a_t_chain a_t_behind a_t_classOf a_t_classState 0 t_room t_registers t_bits t_inputs t_first t_isFresh t_isRoom t_walked t_parts t_nodes t_classes n_t_width f3 n_t_shift (upd f_t_shift t_registers.toNatClampNeg t_bits)) := hD
          generalize ef4 : (upd f_t_shift t_registers.toNatClampNeg t_bits) = f4 at hP hD
          have hw := hw f4 ef4.symm
          refine lv_aload_n hx hb d_MO_register_81 rfl (lv_at hl 0 rfl) ?_
          refine lv_dup hx hb d_MO_register_82 rfl ?_
          refine gf_MO_118 hx hb hts hown hK hP 0 rfl rfl d_MO_register_83 ?_
          refine lv_iload_n hx hb d_MO_register_86 rfl (lv_at hl 1 rfl) ?_
          refine lv_iadd hx hb d_MO_register_87 ?_
          refine lv_topi (fun y5 ey5 => ?_)
          have hw := hw y5 ey5
          refine pf_MO_118 (v := .int y5) hx hb hts hown hK hP hD hS 0 rfl rfl rfl (Nat.le_of_ble_eq_true rfl) d_MO_register_88 (fun H locs hP hD hS => ?_)
          have hP : va_P D vwCl (wl_MO_register cI cL cR a_t a_t_width a_t_shift a_t_outOp a_t_outA a_t_outB a_t_transfers a_t_to a_t_op a_t_opA a_t_opB a_t_next a_t_gives a_t_state a_t_from a_t_by a_t_depth a_t_number a_t_part a_t_newPart a_t_node a_t_newNode a_t_parent a_t_born a_t_one a_t_pieces a_t_chain a_t_behind a_t_classOf a_t_classState 0 t_room t_registers y5 t_inputs t_first t_isFresh t_isRoom t_walked t_parts t_nodes t_classes n_t_width f3 n_t_shift f4) H := hP
          have hD : va_D A (wl_MO_register cI cL cR a_t a_t_width a_t_shift a_t_outOp a_t_outA a_t_outB a_t_transfers a_t_to a_t_op a_t_opA a_t_opB a_t_next a_t_gives a_t_state a_t_from a_t_by a_t_depth a_t_number a_t_part a_t_newPart a_t_node a_t_newNode a_t_parent a_t_born a_t_one a_t_pieces a_t_chain a_t_behind a_t_classOf a_t_classState 0 t_room t_registers y5 t_inputs t_first t_isFresh t_isRoom t_walked t_parts t_nodes t_classes n_t_width f3 n_t_shift f4) := hD
          refine lv_aload_n hx hb d_MO_register_91 rfl (lv_at hl 0 rfl) ?_
          refine lv_dup hx hb d_MO_register_92 rfl ?_
          refine gf_MO_115 hx hb hts hown hK hP 0 rfl rfl d_MO_register_93 ?_
          refine lv_iconst (v := 1) hx hb d_MO_register_96 (by decide) ?_
          refine lv_iadd hx hb d_MO_register_97 ?_
          refine lv_topi (fun y6 ey6 => ?_)
          have hw := hw y6 ey6
          refine pf_MO_115 (v := .int y6) hx hb hts hown hK hP hD hS 0 rfl rfl rfl (Nat.le_of_ble_eq_true rfl) d_MO_register_98 (fun H locs hP hD hS => ?_)
          have hP : va_P D vwCl (wl_MO_register cI cL cR a_t a_t_width a_t_shift a_t_outOp a_t_outA a_t_outB a_t_transfers a_t_to a_t_op a_t_opA a_t_opB a_t_next a_t_gives a_t_state a_t_from a_t_by a_t_depth a_t_number a_t_part a_t_newPart a_t_node a_t_newNode a_t_parent a_t_born a_t_one a_t_pieces a_t_chain a_t_behind a_t_classOf a_t_classState 0 t_room y6 y5 t_inputs t_first t_isFresh t_isRoom t_walked t_parts t_nodes t_classes n_t_width f3 n_t_shift f4) H := hP
          have hD : va_D A (wl_MO_register cI cL cR a_t a_t_width a_t_shift a_t_outOp a_t_outA a_t_outB a_t_transfers a_t_to a_t_op a_t_opA a_t_opB a_t_next a_t_gives a_t_state a_t_from a_t_by a_t_depth a_t_number a_t_part a_t_newPart a_t_node a_t_newNode a_t_parent a_t_born a_t_one a_t_pieces a_t_chain a_t_behind a_t_classOf a_t_classState 0 t_room y6 y5 t_inputs t_first t_isFresh t_isRoom t_walked t_parts t_nodes t_classes n_t_width f3 n_t_shift f4) := hD
          refine lv_aload_n hx hb d_MO_register_101 rfl (lv_at hl 0 rfl) ?_
          refine lv_iconst (v := 0) hx hb d_MO_register_102 (by decide) ?_
          refine pf_MO_121 (v := .int 0) hx hb hts hown hK hP hD hS 0 rfl (by decide +kernel) (by decide +kernel) (Nat.le_of_ble_eq_true rfl) d_MO_register_103 (fun H locs hP hD hS => ?_)
          have hP : va_P D vwCl (wl_MO_register cI cL cR a_t a_t_width a_t_shift a_t_outOp a_t_outA a_t_outB a_t_transfers a_t_to a_t_op a_t_opA a_t_opB a_t_next a_t_gives a_t_state a_t_from a_t_by a_t_depth a_t_number a_t_part a_t_newPart a_t_node a_t_newNode a_t_parent a_t_born a_t_one a_t_pieces a_t_chain a_t_behind a_t_classOf a_t_classState 0 t_room y6 y5 t_inputs t_first 0 t_isRoom t_walked t_parts t_nodes t_classes n_t_width f3 n_t_shift f4) H := hP
          have hD : va_D A (wl_MO_register cI cL cR a_t a_t_width a_t_shift a_t_outOp a_t_outA a_t_outB a_t_transfers a_t_to a_t_op a_t_opA a_t_opB a_t_next a_t_gives a_t_state a_t_from a_t_by a_t_depth a_t_number a_t_part a_t_newPart a_t_node a_t_newNode a_t_parent a_t_born a_t_one a_t_pieces a_t_chain a_t_behind a_t_classOf a_t_classState 0 t_room y6 y5 t_inputs t_first 0 t_isRoom t_walked t_parts t_nodes t_classes n_t_width f3 n_t_shift f4) := hD
          refine lv_aload_n hx hb d_MO_register_106 rfl (lv_at hl 0 rfl) ?_
          refine gf_MO_115 hx hb hts hown hK hP 0 rfl rfl d_MO_register_107 ?_
          refine lv_iconst (v := 1) hx hb d_MO_register_110 (by decide) ?_
          refine lv_isub hx hb d_MO_register_111 ?_
          exact hret (y6 - (1 : Int32)) (0, y6, y5, 0, f3, f4) H locs _ _ 112 ls d_MO_register_112 hP hD hS hw (Nat.le_refl 0) (Nat.le_refl 0)
        · have hw := hw.2 hc
          refine lv_aload_n hx hb d_MO_register_52 rfl (lv_at hl 0 rfl) ?_
          refine lv_iconst (v := 3) hx hb d_MO_register_53 (by decide) ?_
          refine ky_call (wr := [(a_t_width, .inl (cI, n_t_width, .inl f_t_width)), (a_t_shift, .inl (cI, n_t_shift, .inl f_t_shift))]) hP hD hS hA [0] [1, 2] rfl rfl (by decide) (by decide) (va_runV (As := [.int 3]) (rest := []) ⟨hx, hb, hml, hown, hts⟩ (c_MO_fail l D cI cL cR a_t a_t_width a_t_shift a_t_outOp a_t_outA a_t_outB a_t_transfers a_t_to a_t_op a_t_opA a_t_opB a_t_next a_t_gives a_t_state a_t_from a_t_by a_t_depth a_t_number a_t_part a_t_newPart a_t_node a_t_newNode a_t_parent a_t_born a_t_one a_t_pieces a_t_chain a_t_behind a_t_classOf a_t_classState 0 t_room t_registers t_bits t_inputs t_first t_isFresh t_isRoom t_walked t_parts t_nodes t_classes (3 : Int32) H.size _ hw) (cw_MO_108 hts ⟨Nat.le_of_ble_eq_true rfl, Nat.le_of_ble_eq_true rfl⟩) (ky_preV hK hP hD [0] rfl (by decide) rfl rfl) rfl rfl hl.1 rfl (lv_room (Nat.le_of_ble_eq_true rfl)) d_MO_register_54 ⟨Nat.le_refl 0, Nat.le_refl 0⟩) (fun r u H locs hw hP hD hS => ?_)
          obtain ⟨m_thrown_7, rfl⟩ : ∃ z, z = u := ⟨_, rfl⟩
          obtain ⟨r7, rfl⟩ : ∃ z, z = r := ⟨_, rfl⟩
          try dsimp only at hw
          have hP : va_P D vwCl (wl_MO_register cI cL cR a_t a_t_width a_t_shift a_t_outOp a_t_outA a_t_outB a_t_transfers a_t_to a_t_op a_t_opA a_t_opB a_t_next a_t_gives a_t_state a_t_from a_t_by a_t_depth a_t_number a_t_part a_t_newPart a_t_node a_t_newNode a_t_parent a_t_born a_t_one a_t_pieces a_t_chain a_t_behind a_t_classOf a_t_classState m_thrown_7 t_room t_registers t_bits t_inputs t_first t_isFresh t_isRoom t_walked t_parts t_nodes t_classes n_t_width f_t_width n_t_shift f_t_shift) H := hP.sub [2, 0, 1] rfl
          have hD : va_D A (wl_MO_register cI cL cR a_t a_t_width a_t_shift a_t_outOp a_t_outA a_t_outB a_t_transfers a_t_to a_t_op a_t_opA a_t_opB a_t_next a_t_gives a_t_state a_t_from a_t_by a_t_depth a_t_number a_t_part a_t_newPart a_t_node a_t_newNode a_t_parent a_t_born a_t_one a_t_pieces a_t_chain a_t_behind a_t_classOf a_t_classState m_thrown_7 t_room t_registers t_bits t_inputs t_first t_isFresh t_isRoom t_walked t_parts t_nodes t_classes n_t_width f_t_width n_t_shift f_t_shift) := hD.sub [2, 0, 1] (by decide) rfl
          refine W.widen (k := 0) (n := 0) (Nat.le_refl _) (Nat.le_refl _) ?_
          refine W.eq (g2 := F0 m 57 ls [.int r7]) rfl ?_
          exact hret r7 (m_thrown_7, t_registers, t_bits, t_isFresh, f_t_width, f_t_shift) H locs _ _ 57 ls d_MO_register_57 hP hD hS hw (Nat.le_refl 0) (Nat.le_refl 0)
    · have hw := hw.2 hc
      refine lv_aload_n hx hb d_MO_register_27 rfl (lv_at hl 0 rfl) ?_
      refine lv_iconst (v := 2) hx hb d_MO_register_28 (by decide) ?_
      refine ky_call (wr := [(a_t_width, .inl (cI, n_t_width, .inl f_t_width)), (a_t_shift, .inl (cI, n_t_shift, .inl f_t_shift))]) hP hD hS hA [0] [1, 2] rfl rfl (by decide) (by decide) (va_runV (As := [.int 2]) (rest := []) ⟨hx, hb, hml, hown, hts⟩ (c_MO_fail l D cI cL cR a_t a_t_width a_t_shift a_t_outOp a_t_outA a_t_outB a_t_transfers a_t_to a_t_op a_t_opA a_t_opB a_t_next a_t_gives a_t_state a_t_from a_t_by a_t_depth a_t_number a_t_part a_t_newPart a_t_node a_t_newNode a_t_parent a_t_born a_t_one a_t_pieces a_t_chain a_t_behind a_t_classOf a_t_classState 0 t_room t_registers t_bits t_inputs t_first t_isFresh t_isRoom t_walked t_parts t_nodes t_classes (2 : Int32) H.size _ hw) (cw_MO_108 hts ⟨Nat.le_of_ble_eq_true rfl, Nat.le_of_ble_eq_true rfl⟩) (ky_preV hK hP hD [0] rfl (by decide) rfl rfl) rfl rfl hl.1 rfl (lv_room (Nat.le_of_ble_eq_true rfl)) d_MO_register_29 ⟨Nat.le_refl 0, Nat.le_refl 0⟩) (fun r u H locs hw hP hD hS => ?_)
      obtain ⟨m_thrown_8, rfl⟩ : ∃ z, z = u := ⟨_, rfl⟩
      obtain ⟨r8, rfl⟩ : ∃ z, z = r := ⟨_, rfl⟩
      try dsimp only at hw
      have hP : va_P D vwCl (wl_MO_register cI cL cR a_t a_t_width a_t_shift a_t_outOp a_t_outA a_t_outB a_t_transfers a_t_to a_t_op a_t_opA a_t_opB a_t_next a_t_gives a_t_state a_t_from a_t_by a_t_depth a_t_number a_t_part a_t_newPart a_t_node a_t_newNode a_t_parent a_t_born a_t_one a_t_pieces a_t_chain a_t_behind a_t_classOf a_t_classState m_thrown_8 t_room t_registers t_bits t_inputs t_first t_isFresh t_isRoom t_walked t_parts t_nodes t_classes n_t_width f_t_width n_t_shift f_t_shift) H := hP.sub [2, 0, 1] rfl
      have hD : va_D A (wl_MO_register cI cL cR a_t a_t_width a_t_shift a_t_outOp a_t_outA a_t_outB a_t_transfers a_t_to a_t_op a_t_opA a_t_opB a_t_next a_t_gives a_t_state a_t_from a_t_by a_t_depth a_t_number a_t_part a_t_newPart a_t_node a_t_newNode a_t_parent a_t_born a_t_one a_t_pieces a_t_chain a_t_behind a_t_classOf a_t_classState m_thrown_8 t_room t_registers t_bits t_inputs t_first t_isFresh t_isRoom t_walked t_parts t_nodes t_classes n_t_width f_t_width n_t_shift f_t_shift) := hD.sub [2, 0, 1] (by decide) rfl
      refine W.widen (k := 0) (n := 0) (Nat.le_refl _) (Nat.le_refl _) ?_
      refine W.eq (g2 := F0 m 32 ls [.int r8]) rfl ?_
      exact hret r8 (m_thrown_8, t_registers, t_bits, t_isFresh, f_t_width, f_t_shift) H locs _ _ 32 ls d_MO_register_32 hP hD hS hw (Nat.le_refl 0) (Nat.le_refl 0)
  · have hw := hw.2 hc
    refine lv_aload_n hx hb d_MO_register_14 rfl (lv_at hl 0 rfl) ?_
    refine lv_iconst (v := 1) hx hb d_MO_register_15 (by decide) ?_
    refine ky_call (wr := [(a_t_width, .inl (cI, n_t_width, .inl f_t_width)), (a_t_shift, .inl (cI, n_t_shift, .inl f_t_shift))]) hP hD hS hA [0] [1, 2] rfl rfl (by decide) (by decide) (va_runV (As := [.int 1]) (rest := []) ⟨hx, hb, hml, hown, hts⟩ (c_MO_fail l D cI cL cR a_t a_t_width a_t_shift a_t_outOp a_t_outA a_t_outB a_t_transfers a_t_to a_t_op a_t_opA a_t_opB a_t_next a_t_gives a_t_state a_t_from a_t_by a_t_depth a_t_number a_t_part a_t_newPart a_t_node a_t_newNode a_t_parent a_t_born a_t_one a_t_pieces a_t_chain a_t_behind a_t_classOf a_t_classState 0 t_room t_registers t_bits t_inputs t_first t_isFresh t_isRoom t_walked t_parts t_nodes t_classes (1 : Int32) H.size _ hw) (cw_MO_108 hts ⟨Nat.le_of_ble_eq_true rfl, Nat.le_of_ble_eq_true rfl⟩) (ky_preV hK hP hD [0] rfl (by decide) rfl rfl) rfl rfl hl.1 rfl (lv_room (Nat.le_of_ble_eq_true rfl)) d_MO_register_16 ⟨Nat.le_refl 0, Nat.le_refl 0⟩) (fun r u H locs hw hP hD hS => ?_)
    obtain ⟨m_thrown_9, rfl⟩ : ∃ z, z = u := ⟨_, rfl⟩
    obtain ⟨r9, rfl⟩ : ∃ z, z = r := ⟨_, rfl⟩
    try dsimp only at hw
    have hP : va_P D vwCl (wl_MO_register cI cL cR a_t a_t_width a_t_shift a_t_outOp a_t_outA a_t_outB a_t_transfers a_t_to a_t_op a_t_opA a_t_opB a_t_next a_t_gives a_t_state a_t_from a_t_by a_t_depth a_t_number a_t_part a_t_newPart a_t_node a_t_newNode a_t_parent a_t_born a_t_one a_t_pieces a_t_chain a_t_behind a_t_classOf a_t_classState m_thrown_9 t_room t_registers t_bits t_inputs t_first t_isFresh t_isRoom t_walked t_parts t_nodes t_classes n_t_width f_t_width n_t_shift f_t_shift) H := hP.sub [2, 0, 1] rfl
    have hD : va_D A (wl_MO_register cI cL cR a_t a_t_width a_t_shift a_t_outOp a_t_outA a_t_outB a_t_transfers a_t_to a_t_op a_t_opA a_t_opB a_t_next a_t_gives a_t_state a_t_from a_t_by a_t_depth a_t_number a_t_part a_t_newPart a_t_node a_t_newNode a_t_parent a_t_born a_t_one a_t_pieces a_t_chain a_t_behind a_t_classOf a_t_classState m_thrown_9 t_room t_registers t_bits t_inputs t_first t_isFresh t_isRoom t_walked t_parts t_nodes t_classes n_t_width f_t_width n_t_shift f_t_shift) := hD.sub [2, 0, 1] (by decide) rfl
    refine W.widen (k := 0) (n := 0) (Nat.le_refl _) (Nat.le_refl _) ?_
    refine W.eq (g2 := F0 m 19 ls [.int r9]) rfl ?_
    exact hret r9 (m_thrown_9, t_registers, t_bits, t_isFresh, f_t_width, f_t_shift) H locs _ _ 19 ls d_MO_register_19 hP hD hS hw (Nat.le_refl 0) (Nat.le_refl 0)

abbrev wl_MO_isOperand (cI cL cR : ClassId) (a_t : Nat) (a_t_width : Nat) (a_t_shift : Nat) (a_t_outOp : Nat) (a_t_outA : Nat) (a_t_outB : Nat) (a_t_transfers : Nat) (a_t_to : Nat) (a_t_op : Nat) (a_t_opA : Nat) (a_t_opB : Nat) (a_t_next : Nat) (a_t_gives : Nat) (a_t_state : Nat) (a_t_from : Nat) (a_t_by : Nat) (a_t_depth : Nat) (a_t_number : Nat) (a_t_part : Nat) (a_t_newPart : Nat) (a_t_node : Nat) (a_t_newNode : Nat) (a_t_parent : Nat) (a_t_born : Nat) (a_t_one : Nat) (a_t_pieces : Nat) (a_t_chain : Nat) (a_t_behind : Nat) (a_t_classOf : Nat) (a_t_classState : Nat) (t_thrown : Int32) (t_room : Int32) (t_registers : Int32) (t_bits : Int32) (t_inputs : Int32) (t_first : Int32) (t_isFresh : Int32) (t_isRoom : Int32) (t_walked : Int32) (t_parts : Int32) (t_nodes : Int32) (t_classes : Int32) : va_W := [(a_t, .inr (7, [.int t_thrown, .int t_room, .int t_registers, .int t_bits, .int t_inputs, .int t_first, .ref a_t_width, .ref a_t_shift, .ref a_t_outOp, .ref a_t_outA, .ref a_t_outB, .ref a_t_transfers, .ref a_t_to, .ref a_t_op, .ref a_t_opA, .ref a_t_opB, .int t_isFresh, .ref a_t_next, .ref a_t_gives, .int t_isRoom, .int t_walked, .ref a_t_state, .ref a_t_from, .ref a_t_by, .ref a_t_depth, .ref a_t_number, .int t_parts, .int t_nodes, .ref a_t_part, .ref a_t_newPart, .ref a_t_node, .ref a_t_newNode, .ref a_t_parent, .ref a_t_born, .ref a_t_one, .ref a_t_pieces, .ref a_t_chain, .ref a_t_behind, .int t_classes, .ref a_t_classOf, .ref a_t_classState]))]
def wp_MO_isOperand (t_thrown : Int32) (t_room : Int32) (t_registers : Int32) (t_bits : Int32) (t_inputs : Int32) (t_first : Int32) (t_isFresh : Int32) (t_isRoom : Int32) (t_walked : Int32) (t_parts : Int32) (t_nodes : Int32) (t_classes : Int32) (a1 : Int32) (post : Int32 → Prop) : Prop :=
  wp_MO_within a1 ((-16) : Int32) (t_registers - (1 : Int32)) (fun r1 => (narrow .boolean (.int r1) = .int r1 ∧ post r1))
abbrev rm_MO_isOperand : Room := { frames := 2, cells := 0, slots := 0, locals := 35 }
set_option maxHeartbeats 4000000 in
set_option maxRecDepth 100000 in
theorem c_MO_isOperand (l : Launch) (D : va_G) (cI cL cR : ClassId) (a_t a_t_width a_t_shift a_t_outOp a_t_outA a_t_outB a_t_transfers a_t_to a_t_op a_t_opA a_t_opB a_t_next a_t_gives a_t_state a_t_from a_t_by a_t_depth a_t_number a_t_part a_t_newPart a_t_node a_t_newNode a_t_parent a_t_born a_t_one a_t_pieces a_t_chain a_t_behind a_t_classOf a_t_classState : Nat) (t_thrown : Int32) (t_room : Int32) (t_registers : Int32) (t_bits : Int32) (t_inputs : Int32) (t_first : Int32) (t_isFresh : Int32) (t_isRoom : Int32) (t_walked : Int32) (t_parts : Int32) (t_nodes : Int32) (t_classes : Int32) (a1 : Int32) (sz : Nat) (post : Int32 → Prop) (hw : wp_MO_isOperand t_thrown t_room t_registers t_bits t_inputs t_first t_isFresh t_isRoom t_walked t_parts t_nodes t_classes a1 post) : ky_M ky_rI l y_MO_isOperand (.code y_MO_isOperand b_MO_isOperand 2 (some .boolean) :: wsG) rm_MO_isOperand D vwCl (ky_T cI cL cR) (wl_MO_isOperand cI cL cR a_t a_t_width a_t_shift a_t_outOp a_t_outA a_t_outB a_t_transfers a_t_to a_t_op a_t_opA a_t_opB a_t_next a_t_gives a_t_state a_t_from a_t_by a_t_depth a_t_number a_t_part a_t_newPart a_t_node a_t_newNode a_t_parent a_t_born a_t_one a_t_pieces a_t_chain a_t_behind a_t_classOf a_t_classState t_thrown t_room t_registers t_bits t_inputs t_first t_isFresh t_isRoom t_walked t_parts t_nodes t_classes) sz [.ref a_t, .int a1] (fun r (u : Unit) => post r) (fun u => wl_MO_isOperand cI cL cR a_t a_t_width a_t_shift a_t_outOp a_t_outA a_t_outB a_t_transfers a_t_to a_t_op a_t_opA a_t_opB a_t_next a_t_gives a_t_state a_t_from a_t_by a_t_depth a_t_number a_t_part a_t_newPart a_t_node a_t_newNode a_t_parent a_t_born a_t_one a_t_pieces a_t_chain a_t_behind a_t_classOf a_t_classState t_thrown t_room t_registers t_bits t_inputs t_first t_isFresh t_isRoom t_walked t_parts t_nodes t_classes) := by
  refine ky_ofZ (plainFor_of_name (by decide)) (Nat.le_of_ble_eq_true rfl) ?_
  intro p e s m args below meth c A Q ls hI hret
  obtain ⟨hx, hb, hml, hown, hin, hts, hK, hP, hD, hA, hS, hl⟩ := hI
  have hown : s.vm.findClass R_MO = some m.cls := hown
  have hl : lv_has ls 2 [(0, .ref a_t), (1, .int a1)] := hl
  obtain ⟨H, locs, eH, eL⟩ : ∃ (H : Heap) (locs : List Loc), H = s.heap ∧ locs = [] := ⟨_, _, rfl, rfl⟩
  rw [← eL] at hS ⊢
  have hS : va_S A s.heap H locs := by rw [eH]; exact hS
  have hP : va_P D vwCl (wl_MO_isOperand cI cL cR a_t a_t_width a_t_shift a_t_outOp a_t_outA a_t_outB a_t_transfers a_t_to a_t_op a_t_opA a_t_opB a_t_next a_t_gives a_t_state a_t_from a_t_by a_t_depth a_t_number a_t_part a_t_newPart a_t_node a_t_newNode a_t_parent a_t_born a_t_one a_t_pieces a_t_chain a_t_behind a_t_classOf a_t_classState t_thrown t_room t_registers t_bits t_inputs t_first t_isFresh t_isRoom t_walked t_parts t_nodes t_classes) H := by rw [eH]; exact hP
  suffices hgo : W p l e rm_MO_isOperand s m args below meth c H locs 0 0 Q (F0 m 0 ls []) by rw [eH] at hgo; exact hgo
  clear eH eL
  unfold wp_MO_isOperand at hw
  refine lv_iload_n hx hb d_MO_isOperand_0 rfl (lv_at hl 1 rfl) ?_
  refine lv_bipush (v := (-16)) hx hb d_MO_isOperand_1 (by decide) ?_
  refine lv_aload_n hx hb d_MO_isOperand_3 rfl (lv_at hl 0 rfl) ?_
  refine gf_MO_115 hx hb hts hown hK hP 0 rfl rfl d_MO_isOperand_4 ?_
  refine lv_iconst (v := 1) hx hb d_MO_isOperand_7 (by decide) ?_
  refine lv_isub hx hb d_MO_isOperand_8 ?_
  refine ky_call (wr := [(a_t, .inr (7, [.int t_thrown, .int t_room, .int t_registers, .int t_bits, .int t_inputs, .int t_first, .ref a_t_width, .ref a_t_shift, .ref a_t_outOp, .ref a_t_outA, .ref a_t_outB, .ref a_t_transfers, .ref a_t_to, .ref a_t_op, .ref a_t_opA, .ref a_t_opB, .int t_isFresh, .ref a_t_next, .ref a_t_gives, .int t_isRoom, .int t_walked, .ref a_t_state, .ref a_t_from, .ref a_t_by, .ref a_t_depth, .ref a_t_number, .int t_parts, .int t_nodes, .ref a_t_part, .ref a_t_newPart, .ref a_t_node, .ref a_t_newNode, .ref a_t_parent, .ref a_t_born, .ref a_t_one, .ref a_t_pieces, .ref a_t_chain, .ref a_t_behind, .int t_classes, .ref a_t_classOf, .ref a_t_classState]))]) hP hD hS hA [] [0] rfl rfl (by decide) (by decide) (va_runS (As := [.int a1, .int (-16), .int (t_registers - (1 : Int32))]) (rest := []) ⟨hx, hb, hml, hown, hts⟩ (c_MO_within l D cI cL cR a1 ((-16) : Int32) (t_registers - (1 : Int32)) H.size _ hw) (cw_MO_104 hts ⟨Nat.le_of_ble_eq_true rfl, Nat.le_of_ble_eq_true rfl⟩) (ky_preS hK hP hD [] rfl (by decide)) rfl rfl hl.1 rfl (lv_room (Nat.le_of_ble_eq_true rfl)) d_MO_isOperand_9 ⟨Nat.le_refl 0, Nat.le_refl 0⟩) (fun r u H locs hw hP hD hS => ?_)
  obtain ⟨r1, rfl⟩ : ∃ z, z = r := ⟨_, rfl⟩
  have hP : va_P D vwCl (wl_MO_isOperand cI cL cR a_t a_t_width a_t_shift a_t_outOp a_t_outA a_t_outB a_t_transfers a_t_to a_t_op a_t_opA a_t_opB a_t_next a_t_gives a_t_state a_t_from a_t_by a_t_depth a_t_number a_t_part a_t_newPart a_t_node a_t_newNode a_t_parent a_t_born a_t_one a_t_pieces a_t_chain a_t_behind a_t_classOf a_t_classState t_thrown t_room t_registers t_bits t_inputs t_first t_isFresh t_isRoom t_walked t_parts t_nodes t_classes) H := hP
  have hD : va_D A (wl_MO_isOperand cI cL cR a_t a_t_width a_t_shift a_t_outOp a_t_outA a_t_outB a_t_transfers a_t_to a_t_op a_t_opA a_t_opB a_t_next a_t_gives a_t_state a_t_from a_t_by a_t_depth a_t_number a_t_part a_t_newPart a_t_node a_t_newNode a_t_parent a_t_born a_t_one a_t_pieces a_t_chain a_t_behind a_t_classOf a_t_classState t_thrown t_room t_registers t_bits t_inputs t_first t_isFresh t_isRoom t_walked t_parts t_nodes t_classes) := hD
  refine W.widen (k := 0) (n := 0) (Nat.le_refl _) (Nat.le_refl _) ?_
  refine W.eq (g2 := F0 m 12 ls [.int r1]) rfl ?_
  obtain ⟨h1, hw⟩ := hw
  exact hret r1 () H locs _ _ 12 ls d_MO_isOperand_12 h1 hP hD hS hw (Nat.le_refl 0) (Nat.le_refl 0)

abbrev wl_MO_isExpression (cI cL cR : ClassId) (a_t : Nat) (a_t_width : Nat) (a_t_shift : Nat) (a_t_outOp : Nat) (a_t_outA : Nat) (a_t_outB : Nat) (a_t_transfers : Nat) (a_t_to : Nat) (a_t_op : Nat) (a_t_opA : Nat) (a_t_opB : Nat) (a_t_next : Nat) (a_t_gives : Nat) (a_t_state : Nat) (a_t_from : Nat) (a_t_by : Nat) (a_t_depth : Nat) (a_t_number : Nat) (a_t_part : Nat) (a_t_newPart : Nat) (a_t_node : Nat) (a_t_newNode : Nat) (a_t_parent : Nat) (a_t_born : Nat) (a_t_one : Nat) (a_t_pieces : Nat) (a_t_chain : Nat) (a_t_behind : Nat) (a_t_classOf : Nat) (a_t_classState : Nat) (t_thrown : Int32) (t_room : Int32) (t_registers : Int32) (t_bits : Int32) (t_inputs : Int32) (t_first : Int32) (t_isFresh : Int32) (t_isRoom : Int32) (t_walked : Int32) (t_parts : Int32) (t_nodes : Int32) (t_classes : Int32) : va_W := [(a_t, .inr (7, [.int t_thrown, .int t_room, .int t_registers, .int t_bits, .int t_inputs, .int t_first, .ref a_t_width, .ref a_t_shift, .ref a_t_outOp, .ref a_t_outA, .ref a_t_outB, .ref a_t_transfers, .ref a_t_to, .ref a_t_op, .ref a_t_opA, .ref a_t_opB, .int t_isFresh, .ref a_t_next, .ref a_t_gives, .int t_isRoom, .int t_walked, .ref a_t_state, .ref a_t_from, .ref a_t_by, .ref a_t_depth, .ref a_t_number, .int t_parts, .int t_nodes, .ref a_t_part, .ref a_t_newPart, .ref a_t_node, .ref a_t_newNode, .ref a_t_parent, .ref a_t_born, .ref a_t_one, .ref a_t_pieces, .ref a_t_chain, .ref a_t_behind, .int t_classes, .ref a_t_classOf, .ref a_t_classState]))]
def wp_MO_isExpression (t_thrown : Int32) (t_room : Int32) (t_registers : Int32) (t_bits : Int32) (t_inputs : Int32) (t_first : Int32) (t_isFresh : Int32) (t_isRoom : Int32) (t_walked : Int32) (t_parts : Int32) (t_nodes : Int32) (t_classes : Int32) (a1 : Int32) (a2 : Int32) (a3 : Int32) (post : Int32 → Prop) : Prop :=
  wp_MO_within a1 (0 : Int32) (9 : Int32) (fun r1 => ((r1 = 0 → post 0) ∧ (¬ r1 = 0 → wp_MO_isOperand t_thrown t_room t_registers t_bits t_inputs t_first t_isFresh t_isRoom t_walked t_parts t_nodes t_classes a2 (fun r2 => ((r2 = 0 → post 0) ∧ (¬ r2 = 0 → wp_MO_isOperand t_thrown t_room t_registers t_bits t_inputs t_first t_isFresh t_isRoom t_walked t_parts t_nodes t_classes a3 (fun r3 => ((r3 = 0 → post 0) ∧ (¬ r3 = 0 → post 1)))))))))
abbrev rm_MO_isExpression : Room := { frames := 3, cells := 0, slots := 0, locals := 57 }
set_option maxHeartbeats 4000000 in
set_option maxRecDepth 100000 in
theorem c_MO_isExpression (l : Launch) (D : va_G) (cI cL cR : ClassId) (a_t a_t_width a_t_shift a_t_outOp a_t_outA a_t_outB a_t_transfers a_t_to a_t_op a_t_opA a_t_opB a_t_next a_t_gives a_t_state a_t_from a_t_by a_t_depth a_t_number a_t_part a_t_newPart a_t_node a_t_newNode a_t_parent a_t_born a_t_one a_t_pieces a_t_chain a_t_behind a_t_classOf a_t_classState : Nat) (t_thrown : Int32) (t_room : Int32) (t_registers : Int32) (t_bits : Int32) (t_inputs : Int32) (t_first : Int32) (t_isFresh : Int32) (t_isRoom : Int32) (t_walked : Int32) (t_parts : Int32) (t_nodes : Int32) (t_classes : Int32) (a1 : Int32) (a2 : Int32) (a3 : Int32) (sz : Nat) (post : Int32 → Prop) (hw : wp_MO_isExpression t_thrown t_room t_registers t_bits t_inputs t_first t_isFresh t_isRoom t_walked t_parts t_nodes t_classes a1 a2 a3 post) : ky_M ky_rI l y_MO_isExpression (.code y_MO_isExpression b_MO_isExpression 4 (some .boolean) :: wsG) rm_MO_isExpression D vwCl (ky_T cI cL cR) (wl_MO_isExpression cI cL cR a_t a_t_width a_t_shift a_t_outOp a_t_outA a_t_outB a_t_transfers a_t_to a_t_op a_t_opA a_t_opB a_t_next a_t_gives a_t_state a_t_from a_t_by a_t_depth a_t_number a_t_part a_t_newPart a_t_node a_t_newNode a_t_parent a_t_born a_t_one a_t_pieces a_t_chain a_t_behind a_t_classOf a_t_classState t_thrown t_room t_registers t_bits t_inputs t_first t_isFresh t_isRoom t_walked t_parts t_nodes t_classes) sz [.ref a_t, .int a1, .int a2, .int a3] (fun r (u : Unit) => post r) (fun u => wl_MO_isExpression cI cL cR a_t a_t_width a_t_shift a_t_outOp a_t_outA a_t_outB a_t_transfers a_t_to a_t_op a_t_opA a_t_opB a_t_next a_t_gives a_t_state a_t_from a_t_by a_t_depth a_t_number a_t_part a_t_newPart a_t_node a_t_newNode a_t_parent a_t_born a_t_one a_t_pieces a_t_chain a_t_behind a_t_classOf a_t_classState t_thrown t_room t_registers t_bits t_inputs t_first t_isFresh t_isRoom t_walked t_parts t_nodes t_classes) := by
  refine ky_ofZ (plainFor_of_name (by decide)) (Nat.le_of_ble_eq_true rfl) ?_
  intro p e s m args below meth c A Q ls hI hret
  obtain ⟨hx, hb, hml, hown, hin, hts, hK, hP, hD, hA, hS, hl⟩ := hI
  have hown : s.vm.findClass R_MO = some m.cls := hown
  have hl : lv_has ls 4 [(0, .ref a_t), (1, .int a1), (2, .int a2), (3, .int a3)] := hl
  obtain ⟨H, locs, eH, eL⟩ : ∃ (H : Heap) (locs : List Loc), H = s.heap ∧ locs = [] := ⟨_, _, rfl, rfl⟩
  rw [← eL] at hS ⊢
  have hS : va_S A s.heap H locs := by rw [eH]; exact hS
  have hP : va_P D vwCl (wl_MO_isExpression cI cL cR a_t a_t_width a_t_shift a_t_outOp a_t_outA a_t_outB a_t_transfers a_t_to a_t_op a_t_opA a_t_opB a_t_next a_t_gives a_t_state a_t_from a_t_by a_t_depth a_t_number a_t_part a_t_newPart a_t_node a_t_newNode a_t_parent a_t_born a_t_one a_t_pieces a_t_chain a_t_behind a_t_classOf a_t_classState t_thrown t_room t_registers t_bits t_inputs t_first t_isFresh t_isRoom t_walked t_parts t_nodes t_classes) H := by rw [eH]; exact hP
  suffices hgo : W p l e rm_MO_isExpression s m args below meth c H locs 0 0 Q (F0 m 0 ls []) by rw [eH] at hgo; exact hgo
  clear eH eL
  unfold wp_MO_isExpression at hw
  refine lv_iload_n hx hb d_MO_isExpression_0 rfl (lv_at hl 1 rfl) ?_
  refine lv_iconst (v := 0) hx hb d_MO_isExpression_1 (by decide) ?_
  refine lv_bipush (v := 9) hx hb d_MO_isExpression_2 (by decide) ?_
  refine ky_call (wr := [(a_t, .inr (7, [.int t_thrown, .int t_room, .int t_registers, .int t_bits, .int t_inputs, .int t_first, .ref a_t_width, .ref a_t_shift, .ref a_t_outOp, .ref a_t_outA, .ref a_t_outB, .ref a_t_transfers, .ref a_t_to, .ref a_t_op, .ref a_t_opA, .ref a_t_opB, .int t_isFresh, .ref a_t_next, .ref a_t_gives, .int t_isRoom, .int t_walked, .ref a_t_state, .ref a_t_from, .ref a_t_by, .ref a_t_depth, .ref a_t_number, .int t_parts, .int t_nodes, .ref a_t_part, .ref a_t_newPart, .ref a_t_node, .ref a_t_newNode, .ref a_t_parent, .ref a_t_born, .ref a_t_one, .ref a_t_pieces, .ref a_t_chain, .ref a_t_behind, .int t_classes, .ref a_t_classOf, .ref a_t_classState]))]) hP hD hS hA [] [0] rfl rfl (by decide) (by decide) (va_runS (As := [.int a1, .int 0, .int 9]) (rest := []) ⟨hx, hb, hml, hown, hts⟩ (c_MO_within l D cI cL cR a1 (0 : Int32) (9 : Int32) H.size _ hw) (cw_MO_104 hts ⟨Nat.le_of_ble_eq_true rfl, Nat.le_of_ble_eq_true rfl⟩) (ky_preS hK hP hD [] rfl (by decide)) rfl rfl hl.1 rfl (lv_room (Nat.le_of_ble_eq_true rfl)) d_MO_isExpression_4 ⟨Nat.le_refl 0, Nat.le_refl 0⟩) (fun r u H locs hw hP hD hS => ?_)
  obtain ⟨r1, rfl⟩ : ∃ z, z = r := ⟨_, rfl⟩
  have hP : va_P D vwCl (wl_MO_isExpression cI cL cR a_t a_t_width a_t_shift a_t_outOp a_t_outA a_t_outB a_t_transfers a_t_to a_t_op a_t_opA a_t_opB a_t_next a_t_gives a_t_state a_t_from a_t_by a_t_depth a_t_number a_t_part a_t_newPart a_t_node a_t_newNode a_t_parent a_t_born a_t_one a_t_pieces a_t_chain a_t_behind a_t_classOf a_t_classState t_thrown t_room t_registers t_bits t_inputs t_first t_isFresh t_isRoom t_walked t_parts t_nodes t_classes) H := hP
  have hD : va_D A (wl_MO_isExpression cI cL cR a_t a_t_width a_t_shift a_t_outOp a_t_outA a_t_outB a_t_transfers a_t_to a_t_op a_t_opA a_t_opB a_t_next a_t_gives a_t_state a_t_from a_t_by a_t_depth a_t_number a_t_part a_t_newPart a_t_node a_t_newNode a_t_parent a_t_born a_t_one a_t_pieces a_t_chain a_t_behind a_t_classOf a_t_classState t_thrown t_room t_registers t_bits t_inputs t_first t_isFresh t_isRoom t_walked t_parts t_nodes t_classes) := hD
  refine W.widen (k := 0) (n := 0) (Nat.le_refl _) (Nat.le_refl _) ?_
  refine W.eq (g2 := F0 m 7 ls [.int r1]) rfl ?_
  refine lv_if_eq (tgt := 30) hx hb d_MO_isExpression_7 (by decide) (fun hc => ?_) (fun hc => ?_)
  · have hw := hw.1 hc
    refine lv_iconst (v := 0) hx hb d_MO_isExpression_30 (by decide) ?_
    exact hret 0 () H locs _ _ 31 ls d_MO_isExpression_31 rfl hP hD hS hw (Nat.le_refl 0) (Nat.le_refl 0)
  · have hw := hw.2 hc
    refine lv_aload_n hx hb d_MO_isExpression_10 rfl (lv_at hl 0 rfl) ?_
    refine lv_iload_n hx hb d_MO_isExpression_11 rfl (lv_at hl 2 rfl) ?_
    refine ky_call (wr := []) hP hD hS hA [0] [] rfl rfl (by decide) (by decide) (va_runV (As := [.int a2]) (rest := []) ⟨hx, hb, hml, hown, hts⟩ (c_MO_isOperand l D cI cL cR a_t a_t_width a_t_shift a_t_outOp a_t_outA a_t_outB a_t_transfers a_t_to a_t_op a_t_opA a_t_opB a_t_next a_t_gives a_t_state a_t_from a_t_by a_t_depth a_t_number a_t_part a_t_newPart a_t_node a_t_newNode a_t_parent a_t_born a_t_one a_t_pieces a_t_chain a_t_behind a_t_classOf a_t_classState t_thrown t_room t_registers t_bits t_inputs t_first t_isFresh t_isRoom t_walked t_parts t_nodes t_classes a2 H.size _ hw) (cw_MO_125 hts ⟨Nat.le_of_ble_eq_true rfl, Nat.le_of_ble_eq_true rfl⟩) (ky_preV hK hP hD [0] rfl (by decide) rfl rfl) rfl rfl hl.1 rfl (lv_room (Nat.le_of_ble_eq_true rfl)) d_MO_isExpression_12 ⟨Nat.le_refl 0, Nat.le_refl 0⟩) (fun r u H locs hw hP hD hS => ?_)
    obtain ⟨r2, rfl⟩ : ∃ z, z = r := ⟨_, rfl⟩
    have hP : va_P D vwCl (wl_MO_isExpression cI cL cR a_t a_t_width a_t_shift a_t_outOp a_t_outA a_t_outB a_t_transfers a_t_to a_t_op a_t_opA a_t_opB a_t_next a_t_gives a_t_state a_t_from a_t_by a_t_depth a_t_number a_t_part a_t_newPart a_t_node a_t_newNode a_t_parent a_t_born a_t_one a_t_pieces a_t_chain a_t_behind a_t_classOf a_t_classState t_thrown t_room t_registers t_bits t_inputs t_first t_isFresh t_isRoom t_walked t_parts t_nodes t_classes) H := hP
    have hD : va_D A (wl_MO_isExpression cI cL cR a_t a_t_width a_t_shift a_t_outOp a_t_outA a_t_outB a_t_transfers a_t_to a_t_op a_t_opA a_t_opB a_t_next a_t_gives a_t_state a_t_from a_t_by a_t_depth a_t_number a_t_part a_t_newPart a_t_node a_t_newNode a_t_parent a_t_born a_t_one a_t_pieces a_t_chain a_t_behind a_t_classOf a_t_classState t_thrown t_room t_registers t_bits t_inputs t_first t_isFresh t_isRoom t_walked t_parts t_nodes t_classes) := hD
    refine W.widen (k := 0) (n := 0) (Nat.le_refl _) (Nat.le_refl _) ?_
    refine W.eq (g2 := F0 m 15 ls [.int r2]) rfl ?_
    refine lv_if_eq (tgt := 30) hx hb d_MO_isExpression_15 (by decide) (fun hc => ?_) (fun hc => ?_)
    · have hw := hw.1 hc
      refine lv_iconst (v := 0) hx hb d_MO_isExpression_30 (by decide) ?_
      exact hret 0 () H locs _ _ 31 ls d_MO_isExpression_31 rfl hP hD hS hw (Nat.le_refl 0) (Nat.le_refl 0)
    · have hw := hw.2 hc
      refine lv_aload_n hx hb d_MO_isExpression_18 rfl (lv_at hl 0 rfl) ?_
      refine lv_iload_n hx hb d_MO_isExpression_19 rfl (lv_at hl 3 rfl) ?_
      refine ky_call (wr := []) hP hD hS hA [0] [] rfl rfl (by decide) (by decide) (va_runV (As := [.int a3]) (rest := []) ⟨hx, hb, hml, hown, hts⟩ (c_MO_isOperand l D cI cL cR a_t a_t_width a_t_shift a_t_outOp a_t_outA a_t_outB a_t_transfers a_t_to a_t_op a_t_opA a_t_opB a_t_next a_t_gives a_t_state a_t_from a_t_by a_t_depth a_t_number a_t_part a_t_newPart a_t_node a_t_newNode a_t_parent a_t_born a_t_one a_t_pieces a_t_chain a_t_behind a_t_classOf a_t_classState t_thrown t_room t_registers t_bits t_inputs t_first t_isFresh t_isRoom t_walked t_parts t_nodes t_classes a3 H.size _ hw) (cw_MO_125 hts ⟨Nat.le_of_ble_eq_true rfl, Nat.le_of_ble_eq_true rfl⟩) (ky_preV hK hP hD [0] rfl (by decide) rfl rfl) rfl rfl hl.1 rfl (lv_room (Nat.le_of_ble_eq_true rfl)) d_MO_isExpression_20 ⟨Nat.le_refl 0, Nat.le_refl 0⟩) (fun r u H locs hw hP hD hS => ?_)
      obtain ⟨r3, rfl⟩ : ∃ z, z = r := ⟨_, rfl⟩
      have hP : va_P D vwCl (wl_MO_isExpression cI cL cR a_t a_t_width a_t_shift a_t_outOp a_t_outA a_t_outB a_t_transfers a_t_to a_t_op a_t_opA a_t_opB a_t_next a_t_gives a_t_state a_t_from a_t_by a_t_depth a_t_number a_t_part a_t_newPart a_t_node a_t_newNode a_t_parent a_t_born a_t_one a_t_pieces a_t_chain a_t_behind a_t_classOf a_t_classState t_thrown t_room t_registers t_bits t_inputs t_first t_isFresh t_isRoom t_walked t_parts t_nodes t_classes) H := hP
      have hD : va_D A (wl_MO_isExpression cI cL cR a_t a_t_width a_t_shift a_t_outOp a_t_outA a_t_outB a_t_transfers a_t_to a_t_op a_t_opA a_t_opB a_t_next a_t_gives a_t_state a_t_from a_t_by a_t_depth a_t_number a_t_part a_t_newPart a_t_node a_t_newNode a_t_parent a_t_born a_t_one a_t_pieces a_t_chain a_t_behind a_t_classOf a_t_classState t_thrown t_room t_registers t_bits t_inputs t_first t_isFresh t_isRoom t_walked t_parts t_nodes t_classes) := hD
      refine W.widen (k := 0) (n := 0) (Nat.le_refl _) (Nat.le_refl _) ?_
      refine W.eq (g2 := F0 m 23 ls [.int r3]) rfl ?_
      refine lv_if_eq (tgt := 30) hx hb d_MO_isExpression_23 (by decide) (fun hc => ?_) (fun hc => ?_)
      · have hw := hw.1 hc
        refine lv_iconst (v := 0) hx hb d_MO_isExpression_30 (by decide) ?_
        exact hret 0 () H locs _ _ 31 ls d_MO_isExpression_31 rfl hP hD hS hw (Nat.le_refl 0) (Nat.le_refl 0)
      · have hw := hw.2 hc
        refine lv_iconst (v := 1) hx hb d_MO_isExpression_26 (by decide) ?_
        refine lv_goto (tgt := 31) hx hb d_MO_isExpression_27 (by decide) ?_
        exact hret 1 () H locs _ _ 31 ls d_MO_isExpression_31 rfl hP hD hS hw (Nat.le_refl 0) (Nat.le_refl 0)

abbrev wl_MO_input (cI cL cR : ClassId) (a_t : Nat) (a_t_width : Nat) (a_t_shift : Nat) (a_t_outOp : Nat) (a_t_outA : Nat) (a_t_outB : Nat) (a_t_transfers : Nat) (a_t_to : Nat) (a_t_op : Nat) (a_t_opA : Nat) (a_t_opB : Nat) (a_t_next : Nat) (a_t_gives : Nat) (a_t_state : Nat) (a_t_from : Nat) (a_t_by : Nat) (a_t_depth : Nat) (a_t_number : Nat) (a_t_part : Nat) (a_t_newPart : Nat) (a_t_node : Nat) (a_t_newNode : Nat) (a_t_parent : Nat) (a_t_born : Nat) (a_t_one : Nat) (a_t_pieces : Nat) (a_t_chain : Nat) (a_t_behind : Nat) (a_t_classOf : Nat) (a_t_classState : Nat) (t_thrown : Int32) (t_room : Int32) (t_registers : Int32) (t_bits : Int32) (t_inputs : Int32) (t_first : Int32) (t_isFresh : Int32) (t_isRoom : Int32) (t_walked : Int32) (t_parts : Int32) (t_nodes : Int32) (t_classes : Int32) (n_t_outOp : Nat) (f_t_outOp : Nat → Int32) (n_t_outA : Nat) (f_t_outA : Nat → Int32) (n_t_outB : Nat) (f_t_outB : Nat → Int32) : va_W := [(a_t, .inr (7, [.int t_thrown, .int t_room, .int t_registers, .int t_bits, .int t_inputs, .int t_first, .ref a_t_width, .ref a_t_shift, .ref a_t_outOp, .ref a_t_outA, .ref a_t_outB, .ref a_t_transfers, .ref a_t_to, .ref a_t_op, .ref a_t_opA, .ref a_t_opB, .int t_isFresh, .ref a_t_next, .ref a_t_gives, .int t_isRoom, .int t_walked, .ref a_t_state, .ref a_t_from, .ref a_t_by, .ref a_t_depth, .ref a_t_number, .int t_parts, .int t_nodes, .ref a_t_part, .ref a_t_newPart, .ref a_t_node, .ref a_t_newNode, .ref a_t_parent, .ref a_t_born, .ref a_t_one, .ref a_t_pieces, .ref a_t_chain, .ref a_t_behind, .int t_classes, .ref a_t_classOf, .ref a_t_classState])), (a_t_outOp, .inl (cI, n_t_outOp, .inl f_t_outOp)), (a_t_outA, .inl (cI, n_t_outA, .inl f_t_outA)), (a_t_outB, .inl (cI, n_t_outB, .inl f_t_outB))]
def wp_MO_input (t_thrown : Int32) (t_room : Int32) (t_registers : Int32) (t_bits : Int32) (t_inputs : Int32) (t_first : Int32) (t_isFresh : Int32) (t_isRoom : Int32) (t_walked : Int32) (t_parts : Int32) (t_nodes : Int32) (t_classes : Int32) (n_t_outOp : Nat) (f_t_outOp : Nat → Int32) (n_t_outA : Nat) (f_t_outA : Nat → Int32) (n_t_outB : Nat) (f_t_outB : Nat → Int32) (a1 : Int32) (a2 : Int32) (a3 : Int32) (post : Int32 → Int32 → Int32 → Int32 → (Nat → Int32) → (Nat → Int32) → (Nat → Int32) → Prop) : Prop :=
  wp_MO_isExpression 0 t_room t_registers t_bits t_inputs t_first t_isFresh t_isRoom t_walked t_parts t_nodes t_classes a1 a2 a3 (fun r1 => ((¬ r1 = 0 → ((¬ t_inputs = 4 → (vp_in t_inputs n_t_outOp ∧ (∀ f2 : Nat → Int32, f2 = (upd f_t_outOp t_inputs.toNatClampNeg a1) → (vp_in t_inputs n_t_outA ∧ (∀ f3 : Nat → Int32, f3 = (upd f_t_outA t_inputs.toNatClampNeg a2) → (vp_in t_inputs n_t_outB ∧ (∀ f4 : Nat → Int32, f4 = (upd f_t_outB t_inputs.toNatClampNeg a3) → (∀ y5 : Int32, y5 = (t_inputs + (1 : Int32)) → post (y5 - (1 : Int32)) 0 y5 0 f2 f3 f4)))))))) ∧ (t_inputs = 4 → wp_MO_fail 0 t_room t_registers t_bits t_inputs t_first t_isFresh t_isRoom t_walked t_parts t_nodes t_classes (2 : Int32) (fun r6 m_thrown_6 => post r6 m_thrown_6 t_inputs t_isFresh f_t_outOp f_t_outA f_t_outB)))) ∧ (r1 = 0 → wp_MO_fail 0 t_room t_registers t_bits t_inputs t_first t_isFresh t_isRoom t_walked t_parts t_nodes t_classes (1 : Int32) (fun r7 m_thrown_7 => post r7 m_thrown_7 t_inputs t_isFresh f_t_outOp f_t_outA f_t_outB))))
abbrev rm_MO_input : Room := { frames := 4, cells := 0, slots := 0, locals := 81 }
set_option maxHeartbeats 4000000 in
set_option maxRecDepth 100000 in
theorem c_MO_input (l : Launch) (D : va_G) (cI cL cR : ClassId) (a_t a_t_width a_t_shift a_t_outOp a_t_outA a_t_outB a_t_transfers a_t_to a_t_op a_t_opA a_t_opB a_t_next a_t_gives a_t_state a_t_from a_t_by a_t_depth a_t_number a_t_part a_t_newPart a_t_node a_t_newNode a_t_parent a_t_born a_t_one a_t_pieces a_t_chain a_t_behind a_t_classOf a_t_classState : Nat) (t_thrown : Int32) (t_room : Int32) (t_registers : Int32) (t_bits : Int32) (t_inputs : Int32) (t_first : Int32) (t_isFresh : Int32) (t_isRoom : Int32) (t_walked : Int32) (t_parts : Int32) (t_nodes : Int32) (t_classes : Int32) (n_t_outOp : Nat) (f_t_outOp : Nat → Int32) (n_t_outA : Nat) (f_t_outA : Nat → Int32) (n_t_outB : Nat) (f_t_outB : Nat → Int32) (a1 : Int32) (a2 : Int32) (a3 : Int32) (sz : Nat) (post : Int32 → Int32 → Int32 → Int32 → (Nat → Int32) → (Nat → Int32) → (Nat → Int32) → Prop) (hw : wp_MO_input t_thrown t_room t_registers t_bits t_inputs t_first t_isFresh t_isRoom t_walked t_parts t_nodes t_classes n_t_outOp f_t_outOp n_t_outA f_t_outA n_t_outB f_t_outB a1 a2 a3 post) : ky_M ky_rI l y_MO_input (.code y_MO_input b_MO_input 4 (some .int) :: wsG) rm_MO_input D vwCl (ky_T cI cL cR) (wl_MO_input cI cL cR a_t a_t_width a_t_shift a_t_outOp a_t_outA a_t_outB a_t_transfers a_t_to a_t_op a_t_opA a_t_opB a_t_next a_t_gives a_t_state a_t_from a_t_by a_t_depth a_t_number a_t_part a_t_newPart a_t_node a_t_newNode a_t_parent a_t_born a_t_one a_t_pieces a_t_chain a_t_behind a_t_classOf a_t_classState t_thrown t_room t_registers t_bits t_inputs t_first t_isFresh t_isRoom t_walked t_parts t_nodes t_classes n_t_outOp f_t_outOp n_t_outA f_t_outA n_t_outB f_t_outB) sz [.ref a_t, .int a1, .int a2, .int a3] (fun r (u : Int32 × Int32 × Int32 × (Nat → Int32) × (Nat → Int32) × (Nat → Int32)) => post r u.1 u.2.1 u.2.2.1 u.2.2.2.1 u.2.2.2.2.1 u.2.2.2.2.2) (fun u => wl_MO_input cI cL cR a_t a_t_width a_t_shift a_t_outOp a_t_outA a_t_outB a_t_transfers a_t_to a_t_op a_t_opA a_t_opB a_t_next a_t_gives a_t_state a_t_from a_t_by a_t_depth a_t_number a_t_part a_t_newPart a_t_node a_t_newNode a_t_parent a_t_born a_t_one a_t_pieces a_t_chain a_t_behind a_t_classOf a_t_classState u.1 t_room t_registers t_bits u.2.1 t_first u.2.2.1 t_isRoom t_walked t_parts t_nodes t_classes n_t_outOp u.2.2.2.1 n_t_outA u.2.2.2.2.1 n_t_outB u.2.2.2.2.2) := by
  refine ky_ofI (plainFor_of_name (by decide)) (Nat.le_of_ble_eq_true rfl) ?_
  intro p e s m args below meth c A Q ls hI hret
  obtain ⟨hx, hb, hml, hown, hin, hts, hK, hP, hD, hA, hS, hl⟩ := hI
  have hown : s.vm.findClass R_MO = some m.cls := hown
  have hl : lv_has ls 4 [(0, .ref a_t), (1, .int a1), (2, .int a2), (3, .int a3)] := hl
  obtain ⟨H, locs, eH, eL⟩ : ∃ (H : Heap) (locs : List Loc), H = s.heap ∧ locs = [] := ⟨_, _, rfl, rfl⟩
  rw [← eL] at hS ⊢
  have hS : va_S A s.heap H locs := by rw [eH]; exact hS
  have hP : va_P D vwCl (wl_MO_input cI cL cR a_t a_t_width a_t_shift a_t_outOp a_t_outA a_t_outB a_t_transfers a_t_to a_t_op a_t_opA a_t_opB a_t_next a_t_gives a_t_state a_t_from a_t_by a_t_depth a_t_number a_t_part a_t_newPart a_t_node a_t_newNode a_t_parent a_t_born a_t_one a_t_pieces a_t_chain a_t_behind a_t_classOf a_t_classState t_thrown t_room t_registers t_bits t_inputs t_first t_isFresh t_isRoom t_walked t_parts t_nodes t_classes n_t_outOp f_t_outOp n_t_outA f_t_outA n_t_outB f_t_outB) H := by rw [eH]; exact hP
  suffices hgo : W p l e rm_MO_input s m args below meth c H locs 0 0 Q (F0 m 0 ls []) by rw [eH] at hgo; exact hgo
  clear eH eL
  unfold wp_MO_input at hw
  refine lv_aload_n hx hb d_MO_input_0 rfl (lv_at hl 0 rfl) ?_
  refine lv_iconst (v := 0) hx hb d_MO_input_1 (by decide) ?_
  refine pf_MO_101 (v := .int 0) hx hb hts hown hK hP hD hS 0 rfl rfl rfl (Nat.le_of_ble_eq_true rfl) d_MO_input_2 (fun H locs hP hD hS => ?_)
  have hP : va_P D vwCl (wl_MO_input cI cL cR a_t a_t_width a_t_shift a_t_outOp a_t_outA a_t_outB a_t_transfers a_t_to a_t_op a_t_opA a_t_opB a_t_next a_t_gives a_t_state a_t_from a_t_by a_t_depth a_t_number a_t_part a_t_newPart a_t_node a_t_newNode a_t_parent a_t_born a_t_one a_t_pieces a_t_chain a_t_behind a_t_classOf a_t_classState 0 t_room t_registers t_bits t_inputs t_first t_isFresh t_isRoom t_walked t_parts t_nodes t_classes n_t_outOp f_t_outOp n_t_outA f_t_outA n_t_outB f_t_outB) H := hP
  have hD : va_D A (wl_MO_input cI cL cR a_t a_t_width a_t_shift a_t_outOp a_t_outA a_t_outB a_t_transfers a_t_to a_t_op a_t_opA a_t_opB a_t_next a_t_gives a_t_state a_t_from a_t_by a_t_depth a_t_number a_t_part a_t_newPart a_t_node a_t_newNode a_t_parent a_t_born a_t_one a_t_pieces a_t_chain a_t_behind a_t_classOf a_t_classState 0 t_room t_registers t_bits t_inputs t_first t_isFresh t_isRoom t_walked t_parts t_nodes t_classes n_t_outOp f_t_outOp n_t_outA f_t_outA n_t_outB f_t_outB) := hD
  refine lv_aload_n hx hb d_MO_input_5 rfl (lv_at hl 0 rfl) ?_
  refine lv_iload_n hx hb d_MO_input_6 rfl (lv_at hl 1 rfl) ?_
  refine lv_iload_n hx hb d_MO_input_7 rfl (lv_at hl 2 rfl) ?_
  refine lv_iload_n hx hb d_MO_input_8 rfl (lv_at hl 3 rfl) ?_
  refine ky_call (wr := [(a_t_outOp, .inl (cI, n_t_outOp, .inl f_t_outOp)), (a_t_outA, .inl (cI, n_t_outA, .inl f_t_outA)), (a_t_outB, .inl (cI, n_t_outB, .inl f_t_outB))]) hP hD hS hA [0] [1, 2, 3] rfl rfl (by decide) (by decide) (va_runV (As := [.int a1, .int a2, .int a3]) (rest := []) ⟨hx, hb, hml, hown, hts⟩ (c_MO_isExpression l D cI cL cR a_t a_t_width a_t_shift a_t_outOp a_t_outA a_t_outB a_t_transfers a_t_to a_t_op a_t_opA a_t_opB a_t_next a_t_gives a_t_state a_t_from a_t_by a_t_depth a_t_number a_t_part a_t_newPart a_t_node a_t_newNode a_t_parent a_t_born a_t_one a_t_pieces a_t_chain a_t_behind a_t_classOf a_t_classState 0 t_room t_registers t_bits t_inputs t_first t_isFresh t_isRoom t_walked t_parts t_nodes t_classes a1 a2 a3 H.size _ hw) (cw_MO_129 hts ⟨Nat.le_of_ble_eq_true rfl, Nat.le_of_ble_eq_true rfl⟩) (ky_preV hK hP hD [0] rfl (by decide) rfl rfl) rfl rfl hl.1 rfl (lv_room (Nat.le_of_ble_eq_true rfl)) d_MO_input_9 ⟨Nat.le_refl 0, Nat.le_refl 0⟩) (fun r u H locs hw hP hD hS => ?_)
  obtain ⟨r1, rfl⟩ : ∃ z, z = r := ⟨_, rfl⟩
  have hP : va_P D vwCl (wl_MO_input cI cL cR a_t a_t_width a_t_shift a_t_outOp a_t_outA a_t_outB a_t_transfers a_t_to a_t_op a_t_opA a_t_opB a_t_next a_t_gives a_t_state a_t_from a_t_by a_t_depth a_t_number a_t_part a_t_newPart a_t_node a_t_newNode a_t_parent a_t_born a_t_one a_t_pieces a_t_chain a_t_behind a_t_classOf a_t_classState 0 t_room t_registers t_bits t_inputs t_first t_isFresh t_isRoom t_walked t_parts t_nodes t_classes n_t_outOp f_t_outOp n_t_outA f_t_outA n_t_outB f_t_outB) H := hP.sub [3, 0, 1, 2] rfl
  have hD : va_D A (wl_MO_input cI cL cR a_t a_t_width a_t_shift a_t_outOp a_t_outA a_t_outB a_t_transfers a_t_to a_t_op a_t_opA a_t_opB a_t_next a_t_gives a_t_state a_t_from a_t_by a_t_depth a_t_number a_t_part a_t_newPart a_t_node a_t_newNode a_t_parent a_t_born a_t_one a_t_pieces a_t_chain a_t_behind a_t_classOf a_t_classState 0 t_room t_registers t_bits t_inputs t_first t_isFresh t_isRoom t_walked t_parts t_nodes t_classes n_t_outOp f_t_outOp n_t_outA f_t_outA n_t_outB f_t_outB) := hD.sub [3, 0, 1, 2] (by decide) rfl
  refine W.widen (k := 0) (n := 0) (Nat.le_refl _) (Nat.le_refl _) ?_
  refine W.eq (g2 := F0 m 12 ls [.int r1]) rfl ?_
  refine lv_if_ne (tgt := 21) hx hb d_MO_input_12 (by decide) (fun hc => ?_) (fun hc => ?_)
  · have hw := hw.1 hc
    refine lv_aload_n hx hb d_MO_input_21 rfl (lv_at hl 0 rfl) ?_
    refine gf_MO_112 hx hb hts hown hK hP 0 rfl rfl d_MO_input_22 ?_
    refine lv_iconst (v := 4) hx hb d_MO_input_25 (by decide) ?_
    refine lv_icmp_ne (tgt := 35) hx hb d_MO_input_26 (by decide) (fun hc => ?_) (fun hc => ?_)
    · have hw := hw.1 hc
      refine lv_aload_n hx hb d_MO_input_35 rfl (lv_at hl 0 rfl) ?_
      refine gf_MO_16 hx hb hts hown hK hP 0 rfl rfl d_MO_input_36 ?_
      refine lv_aload_n hx hb d_MO_input_39 rfl (lv_at hl 0 rfl) ?_
      refine gf_MO_112 hx hb hts hown hK hP 0 rfl rfl d_MO_input_40 ?_
      refine lv_iload_n hx hb d_MO_input_43 rfl (lv_at hl 1 rfl) ?_
      obtain ⟨h1, hw⟩ := hw
      refine va_iast hx hb hK hP hD hS 1 0 rfl rfl h1 d_MO_input_44 (fun H locs hP hD hS => ?_)
      have hP : va_P D vwCl (wl_MO_input cI cL cR a_t a_t_width a_t_shift a_t_outOp a_t_outA a_t_outB a_t_transfers a_t_to a_t_op a_t_opA a_t_opB a_t_next a_t_gives a_t_state a_t_from a_t_by a_t_depth a_t_number a_t_part a_t_newPart a_t_node a_t_newNode a_t_parent a_t_born a_t_one a_t_pieces a_t_chain a_t_behind a_t_classOf a_t_classState 0 t_room t_registers t_bits t_inputs t_first t_isFresh t_isRoom t_walked t_parts t_nodes t_classes n_t_outOp (upd f_t_outOp t_inputs.toNatClampNeg a1) n_t_outA f_t_outA n_t_outB f_t_outB) H := hP
      have hD : va_D A (wl_MO_input cI cL cR a_t a_t_width a_t_shift a_t_outOp a_t_outA a_t_outB a_t_transfers a_t_to a_t_op a_t_opA a_t_opB a_t_next a_t_gives a_t_state a_t_from a_t_by a_t_depth a_t_number a_t_part a_t_newPart a_t_node a_t_newNode a_t_parent a_t_born a_t_one a_t_pieces a_t_chain a_t_behind a_t_classOf a_t_classState 0 t_room t_registers t_bits t_inputs t_first t_isFresh t_isRoom t_walked t_parts t_nodes t_classes n_t_outOp (upd f_t_outOp t_inputs.toNatClampNeg a1) n_t_outA f_t_outA n_t_outB f_t_outB) := hD
      generalize ef2 : (upd f_t_outOp t_inputs.toNatClampNeg a1) = f2 at hP hD
      have hw := hw f2 ef2.symm
      refine lv_aload_n hx hb d_MO_input_45 rfl (lv_at hl 0 rfl) ?_
      refine gf_MO_19 hx hb hts hown hK hP 0 rfl rfl d_MO_input_46 ?_
      refine lv_aload_n hx hb d_MO_input_49 rfl (lv_at hl 0 rfl) ?_
      refine gf_MO_112 hx hb hts hown hK hP 0 rfl rfl d_MO_input_50 ?_
      refine lv_iload_n hx hb d_MO_input_53 rfl (lv_at hl 2 rfl) ?_
      obtain ⟨h1, hw⟩ := hw
      refine va_iast hx hb hK hP hD hS 2 0 rfl rfl h1 d_MO_input_54 (fun H locs hP hD hS => ?_)
      have hP : va_P D vwCl (wl_MO_input cI cL cR a_t a_t_width a_t_shift a_t_outOp a_t_outA a_t_outB a_t_transfers a_t_to a_t_op a_t_opA a_t_opB a_t_next a_t_gives a_t_state a_t_from a_t_by a_t_depth a_t_number a_t_part a_t_newPart a_t_node a_t_newNode a_t_parent a_t_born a_t_one a_t_pieces a_t_chain a_t_behind a_t_classOf a_t_classState 0 t_room t_registers t_bits t_inputs t_first t_isFresh t_isRoom t_walked t_parts t_nodes t_classes n_t_outOp f2 n_t_outA (upd f_t_outA t_inputs.toNatClampNeg a2) n_t_outB f_t_outB) H := hP
      have hD : va_D A (wl_MO_input cI cL cR a_t a_t_width a_t_shift a_t_outOp a_t_outA a_t_outB a_t_transfers a_t_to a_t_op a_t_opA a_t_opB a_t_next a_t_gives a_t_state a_t_from a_t_by a_t_depth a_t_number a_t_part a_t_newPart a_t_node a_t_newNode a_t_parent a_t_born a_t_one a_t_pieces a_t_chain a_t_behind a_t_classOf a_t_classState 0 t_room t_registers t_bits t_inputs t_first t_isFresh t_isRoom t_walked t_parts t_nodes t_classes n_t_outOp f2 n_t_outA (upd f_t_outA t_inputs.toNatClampNeg a2) n_t_outB f_t_outB) := hD
      generalize ef3 : (upd f_t_outA t_inputs.toNatClampNeg a2) = f3 at hP hD
      have hw := hw f3 ef3.symm
      refine lv_aload_n hx hb d_MO_input_55 rfl (lv_at hl 0 rfl) ?_
      refine gf_MO_22 hx hb hts hown hK hP 0 rfl rfl d_MO_input_56 ?_
      refine lv_aload_n hx hb d_MO_input_59 rfl (lv_at hl 0 rfl) ?_
      refine gf_MO_112 hx hb hts hown hK hP 0 rfl rfl d_MO_input_60 ?_
      refine lv_iload_n hx hb d_MO_input_63 rfl (lv_at hl 3 rfl) ?_
      obtain ⟨h1, hw⟩ := hw
      refine va_iast hx hb hK hP hD hS 3 0 rfl rfl h1 d_MO_input_64 (fun H locs hP hD hS => ?_)
      have hP : va_P D vwCl (wl_MO_input cI cL cR a_t a_t_width a_t_shift a_t_outOp a_t_outA a_t_outB a_t_transfers a_t_to a_t_op a_t_opA a_t_opB a_t_next a_t_gives a_t_state a_t_from a_t_by a_t_depth a_t_number a_t_part a_t_newPart a_t_node a_t_newNode a_t_parent a_t_born a_t_one a_t_pieces a_t_chain a_t_behind a_t_classOf a_t_classState 0 t_room t_registers t_bits t_inputs t_first t_isFresh t_isRoom t_walked t_parts t_nodes t_classes n_t_outOp f2 n_t_outA f3 n_t_outB (upd f_t_outB t_inputs.toNatClampNeg a3)) H := hP
      have hD : va_D A (wl_MO_input cI cL cR a_t a_t_width a_t_shift a_t_outOp a_t_outA a_t_outB a_t_transfers a_t_to a_t_op a_t_opA a_t_opB a_t_next a_t_gives a_t_state a_t_from a_t_by a_t_depth a_t_number a_t_part a_t_newPart a_t_node a_t_newNode a_t_parent a_t_born a_t_one a_t_pieces a_t_chain a_t_behind a_t_classOf a_t_classState 0 t_room t_registers t_bits t_inputs t_first t_isFresh t_isRoom t_walked t_parts t_nodes t_classes n_t_outOp f2 n_t_outA f3 n_t_outB (upd f_t_outB t_inputs.toNatClampNeg a3)) := hD
      generalize ef4 : (upd f_t_outB t_inputs.toNatClampNeg a3) = f4 at hP hD
      have hw := hw f4 ef4.symm
      refine lv_aload_n hx hb d_MO_input_65 rfl (lv_at hl 0 rfl) ?_
      refine lv_dup hx hb d_MO_input_66 rfl ?_
      refine gf_MO_112 hx hb hts hown hK hP 0 rfl rfl d_MO_input_67 ?_
      refine lv_iconst (v := 1) hx hb d_MO_input_70 (by decide) ?_
      refine lv_iadd hx hb d_MO_input_71 ?_
      refine lv_topi (fun y5 ey5 => ?_)
      have hw := hw y5 ey5
      refine pf_MO_112 (v := .int y5) hx hb hts hown hK hP hD hS 0 rfl rfl rfl (Nat.le_of_ble_eq_true rfl) d_MO_input_72 (fun H locs hP hD hS => ?_)
      have hP : va_P D vwCl (wl_MO_input cI cL cR a_t a_t_width a_t_shift a_t_outOp a_t_outA a_t_outB a_t_transfers a_t_to a_t_op a_t_opA a_t_opB a_t_next a_t_gives a_t_state a_t_from a_t_by a_t_depth a_t_number a_t_part a_t_newPart a_t_node a_t_newNode a_t_parent a_t_born a_t_one a_t_pieces a_t_chain a_t_behind a_t_classOf a_t_classState 0 t_room t_registers t_bits y5 t_first t_isFresh t_isRoom t_walked t_parts t_nodes t_classes n_t_outOp f2 n_t_outA f3 n_t_outB f4) H := hP
      have hD : va_D A (wl_MO_input cI cL cR a_t a_t_width a_t_shift a_t_outOp a_t_outA a_t_outB a_t_transfers a_t_to a_t_op a_t_opA a_t_opB a_t_next a_t_gives a_t_state a_t_from a_t_by a_t_depth a_t_number a_t_part a_t_newPart a_t_node a_t_newNode a_t_parent a_t_born a_t_one a_t_pieces a_t_chain a_t_behind a_t_classOf a_t_classState 0 t_room t_registers t_bits y5 t_first t_isFresh t_isRoom t_walked t_parts t_nodes t_classes n_t_outOp f2 n_t_outA f3 n_t_outB f4) := hD
      refine lv_aload_n hx hb d_MO_input_75 rfl (lv_at hl 0 rfl) ?_
      refine lv_iconst (v := 0) hx hb d_MO_input_76 (by decide) ?_
      refine pf_MO_121 (v := .int 0) hx hb hts hown hK hP hD hS 0 rfl (by decide +kernel) (by decide +kernel) (Nat.le_of_ble_eq_true rfl) d_MO_input_77 (fun H locs hP hD hS => ?_)
      have hP : va_P D vwCl (wl_MO_input cI cL cR a_t a_t_width a_t_shift a_t_outOp a_t_outA a_t_outB a_t_transfers a_t_to a_t_op a_t_opA a_t_opB a_t_next a_t_gives a_t_state a_t_from a_t_by a_t_depth a_t_number a_t_part a_t_newPart a_t_node a_t_newNode a_t_parent a_t_born a_t_one a_t_pieces a_t_chain a_t_behind a_t_classOf a_t_classState 0 t_room t_registers t_bits y5 t_first 0 t_isRoom t_walked t_parts t_nodes t_classes n_t_outOp f2 n_t_outA f3 n_t_outB f4) H := hP
      have hD : va_D A (wl_MO_input cI cL cR a_t a_t_width a_t_shift a_t_outOp a_t_outA a_t_outB a_t_transfers a_t_to a_t_op a_t_opA a_t_opB a_t_next a_t_gives a_t_state a_t_from a_t_by a_t_depth a_t_number a_t_part a_t_newPart a_t_node a_t_newNode a_t_parent a_t_born a_t_one a_t_pieces a_t_chain a_t_behind a_t_classOf a_t_classState 0 t_room t_registers t_bits y5 t_first 0 t_isRoom t_walked t_parts t_nodes t_classes n_t_outOp f2 n_t_outA f3 n_t_outB f4) := hD
      refine lv_aload_n hx hb d_MO_input_80 rfl (lv_at hl 0 rfl) ?_
      refine gf_MO_112 hx hb hts hown hK hP 0 rfl rfl d_MO_input_81 ?_
      refine lv_iconst (v := 1) hx hb d_MO_input_84 (by decide) ?_
      refine lv_isub hx hb d_MO_input_85 ?_
      exact hret (y5 - (1 : Int32)) (0, y5, 0, f2, f3, f4) H locs _ _ 86 ls d_MO_input_86 hP hD hS hw (Nat.le_refl 0) (Nat.le_refl 0)
    · have hw := hw.2 hc
      refine lv_aload_n hx hb d_MO_input_29 rfl (lv_at hl 0 rfl) ?_
      refine lv_iconst (v := 2) hx hb d_MO_input_30 (by decide) ?_
      refine ky_call (wr := [(a_t_outOp, .inl (cI, n_t_outOp, .inl f_t_outOp)), (a_t_outA, .inl (cI, n_t_outA, .inl f_t_outA)), (a_t_outB, .inl (cI, n_t_outB, .inl f_t_outB))]) hP hD hS hA [0] [1, 2, 3] rfl rfl (by decide) (by decide) (va_runV (As := [.int 2]) (rest := []) ⟨hx, hb, hml, hown, hts⟩ (c_MO_fail l D cI cL cR a_t a_t_width a_t_shift a_t_outOp a_t_outA a_t_outB a_t_transfers a_t_to a_t_op a_t_opA a_t_opB a_t_next a_t_gives a_t_state a_t_from a_t_by a_t_depth a_t_number a_t_part a_t_newPart a_t_node a_t_newNode a_t_parent a_t_born a_t_one a_t_pieces a_t_chain a_t_behind a_t_classOf a_t_classState 0 t_room t_registers t_bits t_inputs t_first t_isFresh t_isRoom t_walked t_parts t_nodes t_classes (2 : Int32) H.size _ hw) (cw_MO_108 hts ⟨Nat.le_of_ble_eq_true rfl, Nat.le_of_ble_eq_true rfl⟩) (ky_preV hK hP hD [0] rfl (by decide) rfl rfl) rfl rfl hl.1 rfl (lv_room (Nat.le_of_ble_eq_true rfl)) d_MO_input_31 ⟨Nat.le_refl 0, Nat.le_refl 0⟩) (fun r u H locs hw hP hD hS => ?_)
      obtain ⟨m_thrown_6, rfl⟩ : ∃ z, z = u := ⟨_, rfl⟩
      obtain ⟨r6, rfl⟩ : ∃ z, z = r := ⟨_, rfl⟩
      try dsimp only at hw
      have hP : va_P D vwCl (wl_MO_input cI cL cR a_t a_t_width a_t_shift a_t_outOp a_t_outA a_t_outB a_t_transfers a_t_to a_t_op a_t_opA a_t_opB a_t_next a_t_gives a_t_state a_t_from a_t_by a_t_depth a_t_number a_t_part a_t_newPart a_t_node a_t_newNode a_t_parent a_t_born a_t_one a_t_pieces a_t_chain a_t_behind a_t_classOf a_t_classState m_thrown_6 t_room t_registers t_bits t_inputs t_first t_isFresh t_isRoom t_walked t_parts t_nodes t_classes n_t_outOp f_t_outOp n_t_outA f_t_outA n_t_outB f_t_outB) H := hP.sub [3, 0, 1, 2] rfl
      have hD : va_D A (wl_MO_input cI cL cR a_t a_t_width a_t_shift a_t_outOp a_t_outA a_t_outB a_t_transfers a_t_to a_t_op a_t_opA a_t_opB a_t_next a_t_gives a_t_state a_t_from a_t_by a_t_depth a_t_number a_t_part a_t_newPart a_t_node a_t_newNode a_t_parent a_t_born a_t_one a_t_pieces a_t_chain a_t_behind a_t_classOf a_t_classState m_thrown_6 t_room t_registers t_bits t_inputs t_first t_isFresh t_isRoom t_walked t_parts t_nodes t_classes n_t_outOp f_t_outOp n_t_outA f_t_outA n_t_outB f_t_outB) := hD.sub [3, 0, 1, 2] (by decide) rfl
      refine W.widen (k := 0) (n := 0) (Nat.le_refl _) (Nat.le_refl _) ?_
      refine W.eq (g2 := F0 m 34 ls [.int r6]) rfl ?_
      exact hret r6 (m_thrown_6, t_inputs, t_isFresh, f_t_outOp, f_t_outA, f_t_outB) H locs _ _ 34 ls d_MO_input_34 hP hD hS hw (Nat.le_refl 0) (Nat.le_refl 0)
  · have hw := hw.2 hc
    refine lv_aload_n hx hb d_MO_input_15 rfl (lv_at hl 0 rfl) ?_
    refine lv_iconst (v := 1) hx hb d_MO_input_16 (by decide) ?_
    refine ky_call (wr := [(a_t_outOp, .inl (cI, n_t_outOp, .inl f_t_outOp)), (a_t_outA, .inl (cI, n_t_outA, .inl f_t_outA)), (a_t_outB, .inl (cI, n_t_outB, .inl f_t_outB))]) hP hD hS hA [0] [1, 2, 3] rfl rfl (by decide) (by decide) (va_runV (As := [.int 1]) (rest := []) ⟨hx, hb, hml, hown, hts⟩ (c_MO_fail l D cI cL cR a_t a_t_width a_t_shift a_t_outOp a_t_outA a_t_outB a_t_transfers a_t_to a_t_op a_t_opA a_t_opB a_t_next a_t_gives a_t_state a_t_from a_t_by a_t_depth a_t_number a_t_part a_t_newPart a_t_node a_t_newNode a_t_parent a_t_born a_t_one a_t_pieces a_t_chain a_t_behind a_t_classOf a_t_classState 0 t_room t_registers t_bits t_inputs t_first t_isFresh t_isRoom t_walked t_parts t_nodes t_classes (1 : Int32) H.size _ hw) (cw_MO_108 hts ⟨Nat.le_of_ble_eq_true rfl, Nat.le_of_ble_eq_true rfl⟩) (ky_preV hK hP hD [0] rfl (by decide) rfl rfl) rfl rfl hl.1 rfl (lv_room (Nat.le_of_ble_eq_true rfl)) d_MO_input_17 ⟨Nat.le_refl 0, Nat.le_refl 0⟩) (fun r u H locs hw hP hD hS => ?_)
    obtain ⟨m_thrown_7, rfl⟩ : ∃ z, z = u := ⟨_, rfl⟩
    obtain ⟨r7, rfl⟩ : ∃ z, z = r := ⟨_, rfl⟩
    try dsimp only at hw
    have hP : va_P D vwCl (wl_MO_input cI cL cR a_t a_t_width a_t_shift a_t_outOp a_t_outA a_t_outB a_t_transfers a_t_to a_t_op a_t_opA a_t_opB a_t_next a_t_gives a_t_state a_t_from a_t_by a_t_depth a_t_number a_t_part a_t_newPart a_t_node a_t_newNode a_t_parent a_t_born a_t_one a_t_pieces a_t_chain a_t_behind a_t_classOf a_t_classState m_thrown_7 t_room t_registers t_bits t_inputs t_first t_isFresh t_isRoom t_walked t_parts t_nodes t_classes n_t_outOp f_t_outOp n_t_outA f_t_outA n_t_outB f_t_outB) H := hP.sub [3, 0, 1, 2] rfl
    have hD : va_D A (wl_MO_input cI cL cR a_t a_t_width a_t_shift a_t_outOp a_t_outA a_t_outB a_t_transfers a_t_to a_t_op a_t_opA a_t_opB a_t_next a_t_gives a_t_state a_t_from a_t_by a_t_depth a_t_number a_t_part a_t_newPart a_t_node a_t_newNode a_t_parent a_t_born a_t_one a_t_pieces a_t_chain a_t_behind a_t_classOf a_t_classState m_thrown_7 t_room t_registers t_bits t_inputs t_first t_isFresh t_isRoom t_walked t_parts t_nodes t_classes n_t_outOp f_t_outOp n_t_outA f_t_outA n_t_outB f_t_outB) := hD.sub [3, 0, 1, 2] (by decide) rfl
    refine W.widen (k := 0) (n := 0) (Nat.le_refl _) (Nat.le_refl _) ?_
    refine W.eq (g2 := F0 m 20 ls [.int r7]) rfl ?_
    exact hret r7 (m_thrown_7, t_inputs, t_isFresh, f_t_outOp, f_t_outA, f_t_outB) H locs _ _ 20 ls d_MO_input_20 hP hD hS hw (Nat.le_refl 0) (Nat.le_refl 0)

abbrev wl_MO_transfer (cI cL cR : ClassId) (a_t : Nat) (a_t_width : Nat) (a_t_shift : Nat) (a_t_outOp : Nat) (a_t_outA : Nat) (a_t_outB : Nat) (a_t_transfers : Nat) (a_t_to : Nat) (a_t_op : Nat) (a_t_opA : Nat) (a_t_opB : Nat) (a_t_next : Nat) (a_t_gives : Nat) (a_t_state : Nat) (a_t_from : Nat) (a_t_by : Nat) (a_t_depth : Nat) (a_t_number : Nat) (a_t_part : Nat) (a_t_newPart : Nat) (a_t_node : Nat) (a_t_newNode : Nat) (a_t_parent : Nat) (a_t_born : Nat) (a_t_one : Nat) (a_t_pieces : Nat) (a_t_chain : Nat) (a_t_behind : Nat) (a_t_classOf : Nat) (a_t_classState : Nat) (t_thrown : Int32) (t_room : Int32) (t_registers : Int32) (t_bits : Int32) (t_inputs : Int32) (t_first : Int32) (t_isFresh : Int32) (t_isRoom : Int32) (t_walked : Int32) (t_parts : Int32) (t_nodes : Int32) (t_classes : Int32) (n_t_transfers : Nat) (f_t_transfers : Nat → Int32) (n_t_to : Nat) (f_t_to : Nat → Int32) (n_t_op : Nat) (f_t_op : Nat → Int32) (n_t_opA : Nat) (f_t_opA : Nat → Int32) (n_t_opB : Nat) (f_t_opB : Nat → Int32) : va_W := [(a_t, .inr (7, [.int t_thrown, .int t_room, .int t_registers, .int t_bits, .int t_inputs, .int t_first, .ref a_t_width, .ref a_t_shift, .ref a_t_outOp, .ref a_t_outA, .ref a_t_outB, .ref a_t_transfers, .ref a_t_to, .ref a_t_op, .ref a_t_opA, .ref a_t_opB, .int t_isFresh, .ref a_t_next, .ref a_t_gives, .int t_isRoom, .int t_walked, .ref a_t_state, .ref a_t_from, .ref a_t_by, .ref a_t_depth, .ref a_t_number, .int t_parts, .int t_nodes, .ref a_t_part, .ref a_t_newPart, .ref a_t_node, .ref a_t_newNode, .ref a_t_parent, .ref a_t_born, .ref a_t_one, .ref a_t_pieces, .ref a_t_chain, .ref a_t_behind, .int t_classes, .ref a_t_classOf, .ref a_t_classState])), (a_t_transfers, .inl (cI, n_t_transfers, .inl f_t_transfers)), (a_t_to, .inl (cI, n_t_to, .inl f_t_to)), (a_t_op, .inl (cI, n_t_op, .inl f_t_op)), (a_t_opA, .inl (cI, n_t_opA, .inl f_t_opA)), (a_t_opB, .inl (cI, n_t_opB, .inl f_t_opB))]
def wp_MO_transfer (t_thrown : Int32) (t_room : Int32) (t_registers : Int32) (t_bits : Int32) (t_inputs : Int32) (t_first : Int32) (t_isFresh : Int32) (t_isRoom : Int32) (t_walked : Int32) (t_parts : Int32) (t_nodes : Int32) (t_classes : Int32) (n_t_transfers : Nat) (f_t_transfers : Nat → Int32) (n_t_to : Nat) (f_t_to : Nat → Int32) (n_t_op : Nat) (f_t_op : Nat → Int32) (n_t_opA : Nat) (f_t_opA : Nat → Int32) (n_t_opB : Nat) (f_t_opB : Nat → Int32) (a1 : Int32) (a2 : Int32) (a3 : Int32) (a4 : Int32) (a5 : Int32) (post : Int32 → Int32 → Int32 → (Nat → Int32) → (Nat → Int32) → (Nat → Int32) → (Nat → Int32) → (Nat → Int32) → Prop) : Prop :=
  wp_MO_within a1 (0 : Int32) (t_inputs - (1 : Int32)) (fun r1 => ((r1 = 0 → wp_MO_fail 0 t_room t_registers t_bits t_inputs t_first t_isFresh t_isRoom t_walked t_parts t_nodes t_classes (1 : Int32) (fun r2 m_thrown_2 => post r2 m_thrown_2 t_isFresh f_t_transfers f_t_to f_t_op f_t_opA f_t_opB)) ∧ (¬ r1 = 0 → wp_MO_within a2 (0 : Int32) (t_registers - (1 : Int32)) (fun r3 => ((r3 = 0 → wp_MO_fail 0 t_room t_registers t_bits t_inputs t_first t_isFresh t_isRoom t_walked t_parts t_nodes t_classes (1 : Int32) (fun r4 m_thrown_4 => post r4 m_thrown_4 t_isFresh f_t_transfers f_t_to f_t_op f_t_opA f_t_opB)) ∧ (¬ r3 = 0 → wp_MO_isExpression 0 t_room t_registers t_bits t_inputs t_first t_isFresh t_isRoom t_walked t_parts t_nodes t_classes a3 a4 a5 (fun r5 => ((¬ r5 = 0 → (vp_in a1 n_t_transfers ∧ ((¬ (f_t_transfers a1.toNatClampNeg) = 8 → (vp_in a1 n_t_transfers ∧ (∀ y6 : Int32, y6 = (((8 : Int32) * a1) + (f_t_transfers a1.toNatClampNeg)) → (vp_in y6 n_t_to ∧ (∀ f7 : Nat → Int32, f7 = (upd f_t_to y6.toNatClampNeg a2) → (vp_in y6 n_t_op ∧ (∀ f8 : Nat → Int32, f8 = (upd f_t_op y6.toNatClampNeg a3) → (vp_in y6 n_t_opA ∧ (∀ f9 : Nat → Int32, f9 = (upd f_t_opA y6.toNatClampNeg a4) → (vp_in y6 n_t_opB ∧ (∀ f10 : Nat → Int32, f10 = (upd f_t_opB y6.toNatClampNeg a5) → (vp_in a1 n_t_transfers ∧ (∀ y11 : Int32, y11 = ((f_t_transfers a1.toNatClampNeg) + (1 : Int32)) → (vp_in a1 n_t_transfers ∧ (∀ f12 : Nat → Int32, f12 = (upd f_t_transfers a1.toNatClampNeg y11) → (vp_in a1 n_t_transfers ∧ post (f12 a1.toNatClampNeg) 0 0 f12 f7 f8 f9 f10)))))))))))))))) ∧ ((f_t_transfers a1.toNatClampNeg) = 8 → wp_MO_fail 0 t_room t_registers t_bits t_inputs t_first t_isFresh t_isRoom t_walked t_parts t_nodes t_classes (2 : Int32) (fun r13 m_thrown_13 => post r13 m_thrown_13 t_isFresh f_t_transfers f_t_to f_t_op f_t_opA f_t_opB))))) ∧ (r5 = 0 → wp_MO_fail 0 t_room t_registers t_bits t_inputs t_first t_isFresh t_isRoom t_walked t_parts t_nodes t_classes (1 : Int32) (fun r14 m_thrown_14 => post r14 m_thrown_14 t_isFresh f_t_transfers f_t_to f_t_op f_t_opA f_t_opB))))))))))
abbrev rm_MO_transfer : Room := { frames := 4, cells := 0, slots := 0, locals := 81 }
set_option maxHeartbeats 4000000 in
set_option maxRecDepth 100000 in
theorem c_MO_transfer (l : Launch) (D : va_G) (cI cL cR : ClassId) (a_t a_t_width a_t_shift a_t_outOp a_t_outA a_t_outB a_t_transfers a_t_to a_t_op a_t_opA a_t_opB a_t_next a_t_gives a_t_state a_t_from a_t_by a_t_depth a_t_number a_t_part a_t_newPart a_t_node a_t_newNode a_t_parent a_t_born a_t_one a_t_pieces a_t_chain a_t_behind a_t_classOf a_t_classState : Nat) (t_thrown : Int32) (t_room : Int32) (t_registers : Int32) (t_bits : Int32) (t_inputs : Int32) (t_first : Int32) (t_isFresh : Int32) (t_isRoom : Int32) (t_walked : Int32) (t_parts : Int32) (t_nodes : Int32) (t_classes : Int32) (n_t_transfers : Nat) (f_t_transfers : Nat → Int32) (n_t_to : Nat) (f_t_to : Nat → Int32) (n_t_op : Nat) (f_t_op : Nat → Int32) (n_t_opA : Nat) (f_t_opA : Nat → Int32) (n_t_opB : Nat) (f_t_opB : Nat → Int32) (a1 : Int32) (a2 : Int32) (a3 : Int32) (a4 : Int32) (a5 : Int32) (sz : Nat) (post : Int32 → Int32 → Int32 → (Nat → Int32) → (Nat → Int32) → (Nat → Int32) → (Nat → Int32) → (Nat → Int32) → Prop) (hw : wp_MO_transfer t_thrown t_room t_registers t_bits t_inputs t_first t_isFresh t_isRoom t_walked t_parts t_nodes t_classes n_t_transfers f_t_transfers n_t_to f_t_to n_t_op f_t_op n_t_opA f_t_opA n_t_opB f_t_opB a1 a2 a3 a4 a5 post) : ky_M ky_rI l y_MO_transfer (.code y_MO_transfer b_MO_transfer 7 (some .int) :: wsG) rm_MO_transfer D vwCl (ky_T cI cL cR) (wl_MO_transfer cI cL cR a_t a_t_width a_t_shift a_t_outOp a_t_outA a_t_outB a_t_transfers a_t_to a_t_op a_t_opA a_t_opB a_t_next a_t_gives a_t_state a_t_from a_t_by a_t_depth a_t_number a_t_part a_t_newPart a_t_node a_t_newNode a_t_parent a_t_born a_t_one a_t_pieces a_t_chain a_t_behind a_t_classOf a_t_classState t_thrown t_room t_registers t_bits t_inputs t_first t_isFresh t_isRoom t_walked t_parts t_nodes t_classes n_t_transfers f_t_transfers n_t_to f_t_to n_t_op f_t_op n_t_opA f_t_opA n_t_opB f_t_opB) sz [.ref a_t, .int a1, .int a2, .int a3, .int a4, .int a5] (fun r (u : Int32 × Int32 × (Nat → Int32) × (Nat → Int32) × (Nat → Int32) × (Nat → Int32) × (Nat → Int32)) => post r u.1 u.2.1 u.2.2.1 u.2.2.2.1 u.2.2.2.2.1 u.2.2.2.2.2.1 u.2.2.2.2.2.2) (fun u => wl_MO_transfer cI cL cR a_t a_t_width a_t_shift a_t_outOp a_t_outA a_t_outB a_t_transfers a_t_to a_t_op a_t_opA a_t_opB a_t_next a_t_gives a_t_state a_t_from a_t_by a_t_depth a_t_number a_t_part a_t_newPart a_t_node a_t_newNode a_t_parent a_t_born a_t_one a_t_pieces a_t_chain a_t_behind a_t_classOf a_t_classState u.1 t_room t_registers t_bits t_inputs t_first u.2.1 t_isRoom t_walked t_parts t_nodes t_classes n_t_transfers u.2.2.1 n_t_to u.2.2.2.1 n_t_op u.2.2.2.2.1 n_t_opA u.2.2.2.2.2.1 n_t_opB u.2.2.2.2.2.2) := by
  refine ky_ofI (plainFor_of_name (by decide)) (Nat.le_of_ble_eq_true rfl) ?_
  intro p e s m args below meth c A Q ls hI hret
  obtain ⟨hx, hb, hml, hown, hin, hts, hK, hP, hD, hA, hS, hl⟩ := hI
  have hown : s.vm.findClass R_MO = some m.cls := hown
  have hl : lv_has ls 7 [(0, .ref a_t), (1, .int a1), (2, .int a2), (3, .int a3), (4, .int a4), (5, .int a5)] := hl
  obtain ⟨H, locs, eH, eL⟩ : ∃ (H : Heap) (locs : List Loc), H = s.heap ∧ locs = [] := ⟨_, _, rfl, rfl⟩
  rw [← eL] at hS ⊢
  have hS : va_S A s.heap H locs := by rw [eH]; exact hS
  have hP : va_P D vwCl (wl_MO_transfer cI cL cR a_t a_t_width a_t_shift a_t_outOp a_t_outA a_t_outB a_t_transfers a_t_to a_t_op a_t_opA a_t_opB a_t_next a_t_gives a_t_state a_t_from a_t_by a_t_depth a_t_number a_t_part a_t_newPart a_t_node a_t_newNode a_t_parent a_t_born a_t_one a_t_pieces a_t_chain a_t_behind a_t_classOf a_t_classState t_thrown t_room t_registers t_bits t_inputs t_first t_isFresh t_isRoom t_walked t_parts t_nodes t_classes n_t_transfers f_t_transfers n_t_to f_t_to n_t_op f_t_op n_t_opA f_t_opA n_t_opB f_t_opB) H := by rw [eH]; exact hP
  suffices hgo : W p l e rm_MO_transfer s m args below meth c H locs 0 0 Q (F0 m 0 ls []) by rw [eH] at hgo; exact hgo
  clear eH eL
  unfold wp_MO_transfer at hw
  refine lv_aload_n hx hb d_MO_transfer_0 rfl (lv_at hl 0 rfl) ?_
  refine lv_iconst (v := 0) hx hb d_MO_transfer_1 (by decide) ?_
  refine pf_MO_101 (v := .int 0) hx hb hts hown hK hP hD hS 0 rfl rfl rfl (Nat.le_of_ble_eq_true rfl) d_MO_transfer_2 (fun H locs hP hD hS => ?_)
  have hP : va_P D vwCl (wl_MO_transfer cI cL cR a_t a_t_width a_t_shift a_t_outOp a_t_outA a_t_outB a_t_transfers a_t_to a_t_op a_t_opA a_t_opB a_t_next a_t_gives a_t_state a_t_from a_t_by a_t_depth a_t_number a_t_part a_t_newPart a_t_node a_t_newNode a_t_parent a_t_born a_t_one a_t_pieces a_t_chain a_t_behind a_t_classOf a_t_classState 0 t_room t_registers t_bits t_inputs t_first t_isFresh t_isRoom t_walked t_parts t_nodes t_classes n_t_transfers f_t_transfers n_t_to f_t_to n_t_op f_t_op n_t_opA f_t_opA n_t_opB f_t_opB) H := hP
  have hD : va_D A (wl_MO_transfer cI cL cR a_t a_t_width a_t_shift a_t_outOp a_t_outA a_t_outB a_t_transfers a_t_to a_t_op a_t_opA a_t_opB a_t_next a_t_gives a_t_state a_t_from a_t_by a_t_depth a_t_number a_t_part a_t_newPart a_t_node a_t_newNode a_t_parent a_t_born a_t_one a_t_pieces a_t_chain a_t_behind a_t_classOf a_t_classState 0 t_room t_registers t_bits t_inputs t_first t_isFresh t_isRoom t_walked t_parts t_nodes t_classes n_t_transfers f_t_transfers n_t_to f_t_to n_t_op f_t_op n_t_opA f_t_opA n_t_opB f_t_opB) := hD
  refine lv_iload_n hx hb d_MO_transfer_5 rfl (lv_at hl 1 rfl) ?_
  refine lv_iconst (v := 0) hx hb d_MO_transfer_6 (by decide) ?_
  refine lv_aload_n hx hb d_MO_transfer_7 rfl (lv_at hl 0 rfl) ?_
  refine gf_MO_112 hx hb hts hown hK hP 0 rfl rfl d_MO_transfer_8 ?_
  refine lv_iconst (v := 1) hx hb d_MO_transfer_11 (by decide) ?_
  refine lv_isub hx hb d_MO_transfer_12 ?_
  refine ky_call (wr := [(a_t, .inr (7, [.int 0, .int t_room, .int t_registers, .int t_bits, .int t_inputs, .int t_first, .ref a_t_width, .ref a_t_shift, .ref a_t_outOp, .ref a_t_outA, .ref a_t_outB, .ref a_t_transfers, .ref a_t_to, .ref a_t_op, .ref a_t_opA, .ref a_t_opB, .int t_isFresh, .ref a_t_next, .ref a_t_gives, .int t_isRoom, .int t_walked, .ref a_t_state, .ref a_t_from, .ref a_t_by, .ref a_t_depth, .ref a_t_number, .int t_parts, .int t_nodes, .ref a_t_part, .ref a_t_newPart, .ref a_t_node, .ref a_t_newNode, .ref a_t_parent, .ref a_t_born, .ref a_t_one, .ref a_t_pieces, .ref a_t_chain, .ref a_t_behind, .int t_classes, .ref a_t_classOf, .ref a_t_classState])), (a_t_transfers, .inl (cI, n_t_transfers, .inl f_t_transfers)), (a_t_to, .inl (cI, n_t_to, .inl f_t_to)), (a_t_op, .inl (cI, n_t_op, .inl f_t_op)), (a_t_opA, .inl (cI, n_t_opA, .inl f_t_opA)), (a_t_opB, .inl (cI, n_t_opB, .inl f_t_opB))]) hP hD hS hA [] [0, 1, 2, 3, 4, 5] rfl rfl (by decide) (by decide) (va_runS (As := [.int a1, .int 0, .int (t_inputs - (1 : Int32))]) (rest := []) ⟨hx, hb, hml, hown, hts⟩ (c_MO_within l D cI cL cR a1 (0 : Int32) (t_inputs - (1 : Int32)) H.size _ hw) (cw_MO_104 hts ⟨Nat.le_of_ble_eq_true rfl, Nat.le_of_ble_eq_true rfl⟩) (ky_preS hK hP hD [] rfl (by decide)) rfl rfl hl.1 rfl (lv_room (Nat.le_of_ble_eq_true rfl)) d_MO_transfer_13 ⟨Nat.le_refl 0, Nat.le_refl 0⟩) (fun r u H locs hw hP hD hS => ?_)
  obtain ⟨r1, rfl⟩ : ∃ z, z = r := ⟨_, rfl⟩
  have hP : va_P D vwCl (wl_MO_transfer cI cL cR a_t a_t_width a_t_shift a_t_outOp a_t_outA a_t_outB a_t_transfers a_t_to a_t_op a_t_opA a_t_opB a_t_next a_t_gives a_t_state a_t_from a_t_by a_t_depth a_t_number a_t_part a_t_newPart a_t_node a_t_newNode a_t_parent a_t_born a_t_one a_t_pieces a_t_chain a_t_behind a_t_classOf a_t_classState 0 t_room t_registers t_bits t_inputs t_first t_isFresh t_isRoom t_walked t_parts t_nodes t_classes n_t_transfers f_t_transfers n_t_to f_t_to n_t_op f_t_op n_t_opA f_t_opA n_t_opB f_t_opB) H := hP
  have hD : va_D A (wl_MO_transfer cI cL cR a_t a_t_width a_t_shift a_t_outOp a_t_outA a_t_outB a_t_transfers a_t_to a_t_op a_t_opA a_t_opB a_t_next a_t_gives a_t_state a_t_from a_t_by a_t_depth a_t_number a_t_part a_t_newPart a_t_node a_t_newNode a_t_parent a_t_born a_t_one a_t_pieces a_t_chain a_t_behind a_t_classOf a_t_classState 0 t_room t_registers t_bits t_inputs t_first t_isFresh t_isRoom t_walked t_parts t_nodes t_classes n_t_transfers f_t_transfers n_t_to f_t_to n_t_op f_t_op n_t_opA f_t_opA n_t_opB f_t_opB) := hD
  refine W.widen (k := 0) (n := 0) (Nat.le_refl _) (Nat.le_refl _) ?_
  refine W.eq (g2 := F0 m 16 ls [.int r1]) rfl ?_
  refine lv_if_eq (tgt := 45) hx hb d_MO_transfer_16 (by decide) (fun hc => ?_) (fun hc => ?_)
  · have hw := hw.1 hc
    refine lv_aload_n hx hb d_MO_transfer_45 rfl (lv_at hl 0 rfl) ?_
    refine lv_iconst (v := 1) hx hb d_MO_transfer_46 (by decide) ?_
    refine ky_call (wr := [(a_t_transfers, .inl (cI, n_t_transfers, .inl f_t_transfers)), (a_t_to, .inl (cI, n_t_to, .inl f_t_to)), (a_t_op, .inl (cI, n_t_op, .inl f_t_op)), (a_t_opA, .inl (cI, n_t_opA, .inl f_t_opA)), (a_t_opB, .inl (cI, n_t_opB, .inl f_t_opB))]) hP hD hS hA [0] [1, 2, 3, 4, 5] rfl rfl (by decide) (by decide) (va_runV (As := [.int 1]) (rest := []) ⟨hx, hb, hml, hown, hts⟩ (c_MO_fail l D cI cL cR a_t a_t_width a_t_shift a_t_outOp a_t_outA a_t_outB a_t_transfers a_t_to a_t_op a_t_opA a_t_opB a_t_next a_t_gives a_t_state a_t_from a_t_by a_t_depth a_t_number a_t_part a_t_newPart a_t_node a_t_newNode a_t_parent a_t_born a_t_one a_t_pieces a_t_chain a_t_behind a_t_classOf a_t_classState 0 t_room t_registers t_bits t_inputs t_first t_isFresh t_isRoom t_walked t_parts t_nodes t_classes (1 : Int32) H.size _ hw) (cw_MO_108 hts ⟨Nat.le_of_ble_eq_true rfl, Nat.le_of_ble_eq_true rfl⟩) (ky_preV hK hP hD [0] rfl (by decide) rfl rfl) rfl rfl hl.1 rfl (lv_room (Nat.le_of_ble_eq_true rfl)) d_MO_transfer_47 ⟨Nat.le_refl 0, Nat.le_refl 0⟩) (fun r u H locs hw hP hD hS => ?_)
    obtain ⟨m_thrown_2, rfl⟩ : ∃ z, z = u := ⟨_, rfl⟩
    obtain ⟨r2, rfl⟩ : ∃ z, z = r := ⟨_, rfl⟩
    try dsimp only at hw
    have hP : va_P D vwCl (wl_MO_transfer cI cL cR a_t a_t_width a_t_shift a_t_outOp a_t_outA a_t_outB a_t_transfers a_t_to a_t_op a_t_opA a_t_opB a_t_next a_t_gives a_t_state a_t_from a_t_by a_t_depth a_t_number a_t_part a_t_newPart a_t_node a_t_newNode a_t_parent a_t_born a_t_one a_t_pieces a_t_chain a_t_behind a_t_classOf a_t_classState m_thrown_2 t_room t_registers t_bits t_inputs t_first t_isFresh t_isRoom t_walked t_parts t_nodes t_classes n_t_transfers f_t_transfers n_t_to f_t_to n_t_op f_t_op n_t_opA f_t_opA n_t_opB f_t_opB) H := hP.sub [5, 0, 1, 2, 3, 4] rfl
    have hD : va_D A (wl_MO_transfer cI cL cR a_t a_t_width a_t_shift a_t_outOp a_t_outA a_t_outB a_t_transfers a_t_to a_t_op a_t_opA a_t_opB a_t_next a_t_gives a_t_state a_t_from a_t_by a_t_depth a_t_number a_t_part a_t_newPart a_t_node a_t_newNode a_t_parent a_t_born a_t_one a_t_pieces a_t_chain a_t_behind a_t_classOf a_t_classState m_thrown_2 t_room t_registers t_bits t_inputs t_first t_isFresh t_isRoom t_walked t_parts t_nodes t_classes n_t_transfers f_t_transfers n_t_to f_t_to n_t_op f_t_op n_t_opA f_t_opA n_t_opB f_t_opB) := hD.sub [5, 0, 1, 2, 3, 4] (by decide) rfl
    refine W.widen (k := 0) (n := 0) (Nat.le_refl _) (Nat.le_refl _) ?_
    refine W.eq (g2 := F0 m 50 ls [.int r2]) rfl ?_
    exact hret r2 (m_thrown_2, t_isFresh, f_t_transfers, f_t_to, f_t_op, f_t_opA, f_t_opB) H locs _ _ 50 ls d_MO_transfer_50 hP hD hS hw (Nat.le_refl 0) (Nat.le_refl 0)
  · have hw := hw.2 hc
    refine lv_iload_n hx hb d_MO_transfer_19 rfl (lv_at hl 2 rfl) ?_
    refine lv_iconst (v := 0) hx hb d_MO_transfer_20 (by decide) ?_
    refine lv_aload_n hx hb d_MO_transfer_21 rfl (lv_at hl 0 rfl) ?_
    refine gf_MO_115 hx hb hts hown hK hP 0 rfl rfl d_MO_transfer_22 ?_
    refine lv_iconst (v := 1) hx hb d_MO_transfer_25 (by decide) ?_
    refine lv_isub hx hb d_MO_transfer_26 ?_
    refine ky_call (wr := [(a_t, .inr (7, [.int 0, .int t_room, .int t_registers, .int t_bits, .int t_inputs, .int t_first, .ref a_t_width, .ref a_t_shift, .ref a_t_outOp, .ref a_t_outA, .ref a_t_outB, .ref a_t_transfers, .ref a_t_to, .ref a_t_op, .ref a_t_opA, .ref a_t_opB, .int t_isFresh, .ref a_t_next, .ref a_t_gives, .int t_isRoom, .int t_walked, .ref a_t_state, .ref a_t_from, .ref a_t_by, .ref a_t_depth, .ref a_t_number, .int t_parts, .int t_nodes, .ref a_t_part, .ref a_t_newPart, .ref a_t_node, .ref a_t_newNode, .ref a_t_parent, .ref a_t_born, .ref a_t_one, .ref a_t_pieces, .ref a_t_chain, .ref a_t_behind, .int t_classes, .ref a_t_classOf, .ref a_t_classState])), (a_t_transfers, .inl (cI, n_t_transfers, .inl f_t_transfers)), (a_t_to, .inl (cI, n_t_to, .inl f_t_to)), (a_t_op, .inl (cI, n_t_op, .inl f_t_op)), (a_t_opA, .inl (cI, n_t_opA, .inl f_t_opA)), (a_t_opB, .inl (cI, n_t_opB, .inl f_t_opB))]) hP hD hS hA [] [0, 1, 2, 3, 4, 5] rfl rfl (by decide) (by decide) (va_runS (As := [.int a2, .int 0, .int (t_registers - (1 : Int32))]) (rest := []) ⟨hx, hb, hml, hown, hts⟩ (c_MO_within l D cI cL cR a2 (0 : Int32) (t_registers - (1 : Int32)) H.size _ hw) (cw_MO_104 hts ⟨Nat.le_of_ble_eq_true rfl, Nat.le_of_ble_eq_true rfl⟩) (ky_preS hK hP hD [] rfl (by decide)) rfl rfl hl.1 rfl (lv_room (Nat.le_of_ble_eq_true rfl)) d_MO_transfer_27 ⟨Nat.le_refl 0, Nat.le_refl 0⟩) (fun r u H locs hw hP hD hS => ?_)
    obtain ⟨r3, rfl⟩ : ∃ z, z = r := ⟨_, rfl⟩
    have hP : va_P D vwCl (wl_MO_transfer cI cL cR a_t a_t_width a_t_shift a_t_outOp a_t_outA a_t_outB a_t_transfers a_t_to a_t_op a_t_opA a_t_opB a_t_next a_t_gives a_t_state a_t_from a_t_by a_t_depth a_t_number a_t_part a_t_newPart a_t_node a_t_newNode a_t_parent a_t_born a_t_one a_t_pieces a_t_chain a_t_behind a_t_classOf a_t_classState 0 t_room t_registers t_bits t_inputs t_first t_isFresh t_isRoom t_walked t_parts t_nodes t_classes n_t_transfers f_t_transfers n_t_to f_t_to n_t_op f_t_op n_t_opA f_t_opA n_t_opB f_t_opB) H := hP
    have hD : va_D A (wl_MO_transfer cI cL cR a_t a_t_width a_t_shift a_t_outOp a_t_outA a_t_outB a_t_transfers a_t_to a_t_op a_t_opA a_t_opB a_t_next a_t_gives a_t_state a_t_from a_t_by a_t_depth a_t_number a_t_part a_t_newPart a_t_node a_t_newNode a_t_parent a_t_born a_t_one a_t_pieces a_t_chain a_t_behind a_t_classOf a_t_classState 0 t_room t_registers t_bits t_inputs t_first t_isFresh t_isRoom t_walked t_parts t_nodes t_classes n_t_transfers f_t_transfers n_t_to f_t_to n_t_op f_t_op n_t_opA f_t_opA n_t_opB f_t_opB) := hD
    refine W.widen (k := 0) (n := 0) (Nat.le_refl _) (Nat.le_refl _) ?_
    refine W.eq (g2 := F0 m 30 ls [.int r3]) rfl ?_
    refine lv_if_eq (tgt := 45) hx hb d_MO_transfer_30 (by decide) (fun hc => ?_) (fun hc => ?_)
    · have hw := hw.1 hc
      refine lv_aload_n hx hb d_MO_transfer_45 rfl (lv_at hl 0 rfl) ?_
      refine lv_iconst (v := 1) hx hb d_MO_transfer_46 (by decide) ?_
      refine ky_call (wr := [(a_t_transfers, .inl (cI, n_t_transfers, .inl f_t_transfers)), (a_t_to, .inl (cI, n_t_to, .inl f_t_to)), (a_t_op, .inl (cI, n_t_op, .inl f_t_op)), (a_t_opA, .inl (cI, n_t_opA, .inl f_t_opA)), (a_t_opB, .inl (cI, n_t_opB, .inl f_t_opB))]) hP hD hS hA [0] [1, 2, 3, 4, 5] rfl rfl (by decide) (by decide) (va_runV (As := [.int 1]) (rest := []) ⟨hx, hb, hml, hown, hts⟩ (c_MO_fail l D cI cL cR a_t a_t_width a_t_shift a_t_outOp a_t_outA a_t_outB a_t_transfers a_t_to a_t_op a_t_opA a_t_opB a_t_next a_t_gives a_t_state a_t_from a_t_by a_t_depth a_t_number a_t_part a_t_newPart a_t_node a_t_newNode a_t_parent a_t_born a_t_one a_t_pieces a_t_chain a_t_behind a_t_classOf a_t_classState 0 t_room t_registers t_bits t_inputs t_first t_isFresh t_isRoom t_walked t_parts t_nodes t_classes (1 : Int32) H.size _ hw) (cw_MO_108 hts ⟨Nat.le_of_ble_eq_true rfl, Nat.le_of_ble_eq_true rfl⟩) (ky_preV hK hP hD [0] rfl (by decide) rfl rfl) rfl rfl hl.1 rfl (lv_room (Nat.le_of_ble_eq_true rfl)) d_MO_transfer_47 ⟨Nat.le_refl 0, Nat.le_refl 0⟩) (fun r u H locs hw hP hD hS => ?_)
      obtain ⟨m_thrown_4, rfl⟩ : ∃ z, z = u := ⟨_, rfl⟩
      obtain ⟨r4, rfl⟩ : ∃ z, z = r := ⟨_, rfl⟩
      try dsimp only at hw
      have hP : va_P D vwCl (wl_MO_transfer cI cL cR a_t a_t_width a_t_shift a_t_outOp a_t_outA a_t_outB a_t_transfers a_t_to a_t_op a_t_opA a_t_opB a_t_next a_t_gives a_t_state a_t_from a_t_by a_t_depth a_t_number a_t_part a_t_newPart a_t_node a_t_newNode a_t_parent a_t_born a_t_one a_t_pieces a_t_chain a_t_behind a_t_classOf a_t_classState m_thrown_4 t_room t_registers t_bits t_inputs t_first t_isFresh t_isRoom t_walked t_parts t_nodes t_classes n_t_transfers f_t_transfers n_t_to f_t_to n_t_op f_t_op n_t_opA f_t_opA n_t_opB f_t_opB) H := hP.sub [5, 0, 1, 2, 3, 4] rfl
      have hD : va_D A (wl_MO_transfer cI cL cR a_t a_t_width a_t_shift a_t_outOp a_t_outA a_t_outB a_t_transfers a_t_to a_t_op a_t_opA a_t_opB a_t_next a_t_gives a_t_state a_t_from a_t_by a_t_depth a_t_number a_t_part a_t_newPart a_t_node a_t_newNode a_t_parent a_t_born a_t_one a_t_pieces a_t_chain a_t_behind a_t_classOf a_t_classState m_thrown_4 t_room t_registers t_bits t_inputs t_first t_isFresh t_isRoom t_walked t_parts t_nodes t_classes n_t_transfers f_t_transfers n_t_to f_t_to n_t_op f_t_op n_t_opA f_t_opA n_t_opB f_t_opB) := hD.sub [5, 0, 1, 2, 3, 4] (by decide) rfl
      refine W.widen (k := 0) (n := 0) (Nat.le_refl _) (Nat.le_refl _) ?_
      refine W.eq (g2 := F0 m 50 ls [.int r4]) rfl ?_
      exact hret r4 (m_thrown_4, t_isFresh, f_t_transfers, f_t_to, f_t_op, f_t_opA, f_t_opB) H locs _ _ 50 ls d_MO_transfer_50 hP hD hS hw (Nat.le_refl 0) (Nat.le_refl 0)
    · have hw := hw.2 hc
      refine lv_aload_n hx hb d_MO_transfer_33 rfl (lv_at hl 0 rfl) ?_
      refine lv_iload_n hx hb d_MO_transfer_34 rfl (lv_at hl 3 rfl) ?_
      refine lv_iload hx hb d_MO_transfer_35 (lv_at hl 4 rfl) ?_
      refine lv_iload hx hb d_MO_transfer_37 (lv_at hl 5 rfl) ?_
      refine ky_call (wr := [(a_t_transfers, .inl (cI, n_t_transfers, .inl f_t_transfers)), (a_t_to, .inl (cI, n_t_to, .inl f_t_to)), (a_t_op, .inl (cI, n_t_op, .inl f_t_op)), (a_t_opA, .inl (cI, n_t_opA, .inl f_t_opA)), (a_t_opB, .inl (cI, n_t_opB, .inl f_t_opB))]) hP hD hS hA [0] [1, 2, 3, 4, 5] rfl rfl (by decide) (by decide) (va_runV (As := [.int a3, .int a4, .int a5]) (rest := []) ⟨hx, hb, hml, hown, hts⟩ (c_MO_isExpression l D cI cL cR a_t a_t_width a_t_shift a_t_outOp a_t_outA a_t_outB a_t_transfers a_t_to a_t_op a_t_opA a_t_opB a_t_next a_t_gives a_t_state a_t_from a_t_by a_t_depth a_t_number a_t_part a_t_newPart a_t_node a_t_newNode a_t_parent a_t_born a_t_one a_t_pieces a_t_chain a_t_behind a_t_classOf a_t_classState 0 t_room t_registers t_bits t_inputs t_first t_isFresh t_isRoom t_walked t_parts t_nodes t_classes a3 a4 a5 H.size _ hw) (cw_MO_129 hts ⟨Nat.le_of_ble_eq_true rfl, Nat.le_of_ble_eq_true rfl⟩) (ky_preV hK hP hD [0] rfl (by decide) rfl rfl) rfl rfl hl.1 rfl (lv_room (Nat.le_of_ble_eq_true rfl)) d_MO_transfer_39 ⟨Nat.le_refl 0, Nat.le_refl 0⟩) (fun r u H locs hw hP hD hS => ?_)
      obtain ⟨r5, rfl⟩ : ∃ z, z = r := ⟨_, rfl⟩
      have hP : va_P D vwCl (wl_MO_transfer cI cL cR a_t a_t_width a_t_shift a_t_outOp a_t_outA a_t_outB a_t_transfers a_t_to a_t_op a_t_opA a_t_opB a_t_next a_t_gives a_t_state a_t_from a_t_by a_t_depth a_t_number a_t_part a_t_newPart a_t_node a_t_newNode a_t_parent a_t_born a_t_one a_t_pieces a_t_chain a_t_behind a_t_classOf a_t_classState 0 t_room t_registers t_bits t_inputs t_first t_isFresh t_isRoom t_walked t_parts t_nodes t_classes n_t_transfers f_t_transfers n_t_to f_t_to n_t_op f_t_op n_t_opA f_t_opA n_t_opB f_t_opB) H := hP.sub [5, 0, 1, 2, 3, 4] rfl
      have hD : va_D A (wl_MO_transfer cI cL cR a_t a_t_width a_t_shift a_t_outOp a_t_outA a_t_outB a_t_transfers a_t_to a_t_op a_t_opA a_t_opB a_t_next a_t_gives a_t_state a_t_from a_t_by a_t_depth a_t_number a_t_part a_t_newPart a_t_node a_t_newNode a_t_parent a_t_born a_t_one a_t_pieces a_t_chain a_t_behind a_t_classOf a_t_classState 0 t_room t_registers t_bits t_inputs t_first t_isFresh t_isRoom t_walked t_parts t_nodes t_classes n_t_transfers f_t_transfers n_t_to f_t_to n_t_op f_t_op n_t_opA f_t_opA n_t_opB f_t_opB) := hD.sub [5, 0, 1, 2, 3, 4] (by decide) rfl
      refine W.widen (k := 0) (n := 0) (Nat.le_refl _) (Nat.le_refl _) ?_
      refine W.eq (g2 := F0 m 42 ls [.int r5]) rfl ?_
      refine lv_if_ne (tgt := 51) hx hb d_MO_transfer_42 (by decide) (fun hc => ?_) (fun hc => ?_)
      · have hw := hw.1 hc
        refine lv_aload_n hx hb d_MO_transfer_51 rfl (lv_at hl 0 rfl) ?_
        refine gf_MO_25 hx hb hts hown hK hP 0 rfl rfl d_MO_transfer_52 ?_
        refine lv_iload_n hx hb d_MO_transfer_55 rfl (lv_at hl 1 rfl) ?_
        obtain ⟨h1, hw⟩ := hw
        refine va_iald hx hb hK hP 1 0 rfl rfl h1 d_MO_transfer_56 ?_
        refine lv_bipush (v := 8) hx hb d_MO_transfer_57 (by decide) ?_
        refine lv_icmp_ne (tgt := 68) hx hb d_MO_transfer_59 (by decide) (fun hc => ?_) (fun hc => ?_)
        · have hw := hw.1 hc
          refine lv_bipush (v := 8) hx hb d_MO_transfer_68 (by decide) ?_
          refine lv_iload_n hx hb d_MO_transfer_70 rfl (lv_at hl 1 rfl) ?_
          refine lv_imul hx hb d_MO_transfer_71 ?_
          refine lv_aload_n hx hb d_MO_transfer_72 rfl (lv_at hl 0 rfl) ?_
          refine gf_MO_25 hx hb hts hown hK hP 0 rfl rfl d_MO_transfer_73 ?_
          refine lv_iload_n hx hb d_MO_transfer_76 rfl (lv_at hl 1 rfl) ?_
          obtain ⟨h1, hw⟩ := hw
          refine va_iald hx hb hK hP 1 0 rfl rfl h1 d_MO_transfer_77 ?_
          refine lv_iadd hx hb d_MO_transfer_78 ?_
          refine lv_topi (fun y6 ey6 => ?_)
          have hw := hw y6 ey6
          refine lv_istore (lv' := [(6, .int y6), (0, .ref a_t), (1, .int a1), (2, .int a2), (3, .int a3), (4, .int a4), (5, .int a5)]) hx hb d_MO_transfer_79 hl (by decide) rfl (fun ls hl => ?_)
          refine lv_aload_n hx hb d_MO_transfer_81 rfl (lv_at hl 1 rfl) ?_
          refine gf_MO_28 hx hb hts hown hK hP 0 rfl rfl d_MO_transfer_82 ?_
          refine lv_iload hx hb d_MO_transfer_85 (lv_at hl 0 rfl) ?_
          refine lv_iload_n hx hb d_MO_transfer_87 rfl (lv_at hl 3 rfl) ?_
          obtain ⟨h1, hw⟩ := hw
          refine va_iast hx hb hK hP hD hS 2 0 rfl rfl h1 d_MO_transfer_88 (fun H locs hP hD hS => ?_)
          have hP : va_P D vwCl (wl_MO_transfer cI cL cR a_t a_t_width a_t_shift a_t_outOp a_t_outA a_t_outB a_t_transfers a_t_to a_t_op a_t_opA a_t_opB a_t_next a_t_gives a_t_state a_t_from a_t_by a_t_depth a_t_number a_t_part a_t_newPart a_t_node a_t_newNode a_t_parent a_t_born a_t_one a_t_pieces a_t_chain a_t_behind a_t_classOf a_t_classState 0 t_room t_registers t_bits t_inputs t_first t_isFresh t_isRoom t_walked t_parts t_nodes t_classes n_t_transfers f_t_transfers n_t_to (upd f_t_to y6.toNatClampNeg a2) n_t_op f_t_op n_t_opA f_t_opA n_t_opB f_t_opB) H := hP
          have hD : va_D A (wl_MO_transfer cI cL cR a_t a_t_width a_t_shift a_t_outOp a_t_outA a_t_outB a_t_transfers a_t_to a_t_op a_t_opA a_t_opB a_t_next a_t_gives a_t_state a_t_from a_t_by a_t_depth a_t_number a_t_part a_t_newPart a_t_node a_t_newNode a_t_parent a_t_born a_t_one a_t_pieces a_t_chain a_t_behind a_t_classOf a_t_classState 0 t_room t_registers t_bits t_inputs t_first t_isFresh t_isRoom t_walked t_parts t_nodes t_classes n_t_transfers f_t_transfers n_t_to (upd f_t_to y6.toNatClampNeg a2) n_t_op f_t_op n_t_opA f_t_opA n_t_opB f_t_opB) := hD
          generalize ef7 : (upd f_t_to y6.toNatClampNeg a2) = f7 at hP hD
          have hw := hw f7 ef7.symm
          refine lv_aload_n hx hb d_MO_transfer_89 rfl (lv_at hl 1 rfl) ?_
          refine gf_MO_31 hx hb hts hown hK hP 0 rfl rfl d_MO_transfer_90 ?_
          refine lv_iload hx hb d_MO_transfer_93 (lv_at hl 0 rfl) ?_
          refine lv_iload_n hx hb d_MO_transfer_95 rfl (lv_at hl 4 rfl) ?_
          obtain ⟨h1, hw⟩ := hw
          refine va_iast hx hb hK hP hD hS 3 0 rfl rfl h1 d_MO_transfer_96 (fun H locs hP hD hS => ?_)
          have hP : va_P D vwCl (wl_MO_transfer cI cL cR a_t a_t_width a_t_shift a_t_outOp a_t_outA a_t_outB a_t_transfers a_t_to a_t_op a_t_opA a_t_opB a_t_next a_t_gives a_t_state a_t_from a_t_by a_t_depth a_t_number a_t_part a_t_newPart a_t_node a_t_newNode a_t_parent a_t_born a_t_one a_t_pieces a_t_chain a_t_behind a_t_classOf a_t_classState 0 t_room t_registers t_bits t_inputs t_first t_isFresh t_isRoom t_walked t_parts t_nodes t_classes n_t_transfers f_t_transfers n_t_to f7 n_t_op (upd f_t_op y6.toNatClampNeg a3) n_t_opA f_t_opA n_t_opB f_t_opB) H := hP
          have hD : va_D A (wl_MO_transfer cI cL cR a_t a_t_width a_t_shift a_t_outOp a_t_outA a_t_outB a_t_transfers a_t_to a_t_op a_t_opA a_t_opB a_t_next a_t_gives a_t_state a_t_from a_t_by a_t_depth a_t_number a_t_part a_t_newPart a_t_node a_t_newNode a_t_parent a_t_born a_t_one a_t_pieces a_t_chain a_t_behind a_t_classOf a_t_classState 0 t_room t_registers t_bits t_inputs t_first t_isFresh t_isRoom t_walked t_parts t_nodes t_classes n_t_transfers f_t_transfers n_t_to f7 n_t_op (upd f_t_op y6.toNatClampNeg a3) n_t_opA f_t_opA n_t_opB f_t_opB) := hD
          generalize ef8 : (upd f_t_op y6.toNatClampNeg a3) = f8 at hP hD
          have hw := hw f8 ef8.symm
          refine lv_aload_n hx hb d_MO_transfer_97 rfl (lv_at hl 1 rfl) ?_
          refine gf_MO_34 hx hb hts hown hK hP 0 rfl rfl d_MO_transfer_98 ?_
          refine lv_iload hx hb d_MO_transfer_101 (lv_at hl 0 rfl) ?_
          refine lv_iload hx hb d_MO_transfer_103 (lv_at hl 5 rfl) ?_
          obtain ⟨h1, hw⟩ := hw
          refine va_iast hx hb hK hP hD hS 4 0 rfl rfl h1 d_MO_transfer_105 (fun H locs hP hD hS => ?_)
          have hP : va_P D vwCl (wl_MO_transfer cI cL cR a_t a_t_width a_t_shift a_t_outOp a_t_outA a_t_outB a_t_transfers a_t_to a_t_op a_t_opA a_t_opB a_t_next a_t_gives a_t_state a_t_from a_t_by a_t_depth a_t_number a_t_part a_t_newPart a_t_node a_t_newNode a_t_parent a_t_born a_t_one a_t_pieces a_t_chain a_t_behind a_t_classOf a_t_classState 0 t_room t_registers t_bits t_inputs t_first t_isFresh t_isRoom t_walked t_parts t_nodes t_classes n_t_transfers f_t_transfers n_t_to f7 n_t_op f8 n_t_opA (upd f_t_opA y6.toNatClampNeg a4) n_t_opB f_t_opB) H := hP
          have hD : va_D A (wl_MO_transfer cI cL cR a_t a_t_width a_t_shift a_t_outOp a_t_outA a_t_outB a_t_transfers a_t_to a_t_op a_t_opA a_t_opB a_t_next a_t_gives a_t_state a_t_from a_t_by a_t_depth a_t_number a_t_part a_t_newPart a_t_node a_t_newNode a_t_parent a_t_born a_t_one a_t_pieces a_t_chain a_t_behind a_t_classOf a_t_classState 0 t_room t_registers t_bits t_inputs t_first t_isFresh t_isRoom t_walked t_parts t_nodes t_classes n_t_transfers f_t_transfers n_t_to f7 n_t_op f8 n_t_opA (upd f_t_opA y6.toNatClampNeg a4) n_t_opB f_t_opB) := hD
          generalize ef9 : (upd f_t_opA y6.toNatClampNeg a4) = f9 at hP hD
          have hw := hw f9 ef9.symm
          refine lv_aload_n hx hb d_MO_transfer_106 rfl (lv_at hl 1 rfl) ?_
          refine gf_MO_37 hx hb hts hown hK hP 0 rfl rfl d_MO_transfer_107 ?_
          refine lv_iload hx hb d_MO_transfer_110 (lv_at hl 0 rfl) ?_
          refine lv_iload hx hb d_MO_transfer_112 (lv_at hl 6 rfl) ?_
          obtain ⟨h1, hw⟩ := hw
          refine va_iast hx hb hK hP hD hS 5 0 rfl rfl h1 d_MO_transfer_114 (fun H locs hP hD hS => ?_)
          have hP : va_P D vwCl (wl_MO_transfer cI cL cR a_t a_t_width a_t_shift a_t_outOp a_t_outA a_t_outB a_t_transfers a_t_to a_t_op a_t_opA a_t_opB a_t_next a_t_gives a_t_state a_t_from a_t_by a_t_depth a_t_number a_t_part a_t_newPart a_t_node a_t_newNode a_t_parent a_t_born a_t_one a_t_pieces a_t_chain a_t_behind a_t_classOf a_t_classState 0 t_room t_registers t_bits t_inputs t_first t_isFresh t_isRoom t_walked t_parts t_nodes t_classes n_t_transfers f_t_transfers n_t_to f7 n_t_op f8 n_t_opA f9 n_t_opB (upd f_t_opB y6.toNatClampNeg a5)) H := hP
          have hD : va_D A (wl_MO_transfer cI cL cR a_t a_t_width a_t_shift a_t_outOp a_t_outA a_t_outB a_t_transfers a_t_to a_t_op a_t_opA a_t_opB a_t_next a_t_gives a_t_state a_t_from a_t_by a_t_depth a_t_number a_t_part a_t_newPart a_t_node a_t_newNode a_t_parent a_t_born a_t_one a_t_pieces a_t_chain a_t_behind a_t_classOf a_t_classState 0 t_room t_registers t_bits t_inputs t_first t_isFresh t_isRoom t_walked t_parts t_nodes t_classes n_t_transfers f_t_transfers n_t_to f7 n_t_op f8 n_t_opA f9 n_t_opB (upd f_t_opB y6.toNatClampNeg a5)) := hD
          generalize ef10 : (upd f_t_opB y6.toNatClampNeg a5) = f10 at hP hD
          have hw := hw f10 ef10.symm
          refine lv_aload_n hx hb d_MO_transfer_115 rfl (lv_at hl 1 rfl) ?_
          refine gf_MO_25 hx hb hts hown hK hP 0 rfl rfl d_MO_transfer_116 ?_
          refine lv_iload_n hx hb d_MO_transfer_119 rfl (lv_at hl 2 rfl) ?_
          refine lv_dup2_11 hx hb d_MO_transfer_120 rfl rfl ?_
          obtain ⟨h1, hw⟩ := hw
          refine va_iald hx hb hK hP 1 0 rfl rfl h1 d_MO_transfer_121 ?_
          refine lv_iconst (v := 1) hx hb d_MO_transfer_122 (by decide) ?_
          refine lv_iadd hx hb d_MO_transfer_123 ?_
          refine lv_topi (fun y11 ey11 => ?_)
          have hw := hw y11 ey11
          obtain ⟨h1, hw⟩ := hw
          refine va_iast hx hb hK hP hD hS 1 0 rfl rfl h1 d_MO_transfer_124 (fun H locs hP hD hS => ?_)
          have hP : va_P D vwCl (wl_MO_transfer cI cL cR a_t a_t_width a_t_shift a_t_outOp a_t_outA a_t_outB a_t_transfers a_t_to a_t_op a_t_opA a_t_opB a_t_next a_t_gives a_t_state a_t_from a_t_by a_t_depth a_t_number a_t_part a_t_newPart a_t_node a_t_newNode a_t_parent a_t_born a_t_one a_t_pieces a_t_chain a_t_behind a_t_classOf a_t_classState 0 t_room t_registers t_bits t_inputs t_first t_isFresh t_isRoom t_walked t_parts t_nodes t_classes n_t_transfers (upd f_t_transfers a1.toNatClampNeg y11) n_t_to f7 n_t_op f8 n_t_opA f9 n_t_opB f10) H := hP
          have hD : va_D A (wl_MO_transfer cI cL cR a_t a_t_width a_t_shift a_t_outOp a_t_outA a_t_outB a_t_transfers a_t_to a_t_op a_t_opA a_t_opB a_t_next a_t_gives a_t_state a_t_from a_t_by a_t_depth a_t_number a_t_part a_t_newPart a_t_node a_t_newNode a_t_parent a_t_born a_t_one a_t_pieces a_t_chain a_t_behind a_t_classOf a_t_classState 0 t_room t_registers t_bits t_inputs t_first t_isFresh t_isRoom t_walked t_parts t_nodes t_classes n_t_transfers (upd f_t_transfers a1.toNatClampNeg y11) n_t_to f7 n_t_op f8 n_t_opA f9 n_t_opB f10) := hD
          generalize ef12 : (upd f_t_transfers a1.toNatClampNeg y11) = f12 at hP hD
          have hw := hw f12 ef12.symm
          refine lv_aload_n hx hb d_MO_transfer_125 rfl (lv_at hl 1 rfl) ?_
          refine lv_iconst (v := 0) hx hb d_MO_transfer_126 (by decide) ?_
          refine pf_MO_121 (v := .int 0) hx hb hts hown hK hP hD hS 0 rfl (by decide +kernel) (by decide +kernel) (Nat.le_of_ble_eq_true rfl) d_MO_transfer_127 (fun H locs hP hD hS => ?_)
          have hP : va_P D vwCl (wl_MO_transfer cI cL cR a_t a_t_width a_t_shift a_t_outOp a_t_outA a_t_outB a_t_transfers a_t_to a_t_op a_t_opA a_t_opB a_t_next a_t_gives a_t_state a_t_from a_t_by a_t_depth a_t_number a_t_part a_t_newPart a_t_node a_t_newNode a_t_parent a_t_born a_t_one a_t_pieces a_t_chain a_t_behind a_t_classOf a_t_classState 0 t_room t_registers t_bits t_inputs t_first 0 t_isRoom t_walked t_parts t_nodes t_classes n_t_transfers f12 n_t_to f7 n_t_op f8 n_t_opA f9 n_t_opB f10) H := hP
          have hD : va_D A (wl_MO_transfer cI cL cR a_t a_t_width a_t_shift a_t_outOp a_t_outA a_t_outB a_t_transfers a_t_to a_t_op a_t_opA a_t_opB a_t_next a_t_gives a_t_state a_t_from a_t_by a_t_depth a_t_number a_t_part a_t_newPart a_t_node a_t_newNode a_t_parent a_t_born a_t_one a_t_pieces a_t_chain a_t_behind a_t_classOf a_t_classState 0 t_room t_registers t_bits t_inputs t_first 0 t_isRoom t_walked t_parts t_nodes t_classes n_t_transfers f12 n_t_to f7 n_t_op f8 n_t_opA f9 n_t_opB f10) := hD
          refine lv_aload_n hx hb d_MO_transfer_130 rfl (lv_at hl 1 rfl) ?_
          refine gf_MO_25 hx hb hts hown hK hP 0 rfl rfl d_MO_transfer_131 ?_
          refine lv_iload_n hx hb d_MO_transfer_134 rfl (lv_at hl 2 rfl) ?_
          obtain ⟨h1, hw⟩ := hw
          refine va_iald hx hb hK hP 1 0 rfl rfl h1 d_MO_transfer_135 ?_
          exact hret (f12 a1.toNatClampNeg) (0, 0, f12, f7, f8, f9, f10) H locs _ _ 136 ls d_MO_transfer_136 hP hD hS hw (Nat.le_refl 0) (Nat.le_refl 0)
        · have hw := hw.2 hc
          refine lv_aload_n hx hb d_MO_transfer_62 rfl (lv_at hl 0 rfl) ?_
          refine lv_iconst (v := 2) hx hb d_MO_transfer_63 (by decide) ?_
          refine ky_call (wr := [(a_t_transfers, .inl (cI, n_t_transfers, .inl f_t_transfers)), (a_t_to, .inl (cI, n_t_to, .inl f_t_to)), (a_t_op, .inl (cI, n_t_op, .inl f_t_op)), (a_t_opA, .inl (cI, n_t_opA, .inl f_t_opA)), (a_t_opB, .inl (cI, n_t_opB, .inl f_t_opB))]) hP hD hS hA [0] [1, 2, 3, 4, 5] rfl rfl (by decide) (by decide) (va_runV (As := [.int 2]) (rest := []) ⟨hx, hb, hml, hown, hts⟩ (c_MO_fail l D cI cL cR a_t a_t_width a_t_shift a_t_outOp a_t_outA a_t_outB a_t_transfers a_t_to a_t_op a_t_opA a_t_opB a_t_next a_t_gives a_t_state a_t_from a_t_by a_t_depth a_t_number a_t_part a_t_newPart a_t_node a_t_newNode a_t_parent a_t_born a_t_one a_t_pieces a_t_chain a_t_behind a_t_classOf a_t_classState 0 t_room t_registers t_bits t_inputs t_first t_isFresh t_isRoom t_walked t_parts t_nodes t_classes (2 : Int32) H.size _ hw) (cw_MO_108 hts ⟨Nat.le_of_ble_eq_true rfl, Nat.le_of_ble_eq_true rfl⟩) (ky_preV hK hP hD [0] rfl (by decide) rfl rfl) rfl rfl hl.1 rfl (lv_room (Nat.le_of_ble_eq_true rfl)) d_MO_transfer_64 ⟨Nat.le_refl 0, Nat.le_refl 0⟩) (fun r u H locs hw hP hD hS => ?_)
          obtain ⟨m_thrown_13, rfl⟩ : ∃ z, z = u := ⟨_, rfl⟩
          obtain ⟨r13, rfl⟩ : ∃ z, z = r := ⟨_, rfl⟩
          try dsimp only at hw
          have hP : va_P D vwCl (wl_MO_transfer cI cL cR a_t a_t_width a_t_shift a_t_outOp a_t_outA a_t_outB a_t_transfers a_t_to a_t_op a_t_opA a_t_opB a_t_next a_t_gives a_t_state a_t_from a_t_by a_t_depth a_t_number a_t_part a_t_newPart a_t_node a_t_newNode a_t_parent a_t_born a_t_one a_t_pieces a_t_chain a_t_behind a_t_classOf a_t_classState m_thrown_13 t_room t_registers t_bits t_inputs t_first t_isFresh t_isRoom t_walked t_parts t_nodes t_classes n_t_transfers f_t_transfers n_t_to f_t_to n_t_op f_t_op n_t_opA f_t_opA n_t_opB f_t_opB) H := hP.sub [5, 0, 1, 2, 3, 4] rfl
          have hD : va_D A (wl_MO_transfer cI cL cR a_t a_t_width a_t_shift a_t_outOp a_t_outA a_t_outB a_t_transfers a_t_to a_t_op a_t_opA a_t_opB a_t_next a_t_gives a_t_state a_t_from a_t_by a_t_depth a_t_number a_t_part a_t_newPart a_t_node a_t_newNode a_t_parent a_t_born a_t_one a_t_pieces a_t_chain a_t_behind a_t_classOf a_t_classState m_thrown_13 t_room t_registers t_bits t_inputs t_first t_isFresh t_isRoom t_walked t_parts t_nodes t_classes n_t_transfers f_t_transfers n_t_to f_t_to n_t_op f_t_op n_t_opA f_t_opA n_t_opB f_t_opB) := hD.sub [5, 0, 1, 2, 3, 4] (by decide) rfl
          refine W.widen (k := 0) (n := 0) (Nat.le_refl _) (Nat.le_refl _) ?_
          refine W.eq (g2 := F0 m 67 ls [.int r13]) rfl ?_
          exact hret r13 (m_thrown_13, t_isFresh, f_t_transfers, f_t_to, f_t_op, f_t_opA, f_t_opB) H locs _ _ 67 ls d_MO_transfer_67 hP hD hS hw (Nat.le_refl 0) (Nat.le_refl 0)
      · have hw := hw.2 hc
        refine lv_aload_n hx hb d_MO_transfer_45 rfl (lv_at hl 0 rfl) ?_
        refine lv_iconst (v := 1) hx hb d_MO_transfer_46 (by decide) ?_
        refine ky_call (wr := [(a_t_transfers, .inl (cI, n_t_transfers, .inl f_t_transfers)), (a_t_to, .inl (cI, n_t_to, .inl f_t_to)), (a_t_op, .inl (cI, n_t_op, .inl f_t_op)), (a_t_opA, .inl (cI, n_t_opA, .inl f_t_opA)), (a_t_opB, .inl (cI, n_t_opB, .inl f_t_opB))]) hP hD hS hA [0] [1, 2, 3, 4, 5] rfl rfl (by decide) (by decide) (va_runV (As := [.int 1]) (rest := []) ⟨hx, hb, hml, hown, hts⟩ (c_MO_fail l D cI cL cR a_t a_t_width a_t_shift a_t_outOp a_t_outA a_t_outB a_t_transfers a_t_to a_t_op a_t_opA a_t_opB a_t_next a_t_gives a_t_state a_t_from a_t_by a_t_depth a_t_number a_t_part a_t_newPart a_t_node a_t_newNode a_t_parent a_t_born a_t_one a_t_pieces a_t_chain a_t_behind a_t_classOf a_t_classState 0 t_room t_registers t_bits t_inputs t_first t_isFresh t_isRoom t_walked t_parts t_nodes t_classes (1 : Int32) H.size _ hw) (cw_MO_108 hts ⟨Nat.le_of_ble_eq_true rfl, Nat.le_of_ble_eq_true rfl⟩) (ky_preV hK hP hD [0] rfl (by decide) rfl rfl) rfl rfl hl.1 rfl (lv_room (Nat.le_of_ble_eq_true rfl)) d_MO_transfer_47 ⟨Nat.le_refl 0, Nat.le_refl 0⟩) (fun r u H locs hw hP hD hS => ?_)
        obtain ⟨m_thrown_14, rfl⟩ : ∃ z, z = u := ⟨_, rfl⟩
        obtain ⟨r14, rfl⟩ : ∃ z, z = r := ⟨_, rfl⟩
        try dsimp only at hw
        have hP : va_P D vwCl (wl_MO_transfer cI cL cR a_t a_t_width a_t_shift a_t_outOp a_t_outA a_t_outB a_t_transfers a_t_to a_t_op a_t_opA a_t_opB a_t_next a_t_gives a_t_state a_t_from a_t_by a_t_depth a_t_number a_t_part a_t_newPart a_t_node a_t_newNode a_t_parent a_t_born a_t_one a_t_pieces a_t_chain a_t_behind a_t_classOf a_t_classState m_thrown_14 t_room t_registers t_bits t_inputs t_first t_isFresh t_isRoom t_walked t_parts t_nodes t_classes n_t_transfers f_t_transfers n_t_to f_t_to n_t_op f_t_op n_t_opA f_t_opA n_t_opB f_t_opB) H := hP.sub [5, 0, 1, 2, 3, 4] rfl
        have hD : va_D A (wl_MO_transfer cI cL cR a_t a_t_width a_t_shift a_t_outOp a_t_outA a_t_outB a_t_transfers a_t_to a_t_op a_t_opA a_t_opB a_t_next a_t_gives a_t_state a_t_from a_t_by a_t_depth a_t_number a_t_part a_t_newPart a_t_node a_t_newNode a_t_parent a_t_born a_t_one a_t_pieces a_t_chain a_t_behind a_t_classOf a_t_classState m_thrown_14 t_room t_registers t_bits t_inputs t_first t_isFresh t_isRoom t_walked t_parts t_nodes t_classes n_t_transfers f_t_transfers n_t_to f_t_to n_t_op f_t_op n_t_opA f_t_opA n_t_opB f_t_opB) := hD.sub [5, 0, 1, 2, 3, 4] (by decide) rfl
        refine W.widen (k := 0) (n := 0) (Nat.le_refl _) (Nat.le_refl _) ?_
        refine W.eq (g2 := F0 m 50 ls [.int r14]) rfl ?_
        exact hret r14 (m_thrown_14, t_isFresh, f_t_transfers, f_t_to, f_t_op, f_t_opA, f_t_opB) H locs _ _ 50 ls d_MO_transfer_50 hP hD hS hw (Nat.le_refl 0) (Nat.le_refl 0)

abbrev wl_MO_isState (cI cL cR : ClassId) (a_t : Nat) (a_t_width : Nat) (a_t_shift : Nat) (a_t_outOp : Nat) (a_t_outA : Nat) (a_t_outB : Nat) (a_t_transfers : Nat) (a_t_to : Nat) (a_t_op : Nat) (a_t_opA : Nat) (a_t_opB : Nat) (a_t_next : Nat) (a_t_gives : Nat) (a_t_state : Nat) (a_t_from : Nat) (a_t_by : Nat) (a_t_depth : Nat) (a_t_number : Nat) (a_t_part : Nat) (a_t_newPart : Nat) (a_t_node : Nat) (a_t_newNode : Nat) (a_t_parent : Nat) (a_t_born : Nat) (a_t_one : Nat) (a_t_pieces : Nat) (a_t_chain : Nat) (a_t_behind : Nat) (a_t_classOf : Nat) (a_t_classState : Nat) (t_thrown : Int32) (t_room : Int32) (t_registers : Int32) (t_bits : Int32) (t_inputs : Int32) (t_first : Int32) (t_isFresh : Int32) (t_isRoom : Int32) (t_walked : Int32) (t_parts : Int32) (t_nodes : Int32) (t_classes : Int32) : va_W := [(a_t, .inr (7, [.int t_thrown, .int t_room, .int t_registers, .int t_bits, .int t_inputs, .int t_first, .ref a_t_width, .ref a_t_shift, .ref a_t_outOp, .ref a_t_outA, .ref a_t_outB, .ref a_t_transfers, .ref a_t_to, .ref a_t_op, .ref a_t_opA, .ref a_t_opB, .int t_isFresh, .ref a_t_next, .ref a_t_gives, .int t_isRoom, .int t_walked, .ref a_t_state, .ref a_t_from, .ref a_t_by, .ref a_t_depth, .ref a_t_number, .int t_parts, .int t_nodes, .ref a_t_part, .ref a_t_newPart, .ref a_t_node, .ref a_t_newNode, .ref a_t_parent, .ref a_t_born, .ref a_t_one, .ref a_t_pieces, .ref a_t_chain, .ref a_t_behind, .int t_classes, .ref a_t_classOf, .ref a_t_classState]))]
def wp_MO_isState (t_thrown : Int32) (t_room : Int32) (t_registers : Int32) (t_bits : Int32) (t_inputs : Int32) (t_first : Int32) (t_isFresh : Int32) (t_isRoom : Int32) (t_walked : Int32) (t_parts : Int32) (t_nodes : Int32) (t_classes : Int32) (a1 : Int32) (post : Int32 → Prop) : Prop :=
  ((a1 < 0 → post 0) ∧ (¬ a1 < 0 → ((¬ (a1 >>> (t_bits &&& 31)) = 0 → post 0) ∧ ((a1 >>> (t_bits &&& 31)) = 0 → post 1))))
abbrev rm_MO_isState : Room := { frames := 1, cells := 0, slots := 0, locals := 12 }
set_option maxHeartbeats 4000000 in
set_option maxRecDepth 100000 in
theorem c_MO_isState (l : Launch) (D : va_G) (cI cL cR : ClassId) (a_t a_t_width a_t_shift a_t_outOp a_t_outA a_t_outB a_t_transfers a_t_to a_t_op a_t_opA a_t_opB a_t_next a_t_gives a_t_state a_t_from a_t_by a_t_depth a_t_number a_t_part a_t_newPart a_t_node a_t_newNode a_t_parent a_t_born a_t_one a_t_pieces a_t_chain a_t_behind a_t_classOf a_t_classState : Nat) (t_thrown : Int32) (t_room : Int32) (t_registers : Int32) (t_bits : Int32) (t_inputs : Int32) (t_first : Int32) (t_isFresh : Int32) (t_isRoom : Int32) (t_walked : Int32) (t_parts : Int32) (t_nodes : Int32) (t_classes : Int32) (a1 : Int32) (sz : Nat) (post : Int32 → Prop) (hw : wp_MO_isState t_thrown t_room t_registers t_bits t_inputs t_first t_isFresh t_isRoom t_walked t_parts t_nodes t_classes a1 post) : ky_M ky_rI l y_MO_isState (.code y_MO_isState b_MO_isState 2 (some .boolean) :: wsG) rm_MO_isState D vwCl (ky_T cI cL cR) (wl_MO_isState cI cL cR a_t a_t_width a_t_shift a_t_outOp a_t_outA a_t_outB a_t_transfers a_t_to a_t_op a_t_opA a_t_opB a_t_next a_t_gives a_t_state a_t_from a_t_by a_t_depth a_t_number a_t_part a_t_newPart a_t_node a_t_newNode a_t_parent a_t_born a_t_one a_t_pieces a_t_chain a_t_behind a_t_classOf a_t_classState t_thrown t_room t_registers t_bits t_inputs t_first t_isFresh t_isRoom t_walked t_parts t_nodes t_classes) sz [.ref a_t, .int a1] (fun r (u : Unit) => post r) (fun u => wl_MO_isState cI cL cR a_t a_t_width a_t_shift a_t_outOp a_t_outA a_t_outB a_t_transfers a_t_to a_t_op a_t_opA a_t_opB a_t_next a_t_gives a_t_state a_t_from a_t_by a_t_depth a_t_number a_t_part a_t_newPart a_t_node a_t_newNode a_t_parent a_t_born a_t_one a_t_pieces a_t_chain a_t_behind a_t_classOf a_t_classState t_thrown t_room t_registers t_bits t_inputs t_first t_isFresh t_isRoom t_walked t_parts t_nodes t_classes) := by
  refine ky_ofZ (plainFor_of_name (by decide)) (Nat.le_of_ble_eq_true rfl) ?_
  intro p e s m args below meth c A Q ls hI hret
  obtain ⟨hx, hb, hml, hown, hin, hts, hK, hP, hD, hA, hS, hl⟩ := hI
  have hown : s.vm.findClass R_MO = some m.cls := hown
  have hl : lv_has ls 2 [(0, .ref a_t), (1, .int a1)] := hl
  obtain ⟨H, locs, eH, eL⟩ : ∃ (H : Heap) (locs : List Loc), H = s.heap ∧ locs = [] := ⟨_, _, rfl, rfl⟩
  rw [← eL] at hS ⊢
  have hS : va_S A s.heap H locs := by rw [eH]; exact hS
  have hP : va_P D vwCl (wl_MO_isState cI cL cR a_t a_t_width a_t_shift a_t_outOp a_t_outA a_t_outB a_t_transfers a_t_to a_t_op a_t_opA a_t_opB a_t_next a_t_gives a_t_state a_t_from a_t_by a_t_depth a_t_number a_t_part a_t_newPart a_t_node a_t_newNode a_t_parent a_t_born a_t_one a_t_pieces a_t_chain a_t_behind a_t_classOf a_t_classState t_thrown t_room t_registers t_bits t_inputs t_first t_isFresh t_isRoom t_walked t_parts t_nodes t_classes) H := by rw [eH]; exact hP
  suffices hgo : W p l e rm_MO_isState s m args below meth c H locs 0 0 Q (F0 m 0 ls []) by rw [eH] at hgo; exact hgo
  clear eH eL
  unfold wp_MO_isState at hw
  refine lv_iload_n hx hb d_MO_isState_0 rfl (lv_at hl 1 rfl) ?_
  refine lv_if_lt (tgt := 17) hx hb d_MO_isState_1 (by decide) (fun hc => ?_) (fun hc => ?_)
  · have hw := hw.1 hc
    refine lv_iconst (v := 0) hx hb d_MO_isState_17 (by decide) ?_
    exact hret 0 () H locs _ _ 18 ls d_MO_isState_18 rfl hP hD hS hw (Nat.le_refl 0) (Nat.le_refl 0)
  · have hw := hw.2 hc
    refine lv_iload_n hx hb d_MO_isState_4 rfl (lv_at hl 1 rfl) ?_
    refine lv_aload_n hx hb d_MO_isState_5 rfl (lv_at hl 0 rfl) ?_
    refine gf_MO_118 hx hb hts hown hK hP 0 rfl rfl d_MO_isState_6 ?_
    refine lv_ishr hx hb d_MO_isState_9 ?_
    refine lv_if_ne (tgt := 17) hx hb d_MO_isState_10 (by decide) (fun hc => ?_) (fun hc => ?_)
    · have hw := hw.1 hc
      refine lv_iconst (v := 0) hx hb d_MO_isState_17 (by decide) ?_
      exact hret 0 () H locs _ _ 18 ls d_MO_isState_18 rfl hP hD hS hw (Nat.le_refl 0) (Nat.le_refl 0)
    · have hw := hw.2 hc
      refine lv_iconst (v := 1) hx hb d_MO_isState_13 (by decide) ?_
      refine lv_goto (tgt := 18) hx hb d_MO_isState_14 (by decide) ?_
      exact hret 1 () H locs _ _ 18 ls d_MO_isState_18 rfl hP hD hS hw (Nat.le_refl 0) (Nat.le_refl 0)

abbrev wl_MO_first (cI cL cR : ClassId) (a_t : Nat) (a_t_width : Nat) (a_t_shift : Nat) (a_t_outOp : Nat) (a_t_outA : Nat) (a_t_outB : Nat) (a_t_transfers : Nat) (a_t_to : Nat) (a_t_op : Nat) (a_t_opA : Nat) (a_t_opB : Nat) (a_t_next : Nat) (a_t_gives : Nat) (a_t_state : Nat) (a_t_from : Nat) (a_t_by : Nat) (a_t_depth : Nat) (a_t_number : Nat) (a_t_part : Nat) (a_t_newPart : Nat) (a_t_node : Nat) (a_t_newNode : Nat) (a_t_parent : Nat) (a_t_born : Nat) (a_t_one : Nat) (a_t_pieces : Nat) (a_t_chain : Nat) (a_t_behind : Nat) (a_t_classOf : Nat) (a_t_classState : Nat) (t_thrown : Int32) (t_room : Int32) (t_registers : Int32) (t_bits : Int32) (t_inputs : Int32) (t_first : Int32) (t_isFresh : Int32) (t_isRoom : Int32) (t_walked : Int32) (t_parts : Int32) (t_nodes : Int32) (t_classes : Int32) : va_W := [(a_t, .inr (7, [.int t_thrown, .int t_room, .int t_registers, .int t_bits, .int t_inputs, .int t_first, .ref a_t_width, .ref a_t_shift, .ref a_t_outOp, .ref a_t_outA, .ref a_t_outB, .ref a_t_transfers, .ref a_t_to, .ref a_t_op, .ref a_t_opA, .ref a_t_opB, .int t_isFresh, .ref a_t_next, .ref a_t_gives, .int t_isRoom, .int t_walked, .ref a_t_state, .ref a_t_from, .ref a_t_by, .ref a_t_depth, .ref a_t_number, .int t_parts, .int t_nodes, .ref a_t_part, .ref a_t_newPart, .ref a_t_node, .ref a_t_newNode, .ref a_t_parent, .ref a_t_born, .ref a_t_one, .ref a_t_pieces, .ref a_t_chain, .ref a_t_behind, .int t_classes, .ref a_t_classOf, .ref a_t_classState]))]
def wp_MO_first (t_thrown : Int32) (t_room : Int32) (t_registers : Int32) (t_bits : Int32) (t_inputs : Int32) (t_first : Int32) (t_isFresh : Int32) (t_isRoom : Int32) (t_walked : Int32) (t_parts : Int32) (t_nodes : Int32) (t_classes : Int32) (a1 : Int32) (post : Int32 → Int32 → Int32 → Int32 → Prop) : Prop :=
  wp_MO_isState 0 t_room t_registers t_bits t_inputs t_first t_isFresh t_isRoom t_walked t_parts t_nodes t_classes a1 (fun r1 => ((¬ r1 = 0 → post t_first 0 a1 0) ∧ (r1 = 0 → wp_MO_fail 0 t_room t_registers t_bits t_inputs t_first t_isFresh t_isRoom t_walked t_parts t_nodes t_classes (1 : Int32) (fun r2 m_thrown_2 => post r2 m_thrown_2 t_first t_isFresh))))
abbrev rm_MO_first : Room := { frames := 2, cells := 0, slots := 0, locals := 34 }
set_option maxHeartbeats 4000000 in
set_option maxRecDepth 100000 in
theorem c_MO_first (l : Launch) (D : va_G) (cI cL cR : ClassId) (a_t a_t_width a_t_shift a_t_outOp a_t_outA a_t_outB a_t_transfers a_t_to a_t_op a_t_opA a_t_opB a_t_next a_t_gives a_t_state a_t_from a_t_by a_t_depth a_t_number a_t_part a_t_newPart a_t_node a_t_newNode a_t_parent a_t_born a_t_one a_t_pieces a_t_chain a_t_behind a_t_classOf a_t_classState : Nat) (t_thrown : Int32) (t_room : Int32) (t_registers : Int32) (t_bits : Int32) (t_inputs : Int32) (t_first : Int32) (t_isFresh : Int32) (t_isRoom : Int32) (t_walked : Int32) (t_parts : Int32) (t_nodes : Int32) (t_classes : Int32) (a1 : Int32) (sz : Nat) (post : Int32 → Int32 → Int32 → Int32 → Prop) (hw : wp_MO_first t_thrown t_room t_registers t_bits t_inputs t_first t_isFresh t_isRoom t_walked t_parts t_nodes t_classes a1 post) : ky_M ky_rI l y_MO_first (.code y_MO_first b_MO_first 3 (some .int) :: wsG) rm_MO_first D vwCl (ky_T cI cL cR) (wl_MO_first cI cL cR a_t a_t_width a_t_shift a_t_outOp a_t_outA a_t_outB a_t_transfers a_t_to a_t_op a_t_opA a_t_opB a_t_next a_t_gives a_t_state a_t_from a_t_by a_t_depth a_t_number a_t_part a_t_newPart a_t_node a_t_newNode a_t_parent a_t_born a_t_one a_t_pieces a_t_chain a_t_behind a_t_classOf a_t_classState t_thrown t_room t_registers t_bits t_inputs t_first t_isFresh t_isRoom t_walked t_parts t_nodes t_classes) sz [.ref a_t, .int a1] (fun r (u : Int32 × Int32 × Int32) => post r u.1 u.2.1 u.2.2) (fun u => wl_MO_first cI cL cR a_t a_t_width a_t_shift a_t_outOp a_t_outA a_t_outB a_t_transfers a_t_to a_t_op a_t_opA a_t_opB a_t_next a_t_gives a_t_state a_t_from a_t_by a_t_depth a_t_number a_t_part a_t_newPart a_t_node a_t_newNode a_t_parent a_t_born a_t_one a_t_pieces a_t_chain a_t_behind a_t_classOf a_t_classState u.1 t_room t_registers t_bits t_inputs u.2.1 u.2.2 t_isRoom t_walked t_parts t_nodes t_classes) := by
  refine ky_ofI (plainFor_of_name (by decide)) (Nat.le_of_ble_eq_true rfl) ?_
  intro p e s m args below meth c A Q ls hI hret
  obtain ⟨hx, hb, hml, hown, hin, hts, hK, hP, hD, hA, hS, hl⟩ := hI
  have hown : s.vm.findClass R_MO = some m.cls := hown
  have hl : lv_has ls 3 [(0, .ref a_t), (1, .int a1)] := hl
  obtain ⟨H, locs, eH, eL⟩ : ∃ (H : Heap) (locs : List Loc), H = s.heap ∧ locs = [] := ⟨_, _, rfl, rfl⟩
  rw [← eL] at hS ⊢
  have hS : va_S A s.heap H locs := by rw [eH]; exact hS
  have hP : va_P D vwCl (wl_MO_first cI cL cR a_t a_t_width a_t_shift a_t_outOp a_t_outA a_t_outB a_t_transfers a_t_to a_t_op a_t_opA a_t_opB a_t_next a_t_gives a_t_state a_t_from a_t_by a_t_depth a_t_number a_t_part a_t_newPart a_t_node a_t_newNode a_t_parent a_t_born a_t_one a_t_pieces a_t_chain a_t_behind a_t_classOf a_t_classState t_thrown t_room t_registers t_bits t_inputs t_first t_isFresh t_isRoom t_walked t_parts t_nodes t_classes) H := by rw [eH]; exact hP
  suffices hgo : W p l e rm_MO_first s m args below meth c H locs 0 0 Q (F0 m 0 ls []) by rw [eH] at hgo; exact hgo
  clear eH eL
  unfold wp_MO_first at hw
  refine lv_aload_n hx hb d_MO_first_0 rfl (lv_at hl 0 rfl) ?_
  refine lv_iconst (v := 0) hx hb d_MO_first_1 (by decide) ?_
  refine pf_MO_101 (v := .int 0) hx hb hts hown hK hP hD hS 0 rfl rfl rfl (Nat.le_of_ble_eq_true rfl) d_MO_first_2 (fun H locs hP hD hS => ?_)
  have hP : va_P D vwCl (wl_MO_first cI cL cR a_t a_t_width a_t_shift a_t_outOp a_t_outA a_t_outB a_t_transfers a_t_to a_t_op a_t_opA a_t_opB a_t_next a_t_gives a_t_state a_t_from a_t_by a_t_depth a_t_number a_t_part a_t_newPart a_t_node a_t_newNode a_t_parent a_t_born a_t_one a_t_pieces a_t_chain a_t_behind a_t_classOf a_t_classState 0 t_room t_registers t_bits t_inputs t_first t_isFresh t_isRoom t_walked t_parts t_nodes t_classes) H := hP
  have hD : va_D A (wl_MO_first cI cL cR a_t a_t_width a_t_shift a_t_outOp a_t_outA a_t_outB a_t_transfers a_t_to a_t_op a_t_opA a_t_opB a_t_next a_t_gives a_t_state a_t_from a_t_by a_t_depth a_t_number a_t_part a_t_newPart a_t_node a_t_newNode a_t_parent a_t_born a_t_one a_t_pieces a_t_chain a_t_behind a_t_classOf a_t_classState 0 t_room t_registers t_bits t_inputs t_first t_isFresh t_isRoom t_walked t_parts t_nodes t_classes) := hD
  refine lv_aload_n hx hb d_MO_first_5 rfl (lv_at hl 0 rfl) ?_
  refine lv_iload_n hx hb d_MO_first_6 rfl (lv_at hl 1 rfl) ?_
  refine ky_call (wr := []) hP hD hS hA [0] [] rfl rfl (by decide) (by decide) (va_runV (As := [.int a1]) (rest := []) ⟨hx, hb, hml, hown, hts⟩ (c_MO_isState l D cI cL cR a_t a_t_width a_t_shift a_t_outOp a_t_outA a_t_outB a_t_transfers a_t_to a_t_op a_t_opA a_t_opB a_t_next a_t_gives a_t_state a_t_from a_t_by a_t_depth a_t_number a_t_part a_t_newPart a_t_node a_t_newNode a_t_parent a_t_born a_t_one a_t_pieces a_t_chain a_t_behind a_t_classOf a_t_classState 0 t_room t_registers t_bits t_inputs t_first t_isFresh t_isRoom t_walked t_parts t_nodes t_classes a1 H.size _ hw) (cw_MO_132 hts ⟨Nat.le_of_ble_eq_true rfl, Nat.le_of_ble_eq_true rfl⟩) (ky_preV hK hP hD [0] rfl (by decide) rfl rfl) rfl rfl hl.1 rfl (lv_room (Nat.le_of_ble_eq_true rfl)) d_MO_first_7 ⟨Nat.le_refl 0, Nat.le_refl 0⟩) (fun r u H locs hw hP hD hS => ?_)
  obtain ⟨r1, rfl⟩ : ∃ z, z = r := ⟨_, rfl⟩
  have hP : va_P D vwCl (wl_MO_first cI cL cR a_t a_t_width a_t_shift a_t_outOp a_t_outA a_t_outB a_t_transfers a_t_to a_t_op a_t_opA a_t_opB a_t_next a_t_gives a_t_state a_t_from a_t_by a_t_depth a_t_number a_t_part a_t_newPart a_t_node a_t_newNode a_t_parent a_t_born a_t_one a_t_pieces a_t_chain a_t_behind a_t_classOf a_t_classState 0 t_room t_registers t_bits t_inputs t_first t_isFresh t_isRoom t_walked t_parts t_nodes t_classes) H := hP
  have hD : va_D A (wl_MO_first cI cL cR a_t a_t_width a_t_shift a_t_outOp a_t_outA a_t_outB a_t_transfers a_t_to a_t_op a_t_opA a_t_opB a_t_next a_t_gives a_t_state a_t_from a_t_by a_t_depth a_t_number a_t_part a_t_newPart a_t_node a_t_newNode a_t_parent a_t_born a_t_one a_t_pieces a_t_chain a_t_behind a_t_classOf a_t_classState 0 t_room t_registers t_bits t_inputs t_first t_isFresh t_isRoom t_walked t_parts t_nodes t_classes) := hD
  refine W.widen (k := 0) (n := 0) (Nat.le_refl _) (Nat.le_refl _) ?_
  refine W.eq (g2 := F0 m 10 ls [.int r1]) rfl ?_
  refine lv_if_ne (tgt := 19) hx hb d_MO_first_10 (by decide) (fun hc => ?_) (fun hc => ?_)
  · have hw := hw.1 hc
    refine lv_aload_n hx hb d_MO_first_19 rfl (lv_at hl 0 rfl) ?_
    refine gf_MO_135 hx hb hts hown hK hP 0 rfl rfl d_MO_first_20 ?_
    refine lv_istore_n (lv' := [(2, .int t_first), (0, .ref a_t), (1, .int a1)]) hx hb d_MO_first_23 rfl hl (by decide) rfl (fun ls hl => ?_)
    refine lv_aload_n hx hb d_MO_first_24 rfl (lv_at hl 1 rfl) ?_
    refine lv_iload_n hx hb d_MO_first_25 rfl (lv_at hl 2 rfl) ?_
    refine pf_MO_135 (v := .int a1) hx hb hts hown hK hP hD hS 0 rfl rfl rfl (Nat.le_of_ble_eq_true rfl) d_MO_first_26 (fun H locs hP hD hS => ?_)
    have hP : va_P D vwCl (wl_MO_first cI cL cR a_t a_t_width a_t_shift a_t_outOp a_t_outA a_t_outB a_t_transfers a_t_to a_t_op a_t_opA a_t_opB a_t_next a_t_gives a_t_state a_t_from a_t_by a_t_depth a_t_number a_t_part a_t_newPart a_t_node a_t_newNode a_t_parent a_t_born a_t_one a_t_pieces a_t_chain a_t_behind a_t_classOf a_t_classState 0 t_room t_registers t_bits t_inputs a1 t_isFresh t_isRoom t_walked t_parts t_nodes t_classes) H := hP
    have hD : va_D A (wl_MO_first cI cL cR a_t a_t_width a_t_shift a_t_outOp a_t_outA a_t_outB a_t_transfers a_t_to a_t_op a_t_opA a_t_opB a_t_next a_t_gives a_t_state a_t_from a_t_by a_t_depth a_t_number a_t_part a_t_newPart a_t_node a_t_newNode a_t_parent a_t_born a_t_one a_t_pieces a_t_chain a_t_behind a_t_classOf a_t_classState 0 t_room t_registers t_bits t_inputs a1 t_isFresh t_isRoom t_walked t_parts t_nodes t_classes) := hD
    refine lv_aload_n hx hb d_MO_first_29 rfl (lv_at hl 1 rfl) ?_
    refine lv_iconst (v := 0) hx hb d_MO_first_30 (by decide) ?_
    refine pf_MO_121 (v := .int 0) hx hb hts hown hK hP hD hS 0 rfl (by decide +kernel) (by decide +kernel) (Nat.le_of_ble_eq_true rfl) d_MO_first_31 (fun H locs hP hD hS => ?_)
    have hP : va_P D vwCl (wl_MO_first cI cL cR a_t a_t_width a_t_shift a_t_outOp a_t_outA a_t_outB a_t_transfers a_t_to a_t_op a_t_opA a_t_opB a_t_next a_t_gives a_t_state a_t_from a_t_by a_t_depth a_t_number a_t_part a_t_newPart a_t_node a_t_newNode a_t_parent a_t_born a_t_one a_t_pieces a_t_chain a_t_behind a_t_classOf a_t_classState 0 t_room t_registers t_bits t_inputs a1 0 t_isRoom t_walked t_parts t_nodes t_classes) H := hP
    have hD : va_D A (wl_MO_first cI cL cR a_t a_t_width a_t_shift a_t_outOp a_t_outA a_t_outB a_t_transfers a_t_to a_t_op a_t_opA a_t_opB a_t_next a_t_gives a_t_state a_t_from a_t_by a_t_depth a_t_number a_t_part a_t_newPart a_t_node a_t_newNode a_t_parent a_t_born a_t_one a_t_pieces a_t_chain a_t_behind a_t_classOf a_t_classState 0 t_room t_registers t_bits t_inputs a1 0 t_isRoom t_walked t_parts t_nodes t_classes) := hD
    refine lv_iload_n hx hb d_MO_first_34 rfl (lv_at hl 0 rfl) ?_
    exact hret t_first (0, a1, 0) H locs _ _ 35 ls d_MO_first_35 hP hD hS hw (Nat.le_refl 0) (Nat.le_refl 0)
  · have hw := hw.2 hc
    refine lv_aload_n hx hb d_MO_first_13 rfl (lv_at hl 0 rfl) ?_
    refine lv_iconst (v := 1) hx hb d_MO_first_14 (by decide) ?_
    refine ky_call (wr := []) hP hD hS hA [0] [] rfl rfl (by decide) (by decide) (va_runV (As := [.int 1]) (rest := []) ⟨hx, hb, hml, hown, hts⟩ (c_MO_fail l D cI cL cR a_t a_t_width a_t_shift a_t_outOp a_t_outA a_t_outB a_t_transfers a_t_to a_t_op a_t_opA a_t_opB a_t_next a_t_gives a_t_state a_t_from a_t_by a_t_depth a_t_number a_t_part a_t_newPart a_t_node a_t_newNode a_t_parent a_t_born a_t_one a_t_pieces a_t_chain a_t_behind a_t_classOf a_t_classState 0 t_room t_registers t_bits t_inputs t_first t_isFresh t_isRoom t_walked t_parts t_nodes t_classes (1 : Int32) H.size _ hw) (cw_MO_108 hts ⟨Nat.le_of_ble_eq_true rfl, Nat.le_of_ble_eq_true rfl⟩) (ky_preV hK hP hD [0] rfl (by decide) rfl rfl) rfl rfl hl.1 rfl (lv_room (Nat.le_of_ble_eq_true rfl)) d_MO_first_15 ⟨Nat.le_refl 0, Nat.le_refl 0⟩) (fun r u H locs hw hP hD hS => ?_)
    obtain ⟨m_thrown_2, rfl⟩ : ∃ z, z = u := ⟨_, rfl⟩
    obtain ⟨r2, rfl⟩ : ∃ z, z = r := ⟨_, rfl⟩
    try dsimp only at hw
    have hP : va_P D vwCl (wl_MO_first cI cL cR a_t a_t_width a_t_shift a_t_outOp a_t_outA a_t_outB a_t_transfers a_t_to a_t_op a_t_opA a_t_opB a_t_next a_t_gives a_t_state a_t_from a_t_by a_t_depth a_t_number a_t_part a_t_newPart a_t_node a_t_newNode a_t_parent a_t_born a_t_one a_t_pieces a_t_chain a_t_behind a_t_classOf a_t_classState m_thrown_2 t_room t_registers t_bits t_inputs t_first t_isFresh t_isRoom t_walked t_parts t_nodes t_classes) H := hP
    have hD : va_D A (wl_MO_first cI cL cR a_t a_t_width a_t_shift a_t_outOp a_t_outA a_t_outB a_t_transfers a_t_to a_t_op a_t_opA a_t_opB a_t_next a_t_gives a_t_state a_t_from a_t_by a_t_depth a_t_number a_t_part a_t_newPart a_t_node a_t_newNode a_t_parent a_t_born a_t_one a_t_pieces a_t_chain a_t_behind a_t_classOf a_t_classState m_thrown_2 t_room t_registers t_bits t_inputs t_first t_isFresh t_isRoom t_walked t_parts t_nodes t_classes) := hD
    refine W.widen (k := 0) (n := 0) (Nat.le_refl _) (Nat.le_refl _) ?_
    refine W.eq (g2 := F0 m 18 ls [.int r2]) rfl ?_
    exact hret r2 (m_thrown_2, t_first, t_isFresh) H locs _ _ 18 ls d_MO_first_18 hP hD hS hw (Nat.le_refl 0) (Nat.le_refl 0)

abbrev wl_MO_valueOf (cI cL cR : ClassId) (a_t : Nat) (a_t_width : Nat) (a_t_shift : Nat) (a_t_outOp : Nat) (a_t_outA : Nat) (a_t_outB : Nat) (a_t_transfers : Nat) (a_t_to : Nat) (a_t_op : Nat) (a_t_opA : Nat) (a_t_opB : Nat) (a_t_next : Nat) (a_t_gives : Nat) (a_t_state : Nat) (a_t_from : Nat) (a_t_by : Nat) (a_t_depth : Nat) (a_t_number : Nat) (a_t_part : Nat) (a_t_newPart : Nat) (a_t_node : Nat) (a_t_newNode : Nat) (a_t_parent : Nat) (a_t_born : Nat) (a_t_one : Nat) (a_t_pieces : Nat) (a_t_chain : Nat) (a_t_behind : Nat) (a_t_classOf : Nat) (a_t_classState : Nat) (t_thrown : Int32) (t_room : Int32) (t_registers : Int32) (t_bits : Int32) (t_inputs : Int32) (t_first : Int32) (t_isFresh : Int32) (t_isRoom : Int32) (t_walked : Int32) (t_parts : Int32) (t_nodes : Int32) (t_classes : Int32) (n_t_width : Nat) (f_t_width : Nat → Int32) (n_t_shift : Nat) (f_t_shift : Nat → Int32) : va_W := [(a_t, .inr (7, [.int t_thrown, .int t_room, .int t_registers, .int t_bits, .int t_inputs, .int t_first, .ref a_t_width, .ref a_t_shift, .ref a_t_outOp, .ref a_t_outA, .ref a_t_outB, .ref a_t_transfers, .ref a_t_to, .ref a_t_op, .ref a_t_opA, .ref a_t_opB, .int t_isFresh, .ref a_t_next, .ref a_t_gives, .int t_isRoom, .int t_walked, .ref a_t_state, .ref a_t_from, .ref a_t_by, .ref a_t_depth, .ref a_t_number, .int t_parts, .int t_nodes, .ref a_t_part, .ref a_t_newPart, .ref a_t_node, .ref a_t_newNode, .ref a_t_parent, .ref a_t_born, .ref a_t_one, .ref a_t_pieces, .ref a_t_chain, .ref a_t_behind, .int t_classes, .ref a_t_classOf, .ref a_t_classState])), (a_t_width, .inl (cI, n_t_width, .inl f_t_width)), (a_t_shift, .inl (cI, n_t_shift, .inl f_t_shift))]
def wp_MO_valueOf (t_thrown : Int32) (t_room : Int32) (t_registers : Int32) (t_bits : Int32) (t_inputs : Int32) (t_first : Int32) (t_isFresh : Int32) (t_isRoom : Int32) (t_walked : Int32) (t_parts : Int32) (t_nodes : Int32) (t_classes : Int32) (n_t_width : Nat) (f_t_width : Nat → Int32) (n_t_shift : Nat) (f_t_shift : Nat → Int32) (a1 : Int32) (a2 : Int32) (post : Int32 → Prop) : Prop :=
  (((0 : Int32) ≤ a2 → (vp_in a2 n_t_shift ∧ (vp_in a2 n_t_width ∧ post ((a1 >>> ((f_t_shift a2.toNatClampNeg) &&& 31)) &&& (((1 : Int32) <<< ((f_t_width a2.toNatClampNeg) &&& 31)) - (1 : Int32)))))) ∧ (¬ (0 : Int32) ≤ a2 → post (((-1) : Int32) - a2)))
abbrev rm_MO_valueOf : Room := { frames := 1, cells := 0, slots := 0, locals := 12 }
set_option maxHeartbeats 4000000 in
set_option maxRecDepth 100000 in
theorem c_MO_valueOf (l : Launch) (D : va_G) (cI cL cR : ClassId) (a_t a_t_width a_t_shift a_t_outOp a_t_outA a_t_outB a_t_transfers a_t_to a_t_op a_t_opA a_t_opB a_t_next a_t_gives a_t_state a_t_from a_t_by a_t_depth a_t_number a_t_part a_t_newPart a_t_node a_t_newNode a_t_parent a_t_born a_t_one a_t_pieces a_t_chain a_t_behind a_t_classOf a_t_classState : Nat) (t_thrown : Int32) (t_room : Int32) (t_registers : Int32) (t_bits : Int32) (t_inputs : Int32) (t_first : Int32) (t_isFresh : Int32) (t_isRoom : Int32) (t_walked : Int32) (t_parts : Int32) (t_nodes : Int32) (t_classes : Int32) (n_t_width : Nat) (f_t_width : Nat → Int32) (n_t_shift : Nat) (f_t_shift : Nat → Int32) (a1 : Int32) (a2 : Int32) (sz : Nat) (post : Int32 → Prop) (hw : wp_MO_valueOf t_thrown t_room t_registers t_bits t_inputs t_first t_isFresh t_isRoom t_walked t_parts t_nodes t_classes n_t_width f_t_width n_t_shift f_t_shift a1 a2 post) : ky_M ky_rI l y_MO_valueOf (.code y_MO_valueOf b_MO_valueOf 3 (some .int) :: wsG) rm_MO_valueOf D vwCl (ky_T cI cL cR) (wl_MO_valueOf cI cL cR a_t a_t_width a_t_shift a_t_outOp a_t_outA a_t_outB a_t_transfers a_t_to a_t_op a_t_opA a_t_opB a_t_next a_t_gives a_t_state a_t_from a_t_by a_t_depth a_t_number a_t_part a_t_newPart a_t_node a_t_newNode a_t_parent a_t_born a_t_one a_t_pieces a_t_chain a_t_behind a_t_classOf a_t_classState t_thrown t_room t_registers t_bits t_inputs t_first t_isFresh t_isRoom t_walked t_parts t_nodes t_classes n_t_width f_t_width n_t_shift f_t_shift) sz [.ref a_t, .int a1, .int a2] (fun r (u : Unit) => post r) (fun u => wl_MO_valueOf cI cL cR a_t a_t_width a_t_shift a_t_outOp a_t_outA a_t_outB a_t_transfers a_t_to a_t_op a_t_opA a_t_opB a_t_next a_t_gives a_t_state a_t_from a_t_by a_t_depth a_t_number a_t_part a_t_newPart a_t_node a_t_newNode a_t_parent a_t_born a_t_one a_t_pieces a_t_chain a_t_behind a_t_classOf a_t_classState t_thrown t_room t_registers t_bits t_inputs t_first t_isFresh t_isRoom t_walked t_parts t_nodes t_classes n_t_width f_t_width n_t_shift f_t_shift) := by
  refine ky_ofI (plainFor_of_name (by decide)) (Nat.le_of_ble_eq_true rfl) ?_
  intro p e s m args below meth c A Q ls hI hret
  obtain ⟨hx, hb, hml, hown, hin, hts, hK, hP, hD, hA, hS, hl⟩ := hI
  have hown : s.vm.findClass R_MO = some m.cls := hown
  have hl : lv_has ls 3 [(0, .ref a_t), (1, .int a1), (2, .int a2)] := hl
  obtain ⟨H, locs, eH, eL⟩ : ∃ (H : Heap) (locs : List Loc), H = s.heap ∧ locs = [] := ⟨_, _, rfl, rfl⟩
  rw [← eL] at hS ⊢
  have hS : va_S A s.heap H locs := by rw [eH]; exact hS
  have hP : va_P D vwCl (wl_MO_valueOf cI cL cR a_t a_t_width a_t_shift a_t_outOp a_t_outA a_t_outB a_t_transfers a_t_to a_t_op a_t_opA a_t_opB a_t_next a_t_gives a_t_state a_t_from a_t_by a_t_depth a_t_number a_t_part a_t_newPart a_t_node a_t_newNode a_t_parent a_t_born a_t_one a_t_pieces a_t_chain a_t_behind a_t_classOf a_t_classState t_thrown t_room t_registers t_bits t_inputs t_first t_isFresh t_isRoom t_walked t_parts t_nodes t_classes n_t_width f_t_width n_t_shift f_t_shift) H := by rw [eH]; exact hP
  suffices hgo : W p l e rm_MO_valueOf s m args below meth c H locs 0 0 Q (F0 m 0 ls []) by rw [eH] at hgo; exact hgo
  clear eH eL
  unfold wp_MO_valueOf at hw
  refine lv_iload_n hx hb d_MO_valueOf_0 rfl (lv_at hl 2 rfl) ?_
  refine lv_if_ge (tgt := 10) hx hb d_MO_valueOf_1 (by decide) (fun hc => ?_) (fun hc => ?_)
  · have hw := hw.1 hc
    refine lv_iload_n hx hb d_MO_valueOf_10 rfl (lv_at hl 1 rfl) ?_
    refine lv_aload_n hx hb d_MO_valueOf_11 rfl (lv_at hl 0 rfl) ?_
    refine gf_MO_13 hx hb hts hown hK hP 0 rfl rfl d_MO_valueOf_12 ?_
    refine lv_iload_n hx hb d_MO_valueOf_15 rfl (lv_at hl 2 rfl) ?_
    obtain ⟨h1, hw⟩ := hw
    refine va_iald hx hb hK hP 2 0 rfl rfl h1 d_MO_valueOf_16 ?_
    refine lv_ishr hx hb d_MO_valueOf_17 ?_
    refine lv_iconst (v := 1) hx hb d_MO_valueOf_18 (by decide) ?_
    refine lv_aload_n hx hb d_MO_valueOf_19 rfl (lv_at hl 0 rfl) ?_
    refine gf_MO_7 hx hb hts hown hK hP 0 rfl rfl d_MO_valueOf_20 ?_
    refine lv_iload_n hx hb d_MO_valueOf_23 rfl (lv_at hl 2 rfl) ?_
    obtain ⟨h1, hw⟩ := hw
    refine va_iald hx hb hK hP 1 0 rfl rfl h1 d_MO_valueOf_24 ?_
    refine lv_ishl hx hb d_MO_valueOf_25 ?_
    refine lv_iconst (v := 1) hx hb d_MO_valueOf_26 (by decide) ?_
    refine lv_isub hx hb d_MO_valueOf_27 ?_
    refine lv_iand hx hb d_MO_valueOf_28 ?_
    exact hret ((a1 >>> ((f_t_shift a2.toNatClampNeg) &&& 31)) &&& (((1 : Int32) <<< ((f_t_width a2.toNatClampNeg) &&& 31)) - (1 : Int32))) () H locs _ _ 29 ls d_MO_valueOf_29 hP hD hS hw (Nat.le_refl 0) (Nat.le_refl 0)
  · have hw := hw.2 hc
    refine lv_iconst (v := (-1)) hx hb d_MO_valueOf_4 (by decide) ?_
    refine lv_iload_n hx hb d_MO_valueOf_5 rfl (lv_at hl 2 rfl) ?_
    refine lv_isub hx hb d_MO_valueOf_6 ?_
    refine lv_goto (tgt := 29) hx hb d_MO_valueOf_7 (by decide) ?_
    exact hret (((-1) : Int32) - a2) () H locs _ _ 29 ls d_MO_valueOf_29 hP hD hS hw (Nat.le_refl 0) (Nat.le_refl 0)

abbrev wl_MO_result (cI cL cR : ClassId) (a_t : Nat) (a_t_width : Nat) (a_t_shift : Nat) (a_t_outOp : Nat) (a_t_outA : Nat) (a_t_outB : Nat) (a_t_transfers : Nat) (a_t_to : Nat) (a_t_op : Nat) (a_t_opA : Nat) (a_t_opB : Nat) (a_t_next : Nat) (a_t_gives : Nat) (a_t_state : Nat) (a_t_from : Nat) (a_t_by : Nat) (a_t_depth : Nat) (a_t_number : Nat) (a_t_part : Nat) (a_t_newPart : Nat) (a_t_node : Nat) (a_t_newNode : Nat) (a_t_parent : Nat) (a_t_born : Nat) (a_t_one : Nat) (a_t_pieces : Nat) (a_t_chain : Nat) (a_t_behind : Nat) (a_t_classOf : Nat) (a_t_classState : Nat) (t_thrown : Int32) (t_room : Int32) (t_registers : Int32) (t_bits : Int32) (t_inputs : Int32) (t_first : Int32) (t_isFresh : Int32) (t_isRoom : Int32) (t_walked : Int32) (t_parts : Int32) (t_nodes : Int32) (t_classes : Int32) (n_t_width : Nat) (f_t_width : Nat → Int32) (n_t_shift : Nat) (f_t_shift : Nat → Int32) : va_W := [(a_t, .inr (7, [.int t_thrown, .int t_room, .int t_registers, .int t_bits, .int t_inputs, .int t_first, .ref a_t_width, .ref a_t_shift, .ref a_t_outOp, .ref a_t_outA, .ref a_t_outB, .ref a_t_transfers, .ref a_t_to, .ref a_t_op, .ref a_t_opA, .ref a_t_opB, .int t_isFresh, .ref a_t_next, .ref a_t_gives, .int t_isRoom, .int t_walked, .ref a_t_state, .ref a_t_from, .ref a_t_by, .ref a_t_depth, .ref a_t_number, .int t_parts, .int t_nodes, .ref a_t_part, .ref a_t_newPart, .ref a_t_node, .ref a_t_newNode, .ref a_t_parent, .ref a_t_born, .ref a_t_one, .ref a_t_pieces, .ref a_t_chain, .ref a_t_behind, .int t_classes, .ref a_t_classOf, .ref a_t_classState])), (a_t_width, .inl (cI, n_t_width, .inl f_t_width)), (a_t_shift, .inl (cI, n_t_shift, .inl f_t_shift))]
def wp_MO_result (t_thrown : Int32) (t_room : Int32) (t_registers : Int32) (t_bits : Int32) (t_inputs : Int32) (t_first : Int32) (t_isFresh : Int32) (t_isRoom : Int32) (t_walked : Int32) (t_parts : Int32) (t_nodes : Int32) (t_classes : Int32) (n_t_width : Nat) (f_t_width : Nat → Int32) (n_t_shift : Nat) (f_t_shift : Nat → Int32) (a1 : Int32) (a2 : Int32) (a3 : Int32) (a4 : Int32) (post : Int32 → Prop) : Prop :=
  wp_MO_valueOf t_thrown t_room t_registers t_bits t_inputs t_first t_isFresh t_isRoom t_walked t_parts t_nodes t_classes n_t_width f_t_width n_t_shift f_t_shift a1 a3 (fun r1 => wp_MO_valueOf t_thrown t_room t_registers t_bits t_inputs t_first t_isFresh t_isRoom t_walked t_parts t_nodes t_classes n_t_width f_t_width n_t_shift f_t_shift a1 a4 (fun r2 => ((a2 = 0 → post (r1 + r2)) ∧ ((a2 = 1 → post (r1 - r2)) ∧ ((a2 = 2 → post (r1 &&& r2)) ∧ ((a2 = 3 → post (r1 ||| r2)) ∧ ((a2 = 4 → post (r1 ^^^ r2)) ∧ ((a2 = 5 → post (r1 * r2)) ∧ ((a2 = 6 → ((r2 ≤ r1 → post 0) ∧ (¬ r2 ≤ r1 → post 1))) ∧ ((a2 = 7 → ((¬ r1 = r2 → post 0) ∧ (r1 = r2 → post 1))) ∧ ((a2 = 8 → ((r2 = 0 → post 0) ∧ (¬ r2 = 0 → post r1))) ∧ (¬ a2 = 0 → ¬ a2 = 1 → ¬ a2 = 2 → ¬ a2 = 3 → ¬ a2 = 4 → ¬ a2 = 5 → ¬ a2 = 6 → ¬ a2 = 7 → ¬ a2 = 8 → post ((r1 / (2 : Int32)) + ((8 : Int32) * r2))))))))))))))
abbrev rm_MO_result : Room := { frames := 2, cells := 0, slots := 0, locals := 35 }
set_option maxHeartbeats 4000000 in
set_option maxRecDepth 100000 in
theorem c_MO_result (l : Launch) (D : va_G) (cI cL cR : ClassId) (a_t a_t_width a_t_shift a_t_outOp a_t_outA a_t_outB a_t_transfers a_t_to a_t_op a_t_opA a_t_opB a_t_next a_t_gives a_t_state a_t_from a_t_by a_t_depth a_t_number a_t_part a_t_newPart a_t_node a_t_newNode a_t_parent a_t_born a_t_one a_t_pieces a_t_chain a_t_behind a_t_classOf a_t_classState : Nat) (t_thrown : Int32) (t_room : Int32) (t_registers : Int32) (t_bits : Int32) (t_inputs : Int32) (t_first : Int32) (t_isFresh : Int32) (t_isRoom : Int32) (t_walked : Int32) (t_parts : Int32) (t_nodes : Int32) (t_classes : Int32) (n_t_width : Nat) (f_t_width : Nat → Int32) (n_t_shift : Nat) (f_t_shift : Nat → Int32) (a1 : Int32) (a2 : Int32) (a3 : Int32) (a4 : Int32) (sz : Nat) (post : Int32 → Prop) (hw : wp_MO_result t_thrown t_room t_registers t_bits t_inputs t_first t_isFresh t_isRoom t_walked t_parts t_nodes t_classes n_t_width f_t_width n_t_shift f_t_shift a1 a2 a3 a4 post) : ky_M ky_rI l y_MO_result (.code y_MO_result b_MO_result 7 (some .int) :: wsG) rm_MO_result D vwCl (ky_T cI cL cR) (wl_MO_result cI cL cR a_t a_t_width a_t_shift a_t_outOp a_t_outA a_t_outB a_t_transfers a_t_to a_t_op a_t_opA a_t_opB a_t_next a_t_gives a_t_state a_t_from a_t_by a_t_depth a_t_number a_t_part a_t_newPart a_t_node a_t_newNode a_t_parent a_t_born a_t_one a_t_pieces a_t_chain a_t_behind a_t_classOf a_t_classState t_thrown t_room t_registers t_bits t_inputs t_first t_isFresh t_isRoom t_walked t_parts t_nodes t_classes n_t_width f_t_width n_t_shift f_t_shift) sz [.ref a_t, .int a1, .int a2, .int a3, .int a4] (fun r (u : Unit) => post r) (fun u => wl_MO_result cI cL cR a_t a_t_width a_t_shift a_t_outOp a_t_outA a_t_outB a_t_transfers a_t_to a_t_op a_t_opA a_t_opB a_t_next a_t_gives a_t_state a_t_from a_t_by a_t_depth a_t_number a_t_part a_t_newPart a_t_node a_t_newNode a_t_parent a_t_born a_t_one a_t_pieces a_t_chain a_t_behind a_t_classOf a_t_classState t_thrown t_room t_registers t_bits t_inputs t_first t_isFresh t_isRoom t_walked t_parts t_nodes t_classes n_t_width f_t_width n_t_shift f_t_shift) := by
  refine ky_ofI (plainFor_of_name (by decide)) (Nat.le_of_ble_eq_true rfl) ?_
  intro p e s m args below meth c A Q ls hI hret
  obtain ⟨hx, hb, hml, hown, hin, hts, hK, hP, hD, hA, hS, hl⟩ := hI
  have hown : s.vm.findClass R_MO = some m.cls := hown
  have hl : lv_has ls 7 [(0, .ref a_t), (1, .int a1), (2, .int a2), (3, .int a3), (4, .int a4)] := hl
  obtain ⟨H, locs, eH, eL⟩ : ∃ (H : Heap) (locs : List Loc), H = s.heap ∧ locs = [] := ⟨_, _, rfl, rfl⟩
  rw [← eL] at hS ⊢
  have hS : va_S A s.heap H locs := by rw [eH]; exact hS
  have hP : va_P D vwCl (wl_MO_result cI cL cR a_t a_t_width a_t_shift a_t_outOp a_t_outA a_t_outB a_t_transfers a_t_to a_t_op a_t_opA a_t_opB a_t_next a_t_gives a_t_state a_t_from a_t_by a_t_depth a_t_number a_t_part a_t_newPart a_t_node a_t_newNode a_t_parent a_t_born a_t_one a_t_pieces a_t_chain a_t_behind a_t_classOf a_t_classState t_thrown t_room t_registers t_bits t_inputs t_first t_isFresh t_isRoom t_walked t_parts t_nodes t_classes n_t_width f_t_width n_t_shift f_t_shift) H := by rw [eH]; exact hP
  suffices hgo : W p l e rm_MO_result s m args below meth c H locs 0 0 Q (F0 m 0 ls []) by rw [eH] at hgo; exact hgo
  clear eH eL
  unfold wp_MO_result at hw
  refine lv_aload_n hx hb d_MO_result_0 rfl (lv_at hl 0 rfl) ?_
  refine lv_iload_n hx hb d_MO_result_1 rfl (lv_at hl 1 rfl) ?_
  refine lv_iload_n hx hb d_MO_result_2 rfl (lv_at hl 3 rfl) ?_
  refine ky_call (wr := []) hP hD hS hA [0, 1, 2] [] rfl rfl (by decide) (by decide) (va_runV (As := [.int a1, .int a3]) (rest := []) ⟨hx, hb, hml, hown, hts⟩ (c_MO_valueOf l D cI cL cR a_t a_t_width a_t_shift a_t_outOp a_t_outA a_t_outB a_t_transfers a_t_to a_t_op a_t_opA a_t_opB a_t_next a_t_gives a_t_state a_t_from a_t_by a_t_depth a_t_number a_t_part a_t_newPart a_t_node a_t_newNode a_t_parent a_t_born a_t_one a_t_pieces a_t_chain a_t_behind a_t_classOf a_t_classState t_thrown t_room t_registers t_bits t_inputs t_first t_isFresh t_isRoom t_walked t_parts t_nodes t_classes n_t_width f_t_width n_t_shift f_t_shift a1 a3 H.size _ hw) (cw_MO_138 hts ⟨Nat.le_of_ble_eq_true rfl, Nat.le_of_ble_eq_true rfl⟩) (ky_preV hK hP hD [0, 1, 2] rfl (by decide) rfl rfl) rfl rfl hl.1 rfl (lv_room (Nat.le_of_ble_eq_true rfl)) d_MO_result_3 ⟨Nat.le_refl 0, Nat.le_refl 0⟩) (fun r u H locs hw hP hD hS => ?_)
  obtain ⟨r1, rfl⟩ : ∃ z, z = r := ⟨_, rfl⟩
  have hP : va_P D vwCl (wl_MO_result cI cL cR a_t a_t_width a_t_shift a_t_outOp a_t_outA a_t_outB a_t_transfers a_t_to a_t_op a_t_opA a_t_opB a_t_next a_t_gives a_t_state a_t_from a_t_by a_t_depth a_t_number a_t_part a_t_newPart a_t_node a_t_newNode a_t_parent a_t_born a_t_one a_t_pieces a_t_chain a_t_behind a_t_classOf a_t_classState t_thrown t_room t_registers t_bits t_inputs t_first t_isFresh t_isRoom t_walked t_parts t_nodes t_classes n_t_width f_t_width n_t_shift f_t_shift) H := hP
  have hD : va_D A (wl_MO_result cI cL cR a_t a_t_width a_t_shift a_t_outOp a_t_outA a_t_outB a_t_transfers a_t_to a_t_op a_t_opA a_t_opB a_t_next a_t_gives a_t_state a_t_from a_t_by a_t_depth a_t_number a_t_part a_t_newPart a_t_node a_t_newNode a_t_parent a_t_born a_t_one a_t_pieces a_t_chain a_t_behind a_t_classOf a_t_classState t_thrown t_room t_registers t_bits t_inputs t_first t_isFresh t_isRoom t_walked t_parts t_nodes t_classes n_t_width f_t_width n_t_shift f_t_shift) := hD
  refine W.widen (k := 0) (n := 0) (Nat.le_refl _) (Nat.le_refl _) ?_
  refine W.eq (g2 := F0 m 6 ls [.int r1]) rfl ?_
  refine lv_istore (lv' := [(5, .int r1), (0, .ref a_t), (1, .int a1), (2, .int a2), (3, .int a3), (4, .int a4)]) hx hb d_MO_result_6 hl (by decide) rfl (fun ls hl => ?_)
  refine lv_aload_n hx hb d_MO_result_8 rfl (lv_at hl 1 rfl) ?_
  refine lv_iload_n hx hb d_MO_result_9 rfl (lv_at hl 2 rfl) ?_
  refine lv_iload hx hb d_MO_result_10 (lv_at hl 5 rfl) ?_
  refine ky_call (wr := []) hP hD hS hA [0, 1, 2] [] rfl rfl (by decide) (by decide) (va_runV (As := [.int a1, .int a4]) (rest := []) ⟨hx, hb, hml, hown, hts⟩ (c_MO_valueOf l D cI cL cR a_t a_t_width a_t_shift a_t_outOp a_t_outA a_t_outB a_t_transfers a_t_to a_t_op a_t_opA a_t_opB a_t_next a_t_gives a_t_state a_t_from a_t_by a_t_depth a_t_number a_t_part a_t_newPart a_t_node a_t_newNode a_t_parent a_t_born a_t_one a_t_pieces a_t_chain a_t_behind a_t_classOf a_t_classState t_thrown t_room t_registers t_bits t_inputs t_first t_isFresh t_isRoom t_walked t_parts t_nodes t_classes n_t_width f_t_width n_t_shift f_t_shift a1 a4 H.size _ hw) (cw_MO_138 hts ⟨Nat.le_of_ble_eq_true rfl, Nat.le_of_ble_eq_true rfl⟩) (ky_preV hK hP hD [0, 1, 2] rfl (by decide) rfl rfl) rfl rfl hl.1 rfl (lv_room (Nat.le_of_ble_eq_true rfl)) d_MO_result_12 ⟨Nat.le_refl 0, Nat.le_refl 0⟩) (fun r u H locs hw hP hD hS => ?_)
  obtain ⟨r2, rfl⟩ : ∃ z, z = r := ⟨_, rfl⟩
  have hP : va_P D vwCl (wl_MO_result cI cL cR a_t a_t_width a_t_shift a_t_outOp a_t_outA a_t_outB a_t_transfers a_t_to a_t_op a_t_opA a_t_opB a_t_next a_t_gives a_t_state a_t_from a_t_by a_t_depth a_t_number a_t_part a_t_newPart a_t_node a_t_newNode a_t_parent a_t_born a_t_one a_t_pieces a_t_chain a_t_behind a_t_classOf a_t_classState t_thrown t_room t_registers t_bits t_inputs t_first t_isFresh t_isRoom t_walked t_parts t_nodes t_classes n_t_width f_t_width n_t_shift f_t_shift) H := hP
  have hD : va_D A (wl_MO_result cI cL cR a_t a_t_width a_t_shift a_t_outOp a_t_outA a_t_outB a_t_transfers a_t_to a_t_op a_t_opA a_t_opB a_t_next a_t_gives a_t_state a_t_from a_t_by a_t_depth a_t_number a_t_part a_t_newPart a_t_node a_t_newNode a_t_parent a_t_born a_t_one a_t_pieces a_t_chain a_t_behind a_t_classOf a_t_classState t_thrown t_room t_registers t_bits t_inputs t_first t_isFresh t_isRoom t_walked t_parts t_nodes t_classes n_t_width f_t_width n_t_shift f_t_shift) := hD
  refine W.widen (k := 0) (n := 0) (Nat.le_refl _) (Nat.le_refl _) ?_
  refine W.eq (g2 := F0 m 15 ls [.int r2]) rfl ?_
  refine lv_istore (lv' := [(6, .int r2), (5, .int r1), (0, .ref a_t), (1, .int a1), (2, .int a2), (3, .int a3), (4, .int a4)]) hx hb d_MO_result_15 hl (by decide) rfl (fun ls hl => ?_)
  refine lv_iload_n hx hb d_MO_result_17 rfl (lv_at hl 4 rfl) ?_
  by_cases hs18_0 : a2 = 0
  · have hw := hw.1 hs18_0
    refine lv_tableIn (off := 50) (tgt := 68) hx hb d_MO_result_18 (by rw [hs18_0]; decide) (by rw [hs18_0]; decide) (by rw [hs18_0]; rfl) (by decide) ?_
    refine lv_iload hx hb d_MO_result_68 (lv_at hl 1 rfl) ?_
    refine lv_iload hx hb d_MO_result_70 (lv_at hl 0 rfl) ?_
    refine lv_iadd hx hb d_MO_result_72 ?_
    exact hret (r1 + r2) () H locs _ _ 73 ls d_MO_result_73 hP hD hS hw (Nat.le_refl 0) (Nat.le_refl 0)
  have hw := hw.2
  by_cases hs18_1 : a2 = 1
  · have hw := hw.1 hs18_1
    refine lv_tableIn (off := 56) (tgt := 74) hx hb d_MO_result_18 (by rw [hs18_1]; decide) (by rw [hs18_1]; decide) (by rw [hs18_1]; rfl) (by decide) ?_
    refine lv_iload hx hb d_MO_result_74 (lv_at hl 1 rfl) ?_
    refine lv_iload hx hb d_MO_result_76 (lv_at hl 0 rfl) ?_
    refine lv_isub hx hb d_MO_result_78 ?_
    exact hret (r1 - r2) () H locs _ _ 79 ls d_MO_result_79 hP hD hS hw (Nat.le_refl 0) (Nat.le_refl 0)
  have hw := hw.2
  by_cases hs18_2 : a2 = 2
  · have hw := hw.1 hs18_2
    refine lv_tableIn (off := 62) (tgt := 80) hx hb d_MO_result_18 (by rw [hs18_2]; decide) (by rw [hs18_2]; decide) (by rw [hs18_2]; rfl) (by decide) ?_
    refine lv_iload hx hb d_MO_result_80 (lv_at hl 1 rfl) ?_
    refine lv_iload hx hb d_MO_result_82 (lv_at hl 0 rfl) ?_
    refine lv_iand hx hb d_MO_result_84 ?_
    exact hret (r1 &&& r2) () H locs _ _ 85 ls d_MO_result_85 hP hD hS hw (Nat.le_refl 0) (Nat.le_refl 0)
  have hw := hw.2
  by_cases hs18_3 : a2 = 3
  · have hw := hw.1 hs18_3
    refine lv_tableIn (off := 68) (tgt := 86) hx hb d_MO_result_18 (by rw [hs18_3]; decide) (by rw [hs18_3]; decide) (by rw [hs18_3]; rfl) (by decide) ?_
    refine lv_iload hx hb d_MO_result_86 (lv_at hl 1 rfl) ?_
    refine lv_iload hx hb d_MO_result_88 (lv_at hl 0 rfl) ?_
    refine lv_ior hx hb d_MO_result_90 ?_
    exact hret (r1 ||| r2) () H locs _ _ 91 ls d_MO_result_91 hP hD hS hw (Nat.le_refl 0) (Nat.le_refl 0)
  have hw := hw.2
  by_cases hs18_4 : a2 = 4
  · have hw := hw.1 hs18_4
    refine lv_tableIn (off := 74) (tgt := 92) hx hb d_MO_result_18 (by rw [hs18_4]; decide) (by rw [hs18_4]; decide) (by rw [hs18_4]; rfl) (by decide) ?_
    refine lv_iload hx hb d_MO_result_92 (lv_at hl 1 rfl) ?_
    refine lv_iload hx hb d_MO_result_94 (lv_at hl 0 rfl) ?_
    refine lv_ixor hx hb d_MO_result_96 ?_
    exact hret (r1 ^^^ r2) () H locs _ _ 97 ls d_MO_result_97 hP hD hS hw (Nat.le_refl 0) (Nat.le_refl 0)
  have hw := hw.2
  by_cases hs18_5 : a2 = 5
  · have hw := hw.1 hs18_5
    refine lv_tableIn (off := 80) (tgt := 98) hx hb d_MO_result_18 (by rw [hs18_5]; decide) (by rw [hs18_5]; decide) (by rw [hs18_5]; rfl) (by decide) ?_
    refine lv_iload hx hb d_MO_result_98 (lv_at hl 1 rfl) ?_
    refine lv_iload hx hb d_MO_result_100 (lv_at hl 0 rfl) ?_
    refine lv_imul hx hb d_MO_result_102 ?_
    exact hret (r1 * r2) () H locs _ _ 103 ls d_MO_result_103 hP hD hS hw (Nat.le_refl 0) (Nat.le_refl 0)
  have hw := hw.2
  by_cases hs18_6 : a2 = 6
  · have hw := hw.1 hs18_6
    refine lv_tableIn (off := 86) (tgt := 104) hx hb d_MO_result_18 (by rw [hs18_6]; decide) (by rw [hs18_6]; decide) (by rw [hs18_6]; rfl) (by decide) ?_
    refine lv_iload hx hb d_MO_result_104 (lv_at hl 1 rfl) ?_
    refine lv_iload hx hb d_MO_result_106 (lv_at hl 0 rfl) ?_
    refine lv_icmp_ge (tgt := 115) hx hb d_MO_result_108 (by decide) (fun hc => ?_) (fun hc => ?_)
    · have hw := hw.1 hc
      refine lv_iconst (v := 0) hx hb d_MO_result_115 (by decide) ?_
      exact hret 0 () H locs _ _ 116 ls d_MO_result_116 hP hD hS hw (Nat.le_refl 0) (Nat.le_refl 0)
    · have hw := hw.2 hc
      refine lv_iconst (v := 1) hx hb d_MO_result_111 (by decide) ?_
      refine lv_goto (tgt := 116) hx hb d_MO_result_112 (by decide) ?_
      exact hret 1 () H locs _ _ 116 ls d_MO_result_116 hP hD hS hw (Nat.le_refl 0) (Nat.le_refl 0)
  have hw := hw.2
  by_cases hs18_7 : a2 = 7
  · have hw := hw.1 hs18_7
    refine lv_tableIn (off := 99) (tgt := 117) hx hb d_MO_result_18 (by rw [hs18_7]; decide) (by rw [hs18_7]; decide) (by rw [hs18_7]; rfl) (by decide) ?_
    refine lv_iload hx hb d_MO_result_117 (lv_at hl 1 rfl) ?_
    refine lv_iload hx hb d_MO_result_119 (lv_at hl 0 rfl) ?_
    refine lv_icmp_ne (tgt := 128) hx hb d_MO_result_121 (by decide) (fun hc => ?_) (fun hc => ?_)
    · have hw := hw.1 hc
      refine lv_iconst (v := 0) hx hb d_MO_result_128 (by decide) ?_
      exact hret 0 () H locs _ _ 129 ls d_MO_result_129 hP hD hS hw (Nat.le_refl 0) (Nat.le_refl 0)
    · have hw := hw.2 hc
      refine lv_iconst (v := 1) hx hb d_MO_result_124 (by decide) ?_
      refine lv_goto (tgt := 129) hx hb d_MO_result_125 (by decide) ?_
      exact hret 1 () H locs _ _ 129 ls d_MO_result_129 hP hD hS hw (Nat.le_refl 0) (Nat.le_refl 0)
  have hw := hw.2
  by_cases hs18_8 : a2 = 8
  · have hw := hw.1 hs18_8
    refine lv_tableIn (off := 112) (tgt := 130) hx hb d_MO_result_18 (by rw [hs18_8]; decide) (by rw [hs18_8]; decide) (by rw [hs18_8]; rfl) (by decide) ?_
    refine lv_iload hx hb d_MO_result_130 (lv_at hl 0 rfl) ?_
    refine lv_if_eq (tgt := 140) hx hb d_MO_result_132 (by decide) (fun hc => ?_) (fun hc => ?_)
    · have hw := hw.1 hc
      refine lv_iconst (v := 0) hx hb d_MO_result_140 (by decide) ?_
      exact hret 0 () H locs _ _ 141 ls d_MO_result_141 hP hD hS hw (Nat.le_refl 0) (Nat.le_refl 0)
    · have hw := hw.2 hc
      refine lv_iload hx hb d_MO_result_135 (lv_at hl 1 rfl) ?_
      refine lv_goto (tgt := 141) hx hb d_MO_result_137 (by decide) ?_
      exact hret r1 () H locs _ _ 141 ls d_MO_result_141 hP hD hS hw (Nat.le_refl 0) (Nat.le_refl 0)
  have hw := hw.2
  refine lv_tableOut (tgt := 142) hx hb d_MO_result_18 (by have := lv_neT (k := 0) (a := 0) hs18_0 rfl; have := lv_neT (k := 1) (a := 1) hs18_1 rfl; have := lv_neT (k := 2) (a := 2) hs18_2 rfl; have := lv_neT (k := 3) (a := 3) hs18_3 rfl; have := lv_neT (k := 4) (a := 4) hs18_4 rfl; have := lv_neT (k := 5) (a := 5) hs18_5 rfl; have := lv_neT (k := 6) (a := 6) hs18_6 rfl; have := lv_neT (k := 7) (a := 7) hs18_7 rfl; have := lv_neT (k := 8) (a := 8) hs18_8 rfl; omega) (by decide) ?_
  have hw := hw hs18_0 hs18_1 hs18_2 hs18_3 hs18_4 hs18_5 hs18_6 hs18_7 hs18_8
  refine lv_iload hx hb d_MO_result_142 (lv_at hl 1 rfl) ?_
  refine lv_iconst (v := 2) hx hb d_MO_result_144 (by decide) ?_
  refine lv_idiv hx hb d_MO_result_145 (by decide) ?_
  refine lv_bipush (v := 8) hx hb d_MO_result_146 (by decide) ?_
  refine lv_iload hx hb d_MO_result_148 (lv_at hl 0 rfl) ?_
  refine lv_imul hx hb d_MO_result_150 ?_
  refine lv_iadd hx hb d_MO_result_151 ?_
  exact hret ((r1 / (2 : Int32)) + ((8 : Int32) * r2)) () H locs _ _ 152 ls d_MO_result_152 hP hD hS hw (Nat.le_refl 0) (Nat.le_refl 0)

abbrev wl_MO_stepOf (cI cL cR : ClassId) (a_t : Nat) (a_t_width : Nat) (a_t_shift : Nat) (a_t_outOp : Nat) (a_t_outA : Nat) (a_t_outB : Nat) (a_t_transfers : Nat) (a_t_to : Nat) (a_t_op : Nat) (a_t_opA : Nat) (a_t_opB : Nat) (a_t_next : Nat) (a_t_gives : Nat) (a_t_state : Nat) (a_t_from : Nat) (a_t_by : Nat) (a_t_depth : Nat) (a_t_number : Nat) (a_t_part : Nat) (a_t_newPart : Nat) (a_t_node : Nat) (a_t_newNode : Nat) (a_t_parent : Nat) (a_t_born : Nat) (a_t_one : Nat) (a_t_pieces : Nat) (a_t_chain : Nat) (a_t_behind : Nat) (a_t_classOf : Nat) (a_t_classState : Nat) (t_thrown : Int32) (t_room : Int32) (t_registers : Int32) (t_bits : Int32) (t_inputs : Int32) (t_first : Int32) (t_isFresh : Int32) (t_isRoom : Int32) (t_walked : Int32) (t_parts : Int32) (t_nodes : Int32) (t_classes : Int32) (n_t_width : Nat) (f_t_width : Nat → Int32) (n_t_shift : Nat) (f_t_shift : Nat → Int32) (n_t_transfers : Nat) (f_t_transfers : Nat → Int32) (n_t_to : Nat) (f_t_to : Nat → Int32) (n_t_op : Nat) (f_t_op : Nat → Int32) (n_t_opA : Nat) (f_t_opA : Nat → Int32) (n_t_opB : Nat) (f_t_opB : Nat → Int32) : va_W := [(a_t, .inr (7, [.int t_thrown, .int t_room, .int t_registers, .int t_bits, .int t_inputs, .int t_first, .ref a_t_width, .ref a_t_shift, .ref a_t_outOp, .ref a_t_outA, .ref a_t_outB, .ref a_t_transfers, .ref a_t_to, .ref a_t_op, .ref a_t_opA, .ref a_t_opB, .int t_isFresh, .ref a_t_next, .ref a_t_gives, .int t_isRoom, .int t_walked, .ref a_t_state, .ref a_t_from, .ref a_t_by, .ref a_t_depth, .ref a_t_number, .int t_parts, .int t_nodes, .ref a_t_part, .ref a_t_newPart, .ref a_t_node, .ref a_t_newNode, .ref a_t_parent, .ref a_t_born, .ref a_t_one, .ref a_t_pieces, .ref a_t_chain, .ref a_t_behind, .int t_classes, .ref a_t_classOf, .ref a_t_classState])), (a_t_width, .inl (cI, n_t_width, .inl f_t_width)), (a_t_shift, .inl (cI, n_t_shift, .inl f_t_shift)), (a_t_transfers, .inl (cI, n_t_transfers, .inl f_t_transfers)), (a_t_to, .inl (cI, n_t_to, .inl f_t_to)), (a_t_op, .inl (cI, n_t_op, .inl f_t_op)), (a_t_opA, .inl (cI, n_t_opA, .inl f_t_opA)), (a_t_opB, .inl (cI, n_t_opB, .inl f_t_opB))]
def wp_MO_stepOf_L8 (t_thrown : Int32) (t_room : Int32) (t_registers : Int32) (t_bits : Int32) (t_inputs : Int32) (t_first : Int32) (t_isFresh : Int32) (t_isRoom : Int32) (t_walked : Int32) (t_parts : Int32) (t_nodes : Int32) (t_classes : Int32) (n_t_width : Nat) (f_t_width : Nat → Int32) (n_t_shift : Nat) (f_t_shift : Nat → Int32) (n_t_transfers : Nat) (f_t_transfers : Nat → Int32) (n_t_to : Nat) (f_t_to : Nat → Int32) (n_t_op : Nat) (f_t_op : Nat → Int32) (n_t_opA : Nat) (f_t_opA : Nat → Int32) (n_t_opB : Nat) (f_t_opB : Nat → Int32) (a1 : Int32) (a2 : Int32)  (post : Int32 → Prop) : Nat → Int32 → Int32 → Prop
  | 0, _, _ => False
  | n8 + 1, x3_8, x4_8 => (vp_in a2 n_t_transfers ∧ (((((8 : Int32) * a2) + (f_t_transfers a2.toNatClampNeg)) ≤ x4_8 → post x3_8) ∧ (¬ (((8 : Int32) * a2) + (f_t_transfers a2.toNatClampNeg)) ≤ x4_8 → (vp_in x4_8 n_t_to ∧ (∀ y2 : Int32, y2 = (f_t_to x4_8.toNatClampNeg) → (vp_in y2 n_t_width ∧ (∀ y3 : Int32, y3 = (((1 : Int32) <<< ((f_t_width y2.toNatClampNeg) &&& 31)) - (1 : Int32)) → (vp_in y2 n_t_shift ∧ (vp_in x4_8 n_t_op ∧ (vp_in x4_8 n_t_opA ∧ (vp_in x4_8 n_t_opB ∧ wp_MO_result t_thrown t_room t_registers t_bits t_inputs t_first t_isFresh t_isRoom t_walked t_parts t_nodes t_classes n_t_width f_t_width n_t_shift f_t_shift a1 (f_t_op x4_8.toNatClampNeg) (f_t_opA x4_8.toNatClampNeg) (f_t_opB x4_8.toNatClampNeg) (fun r4 => (vp_in y2 n_t_shift ∧ (∀ y5 : Int32, y5 = ((x3_8 &&& ((y3 <<< ((f_t_shift y2.toNatClampNeg) &&& 31)) ^^^ ((-1) : Int32))) ||| ((r4 &&& y3) <<< ((f_t_shift y2.toNatClampNeg) &&& 31))) → (∀ y6 : Int32, y6 = x4_8 + 1 → (wp_MO_stepOf_L8 t_thrown t_room t_registers t_bits t_inputs t_first t_isFresh t_isRoom t_walked t_parts t_nodes t_classes n_t_width f_t_width n_t_shift f_t_shift n_t_transfers f_t_transfers n_t_to f_t_to n_t_op f_t_op n_t_opA f_t_opA n_t_opB f_t_opB a1 a2 post n8) y5 y6)))))))))))))))
def wp_MO_stepOf (t_thrown : Int32) (t_room : Int32) (t_registers : Int32) (t_bits : Int32) (t_inputs : Int32) (t_first : Int32) (t_isFresh : Int32) (t_isRoom : Int32) (t_walked : Int32) (t_parts : Int32) (t_nodes : Int32) (t_classes : Int32) (n_t_width : Nat) (f_t_width : Nat → Int32) (n_t_shift : Nat) (f_t_shift : Nat → Int32) (n_t_transfers : Nat) (f_t_transfers : Nat → Int32) (n_t_to : Nat) (f_t_to : Nat → Int32) (n_t_op : Nat) (f_t_op : Nat → Int32) (n_t_opA : Nat) (f_t_opA : Nat → Int32) (n_t_opB : Nat) (f_t_opB : Nat → Int32) (a1 : Int32) (a2 : Int32) (post : Int32 → Prop) : Prop :=
  (∀ y1 : Int32, y1 = ((8 : Int32) * a2) → ∃ n : Nat, wp_MO_stepOf_L8 t_thrown t_room t_registers t_bits t_inputs t_first t_isFresh t_isRoom t_walked t_parts t_nodes t_classes n_t_width f_t_width n_t_shift f_t_shift n_t_transfers f_t_transfers n_t_to f_t_to n_t_op f_t_op n_t_opA f_t_opA n_t_opB f_t_opB a1 a2 post n a1 y1)
abbrev rm_MO_stepOf : Room := { frames := 3, cells := 0, slots := 0, locals := 62 }
set_option maxHeartbeats 4000000 in
set_option maxRecDepth 100000 in
theorem c_MO_stepOf (l : Launch) (D : va_G) (cI cL cR : ClassId) (a_t a_t_width a_t_shift a_t_outOp a_t_outA a_t_outB a_t_transfers a_t_to a_t_op a_t_opA a_t_opB a_t_next a_t_gives a_t_state a_t_from a_t_by a_t_depth a_t_number a_t_part a_t_newPart a_t_node a_t_newNode a_t_parent a_t_born a_t_one a_t_pieces a_t_chain a_t_behind a_t_classOf a_t_classState : Nat) (t_thrown : Int32) (t_room : Int32) (t_registers : Int32) (t_bits : Int32) (t_inputs : Int32) (t_first : Int32) (t_isFresh : Int32) (t_isRoom : Int32) (t_walked : Int32) (t_parts : Int32) (t_nodes : Int32) (t_classes : Int32) (n_t_width : Nat) (f_t_width : Nat → Int32) (n_t_shift : Nat) (f_t_shift : Nat → Int32) (n_t_transfers : Nat) (f_t_transfers : Nat → Int32) (n_t_to : Nat) (f_t_to : Nat → Int32) (n_t_op : Nat) (f_t_op : Nat → Int32) (n_t_opA : Nat) (f_t_opA : Nat → Int32) (n_t_opB : Nat) (f_t_opB : Nat → Int32) (a1 : Int32) (a2 : Int32) (sz : Nat) (post : Int32 → Prop) (hw : wp_MO_stepOf t_thrown t_room t_registers t_bits t_inputs t_first t_isFresh t_isRoom t_walked t_parts t_nodes t_classes n_t_width f_t_width n_t_shift f_t_shift n_t_transfers f_t_transfers n_t_to f_t_to n_t_op f_t_op n_t_opA f_t_opA n_t_opB f_t_opB a1 a2 post) : ky_M ky_rI l y_MO_stepOf (.code y_MO_stepOf b_MO_stepOf 7 (some .int) :: wsG) rm_MO_stepOf D vwCl (ky_T cI cL cR) (wl_MO_stepOf cI cL cR a_t a_t_width a_t_shift a_t_outOp a_t_outA a_t_outB a_t_transfers a_t_to a_t_op a_t_opA a_t_opB a_t_next a_t_gives a_t_state a_t_from a_t_by a_t_depth a_t_number a_t_part a_t_newPart a_t_node a_t_newNode a_t_parent a_t_born a_t_one a_t_pieces a_t_chain a_t_behind a_t_classOf a_t_classState t_thrown t_room t_registers t_bits t_inputs t_first t_isFresh t_isRoom t_walked t_parts t_nodes t_classes n_t_width f_t_width n_t_shift f_t_shift n_t_transfers f_t_transfers n_t_to f_t_to n_t_op f_t_op n_t_opA f_t_opA n_t_opB f_t_opB) sz [.ref a_t, .int a1, .int a2] (fun r (u : Unit) => post r) (fun u => wl_MO_stepOf cI cL cR a_t a_t_width a_t_shift a_t_outOp a_t_outA a_t_outB a_t_transfers a_t_to a_t_op a_t_opA a_t_opB a_t_next a_t_gives a_t_state a_t_from a_t_by a_t_depth a_t_number a_t_part a_t_newPart a_t_node a_t_newNode a_t_parent a_t_born a_t_one a_t_pieces a_t_chain a_t_behind a_t_classOf a_t_classState t_thrown t_room t_registers t_bits t_inputs t_first t_isFresh t_isRoom t_walked t_parts t_nodes t_classes n_t_width f_t_width n_t_shift f_t_shift n_t_transfers f_t_transfers n_t_to f_t_to n_t_op f_t_op n_t_opA f_t_opA n_t_opB f_t_opB) := by
  refine ky_ofI (plainFor_of_name (by decide)) (Nat.le_of_ble_eq_true rfl) ?_
  intro p e s m args below meth c A Q ls hI hret
  obtain ⟨hx, hb, hml, hown, hin, hts, hK, hP, hD, hA, hS, hl⟩ := hI
  have hown : s.vm.findClass R_MO = some m.cls := hown
  have hl : lv_has ls 7 [(0, .ref a_t), (1, .int a1), (2, .int a2)] := hl
  obtain ⟨H, locs, eH, eL⟩ : ∃ (H : Heap) (locs : List Loc), H = s.heap ∧ locs = [] := ⟨_, _, rfl, rfl⟩
  rw [← eL] at hS ⊢
  have hS : va_S A s.heap H locs := by rw [eH]; exact hS
  have hP : va_P D vwCl (wl_MO_stepOf cI cL cR a_t a_t_width a_t_shift a_t_outOp a_t_outA a_t_outB a_t_transfers a_t_to a_t_op a_t_opA a_t_opB a_t_next a_t_gives a_t_state a_t_from a_t_by a_t_depth a_t_number a_t_part a_t_newPart a_t_node a_t_newNode a_t_parent a_t_born a_t_one a_t_pieces a_t_chain a_t_behind a_t_classOf a_t_classState t_thrown t_room t_registers t_bits t_inputs t_first t_isFresh t_isRoom t_walked t_parts t_nodes t_classes n_t_width f_t_width n_t_shift f_t_shift n_t_transfers f_t_transfers n_t_to f_t_to n_t_op f_t_op n_t_opA f_t_opA n_t_opB f_t_opB) H := by rw [eH]; exact hP
  suffices hgo : W p l e rm_MO_stepOf s m args below meth c H locs 0 0 Q (F0 m 0 ls []) by rw [eH] at hgo; exact hgo
  clear eH eL
  unfold wp_MO_stepOf at hw
  refine lv_iload_n hx hb d_MO_stepOf_0 rfl (lv_at hl 1 rfl) ?_
  refine lv_istore_n (lv' := [(3, .int a1), (0, .ref a_t), (1, .int a1), (2, .int a2)]) hx hb d_MO_stepOf_1 rfl hl (by decide) rfl (fun ls hl => ?_)
  refine lv_bipush (v := 8) hx hb d_MO_stepOf_2 (by decide) ?_
  refine lv_iload_n hx hb d_MO_stepOf_4 rfl (lv_at hl 3 rfl) ?_
  refine lv_imul hx hb d_MO_stepOf_5 ?_
  refine lv_topi (fun y1 ey1 => ?_)
  have hw := hw y1 ey1
  refine lv_istore (lv' := [(4, .int y1), (3, .int a1), (0, .ref a_t), (1, .int a1), (2, .int a2)]) hx hb d_MO_stepOf_6 hl (by decide) rfl (fun ls hl => ?_)
  have hL8 : ∀ (n : Nat) (x3_8 : Int32) (x4_8 : Int32), wp_MO_stepOf_L8 t_thrown t_room t_registers t_bits t_inputs t_first t_isFresh t_isRoom t_walked t_parts t_nodes t_classes n_t_width f_t_width n_t_shift f_t_shift n_t_transfers f_t_transfers n_t_to f_t_to n_t_op f_t_op n_t_opA f_t_opA n_t_opB f_t_opB a1 a2 post n x3_8 x4_8 → ∀ (H : Heap) (locs : List Loc) (ls : Array Slot), va_P D vwCl (wl_MO_stepOf cI cL cR a_t a_t_width a_t_shift a_t_outOp a_t_outA a_t_outB a_t_transfers a_t_to a_t_op a_t_opA a_t_opB a_t_next a_t_gives a_t_state a_t_from a_t_by a_t_depth a_t_number a_t_part a_t_newPart a_t_node a_t_newNode a_t_parent a_t_born a_t_one a_t_pieces a_t_chain a_t_behind a_t_classOf a_t_classState t_thrown t_room t_registers t_bits t_inputs t_first t_isFresh t_isRoom t_walked t_parts t_nodes t_classes n_t_width f_t_width n_t_shift f_t_shift n_t_transfers f_t_transfers n_t_to f_t_to n_t_op f_t_op n_t_opA f_t_opA n_t_opB f_t_opB) H → va_D A (wl_MO_stepOf cI cL cR a_t a_t_width a_t_shift a_t_outOp a_t_outA a_t_outB a_t_transfers a_t_to a_t_op a_t_opA a_t_opB a_t_next a_t_gives a_t_state a_t_from a_t_by a_t_depth a_t_number a_t_part a_t_newPart a_t_node a_t_newNode a_t_parent a_t_born a_t_one a_t_pieces a_t_chain a_t_behind a_t_classOf a_t_classState t_thrown t_room t_registers t_bits t_inputs t_first t_isFresh t_isRoom t_walked t_parts t_nodes t_classes n_t_width f_t_width n_t_shift f_t_shift n_t_transfers f_t_transfers n_t_to f_t_to n_t_op f_t_op n_t_opA f_t_opA n_t_opB f_t_opB) → va_S A s.heap H locs → lv_has ls 7 [(0, .ref a_t), (1, .int a1), (2, .int a2), (3, .int x3_8), (4, .int x4_8)] → W p l e rm_MO_stepOf s m args below meth c H locs 0 0 Q (F0 m 8 ls []) := by
    intro n
    induction n with
    | zero => intro x3_8 x4_8 hw; rw [wp_MO_stepOf_L8] at hw; exact hw.elim
    | succ n8 ih8 =>
      intro x3_8 x4_8 hw H locs ls hP hD hS hl
      rw [wp_MO_stepOf_L8] at hw
      refine lv_iload hx hb d_MO_stepOf_8 (lv_at hl 4 rfl) ?_
      refine lv_bipush (v := 8) hx hb d_MO_stepOf_10 (by decide) ?_
      refine lv_iload_n hx hb d_MO_stepOf_12 rfl (lv_at hl 2 rfl) ?_
      refine lv_imul hx hb d_MO_stepOf_13 ?_
      refine lv_aload_n hx hb d_MO_stepOf_14 rfl (lv_at hl 0 rfl) ?_
      refine gf_MO_25 hx hb hts hown hK hP 0 rfl rfl d_MO_stepOf_15 ?_
      refine lv_iload_n hx hb d_MO_stepOf_18 rfl (lv_at hl 2 rfl) ?_
      obtain ⟨h1, hw⟩ := hw
      refine va_iald hx hb hK hP 3 0 rfl rfl h1 d_MO_stepOf_19 ?_
      refine lv_iadd hx hb d_MO_stepOf_20 ?_
      refine lv_icmp_ge (tgt := 105) hx hb d_MO_stepOf_21 (by decide) (fun hc => ?_) (fun hc => ?_)
      · have hw := hw.1 hc
        refine lv_iload_n hx hb d_MO_stepOf_105 rfl (lv_at hl 3 rfl) ?_
        exact hret x3_8 () H locs _ _ 106 ls d_MO_stepOf_106 hP hD hS hw (Nat.le_refl 0) (Nat.le_refl 0)
      · have hw := hw.2 hc
        refine lv_aload_n hx hb d_MO_stepOf_24 rfl (lv_at hl 0 rfl) ?_
        refine gf_MO_28 hx hb hts hown hK hP 0 rfl rfl d_MO_stepOf_25 ?_
        refine lv_iload hx hb d_MO_stepOf_28 (lv_at hl 4 rfl) ?_
        obtain ⟨h1, hw⟩ := hw
        refine va_iald hx hb hK hP 4 0 rfl rfl h1 d_MO_stepOf_30 ?_
        refine lv_topi (fun y2 ey2 => ?_)
        have hw := hw y2 ey2
        refine lv_istore (lv' := [(5, .int y2), (0, .ref a_t), (1, .int a1), (2, .int a2), (3, .int x3_8), (4, .int x4_8)]) hx hb d_MO_stepOf_31 hl (by decide) rfl (fun ls hl => ?_)
        refine lv_iconst (v := 1) hx hb d_MO_stepOf_33 (by decide) ?_
        refine lv_aload_n hx hb d_MO_stepOf_34 rfl (lv_at hl 1 rfl) ?_
        refine gf_MO_7 hx hb hts hown hK hP 0 rfl rfl d_MO_stepOf_35 ?_
        refine lv_iload hx hb d_MO_stepOf_38 (lv_at hl 0 rfl) ?_
        obtain ⟨h1, hw⟩ := hw
        refine va_iald hx hb hK hP 1 0 rfl rfl h1 d_MO_stepOf_40 ?_
        refine lv_ishl hx hb d_MO_stepOf_41 ?_
        refine lv_iconst (v := 1) hx hb d_MO_stepOf_42 (by decide) ?_
        refine lv_isub hx hb d_MO_stepOf_43 ?_
        refine lv_topi (fun y3 ey3 => ?_)
        have hw := hw y3 ey3
        refine lv_istore (lv' := [(6, .int y3), (5, .int y2), (0, .ref a_t), (1, .int a1), (2, .int a2), (3, .int x3_8), (4, .int x4_8)]) hx hb d_MO_stepOf_44 hl (by decide) rfl (fun ls hl => ?_)
        refine lv_iload_n hx hb d_MO_stepOf_46 rfl (lv_at hl 5 rfl) ?_
        refine lv_iload hx hb d_MO_stepOf_47 (lv_at hl 0 rfl) ?_
        refine lv_aload_n hx hb d_MO_stepOf_49 rfl (lv_at hl 2 rfl) ?_
        refine gf_MO_13 hx hb hts hown hK hP 0 rfl rfl d_MO_stepOf_50 ?_
        refine lv_iload hx hb d_MO_stepOf_53 (lv_at hl 1 rfl) ?_
        obtain ⟨h1, hw⟩ := hw
        refine va_iald hx hb hK hP 2 0 rfl rfl h1 d_MO_stepOf_55 ?_
        refine lv_ishl hx hb d_MO_stepOf_56 ?_
        refine lv_iconst (v := (-1)) hx hb d_MO_stepOf_57 (by decide) ?_
        refine lv_ixor hx hb d_MO_stepOf_58 ?_
        refine lv_iand hx hb d_MO_stepOf_59 ?_
        refine lv_aload_n hx hb d_MO_stepOf_60 rfl (lv_at hl 2 rfl) ?_
        refine lv_iload_n hx hb d_MO_stepOf_61 rfl (lv_at hl 3 rfl) ?_
        refine lv_aload_n hx hb d_MO_stepOf_62 rfl (lv_at hl 2 rfl) ?_
        refine gf_MO_31 hx hb hts hown hK hP 0 rfl rfl d_MO_stepOf_63 ?_
        refine lv_iload hx hb d_MO_stepOf_66 (lv_at hl 6 rfl) ?_
        obtain ⟨h1, hw⟩ := hw
        refine va_iald hx hb hK hP 5 0 rfl rfl h1 d_MO_stepOf_68 ?_
        refine lv_aload_n hx hb d_MO_stepOf_69 rfl (lv_at hl 2 rfl) ?_
        refine gf_MO_34 hx hb hts hown hK hP 0 rfl rfl d_MO_stepOf_70 ?_
        refine lv_iload hx hb d_MO_stepOf_73 (lv_at hl 6 rfl) ?_
        obtain ⟨h1, hw⟩ := hw
        refine va_iald hx hb hK hP 6 0 rfl rfl h1 d_MO_stepOf_75 ?_
        refine lv_aload_n hx hb d_MO_stepOf_76 rfl (lv_at hl 2 rfl) ?_
        refine gf_MO_37 hx hb hts hown hK hP 0 rfl rfl d_MO_stepOf_77 ?_
        refine lv_iload hx hb d_MO_stepOf_80 (lv_at hl 6 rfl) ?_
        obtain ⟨h1, hw⟩ := hw
        refine va_iald hx hb hK hP 7 0 rfl rfl h1 d_MO_stepOf_82 ?_
        refine ky_call (wr := [(a_t_transfers, .inl (cI, n_t_transfers, .inl f_t_transfers)), (a_t_to, .inl (cI, n_t_to, .inl f_t_to)), (a_t_op, .inl (cI, n_t_op, .inl f_t_op)), (a_t_opA, .inl (cI, n_t_opA, .inl f_t_opA)), (a_t_opB, .inl (cI, n_t_opB, .inl f_t_opB))]) hP hD hS hA [0, 1, 2] [3, 4, 5, 6, 7] rfl rfl (by decide) (by decide) (va_runV (As := [.int a1, .int (f_t_op x4_8.toNatClampNeg), .int (f_t_opA x4_8.toNatClampNeg), .int (f_t_opB x4_8.toNatClampNeg)]) (rest := [.int (x3_8 &&& ((y3 <<< ((f_t_shift y2.toNatClampNeg) &&& 31)) ^^^ ((-1) : Int32)))]) ⟨hx, hb, hml, hown, hts⟩ (c_MO_result l D cI cL cR a_t a_t_width a_t_shift a_t_outOp a_t_outA a_t_outB a_t_transfers a_t_to a_t_op a_t_opA a_t_opB a_t_next a_t_gives a_t_state a_t_from a_t_by a_t_depth a_t_number a_t_part a_t_newPart a_t_node a_t_newNode a_t_parent a_t_born a_t_one a_t_pieces a_t_chain a_t_behind a_t_classOf a_t_classState t_thrown t_room t_registers t_bits t_inputs t_first t_isFresh t_isRoom t_walked t_parts t_nodes t_classes n_t_width f_t_width n_t_shift f_t_shift a1 (f_t_op x4_8.toNatClampNeg) (f_t_opA x4_8.toNatClampNeg) (f_t_opB x4_8.toNatClampNeg) H.size _ hw) (cw_MO_142 hts ⟨Nat.le_of_ble_eq_true rfl, Nat.le_of_ble_eq_true rfl⟩) (ky_preV hK hP hD [0, 1, 2] rfl (by decide) rfl rfl) rfl rfl hl.1 rfl (lv_room (Nat.le_of_ble_eq_true rfl)) d_MO_stepOf_83 ⟨Nat.le_refl 0, Nat.le_refl 0⟩) (fun r u H locs hw hP hD hS => ?_)
        obtain ⟨r4, rfl⟩ : ∃ z, z = r := ⟨_, rfl⟩
        have hP : va_P D vwCl (wl_MO_stepOf cI cL cR a_t a_t_width a_t_shift a_t_outOp a_t_outA a_t_outB a_t_transfers a_t_to a_t_op a_t_opA a_t_opB a_t_next a_t_gives a_t_state a_t_from a_t_by a_t_depth a_t_number a_t_part a_t_newPart a_t_node a_t_newNode a_t_parent a_t_born a_t_one a_t_pieces a_t_chain a_t_behind a_t_classOf a_t_classState t_thrown t_room t_registers t_bits t_inputs t_first t_isFresh t_isRoom t_walked t_parts t_nodes t_classes n_t_width f_t_width n_t_shift f_t_shift n_t_transfers f_t_transfers n_t_to f_t_to n_t_op f_t_op n_t_opA f_t_opA n_t_opB f_t_opB) H := hP.sub [5, 6, 7, 0, 1, 2, 3, 4] rfl
        have hD : va_D A (wl_MO_stepOf cI cL cR a_t a_t_width a_t_shift a_t_outOp a_t_outA a_t_outB a_t_transfers a_t_to a_t_op a_t_opA a_t_opB a_t_next a_t_gives a_t_state a_t_from a_t_by a_t_depth a_t_number a_t_part a_t_newPart a_t_node a_t_newNode a_t_parent a_t_born a_t_one a_t_pieces a_t_chain a_t_behind a_t_classOf a_t_classState t_thrown t_room t_registers t_bits t_inputs t_first t_isFresh t_isRoom t_walked t_parts t_nodes t_classes n_t_width f_t_width n_t_shift f_t_shift n_t_transfers f_t_transfers n_t_to f_t_to n_t_op f_t_op n_t_opA f_t_opA n_t_opB f_t_opB) := hD.sub [5, 6, 7, 0, 1, 2, 3, 4] (by decide) rfl
        refine W.widen (k := 0) (n := 0) (Nat.le_refl _) (Nat.le_refl _) ?_
        refine W.eq (g2 := F0 m 86 ls [.int r4, .int (x3_8 &&& ((y3 <<< ((f_t_shift y2.toNatClampNeg) &&& 31)) ^^^ ((-1) : Int32)))]) rfl ?_
        refine lv_iload hx hb d_MO_stepOf_86 (lv_at hl 0 rfl) ?_
        refine lv_iand hx hb d_MO_stepOf_88 ?_
        refine lv_aload_n hx hb d_MO_stepOf_89 rfl (lv_at hl 2 rfl) ?_
        refine gf_MO_13 hx hb hts hown hK hP 0 rfl rfl d_MO_stepOf_90 ?_
        refine lv_iload hx hb d_MO_stepOf_93 (lv_at hl 1 rfl) ?_
        obtain ⟨h1, hw⟩ := hw
        refine va_iald hx hb hK hP 2 0 rfl rfl h1 d_MO_stepOf_95 ?_
        refine lv_ishl hx hb d_MO_stepOf_96 ?_
        refine lv_ior hx hb d_MO_stepOf_97 ?_
        refine lv_topi (fun y5 ey5 => ?_)
        have hw := hw y5 ey5
        refine lv_istore_n (lv' := [(3, .int y5), (6, .int y3), (5, .int y2), (0, .ref a_t), (1, .int a1), (2, .int a2), (4, .int x4_8)]) hx hb d_MO_stepOf_98 rfl hl (by decide) rfl (fun ls hl => ?_)
        obtain ⟨y6, ey6⟩ : ∃ z : Int32, z = x4_8 + 1 := ⟨_, rfl⟩
        refine lv_iinc (v := y6) (lv' := [(4, .int y6), (3, .int y5), (6, .int y3), (5, .int y2), (0, .ref a_t), (1, .int a1), (2, .int a2)]) hx hb d_MO_stepOf_99 hl (k := 6) rfl (by rw [ey6]; rfl) (by decide) rfl (fun ls hl => ?_)
        have hw := hw y6 ey6
        refine lv_goto (tgt := 8) hx hb d_MO_stepOf_102 (by decide) ?_
        exact ih8 y5 y6 hw H locs ls hP hD hS (lv_sub hl [4, 5, 6, 1, 0] rfl)
  obtain ⟨n, hw⟩ := hw
  exact hL8 n a1 y1 hw H locs ls hP hD hS (lv_sub hl [2, 3, 4, 1, 0] rfl)

abbrev wl_MO_outputOf (cI cL cR : ClassId) (a_t : Nat) (a_t_width : Nat) (a_t_shift : Nat) (a_t_outOp : Nat) (a_t_outA : Nat) (a_t_outB : Nat) (a_t_transfers : Nat) (a_t_to : Nat) (a_t_op : Nat) (a_t_opA : Nat) (a_t_opB : Nat) (a_t_next : Nat) (a_t_gives : Nat) (a_t_state : Nat) (a_t_from : Nat) (a_t_by : Nat) (a_t_depth : Nat) (a_t_number : Nat) (a_t_part : Nat) (a_t_newPart : Nat) (a_t_node : Nat) (a_t_newNode : Nat) (a_t_parent : Nat) (a_t_born : Nat) (a_t_one : Nat) (a_t_pieces : Nat) (a_t_chain : Nat) (a_t_behind : Nat) (a_t_classOf : Nat) (a_t_classState : Nat) (t_thrown : Int32) (t_room : Int32) (t_registers : Int32) (t_bits : Int32) (t_inputs : Int32) (t_first : Int32) (t_isFresh : Int32) (t_isRoom : Int32) (t_walked : Int32) (t_parts : Int32) (t_nodes : Int32) (t_classes : Int32) (n_t_width : Nat) (f_t_width : Nat → Int32) (n_t_shift : Nat) (f_t_shift : Nat → Int32) (n_t_outOp : Nat) (f_t_outOp : Nat → Int32) (n_t_outA : Nat) (f_t_outA : Nat → Int32) (n_t_outB : Nat) (f_t_outB : Nat → Int32) : va_W := [(a_t, .inr (7, [.int t_thrown, .int t_room, .int t_registers, .int t_bits, .int t_inputs, .int t_first, .ref a_t_width, .ref a_t_shift, .ref a_t_outOp, .ref a_t_outA, .ref a_t_outB, .ref a_t_transfers, .ref a_t_to, .ref a_t_op, .ref a_t_opA, .ref a_t_opB, .int t_isFresh, .ref a_t_next, .ref a_t_gives, .int t_isRoom, .int t_walked, .ref a_t_state, .ref a_t_from, .ref a_t_by, .ref a_t_depth, .ref a_t_number, .int t_parts, .int t_nodes, .ref a_t_part, .ref a_t_newPart, .ref a_t_node, .ref a_t_newNode, .ref a_t_parent, .ref a_t_born, .ref a_t_one, .ref a_t_pieces, .ref a_t_chain, .ref a_t_behind, .int t_classes, .ref a_t_classOf, .ref a_t_classState])), (a_t_width, .inl (cI, n_t_width, .inl f_t_width)), (a_t_shift, .inl (cI, n_t_shift, .inl f_t_shift)), (a_t_outOp, .inl (cI, n_t_outOp, .inl f_t_outOp)), (a_t_outA, .inl (cI, n_t_outA, .inl f_t_outA)), (a_t_outB, .inl (cI, n_t_outB, .inl f_t_outB))]
def wp_MO_outputOf (t_thrown : Int32) (t_room : Int32) (t_registers : Int32) (t_bits : Int32) (t_inputs : Int32) (t_first : Int32) (t_isFresh : Int32) (t_isRoom : Int32) (t_walked : Int32) (t_parts : Int32) (t_nodes : Int32) (t_classes : Int32) (n_t_width : Nat) (f_t_width : Nat → Int32) (n_t_shift : Nat) (f_t_shift : Nat → Int32) (n_t_outOp : Nat) (f_t_outOp : Nat → Int32) (n_t_outA : Nat) (f_t_outA : Nat → Int32) (n_t_outB : Nat) (f_t_outB : Nat → Int32) (a1 : Int32) (a2 : Int32) (post : Int32 → Prop) : Prop :=
  (vp_in a2 n_t_outOp ∧ (vp_in a2 n_t_outA ∧ (vp_in a2 n_t_outB ∧ wp_MO_result t_thrown t_room t_registers t_bits t_inputs t_first t_isFresh t_isRoom t_walked t_parts t_nodes t_classes n_t_width f_t_width n_t_shift f_t_shift a1 (f_t_outOp a2.toNatClampNeg) (f_t_outA a2.toNatClampNeg) (f_t_outB a2.toNatClampNeg) (fun r1 => post (r1 &&& (15 : Int32))))))
abbrev rm_MO_outputOf : Room := { frames := 3, cells := 0, slots := 0, locals := 62 }
set_option maxHeartbeats 4000000 in
set_option maxRecDepth 100000 in
theorem c_MO_outputOf (l : Launch) (D : va_G) (cI cL cR : ClassId) (a_t a_t_width a_t_shift a_t_outOp a_t_outA a_t_outB a_t_transfers a_t_to a_t_op a_t_opA a_t_opB a_t_next a_t_gives a_t_state a_t_from a_t_by a_t_depth a_t_number a_t_part a_t_newPart a_t_node a_t_newNode a_t_parent a_t_born a_t_one a_t_pieces a_t_chain a_t_behind a_t_classOf a_t_classState : Nat) (t_thrown : Int32) (t_room : Int32) (t_registers : Int32) (t_bits : Int32) (t_inputs : Int32) (t_first : Int32) (t_isFresh : Int32) (t_isRoom : Int32) (t_walked : Int32) (t_parts : Int32) (t_nodes : Int32) (t_classes : Int32) (n_t_width : Nat) (f_t_width : Nat → Int32) (n_t_shift : Nat) (f_t_shift : Nat → Int32) (n_t_outOp : Nat) (f_t_outOp : Nat → Int32) (n_t_outA : Nat) (f_t_outA : Nat → Int32) (n_t_outB : Nat) (f_t_outB : Nat → Int32) (a1 : Int32) (a2 : Int32) (sz : Nat) (post : Int32 → Prop) (hw : wp_MO_outputOf t_thrown t_room t_registers t_bits t_inputs t_first t_isFresh t_isRoom t_walked t_parts t_nodes t_classes n_t_width f_t_width n_t_shift f_t_shift n_t_outOp f_t_outOp n_t_outA f_t_outA n_t_outB f_t_outB a1 a2 post) : ky_M ky_rI l y_MO_outputOf (.code y_MO_outputOf b_MO_outputOf 3 (some .int) :: wsG) rm_MO_outputOf D vwCl (ky_T cI cL cR) (wl_MO_outputOf cI cL cR a_t a_t_width a_t_shift a_t_outOp a_t_outA a_t_outB a_t_transfers a_t_to a_t_op a_t_opA a_t_opB a_t_next a_t_gives a_t_state a_t_from a_t_by a_t_depth a_t_number a_t_part a_t_newPart a_t_node a_t_newNode a_t_parent a_t_born a_t_one a_t_pieces a_t_chain a_t_behind a_t_classOf a_t_classState t_thrown t_room t_registers t_bits t_inputs t_first t_isFresh t_isRoom t_walked t_parts t_nodes t_classes n_t_width f_t_width n_t_shift f_t_shift n_t_outOp f_t_outOp n_t_outA f_t_outA n_t_outB f_t_outB) sz [.ref a_t, .int a1, .int a2] (fun r (u : Unit) => post r) (fun u => wl_MO_outputOf cI cL cR a_t a_t_width a_t_shift a_t_outOp a_t_outA a_t_outB a_t_transfers a_t_to a_t_op a_t_opA a_t_opB a_t_next a_t_gives a_t_state a_t_from a_t_by a_t_depth a_t_number a_t_part a_t_newPart a_t_node a_t_newNode a_t_parent a_t_born a_t_one a_t_pieces a_t_chain a_t_behind a_t_classOf a_t_classState t_thrown t_room t_registers t_bits t_inputs t_first t_isFresh t_isRoom t_walked t_parts t_nodes t_classes n_t_width f_t_width n_t_shift f_t_shift n_t_outOp f_t_outOp n_t_outA f_t_outA n_t_outB f_t_outB) := by
  refine ky_ofI (plainFor_of_name (by decide)) (Nat.le_of_ble_eq_true rfl) ?_
  intro p e s m args below meth c A Q ls hI hret
  obtain ⟨hx, hb, hml, hown, hin, hts, hK, hP, hD, hA, hS, hl⟩ := hI
  have hown : s.vm.findClass R_MO = some m.cls := hown
  have hl : lv_has ls 3 [(0, .ref a_t), (1, .int a1), (2, .int a2)] := hl
  obtain ⟨H, locs, eH, eL⟩ : ∃ (H : Heap) (locs : List Loc), H = s.heap ∧ locs = [] := ⟨_, _, rfl, rfl⟩
  rw [← eL] at hS ⊢
  have hS : va_S A s.heap H locs := by rw [eH]; exact hS
  have hP : va_P D vwCl (wl_MO_outputOf cI cL cR a_t a_t_width a_t_shift a_t_outOp a_t_outA a_t_outB a_t_transfers a_t_to a_t_op a_t_opA a_t_opB a_t_next a_t_gives a_t_state a_t_from a_t_by a_t_depth a_t_number a_t_part a_t_newPart a_t_node a_t_newNode a_t_parent a_t_born a_t_one a_t_pieces a_t_chain a_t_behind a_t_classOf a_t_classState t_thrown t_room t_registers t_bits t_inputs t_first t_isFresh t_isRoom t_walked t_parts t_nodes t_classes n_t_width f_t_width n_t_shift f_t_shift n_t_outOp f_t_outOp n_t_outA f_t_outA n_t_outB f_t_outB) H := by rw [eH]; exact hP
  suffices hgo : W p l e rm_MO_outputOf s m args below meth c H locs 0 0 Q (F0 m 0 ls []) by rw [eH] at hgo; exact hgo
  clear eH eL
  unfold wp_MO_outputOf at hw
  refine lv_aload_n hx hb d_MO_outputOf_0 rfl (lv_at hl 0 rfl) ?_
  refine lv_iload_n hx hb d_MO_outputOf_1 rfl (lv_at hl 1 rfl) ?_
  refine lv_aload_n hx hb d_MO_outputOf_2 rfl (lv_at hl 0 rfl) ?_
  refine gf_MO_16 hx hb hts hown hK hP 0 rfl rfl d_MO_outputOf_3 ?_
  refine lv_iload_n hx hb d_MO_outputOf_6 rfl (lv_at hl 2 rfl) ?_
  obtain ⟨h1, hw⟩ := hw
  refine va_iald hx hb hK hP 3 0 rfl rfl h1 d_MO_outputOf_7 ?_
  refine lv_aload_n hx hb d_MO_outputOf_8 rfl (lv_at hl 0 rfl) ?_
  refine gf_MO_19 hx hb hts hown hK hP 0 rfl rfl d_MO_outputOf_9 ?_
  refine lv_iload_n hx hb d_MO_outputOf_12 rfl (lv_at hl 2 rfl) ?_
  obtain ⟨h1, hw⟩ := hw
  refine va_iald hx hb hK hP 4 0 rfl rfl h1 d_MO_outputOf_13 ?_
  refine lv_aload_n hx hb d_MO_outputOf_14 rfl (lv_at hl 0 rfl) ?_
  refine gf_MO_22 hx hb hts hown hK hP 0 rfl rfl d_MO_outputOf_15 ?_
  refine lv_iload_n hx hb d_MO_outputOf_18 rfl (lv_at hl 2 rfl) ?_
  obtain ⟨h1, hw⟩ := hw
  refine va_iald hx hb hK hP 5 0 rfl rfl h1 d_MO_outputOf_19 ?_
  refine ky_call (wr := [(a_t_outOp, .inl (cI, n_t_outOp, .inl f_t_outOp)), (a_t_outA, .inl (cI, n_t_outA, .inl f_t_outA)), (a_t_outB, .inl (cI, n_t_outB, .inl f_t_outB))]) hP hD hS hA [0, 1, 2] [3, 4, 5] rfl rfl (by decide) (by decide) (va_runV (As := [.int a1, .int (f_t_outOp a2.toNatClampNeg), .int (f_t_outA a2.toNatClampNeg), .int (f_t_outB a2.toNatClampNeg)]) (rest := []) ⟨hx, hb, hml, hown, hts⟩ (c_MO_result l D cI cL cR a_t a_t_width a_t_shift a_t_outOp a_t_outA a_t_outB a_t_transfers a_t_to a_t_op a_t_opA a_t_opB a_t_next a_t_gives a_t_state a_t_from a_t_by a_t_depth a_t_number a_t_part a_t_newPart a_t_node a_t_newNode a_t_parent a_t_born a_t_one a_t_pieces a_t_chain a_t_behind a_t_classOf a_t_classState t_thrown t_room t_registers t_bits t_inputs t_first t_isFresh t_isRoom t_walked t_parts t_nodes t_classes n_t_width f_t_width n_t_shift f_t_shift a1 (f_t_outOp a2.toNatClampNeg) (f_t_outA a2.toNatClampNeg) (f_t_outB a2.toNatClampNeg) H.size _ hw) (cw_MO_142 hts ⟨Nat.le_of_ble_eq_true rfl, Nat.le_of_ble_eq_true rfl⟩) (ky_preV hK hP hD [0, 1, 2] rfl (by decide) rfl rfl) rfl rfl hl.1 rfl (lv_room (Nat.le_of_ble_eq_true rfl)) d_MO_outputOf_20 ⟨Nat.le_refl 0, Nat.le_refl 0⟩) (fun r u H locs hw hP hD hS => ?_)
  obtain ⟨r1, rfl⟩ : ∃ z, z = r := ⟨_, rfl⟩
  have hP : va_P D vwCl (wl_MO_outputOf cI cL cR a_t a_t_width a_t_shift a_t_outOp a_t_outA a_t_outB a_t_transfers a_t_to a_t_op a_t_opA a_t_opB a_t_next a_t_gives a_t_state a_t_from a_t_by a_t_depth a_t_number a_t_part a_t_newPart a_t_node a_t_newNode a_t_parent a_t_born a_t_one a_t_pieces a_t_chain a_t_behind a_t_classOf a_t_classState t_thrown t_room t_registers t_bits t_inputs t_first t_isFresh t_isRoom t_walked t_parts t_nodes t_classes n_t_width f_t_width n_t_shift f_t_shift n_t_outOp f_t_outOp n_t_outA f_t_outA n_t_outB f_t_outB) H := hP.sub [3, 4, 5, 0, 1, 2] rfl
  have hD : va_D A (wl_MO_outputOf cI cL cR a_t a_t_width a_t_shift a_t_outOp a_t_outA a_t_outB a_t_transfers a_t_to a_t_op a_t_opA a_t_opB a_t_next a_t_gives a_t_state a_t_from a_t_by a_t_depth a_t_number a_t_part a_t_newPart a_t_node a_t_newNode a_t_parent a_t_born a_t_one a_t_pieces a_t_chain a_t_behind a_t_classOf a_t_classState t_thrown t_room t_registers t_bits t_inputs t_first t_isFresh t_isRoom t_walked t_parts t_nodes t_classes n_t_width f_t_width n_t_shift f_t_shift n_t_outOp f_t_outOp n_t_outA f_t_outA n_t_outB f_t_outB) := hD.sub [3, 4, 5, 0, 1, 2] (by decide) rfl
  refine W.widen (k := 0) (n := 0) (Nat.le_refl _) (Nat.le_refl _) ?_
  refine W.eq (g2 := F0 m 23 ls [.int r1]) rfl ?_
  refine lv_bipush (v := 15) hx hb d_MO_outputOf_23 (by decide) ?_
  refine lv_iand hx hb d_MO_outputOf_25 ?_
  exact hret (r1 &&& (15 : Int32)) () H locs _ _ 26 ls d_MO_outputOf_26 hP hD hS hw (Nat.le_refl 0) (Nat.le_refl 0)

abbrev wl_MO_step (cI cL cR : ClassId) (a_t : Nat) (a_t_width : Nat) (a_t_shift : Nat) (a_t_outOp : Nat) (a_t_outA : Nat) (a_t_outB : Nat) (a_t_transfers : Nat) (a_t_to : Nat) (a_t_op : Nat) (a_t_opA : Nat) (a_t_opB : Nat) (a_t_next : Nat) (a_t_gives : Nat) (a_t_state : Nat) (a_t_from : Nat) (a_t_by : Nat) (a_t_depth : Nat) (a_t_number : Nat) (a_t_part : Nat) (a_t_newPart : Nat) (a_t_node : Nat) (a_t_newNode : Nat) (a_t_parent : Nat) (a_t_born : Nat) (a_t_one : Nat) (a_t_pieces : Nat) (a_t_chain : Nat) (a_t_behind : Nat) (a_t_classOf : Nat) (a_t_classState : Nat) (t_thrown : Int32) (t_room : Int32) (t_registers : Int32) (t_bits : Int32) (t_inputs : Int32) (t_first : Int32) (t_isFresh : Int32) (t_isRoom : Int32) (t_walked : Int32) (t_parts : Int32) (t_nodes : Int32) (t_classes : Int32) (n_t_width : Nat) (f_t_width : Nat → Int32) (n_t_shift : Nat) (f_t_shift : Nat → Int32) (n_t_transfers : Nat) (f_t_transfers : Nat → Int32) (n_t_to : Nat) (f_t_to : Nat → Int32) (n_t_op : Nat) (f_t_op : Nat → Int32) (n_t_opA : Nat) (f_t_opA : Nat → Int32) (n_t_opB : Nat) (f_t_opB : Nat → Int32) : va_W := [(a_t, .inr (7, [.int t_thrown, .int t_room, .int t_registers, .int t_bits, .int t_inputs, .int t_first, .ref a_t_width, .ref a_t_shift, .ref a_t_outOp, .ref a_t_outA, .ref a_t_outB, .ref a_t_transfers, .ref a_t_to, .ref a_t_op, .ref a_t_opA, .ref a_t_opB, .int t_isFresh, .ref a_t_next, .ref a_t_gives, .int t_isRoom, .int t_walked, .ref a_t_state, .ref a_t_from, .ref a_t_by, .ref a_t_depth, .ref a_t_number, .int t_parts, .int t_nodes, .ref a_t_part, .ref a_t_newPart, .ref a_t_node, .ref a_t_newNode, .ref a_t_parent, .ref a_t_born, .ref a_t_one, .ref a_t_pieces, .ref a_t_chain, .ref a_t_behind, .int t_classes, .ref a_t_classOf, .ref a_t_classState])), (a_t_width, .inl (cI, n_t_width, .inl f_t_width)), (a_t_shift, .inl (cI, n_t_shift, .inl f_t_shift)), (a_t_transfers, .inl (cI, n_t_transfers, .inl f_t_transfers)), (a_t_to, .inl (cI, n_t_to, .inl f_t_to)), (a_t_op, .inl (cI, n_t_op, .inl f_t_op)), (a_t_opA, .inl (cI, n_t_opA, .inl f_t_opA)), (a_t_opB, .inl (cI, n_t_opB, .inl f_t_opB))]
def wp_MO_step (t_thrown : Int32) (t_room : Int32) (t_registers : Int32) (t_bits : Int32) (t_inputs : Int32) (t_first : Int32) (t_isFresh : Int32) (t_isRoom : Int32) (t_walked : Int32) (t_parts : Int32) (t_nodes : Int32) (t_classes : Int32) (n_t_width : Nat) (f_t_width : Nat → Int32) (n_t_shift : Nat) (f_t_shift : Nat → Int32) (n_t_transfers : Nat) (f_t_transfers : Nat → Int32) (n_t_to : Nat) (f_t_to : Nat → Int32) (n_t_op : Nat) (f_t_op : Nat → Int32) (n_t_opA : Nat) (f_t_opA : Nat → Int32) (n_t_opB : Nat) (f_t_opB : Nat → Int32) (a1 : Int32) (a2 : Int32) (post : Int32 → Int32 → Prop) : Prop :=
  wp_MO_isState 0 t_room t_registers t_bits t_inputs t_first t_isFresh t_isRoom t_walked t_parts t_nodes t_classes a1 (fun r1 => ((r1 = 0 → wp_MO_fail 0 t_room t_registers t_bits t_inputs t_first t_isFresh t_isRoom t_walked t_parts t_nodes t_classes (1 : Int32) (fun r2 m_thrown_2 => post r2 m_thrown_2)) ∧ (¬ r1 = 0 → wp_MO_within a2 (0 : Int32) (t_inputs - (1 : Int32)) (fun r3 => ((r3 = 0 → wp_MO_fail 0 t_room t_registers t_bits t_inputs t_first t_isFresh t_isRoom t_walked t_parts t_nodes t_classes (1 : Int32) (fun r4 m_thrown_4 => post r4 m_thrown_4)) ∧ (¬ r3 = 0 → wp_MO_stepOf 0 t_room t_registers t_bits t_inputs t_first t_isFresh t_isRoom t_walked t_parts t_nodes t_classes n_t_width f_t_width n_t_shift f_t_shift n_t_transfers f_t_transfers n_t_to f_t_to n_t_op f_t_op n_t_opA f_t_opA n_t_opB f_t_opB a1 a2 (fun r5 => post r5 0)))))))
abbrev rm_MO_step : Room := { frames := 4, cells := 0, slots := 0, locals := 89 }
set_option maxHeartbeats 4000000 in
set_option maxRecDepth 100000 in
theorem c_MO_step (l : Launch) (D : va_G) (cI cL cR : ClassId) (a_t a_t_width a_t_shift a_t_outOp a_t_outA a_t_outB a_t_transfers a_t_to a_t_op a_t_opA a_t_opB a_t_next a_t_gives a_t_state a_t_from a_t_by a_t_depth a_t_number a_t_part a_t_newPart a_t_node a_t_newNode a_t_parent a_t_born a_t_one a_t_pieces a_t_chain a_t_behind a_t_classOf a_t_classState : Nat) (t_thrown : Int32) (t_room : Int32) (t_registers : Int32) (t_bits : Int32) (t_inputs : Int32) (t_first : Int32) (t_isFresh : Int32) (t_isRoom : Int32) (t_walked : Int32) (t_parts : Int32) (t_nodes : Int32) (t_classes : Int32) (n_t_width : Nat) (f_t_width : Nat → Int32) (n_t_shift : Nat) (f_t_shift : Nat → Int32) (n_t_transfers : Nat) (f_t_transfers : Nat → Int32) (n_t_to : Nat) (f_t_to : Nat → Int32) (n_t_op : Nat) (f_t_op : Nat → Int32) (n_t_opA : Nat) (f_t_opA : Nat → Int32) (n_t_opB : Nat) (f_t_opB : Nat → Int32) (a1 : Int32) (a2 : Int32) (sz : Nat) (post : Int32 → Int32 → Prop) (hw : wp_MO_step t_thrown t_room t_registers t_bits t_inputs t_first t_isFresh t_isRoom t_walked t_parts t_nodes t_classes n_t_width f_t_width n_t_shift f_t_shift n_t_transfers f_t_transfers n_t_to f_t_to n_t_op f_t_op n_t_opA f_t_opA n_t_opB f_t_opB a1 a2 post) : ky_M ky_rI l y_MO_step (.code y_MO_step b_MO_step 3 (some .int) :: wsG) rm_MO_step D vwCl (ky_T cI cL cR) (wl_MO_step cI cL cR a_t a_t_width a_t_shift a_t_outOp a_t_outA a_t_outB a_t_transfers a_t_to a_t_op a_t_opA a_t_opB a_t_next a_t_gives a_t_state a_t_from a_t_by a_t_depth a_t_number a_t_part a_t_newPart a_t_node a_t_newNode a_t_parent a_t_born a_t_one a_t_pieces a_t_chain a_t_behind a_t_classOf a_t_classState t_thrown t_room t_registers t_bits t_inputs t_first t_isFresh t_isRoom t_walked t_parts t_nodes t_classes n_t_width f_t_width n_t_shift f_t_shift n_t_transfers f_t_transfers n_t_to f_t_to n_t_op f_t_op n_t_opA f_t_opA n_t_opB f_t_opB) sz [.ref a_t, .int a1, .int a2] (fun r (u : Int32) => post r u) (fun u => wl_MO_step cI cL cR a_t a_t_width a_t_shift a_t_outOp a_t_outA a_t_outB a_t_transfers a_t_to a_t_op a_t_opA a_t_opB a_t_next a_t_gives a_t_state a_t_from a_t_by a_t_depth a_t_number a_t_part a_t_newPart a_t_node a_t_newNode a_t_parent a_t_born a_t_one a_t_pieces a_t_chain a_t_behind a_t_classOf a_t_classState u t_room t_registers t_bits t_inputs t_first t_isFresh t_isRoom t_walked t_parts t_nodes t_classes n_t_width f_t_width n_t_shift f_t_shift n_t_transfers f_t_transfers n_t_to f_t_to n_t_op f_t_op n_t_opA f_t_opA n_t_opB f_t_opB) := by
  refine ky_ofI (plainFor_of_name (by decide)) (Nat.le_of_ble_eq_true rfl) ?_
  intro p e s m args below meth c A Q ls hI hret
  obtain ⟨hx, hb, hml, hown, hin, hts, hK, hP, hD, hA, hS, hl⟩ := hI
  have hown : s.vm.findClass R_MO = some m.cls := hown
  have hl : lv_has ls 3 [(0, .ref a_t), (1, .int a1), (2, .int a2)] := hl
  obtain ⟨H, locs, eH, eL⟩ : ∃ (H : Heap) (locs : List Loc), H = s.heap ∧ locs = [] := ⟨_, _, rfl, rfl⟩
  rw [← eL] at hS ⊢
  have hS : va_S A s.heap H locs := by rw [eH]; exact hS
  have hP : va_P D vwCl (wl_MO_step cI cL cR a_t a_t_width a_t_shift a_t_outOp a_t_outA a_t_outB a_t_transfers a_t_to a_t_op a_t_opA a_t_opB a_t_next a_t_gives a_t_state a_t_from a_t_by a_t_depth a_t_number a_t_part a_t_newPart a_t_node a_t_newNode a_t_parent a_t_born a_t_one a_t_pieces a_t_chain a_t_behind a_t_classOf a_t_classState t_thrown t_room t_registers t_bits t_inputs t_first t_isFresh t_isRoom t_walked t_parts t_nodes t_classes n_t_width f_t_width n_t_shift f_t_shift n_t_transfers f_t_transfers n_t_to f_t_to n_t_op f_t_op n_t_opA f_t_opA n_t_opB f_t_opB) H := by rw [eH]; exact hP
  suffices hgo : W p l e rm_MO_step s m args below meth c H locs 0 0 Q (F0 m 0 ls []) by rw [eH] at hgo; exact hgo
  clear eH eL
  unfold wp_MO_step at hw
  refine lv_aload_n hx hb d_MO_step_0 rfl (lv_at hl 0 rfl) ?_
  refine lv_iconst (v := 0) hx hb d_MO_step_1 (by decide) ?_
  refine pf_MO_101 (v := .int 0) hx hb hts hown hK hP hD hS 0 rfl rfl rfl (Nat.le_of_ble_eq_true rfl) d_MO_step_2 (fun H locs hP hD hS => ?_)
  have hP : va_P D vwCl (wl_MO_step cI cL cR a_t a_t_width a_t_shift a_t_outOp a_t_outA a_t_outB a_t_transfers a_t_to a_t_op a_t_opA a_t_opB a_t_next a_t_gives a_t_state a_t_from a_t_by a_t_depth a_t_number a_t_part a_t_newPart a_t_node a_t_newNode a_t_parent a_t_born a_t_one a_t_pieces a_t_chain a_t_behind a_t_classOf a_t_classState 0 t_room t_registers t_bits t_inputs t_first t_isFresh t_isRoom t_walked t_parts t_nodes t_classes n_t_width f_t_width n_t_shift f_t_shift n_t_transfers f_t_transfers n_t_to f_t_to n_t_op f_t_op n_t_opA f_t_opA n_t_opB f_t_opB) H := hP
  have hD : va_D A (wl_MO_step cI cL cR a_t a_t_width a_t_shift a_t_outOp a_t_outA a_t_outB a_t_transfers a_t_to a_t_op a_t_opA a_t_opB a_t_next a_t_gives a_t_state a_t_from a_t_by a_t_depth a_t_number a_t_part a_t_newPart a_t_node a_t_newNode a_t_parent a_t_born a_t_one a_t_pieces a_t_chain a_t_behind a_t_classOf a_t_classState 0 t_room t_registers t_bits t_inputs t_first t_isFresh t_isRoom t_walked t_parts t_nodes t_classes n_t_width f_t_width n_t_shift f_t_shift n_t_transfers f_t_transfers n_t_to f_t_to n_t_op f_t_op n_t_opA f_t_opA n_t_opB f_t_opB) := hD
  refine lv_aload_n hx hb d_MO_step_5 rfl (lv_at hl 0 rfl) ?_
  refine lv_iload_n hx hb d_MO_step_6 rfl (lv_at hl 1 rfl) ?_
  refine ky_call (wr := [(a_t_width, .inl (cI, n_t_width, .inl f_t_width)), (a_t_shift, .inl (cI, n_t_shift, .inl f_t_shift)), (a_t_transfers, .inl (cI, n_t_transfers, .inl f_t_transfers)), (a_t_to, .inl (cI, n_t_to, .inl f_t_to)), (a_t_op, .inl (cI, n_t_op, .inl f_t_op)), (a_t_opA, .inl (cI, n_t_opA, .inl f_t_opA)), (a_t_opB, .inl (cI, n_t_opB, .inl f_t_opB))]) hP hD hS hA [0] [1, 2, 3, 4, 5, 6, 7] rfl rfl (by decide) (by decide) (va_runV (As := [.int a1]) (rest := []) ⟨hx, hb, hml, hown, hts⟩ (c_MO_isState l D cI cL cR a_t a_t_width a_t_shift a_t_outOp a_t_outA a_t_outB a_t_transfers a_t_to a_t_op a_t_opA a_t_opB a_t_next a_t_gives a_t_state a_t_from a_t_by a_t_depth a_t_number a_t_part a_t_newPart a_t_node a_t_newNode a_t_parent a_t_born a_t_one a_t_pieces a_t_chain a_t_behind a_t_classOf a_t_classState 0 t_room t_registers t_bits t_inputs t_first t_isFresh t_isRoom t_walked t_parts t_nodes t_classes a1 H.size _ hw) (cw_MO_132 hts ⟨Nat.le_of_ble_eq_true rfl, Nat.le_of_ble_eq_true rfl⟩) (ky_preV hK hP hD [0] rfl (by decide) rfl rfl) rfl rfl hl.1 rfl (lv_room (Nat.le_of_ble_eq_true rfl)) d_MO_step_7 ⟨Nat.le_refl 0, Nat.le_refl 0⟩) (fun r u H locs hw hP hD hS => ?_)
  obtain ⟨r1, rfl⟩ : ∃ z, z = r := ⟨_, rfl⟩
  have hP : va_P D vwCl (wl_MO_step cI cL cR a_t a_t_width a_t_shift a_t_outOp a_t_outA a_t_outB a_t_transfers a_t_to a_t_op a_t_opA a_t_opB a_t_next a_t_gives a_t_state a_t_from a_t_by a_t_depth a_t_number a_t_part a_t_newPart a_t_node a_t_newNode a_t_parent a_t_born a_t_one a_t_pieces a_t_chain a_t_behind a_t_classOf a_t_classState 0 t_room t_registers t_bits t_inputs t_first t_isFresh t_isRoom t_walked t_parts t_nodes t_classes n_t_width f_t_width n_t_shift f_t_shift n_t_transfers f_t_transfers n_t_to f_t_to n_t_op f_t_op n_t_opA f_t_opA n_t_opB f_t_opB) H := hP.sub [7, 0, 1, 2, 3, 4, 5, 6] rfl
  have hD : va_D A (wl_MO_step cI cL cR a_t a_t_width a_t_shift a_t_outOp a_t_outA a_t_outB a_t_transfers a_t_to a_t_op a_t_opA a_t_opB a_t_next a_t_gives a_t_state a_t_from a_t_by a_t_depth a_t_number a_t_part a_t_newPart a_t_node a_t_newNode a_t_parent a_t_born a_t_one a_t_pieces a_t_chain a_t_behind a_t_classOf a_t_classState 0 t_room t_registers t_bits t_inputs t_first t_isFresh t_isRoom t_walked t_parts t_nodes t_classes n_t_width f_t_width n_t_shift f_t_shift n_t_transfers f_t_transfers n_t_to f_t_to n_t_op f_t_op n_t_opA f_t_opA n_t_opB f_t_opB) := hD.sub [7, 0, 1, 2, 3, 4, 5, 6] (by decide) rfl
  refine W.widen (k := 0) (n := 0) (Nat.le_refl _) (Nat.le_refl _) ?_
  refine W.eq (g2 := F0 m 10 ls [.int r1]) rfl ?_
  refine lv_if_eq (tgt := 36) hx hb d_MO_step_10 (by decide) (fun hc => ?_) (fun hc => ?_)
  · have hw := hw.1 hc
    refine lv_aload_n hx hb d_MO_step_36 rfl (lv_at hl 0 rfl) ?_
    refine lv_iconst (v := 1) hx hb d_MO_step_37 (by decide) ?_
    refine ky_call (wr := [(a_t_width, .inl (cI, n_t_width, .inl f_t_width)), (a_t_shift, .inl (cI, n_t_shift, .inl f_t_shift)), (a_t_transfers, .inl (cI, n_t_transfers, .inl f_t_transfers)), (a_t_to, .inl (cI, n_t_to, .inl f_t_to)), (a_t_op, .inl (cI, n_t_op, .inl f_t_op)), (a_t_opA, .inl (cI, n_t_opA, .inl f_t_opA)), (a_t_opB, .inl (cI, n_t_opB, .inl f_t_opB))]) hP hD hS hA [0] [1, 2, 3, 4, 5, 6, 7] rfl rfl (by decide) (by decide) (va_runV (As := [.int 1]) (rest := []) ⟨hx, hb, hml, hown, hts⟩ (c_MO_fail l D cI cL cR a_t a_t_width a_t_shift a_t_outOp a_t_outA a_t_outB a_t_transfers a_t_to a_t_op a_t_opA a_t_opB a_t_next a_t_gives a_t_state a_t_from a_t_by a_t_depth a_t_number a_t_part a_t_newPart a_t_node a_t_newNode a_t_parent a_t_born a_t_one a_t_pieces a_t_chain a_t_behind a_t_classOf a_t_classState 0 t_room t_registers t_bits t_inputs t_first t_isFresh t_isRoom t_walked t_parts t_nodes t_classes (1 : Int32) H.size _ hw) (cw_MO_108 hts ⟨Nat.le_of_ble_eq_true rfl, Nat.le_of_ble_eq_true rfl⟩) (ky_preV hK hP hD [0] rfl (by decide) rfl rfl) rfl rfl hl.1 rfl (lv_room (Nat.le_of_ble_eq_true rfl)) d_MO_step_38 ⟨Nat.le_refl 0, Nat.le_refl 0⟩) (fun r u H locs hw hP hD hS => ?_)
    obtain ⟨m_thrown_2, rfl⟩ : ∃ z, z = u := ⟨_, rfl⟩
    obtain ⟨r2, rfl⟩ : ∃ z, z = r := ⟨_, rfl⟩
    try dsimp only at hw
    have hP : va_P D vwCl (wl_MO_step cI cL cR a_t a_t_width a_t_shift a_t_outOp a_t_outA a_t_outB a_t_transfers a_t_to a_t_op a_t_opA a_t_opB a_t_next a_t_gives a_t_state a_t_from a_t_by a_t_depth a_t_number a_t_part a_t_newPart a_t_node a_t_newNode a_t_parent a_t_born a_t_one a_t_pieces a_t_chain a_t_behind a_t_classOf a_t_classState m_thrown_2 t_room t_registers t_bits t_inputs t_first t_isFresh t_isRoom t_walked t_parts t_nodes t_classes n_t_width f_t_width n_t_shift f_t_shift n_t_transfers f_t_transfers n_t_to f_t_to n_t_op f_t_op n_t_opA f_t_opA n_t_opB f_t_opB) H := hP.sub [7, 0, 1, 2, 3, 4, 5, 6] rfl
    have hD : va_D A (wl_MO_step cI cL cR a_t a_t_width a_t_shift a_t_outOp a_t_outA a_t_outB a_t_transfers a_t_to a_t_op a_t_opA a_t_opB a_t_next a_t_gives a_t_state a_t_from a_t_by a_t_depth a_t_number a_t_part a_t_newPart a_t_node a_t_newNode a_t_parent a_t_born a_t_one a_t_pieces a_t_chain a_t_behind a_t_classOf a_t_classState m_thrown_2 t_room t_registers t_bits t_inputs t_first t_isFresh t_isRoom t_walked t_parts t_nodes t_classes n_t_width f_t_width n_t_shift f_t_shift n_t_transfers f_t_transfers n_t_to f_t_to n_t_op f_t_op n_t_opA f_t_opA n_t_opB f_t_opB) := hD.sub [7, 0, 1, 2, 3, 4, 5, 6] (by decide) rfl
    refine W.widen (k := 0) (n := 0) (Nat.le_refl _) (Nat.le_refl _) ?_
    refine W.eq (g2 := F0 m 41 ls [.int r2]) rfl ?_
    exact hret r2 m_thrown_2 H locs _ _ 41 ls d_MO_step_41 hP hD hS hw (Nat.le_refl 0) (Nat.le_refl 0)
  · have hw := hw.2 hc
    refine lv_iload_n hx hb d_MO_step_13 rfl (lv_at hl 2 rfl) ?_
    refine lv_iconst (v := 0) hx hb d_MO_step_14 (by decide) ?_
    refine lv_aload_n hx hb d_MO_step_15 rfl (lv_at hl 0 rfl) ?_
    refine gf_MO_112 hx hb hts hown hK hP 0 rfl rfl d_MO_step_16 ?_
    refine lv_iconst (v := 1) hx hb d_MO_step_19 (by decide) ?_
    refine lv_isub hx hb d_MO_step_20 ?_
    refine ky_call (wr := [(a_t, .inr (7, [.int 0, .int t_room, .int t_registers, .int t_bits, .int t_inputs, .int t_first, .ref a_t_width, .ref a_t_shift, .ref a_t_outOp, .ref a_t_outA, .ref a_t_outB, .ref a_t_transfers, .ref a_t_to, .ref a_t_op, .ref a_t_opA, .ref a_t_opB, .int t_isFresh, .ref a_t_next, .ref a_t_gives, .int t_isRoom, .int t_walked, .ref a_t_state, .ref a_t_from, .ref a_t_by, .ref a_t_depth, .ref a_t_number, .int t_parts, .int t_nodes, .ref a_t_part, .ref a_t_newPart, .ref a_t_node, .ref a_t_newNode, .ref a_t_parent, .ref a_t_born, .ref a_t_one, .ref a_t_pieces, .ref a_t_chain, .ref a_t_behind, .int t_classes, .ref a_t_classOf, .ref a_t_classState])), (a_t_width, .inl (cI, n_t_width, .inl f_t_width)), (a_t_shift, .inl (cI, n_t_shift, .inl f_t_shift)), (a_t_transfers, .inl (cI, n_t_transfers, .inl f_t_transfers)), (a_t_to, .inl (cI, n_t_to, .inl f_t_to)), (a_t_op, .inl (cI, n_t_op, .inl f_t_op)), (a_t_opA, .inl (cI, n_t_opA, .inl f_t_opA)), (a_t_opB, .inl (cI, n_t_opB, .inl f_t_opB))]) hP hD hS hA [] [0, 1, 2, 3, 4, 5, 6, 7] rfl rfl (by decide) (by decide) (va_runS (As := [.int a2, .int 0, .int (t_inputs - (1 : Int32))]) (rest := []) ⟨hx, hb, hml, hown, hts⟩ (c_MO_within l D cI cL cR a2 (0 : Int32) (t_inputs - (1 : Int32)) H.size _ hw) (cw_MO_104 hts ⟨Nat.le_of_ble_eq_true rfl, Nat.le_of_ble_eq_true rfl⟩) (ky_preS hK hP hD [] rfl (by decide)) rfl rfl hl.1 rfl (lv_room (Nat.le_of_ble_eq_true rfl)) d_MO_step_21 ⟨Nat.le_refl 0, Nat.le_refl 0⟩) (fun r u H locs hw hP hD hS => ?_)
    obtain ⟨r3, rfl⟩ : ∃ z, z = r := ⟨_, rfl⟩
    have hP : va_P D vwCl (wl_MO_step cI cL cR a_t a_t_width a_t_shift a_t_outOp a_t_outA a_t_outB a_t_transfers a_t_to a_t_op a_t_opA a_t_opB a_t_next a_t_gives a_t_state a_t_from a_t_by a_t_depth a_t_number a_t_part a_t_newPart a_t_node a_t_newNode a_t_parent a_t_born a_t_one a_t_pieces a_t_chain a_t_behind a_t_classOf a_t_classState 0 t_room t_registers t_bits t_inputs t_first t_isFresh t_isRoom t_walked t_parts t_nodes t_classes n_t_width f_t_width n_t_shift f_t_shift n_t_transfers f_t_transfers n_t_to f_t_to n_t_op f_t_op n_t_opA f_t_opA n_t_opB f_t_opB) H := hP
    have hD : va_D A (wl_MO_step cI cL cR a_t a_t_width a_t_shift a_t_outOp a_t_outA a_t_outB a_t_transfers a_t_to a_t_op a_t_opA a_t_opB a_t_next a_t_gives a_t_state a_t_from a_t_by a_t_depth a_t_number a_t_part a_t_newPart a_t_node a_t_newNode a_t_parent a_t_born a_t_one a_t_pieces a_t_chain a_t_behind a_t_classOf a_t_classState 0 t_room t_registers t_bits t_inputs t_first t_isFresh t_isRoom t_walked t_parts t_nodes t_classes n_t_width f_t_width n_t_shift f_t_shift n_t_transfers f_t_transfers n_t_to f_t_to n_t_op f_t_op n_t_opA f_t_opA n_t_opB f_t_opB) := hD
    refine W.widen (k := 0) (n := 0) (Nat.le_refl _) (Nat.le_refl _) ?_
    refine W.eq (g2 := F0 m 24 ls [.int r3]) rfl ?_
    refine lv_if_eq (tgt := 36) hx hb d_MO_step_24 (by decide) (fun hc => ?_) (fun hc => ?_)
    · have hw := hw.1 hc
      refine lv_aload_n hx hb d_MO_step_36 rfl (lv_at hl 0 rfl) ?_
      refine lv_iconst (v := 1) hx hb d_MO_step_37 (by decide) ?_
      refine ky_call (wr := [(a_t_width, .inl (cI, n_t_width, .inl f_t_width)), (a_t_shift, .inl (cI, n_t_shift, .inl f_t_shift)), (a_t_transfers, .inl (cI, n_t_transfers, .inl f_t_transfers)), (a_t_to, .inl (cI, n_t_to, .inl f_t_to)), (a_t_op, .inl (cI, n_t_op, .inl f_t_op)), (a_t_opA, .inl (cI, n_t_opA, .inl f_t_opA)), (a_t_opB, .inl (cI, n_t_opB, .inl f_t_opB))]) hP hD hS hA [0] [1, 2, 3, 4, 5, 6, 7] rfl rfl (by decide) (by decide) (va_runV (As := [.int 1]) (rest := []) ⟨hx, hb, hml, hown, hts⟩ (c_MO_fail l D cI cL cR a_t a_t_width a_t_shift a_t_outOp a_t_outA a_t_outB a_t_transfers a_t_to a_t_op a_t_opA a_t_opB a_t_next a_t_gives a_t_state a_t_from a_t_by a_t_depth a_t_number a_t_part a_t_newPart a_t_node a_t_newNode a_t_parent a_t_born a_t_one a_t_pieces a_t_chain a_t_behind a_t_classOf a_t_classState 0 t_room t_registers t_bits t_inputs t_first t_isFresh t_isRoom t_walked t_parts t_nodes t_classes (1 : Int32) H.size _ hw) (cw_MO_108 hts ⟨Nat.le_of_ble_eq_true rfl, Nat.le_of_ble_eq_true rfl⟩) (ky_preV hK hP hD [0] rfl (by decide) rfl rfl) rfl rfl hl.1 rfl (lv_room (Nat.le_of_ble_eq_true rfl)) d_MO_step_38 ⟨Nat.le_refl 0, Nat.le_refl 0⟩) (fun r u H locs hw hP hD hS => ?_)
      obtain ⟨m_thrown_4, rfl⟩ : ∃ z, z = u := ⟨_, rfl⟩
      obtain ⟨r4, rfl⟩ : ∃ z, z = r := ⟨_, rfl⟩
      try dsimp only at hw
      have hP : va_P D vwCl (wl_MO_step cI cL cR a_t a_t_width a_t_shift a_t_outOp a_t_outA a_t_outB a_t_transfers a_t_to a_t_op a_t_opA a_t_opB a_t_next a_t_gives a_t_state a_t_from a_t_by a_t_depth a_t_number a_t_part a_t_newPart a_t_node a_t_newNode a_t_parent a_t_born a_t_one a_t_pieces a_t_chain a_t_behind a_t_classOf a_t_classState m_thrown_4 t_room t_registers t_bits t_inputs t_first t_isFresh t_isRoom t_walked t_parts t_nodes t_classes n_t_width f_t_width n_t_shift f_t_shift n_t_transfers f_t_transfers n_t_to f_t_to n_t_op f_t_op n_t_opA f_t_opA n_t_opB f_t_opB) H := hP.sub [7, 0, 1, 2, 3, 4, 5, 6] rfl
      have hD : va_D A (wl_MO_step cI cL cR a_t a_t_width a_t_shift a_t_outOp a_t_outA a_t_outB a_t_transfers a_t_to a_t_op a_t_opA a_t_opB a_t_next a_t_gives a_t_state a_t_from a_t_by a_t_depth a_t_number a_t_part a_t_newPart a_t_node a_t_newNode a_t_parent a_t_born a_t_one a_t_pieces a_t_chain a_t_behind a_t_classOf a_t_classState m_thrown_4 t_room t_registers t_bits t_inputs t_first t_isFresh t_isRoom t_walked t_parts t_nodes t_classes n_t_width f_t_width n_t_shift f_t_shift n_t_transfers f_t_transfers n_t_to f_t_to n_t_op f_t_op n_t_opA f_t_opA n_t_opB f_t_opB) := hD.sub [7, 0, 1, 2, 3, 4, 5, 6] (by decide) rfl
      refine W.widen (k := 0) (n := 0) (Nat.le_refl _) (Nat.le_refl _) ?_
      refine W.eq (g2 := F0 m 41 ls [.int r4]) rfl ?_
      exact hret r4 m_thrown_4 H locs _ _ 41 ls d_MO_step_41 hP hD hS hw (Nat.le_refl 0) (Nat.le_refl 0)
    · have hw := hw.2 hc
      refine lv_aload_n hx hb d_MO_step_27 rfl (lv_at hl 0 rfl) ?_
      refine lv_iload_n hx hb d_MO_step_28 rfl (lv_at hl 1 rfl) ?_
      refine lv_iload_n hx hb d_MO_step_29 rfl (lv_at hl 2 rfl) ?_
      refine ky_call (wr := []) hP hD hS hA [0, 1, 2, 3, 4, 5, 6, 7] [] rfl rfl (by decide) (by decide) (va_runV (As := [.int a1, .int a2]) (rest := []) ⟨hx, hb, hml, hown, hts⟩ (c_MO_stepOf l D cI cL cR a_t a_t_width a_t_shift a_t_outOp a_t_outA a_t_outB a_t_transfers a_t_to a_t_op a_t_opA a_t_opB a_t_next a_t_gives a_t_state a_t_from a_t_by a_t_depth a_t_number a_t_part a_t_newPart a_t_node a_t_newNode a_t_parent a_t_born a_t_one a_t_pieces a_t_chain a_t_behind a_t_classOf a_t_classState 0 t_room t_registers t_bits t_inputs t_first t_isFresh t_isRoom t_walked t_parts t_nodes t_classes n_t_width f_t_width n_t_shift f_t_shift n_t_transfers f_t_transfers n_t_to f_t_to n_t_op f_t_op n_t_opA f_t_opA n_t_opB f_t_opB a1 a2 H.size _ hw) (cw_MO_146 hts ⟨Nat.le_of_ble_eq_true rfl, Nat.le_of_ble_eq_true rfl⟩) (ky_preV hK hP hD [0, 1, 2, 3, 4, 5, 6, 7] rfl (by decide) rfl rfl) rfl rfl hl.1 rfl (lv_room (Nat.le_of_ble_eq_true rfl)) d_MO_step_30 ⟨Nat.le_refl 0, Nat.le_refl 0⟩) (fun r u H locs hw hP hD hS => ?_)
      obtain ⟨r5, rfl⟩ : ∃ z, z = r := ⟨_, rfl⟩
      have hP : va_P D vwCl (wl_MO_step cI cL cR a_t a_t_width a_t_shift a_t_outOp a_t_outA a_t_outB a_t_transfers a_t_to a_t_op a_t_opA a_t_opB a_t_next a_t_gives a_t_state a_t_from a_t_by a_t_depth a_t_number a_t_part a_t_newPart a_t_node a_t_newNode a_t_parent a_t_born a_t_one a_t_pieces a_t_chain a_t_behind a_t_classOf a_t_classState 0 t_room t_registers t_bits t_inputs t_first t_isFresh t_isRoom t_walked t_parts t_nodes t_classes n_t_width f_t_width n_t_shift f_t_shift n_t_transfers f_t_transfers n_t_to f_t_to n_t_op f_t_op n_t_opA f_t_opA n_t_opB f_t_opB) H := hP
      have hD : va_D A (wl_MO_step cI cL cR a_t a_t_width a_t_shift a_t_outOp a_t_outA a_t_outB a_t_transfers a_t_to a_t_op a_t_opA a_t_opB a_t_next a_t_gives a_t_state a_t_from a_t_by a_t_depth a_t_number a_t_part a_t_newPart a_t_node a_t_newNode a_t_parent a_t_born a_t_one a_t_pieces a_t_chain a_t_behind a_t_classOf a_t_classState 0 t_room t_registers t_bits t_inputs t_first t_isFresh t_isRoom t_walked t_parts t_nodes t_classes n_t_width f_t_width n_t_shift f_t_shift n_t_transfers f_t_transfers n_t_to f_t_to n_t_op f_t_op n_t_opA f_t_opA n_t_opB f_t_opB) := hD
      refine W.widen (k := 0) (n := 0) (Nat.le_refl _) (Nat.le_refl _) ?_
      refine W.eq (g2 := F0 m 33 ls [.int r5]) rfl ?_
      refine lv_goto (tgt := 41) hx hb d_MO_step_33 (by decide) ?_
      exact hret r5 0 H locs _ _ 41 ls d_MO_step_41 hP hD hS hw (Nat.le_refl 0) (Nat.le_refl 0)

abbrev wl_MO_output (cI cL cR : ClassId) (a_t : Nat) (a_t_width : Nat) (a_t_shift : Nat) (a_t_outOp : Nat) (a_t_outA : Nat) (a_t_outB : Nat) (a_t_transfers : Nat) (a_t_to : Nat) (a_t_op : Nat) (a_t_opA : Nat) (a_t_opB : Nat) (a_t_next : Nat) (a_t_gives : Nat) (a_t_state : Nat) (a_t_from : Nat) (a_t_by : Nat) (a_t_depth : Nat) (a_t_number : Nat) (a_t_part : Nat) (a_t_newPart : Nat) (a_t_node : Nat) (a_t_newNode : Nat) (a_t_parent : Nat) (a_t_born : Nat) (a_t_one : Nat) (a_t_pieces : Nat) (a_t_chain : Nat) (a_t_behind : Nat) (a_t_classOf : Nat) (a_t_classState : Nat) (t_thrown : Int32) (t_room : Int32) (t_registers : Int32) (t_bits : Int32) (t_inputs : Int32) (t_first : Int32) (t_isFresh : Int32) (t_isRoom : Int32) (t_walked : Int32) (t_parts : Int32) (t_nodes : Int32) (t_classes : Int32) (n_t_width : Nat) (f_t_width : Nat → Int32) (n_t_shift : Nat) (f_t_shift : Nat → Int32) (n_t_outOp : Nat) (f_t_outOp : Nat → Int32) (n_t_outA : Nat) (f_t_outA : Nat → Int32) (n_t_outB : Nat) (f_t_outB : Nat → Int32) : va_W := [(a_t, .inr (7, [.int t_thrown, .int t_room, .int t_registers, .int t_bits, .int t_inputs, .int t_first, .ref a_t_width, .ref a_t_shift, .ref a_t_outOp, .ref a_t_outA, .ref a_t_outB, .ref a_t_transfers, .ref a_t_to, .ref a_t_op, .ref a_t_opA, .ref a_t_opB, .int t_isFresh, .ref a_t_next, .ref a_t_gives, .int t_isRoom, .int t_walked, .ref a_t_state, .ref a_t_from, .ref a_t_by, .ref a_t_depth, .ref a_t_number, .int t_parts, .int t_nodes, .ref a_t_part, .ref a_t_newPart, .ref a_t_node, .ref a_t_newNode, .ref a_t_parent, .ref a_t_born, .ref a_t_one, .ref a_t_pieces, .ref a_t_chain, .ref a_t_behind, .int t_classes, .ref a_t_classOf, .ref a_t_classState])), (a_t_width, .inl (cI, n_t_width, .inl f_t_width)), (a_t_shift, .inl (cI, n_t_shift, .inl f_t_shift)), (a_t_outOp, .inl (cI, n_t_outOp, .inl f_t_outOp)), (a_t_outA, .inl (cI, n_t_outA, .inl f_t_outA)), (a_t_outB, .inl (cI, n_t_outB, .inl f_t_outB))]
def wp_MO_output (t_thrown : Int32) (t_room : Int32) (t_registers : Int32) (t_bits : Int32) (t_inputs : Int32) (t_first : Int32) (t_isFresh : Int32) (t_isRoom : Int32) (t_walked : Int32) (t_parts : Int32) (t_nodes : Int32) (t_classes : Int32) (n_t_width : Nat) (f_t_width : Nat → Int32) (n_t_shift : Nat) (f_t_shift : Nat → Int32) (n_t_outOp : Nat) (f_t_outOp : Nat → Int32) (n_t_outA : Nat) (f_t_outA : Nat → Int32) (n_t_outB : Nat) (f_t_outB : Nat → Int32) (a1 : Int32) (a2 : Int32) (post : Int32 → Int32 → Prop) : Prop :=
  wp_MO_isState 0 t_room t_registers t_bits t_inputs t_first t_isFresh t_isRoom t_walked t_parts t_nodes t_classes a1 (fun r1 => ((r1 = 0 → wp_MO_fail 0 t_room t_registers t_bits t_inputs t_first t_isFresh t_isRoom t_walked t_parts t_nodes t_classes (1 : Int32) (fun r2 m_thrown_2 => post r2 m_thrown_2)) ∧ (¬ r1 = 0 → wp_MO_within a2 (0 : Int32) (t_inputs - (1 : Int32)) (fun r3 => ((r3 = 0 → wp_MO_fail 0 t_room t_registers t_bits t_inputs t_first t_isFresh t_isRoom t_walked t_parts t_nodes t_classes (1 : Int32) (fun r4 m_thrown_4 => post r4 m_thrown_4)) ∧ (¬ r3 = 0 → wp_MO_outputOf 0 t_room t_registers t_bits t_inputs t_first t_isFresh t_isRoom t_walked t_parts t_nodes t_classes n_t_width f_t_width n_t_shift f_t_shift n_t_outOp f_t_outOp n_t_outA f_t_outA n_t_outB f_t_outB a1 a2 (fun r5 => post r5 0)))))))
abbrev rm_MO_output : Room := { frames := 4, cells := 0, slots := 0, locals := 85 }
set_option maxHeartbeats 4000000 in
set_option maxRecDepth 100000 in
theorem c_MO_output (l : Launch) (D : va_G) (cI cL cR : ClassId) (a_t a_t_width a_t_shift a_t_outOp a_t_outA a_t_outB a_t_transfers a_t_to a_t_op a_t_opA a_t_opB a_t_next a_t_gives a_t_state a_t_from a_t_by a_t_depth a_t_number a_t_part a_t_newPart a_t_node a_t_newNode a_t_parent a_t_born a_t_one a_t_pieces a_t_chain a_t_behind a_t_classOf a_t_classState : Nat) (t_thrown : Int32) (t_room : Int32) (t_registers : Int32) (t_bits : Int32) (t_inputs : Int32) (t_first : Int32) (t_isFresh : Int32) (t_isRoom : Int32) (t_walked : Int32) (t_parts : Int32) (t_nodes : Int32) (t_classes : Int32) (n_t_width : Nat) (f_t_width : Nat → Int32) (n_t_shift : Nat) (f_t_shift : Nat → Int32) (n_t_outOp : Nat) (f_t_outOp : Nat → Int32) (n_t_outA : Nat) (f_t_outA : Nat → Int32) (n_t_outB : Nat) (f_t_outB : Nat → Int32) (a1 : Int32) (a2 : Int32) (sz : Nat) (post : Int32 → Int32 → Prop) (hw : wp_MO_output t_thrown t_room t_registers t_bits t_inputs t_first t_isFresh t_isRoom t_walked t_parts t_nodes t_classes n_t_width f_t_width n_t_shift f_t_shift n_t_outOp f_t_outOp n_t_outA f_t_outA n_t_outB f_t_outB a1 a2 post) : ky_M ky_rI l y_MO_output (.code y_MO_output b_MO_output 3 (some .int) :: wsG) rm_MO_output D vwCl (ky_T cI cL cR) (wl_MO_output cI cL cR a_t a_t_width a_t_shift a_t_outOp a_t_outA a_t_outB a_t_transfers a_t_to a_t_op a_t_opA a_t_opB a_t_next a_t_gives a_t_state a_t_from a_t_by a_t_depth a_t_number a_t_part a_t_newPart a_t_node a_t_newNode a_t_parent a_t_born a_t_one a_t_pieces a_t_chain a_t_behind a_t_classOf a_t_classState t_thrown t_room t_registers t_bits t_inputs t_first t_isFresh t_isRoom t_walked t_parts t_nodes t_classes n_t_width f_t_width n_t_shift f_t_shift n_t_outOp f_t_outOp n_t_outA f_t_outA n_t_outB f_t_outB) sz [.ref a_t, .int a1, .int a2] (fun r (u : Int32) => post r u) (fun u => wl_MO_output cI cL cR a_t a_t_width a_t_shift a_t_outOp a_t_outA a_t_outB a_t_transfers a_t_to a_t_op a_t_opA a_t_opB a_t_next a_t_gives a_t_state a_t_from a_t_by a_t_depth a_t_number a_t_part a_t_newPart a_t_node a_t_newNode a_t_parent a_t_born a_t_one a_t_pieces a_t_chain a_t_behind a_t_classOf a_t_classState u t_room t_registers t_bits t_inputs t_first t_isFresh t_isRoom t_walked t_parts t_nodes t_classes n_t_width f_t_width n_t_shift f_t_shift n_t_outOp f_t_outOp n_t_outA f_t_outA n_t_outB f_t_outB) := by
  refine ky_ofI (plainFor_of_name (by decide)) (Nat.le_of_ble_eq_true rfl) ?_
  intro p e s m args below meth c A Q ls hI hret
  obtain ⟨hx, hb, hml, hown, hin, hts, hK, hP, hD, hA, hS, hl⟩ := hI
  have hown : s.vm.findClass R_MO = some m.cls := hown
  have hl : lv_has ls 3 [(0, .ref a_t), (1, .int a1), (2, .int a2)] := hl
  obtain ⟨H, locs, eH, eL⟩ : ∃ (H : Heap) (locs : List Loc), H = s.heap ∧ locs = [] := ⟨_, _, rfl, rfl⟩
  rw [← eL] at hS ⊢
  have hS : va_S A s.heap H locs := by rw [eH]; exact hS
  have hP : va_P D vwCl (wl_MO_output cI cL cR a_t a_t_width a_t_shift a_t_outOp a_t_outA a_t_outB a_t_transfers a_t_to a_t_op a_t_opA a_t_opB a_t_next a_t_gives a_t_state a_t_from a_t_by a_t_depth a_t_number a_t_part a_t_newPart a_t_node a_t_newNode a_t_parent a_t_born a_t_one a_t_pieces a_t_chain a_t_behind a_t_classOf a_t_classState t_thrown t_room t_registers t_bits t_inputs t_first t_isFresh t_isRoom t_walked t_parts t_nodes t_classes n_t_width f_t_width n_t_shift f_t_shift n_t_outOp f_t_outOp n_t_outA f_t_outA n_t_outB f_t_outB) H := by rw [eH]; exact hP
  suffices hgo : W p l e rm_MO_output s m args below meth c H locs 0 0 Q (F0 m 0 ls []) by rw [eH] at hgo; exact hgo
  clear eH eL
  unfold wp_MO_output at hw
  refine lv_aload_n hx hb d_MO_output_0 rfl (lv_at hl 0 rfl) ?_
  refine lv_iconst (v := 0) hx hb d_MO_output_1 (by decide) ?_
  refine pf_MO_101 (v := .int 0) hx hb hts hown hK hP hD hS 0 rfl rfl rfl (Nat.le_of_ble_eq_true rfl) d_MO_output_2 (fun H locs hP hD hS => ?_)
  have hP : va_P D vwCl (wl_MO_output cI cL cR a_t a_t_width a_t_shift a_t_outOp a_t_outA a_t_outB a_t_transfers a_t_to a_t_op a_t_opA a_t_opB a_t_next a_t_gives a_t_state a_t_from a_t_by a_t_depth a_t_number a_t_part a_t_newPart a_t_node a_t_newNode a_t_parent a_t_born a_t_one a_t_pieces a_t_chain a_t_behind a_t_classOf a_t_classState 0 t_room t_registers t_bits t_inputs t_first t_isFresh t_isRoom t_walked t_parts t_nodes t_classes n_t_width f_t_width n_t_shift f_t_shift n_t_outOp f_t_outOp n_t_outA f_t_outA n_t_outB f_t_outB) H := hP
  have hD : va_D A (wl_MO_output cI cL cR a_t a_t_width a_t_shift a_t_outOp a_t_outA a_t_outB a_t_transfers a_t_to a_t_op a_t_opA a_t_opB a_t_next a_t_gives a_t_state a_t_from a_t_by a_t_depth a_t_number a_t_part a_t_newPart a_t_node a_t_newNode a_t_parent a_t_born a_t_one a_t_pieces a_t_chain a_t_behind a_t_classOf a_t_classState 0 t_room t_registers t_bits t_inputs t_first t_isFresh t_isRoom t_walked t_parts t_nodes t_classes n_t_width f_t_width n_t_shift f_t_shift n_t_outOp f_t_outOp n_t_outA f_t_outA n_t_outB f_t_outB) := hD
  refine lv_aload_n hx hb d_MO_output_5 rfl (lv_at hl 0 rfl) ?_
  refine lv_iload_n hx hb d_MO_output_6 rfl (lv_at hl 1 rfl) ?_
  refine ky_call (wr := [(a_t_width, .inl (cI, n_t_width, .inl f_t_width)), (a_t_shift, .inl (cI, n_t_shift, .inl f_t_shift)), (a_t_outOp, .inl (cI, n_t_outOp, .inl f_t_outOp)), (a_t_outA, .inl (cI, n_t_outA, .inl f_t_outA)), (a_t_outB, .inl (cI, n_t_outB, .inl f_t_outB))]) hP hD hS hA [0] [1, 2, 3, 4, 5] rfl rfl (by decide) (by decide) (va_runV (As := [.int a1]) (rest := []) ⟨hx, hb, hml, hown, hts⟩ (c_MO_isState l D cI cL cR a_t a_t_width a_t_shift a_t_outOp a_t_outA a_t_outB a_t_transfers a_t_to a_t_op a_t_opA a_t_opB a_t_next a_t_gives a_t_state a_t_from a_t_by a_t_depth a_t_number a_t_part a_t_newPart a_t_node a_t_newNode a_t_parent a_t_born a_t_one a_t_pieces a_t_chain a_t_behind a_t_classOf a_t_classState 0 t_room t_registers t_bits t_inputs t_first t_isFresh t_isRoom t_walked t_parts t_nodes t_classes a1 H.size _ hw) (cw_MO_132 hts ⟨Nat.le_of_ble_eq_true rfl, Nat.le_of_ble_eq_true rfl⟩) (ky_preV hK hP hD [0] rfl (by decide) rfl rfl) rfl rfl hl.1 rfl (lv_room (Nat.le_of_ble_eq_true rfl)) d_MO_output_7 ⟨Nat.le_refl 0, Nat.le_refl 0⟩) (fun r u H locs hw hP hD hS => ?_)
  obtain ⟨r1, rfl⟩ : ∃ z, z = r := ⟨_, rfl⟩
  have hP : va_P D vwCl (wl_MO_output cI cL cR a_t a_t_width a_t_shift a_t_outOp a_t_outA a_t_outB a_t_transfers a_t_to a_t_op a_t_opA a_t_opB a_t_next a_t_gives a_t_state a_t_from a_t_by a_t_depth a_t_number a_t_part a_t_newPart a_t_node a_t_newNode a_t_parent a_t_born a_t_one a_t_pieces a_t_chain a_t_behind a_t_classOf a_t_classState 0 t_room t_registers t_bits t_inputs t_first t_isFresh t_isRoom t_walked t_parts t_nodes t_classes n_t_width f_t_width n_t_shift f_t_shift n_t_outOp f_t_outOp n_t_outA f_t_outA n_t_outB f_t_outB) H := hP.sub [5, 0, 1, 2, 3, 4] rfl
  have hD : va_D A (wl_MO_output cI cL cR a_t a_t_width a_t_shift a_t_outOp a_t_outA a_t_outB a_t_transfers a_t_to a_t_op a_t_opA a_t_opB a_t_next a_t_gives a_t_state a_t_from a_t_by a_t_depth a_t_number a_t_part a_t_newPart a_t_node a_t_newNode a_t_parent a_t_born a_t_one a_t_pieces a_t_chain a_t_behind a_t_classOf a_t_classState 0 t_room t_registers t_bits t_inputs t_first t_isFresh t_isRoom t_walked t_parts t_nodes t_classes n_t_width f_t_width n_t_shift f_t_shift n_t_outOp f_t_outOp n_t_outA f_t_outA n_t_outB f_t_outB) := hD.sub [5, 0, 1, 2, 3, 4] (by decide) rfl
  refine W.widen (k := 0) (n := 0) (Nat.le_refl _) (Nat.le_refl _) ?_
  refine W.eq (g2 := F0 m 10 ls [.int r1]) rfl ?_
  refine lv_if_eq (tgt := 36) hx hb d_MO_output_10 (by decide) (fun hc => ?_) (fun hc => ?_)
  · have hw := hw.1 hc
    refine lv_aload_n hx hb d_MO_output_36 rfl (lv_at hl 0 rfl) ?_
    refine lv_iconst (v := 1) hx hb d_MO_output_37 (by decide) ?_
    refine ky_call (wr := [(a_t_width, .inl (cI, n_t_width, .inl f_t_width)), (a_t_shift, .inl (cI, n_t_shift, .inl f_t_shift)), (a_t_outOp, .inl (cI, n_t_outOp, .inl f_t_outOp)), (a_t_outA, .inl (cI, n_t_outA, .inl f_t_outA)), (a_t_outB, .inl (cI, n_t_outB, .inl f_t_outB))]) hP hD hS hA [0] [1, 2, 3, 4, 5] rfl rfl (by decide) (by decide) (va_runV (As := [.int 1]) (rest := []) ⟨hx, hb, hml, hown, hts⟩ (c_MO_fail l D cI cL cR a_t a_t_width a_t_shift a_t_outOp a_t_outA a_t_outB a_t_transfers a_t_to a_t_op a_t_opA a_t_opB a_t_next a_t_gives a_t_state a_t_from a_t_by a_t_depth a_t_number a_t_part a_t_newPart a_t_node a_t_newNode a_t_parent a_t_born a_t_one a_t_pieces a_t_chain a_t_behind a_t_classOf a_t_classState 0 t_room t_registers t_bits t_inputs t_first t_isFresh t_isRoom t_walked t_parts t_nodes t_classes (1 : Int32) H.size _ hw) (cw_MO_108 hts ⟨Nat.le_of_ble_eq_true rfl, Nat.le_of_ble_eq_true rfl⟩) (ky_preV hK hP hD [0] rfl (by decide) rfl rfl) rfl rfl hl.1 rfl (lv_room (Nat.le_of_ble_eq_true rfl)) d_MO_output_38 ⟨Nat.le_refl 0, Nat.le_refl 0⟩) (fun r u H locs hw hP hD hS => ?_)
    obtain ⟨m_thrown_2, rfl⟩ : ∃ z, z = u := ⟨_, rfl⟩
    obtain ⟨r2, rfl⟩ : ∃ z, z = r := ⟨_, rfl⟩
    try dsimp only at hw
    have hP : va_P D vwCl (wl_MO_output cI cL cR a_t a_t_width a_t_shift a_t_outOp a_t_outA a_t_outB a_t_transfers a_t_to a_t_op a_t_opA a_t_opB a_t_next a_t_gives a_t_state a_t_from a_t_by a_t_depth a_t_number a_t_part a_t_newPart a_t_node a_t_newNode a_t_parent a_t_born a_t_one a_t_pieces a_t_chain a_t_behind a_t_classOf a_t_classState m_thrown_2 t_room t_registers t_bits t_inputs t_first t_isFresh t_isRoom t_walked t_parts t_nodes t_classes n_t_width f_t_width n_t_shift f_t_shift n_t_outOp f_t_outOp n_t_outA f_t_outA n_t_outB f_t_outB) H := hP.sub [5, 0, 1, 2, 3, 4] rfl
    have hD : va_D A (wl_MO_output cI cL cR a_t a_t_width a_t_shift a_t_outOp a_t_outA a_t_outB a_t_transfers a_t_to a_t_op a_t_opA a_t_opB a_t_next a_t_gives a_t_state a_t_from a_t_by a_t_depth a_t_number a_t_part a_t_newPart a_t_node a_t_newNode a_t_parent a_t_born a_t_one a_t_pieces a_t_chain a_t_behind a_t_classOf a_t_classState m_thrown_2 t_room t_registers t_bits t_inputs t_first t_isFresh t_isRoom t_walked t_parts t_nodes t_classes n_t_width f_t_width n_t_shift f_t_shift n_t_outOp f_t_outOp n_t_outA f_t_outA n_t_outB f_t_outB) := hD.sub [5, 0, 1, 2, 3, 4] (by decide) rfl
    refine W.widen (k := 0) (n := 0) (Nat.le_refl _) (Nat.le_refl _) ?_
    refine W.eq (g2 := F0 m 41 ls [.int r2]) rfl ?_
    exact hret r2 m_thrown_2 H locs _ _ 41 ls d_MO_output_41 hP hD hS hw (Nat.le_refl 0) (Nat.le_refl 0)
  · have hw := hw.2 hc
    refine lv_iload_n hx hb d_MO_output_13 rfl (lv_at hl 2 rfl) ?_
    refine lv_iconst (v := 0) hx hb d_MO_output_14 (by decide) ?_
    refine lv_aload_n hx hb d_MO_output_15 rfl (lv_at hl 0 rfl) ?_
    refine gf_MO_112 hx hb hts hown hK hP 0 rfl rfl d_MO_output_16 ?_
    refine lv_iconst (v := 1) hx hb d_MO_output_19 (by decide) ?_
    refine lv_isub hx hb d_MO_output_20 ?_
    refine ky_call (wr := [(a_t, .inr (7, [.int 0, .int t_room, .int t_registers, .int t_bits, .int t_inputs, .int t_first, .ref a_t_width, .ref a_t_shift, .ref a_t_outOp, .ref a_t_outA, .ref a_t_outB, .ref a_t_transfers, .ref a_t_to, .ref a_t_op, .ref a_t_opA, .ref a_t_opB, .int t_isFresh, .ref a_t_next, .ref a_t_gives, .int t_isRoom, .int t_walked, .ref a_t_state, .ref a_t_from, .ref a_t_by, .ref a_t_depth, .ref a_t_number, .int t_parts, .int t_nodes, .ref a_t_part, .ref a_t_newPart, .ref a_t_node, .ref a_t_newNode, .ref a_t_parent, .ref a_t_born, .ref a_t_one, .ref a_t_pieces, .ref a_t_chain, .ref a_t_behind, .int t_classes, .ref a_t_classOf, .ref a_t_classState])), (a_t_width, .inl (cI, n_t_width, .inl f_t_width)), (a_t_shift, .inl (cI, n_t_shift, .inl f_t_shift)), (a_t_outOp, .inl (cI, n_t_outOp, .inl f_t_outOp)), (a_t_outA, .inl (cI, n_t_outA, .inl f_t_outA)), (a_t_outB, .inl (cI, n_t_outB, .inl f_t_outB))]) hP hD hS hA [] [0, 1, 2, 3, 4, 5] rfl rfl (by decide) (by decide) (va_runS (As := [.int a2, .int 0, .int (t_inputs - (1 : Int32))]) (rest := []) ⟨hx, hb, hml, hown, hts⟩ (c_MO_within l D cI cL cR a2 (0 : Int32) (t_inputs - (1 : Int32)) H.size _ hw) (cw_MO_104 hts ⟨Nat.le_of_ble_eq_true rfl, Nat.le_of_ble_eq_true rfl⟩) (ky_preS hK hP hD [] rfl (by decide)) rfl rfl hl.1 rfl (lv_room (Nat.le_of_ble_eq_true rfl)) d_MO_output_21 ⟨Nat.le_refl 0, Nat.le_refl 0⟩) (fun r u H locs hw hP hD hS => ?_)
    obtain ⟨r3, rfl⟩ : ∃ z, z = r := ⟨_, rfl⟩
    have hP : va_P D vwCl (wl_MO_output cI cL cR a_t a_t_width a_t_shift a_t_outOp a_t_outA a_t_outB a_t_transfers a_t_to a_t_op a_t_opA a_t_opB a_t_next a_t_gives a_t_state a_t_from a_t_by a_t_depth a_t_number a_t_part a_t_newPart a_t_node a_t_newNode a_t_parent a_t_born a_t_one a_t_pieces a_t_chain a_t_behind a_t_classOf a_t_classState 0 t_room t_registers t_bits t_inputs t_first t_isFresh t_isRoom t_walked t_parts t_nodes t_classes n_t_width f_t_width n_t_shift f_t_shift n_t_outOp f_t_outOp n_t_outA f_t_outA n_t_outB f_t_outB) H := hP
    have hD : va_D A (wl_MO_output cI cL cR a_t a_t_width a_t_shift a_t_outOp a_t_outA a_t_outB a_t_transfers a_t_to a_t_op a_t_opA a_t_opB a_t_next a_t_gives a_t_state a_t_from a_t_by a_t_depth a_t_number a_t_part a_t_newPart a_t_node a_t_newNode a_t_parent a_t_born a_t_one a_t_pieces a_t_chain a_t_behind a_t_classOf a_t_classState 0 t_room t_registers t_bits t_inputs t_first t_isFresh t_isRoom t_walked t_parts t_nodes t_classes n_t_width f_t_width n_t_shift f_t_shift n_t_outOp f_t_outOp n_t_outA f_t_outA n_t_outB f_t_outB) := hD
    refine W.widen (k := 0) (n := 0) (Nat.le_refl _) (Nat.le_refl _) ?_
    refine W.eq (g2 := F0 m 24 ls [.int r3]) rfl ?_
    refine lv_if_eq (tgt := 36) hx hb d_MO_output_24 (by decide) (fun hc => ?_) (fun hc => ?_)
    · have hw := hw.1 hc
      refine lv_aload_n hx hb d_MO_output_36 rfl (lv_at hl 0 rfl) ?_
      refine lv_iconst (v := 1) hx hb d_MO_output_37 (by decide) ?_
      refine ky_call (wr := [(a_t_width, .inl (cI, n_t_width, .inl f_t_width)), (a_t_shift, .inl (cI, n_t_shift, .inl f_t_shift)), (a_t_outOp, .inl (cI, n_t_outOp, .inl f_t_outOp)), (a_t_outA, .inl (cI, n_t_outA, .inl f_t_outA)), (a_t_outB, .inl (cI, n_t_outB, .inl f_t_outB))]) hP hD hS hA [0] [1, 2, 3, 4, 5] rfl rfl (by decide) (by decide) (va_runV (As := [.int 1]) (rest := []) ⟨hx, hb, hml, hown, hts⟩ (c_MO_fail l D cI cL cR a_t a_t_width a_t_shift a_t_outOp a_t_outA a_t_outB a_t_transfers a_t_to a_t_op a_t_opA a_t_opB a_t_next a_t_gives a_t_state a_t_from a_t_by a_t_depth a_t_number a_t_part a_t_newPart a_t_node a_t_newNode a_t_parent a_t_born a_t_one a_t_pieces a_t_chain a_t_behind a_t_classOf a_t_classState 0 t_room t_registers t_bits t_inputs t_first t_isFresh t_isRoom t_walked t_parts t_nodes t_classes (1 : Int32) H.size _ hw) (cw_MO_108 hts ⟨Nat.le_of_ble_eq_true rfl, Nat.le_of_ble_eq_true rfl⟩) (ky_preV hK hP hD [0] rfl (by decide) rfl rfl) rfl rfl hl.1 rfl (lv_room (Nat.le_of_ble_eq_true rfl)) d_MO_output_38 ⟨Nat.le_refl 0, Nat.le_refl 0⟩) (fun r u H locs hw hP hD hS => ?_)
      obtain ⟨m_thrown_4, rfl⟩ : ∃ z, z = u := ⟨_, rfl⟩
      obtain ⟨r4, rfl⟩ : ∃ z, z = r := ⟨_, rfl⟩
      try dsimp only at hw
      have hP : va_P D vwCl (wl_MO_output cI cL cR a_t a_t_width a_t_shift a_t_outOp a_t_outA a_t_outB a_t_transfers a_t_to a_t_op a_t_opA a_t_opB a_t_next a_t_gives a_t_state a_t_from a_t_by a_t_depth a_t_number a_t_part a_t_newPart a_t_node a_t_newNode a_t_parent a_t_born a_t_one a_t_pieces a_t_chain a_t_behind a_t_classOf a_t_classState m_thrown_4 t_room t_registers t_bits t_inputs t_first t_isFresh t_isRoom t_walked t_parts t_nodes t_classes n_t_width f_t_width n_t_shift f_t_shift n_t_outOp f_t_outOp n_t_outA f_t_outA n_t_outB f_t_outB) H := hP.sub [5, 0, 1, 2, 3, 4] rfl
      have hD : va_D A (wl_MO_output cI cL cR a_t a_t_width a_t_shift a_t_outOp a_t_outA a_t_outB a_t_transfers a_t_to a_t_op a_t_opA a_t_opB a_t_next a_t_gives a_t_state a_t_from a_t_by a_t_depth a_t_number a_t_part a_t_newPart a_t_node a_t_newNode a_t_parent a_t_born a_t_one a_t_pieces a_t_chain a_t_behind a_t_classOf a_t_classState m_thrown_4 t_room t_registers t_bits t_inputs t_first t_isFresh t_isRoom t_walked t_parts t_nodes t_classes n_t_width f_t_width n_t_shift f_t_shift n_t_outOp f_t_outOp n_t_outA f_t_outA n_t_outB f_t_outB) := hD.sub [5, 0, 1, 2, 3, 4] (by decide) rfl
      refine W.widen (k := 0) (n := 0) (Nat.le_refl _) (Nat.le_refl _) ?_
      refine W.eq (g2 := F0 m 41 ls [.int r4]) rfl ?_
      exact hret r4 m_thrown_4 H locs _ _ 41 ls d_MO_output_41 hP hD hS hw (Nat.le_refl 0) (Nat.le_refl 0)
    · have hw := hw.2 hc
      refine lv_aload_n hx hb d_MO_output_27 rfl (lv_at hl 0 rfl) ?_
      refine lv_iload_n hx hb d_MO_output_28 rfl (lv_at hl 1 rfl) ?_
      refine lv_iload_n hx hb d_MO_output_29 rfl (lv_at hl 2 rfl) ?_
      refine ky_call (wr := []) hP hD hS hA [0, 1, 2, 3, 4, 5] [] rfl rfl (by decide) (by decide) (va_runV (As := [.int a1, .int a2]) (rest := []) ⟨hx, hb, hml, hown, hts⟩ (c_MO_outputOf l D cI cL cR a_t a_t_width a_t_shift a_t_outOp a_t_outA a_t_outB a_t_transfers a_t_to a_t_op a_t_opA a_t_opB a_t_next a_t_gives a_t_state a_t_from a_t_by a_t_depth a_t_number a_t_part a_t_newPart a_t_node a_t_newNode a_t_parent a_t_born a_t_one a_t_pieces a_t_chain a_t_behind a_t_classOf a_t_classState 0 t_room t_registers t_bits t_inputs t_first t_isFresh t_isRoom t_walked t_parts t_nodes t_classes n_t_width f_t_width n_t_shift f_t_shift n_t_outOp f_t_outOp n_t_outA f_t_outA n_t_outB f_t_outB a1 a2 H.size _ hw) (cw_MO_149 hts ⟨Nat.le_of_ble_eq_true rfl, Nat.le_of_ble_eq_true rfl⟩) (ky_preV hK hP hD [0, 1, 2, 3, 4, 5] rfl (by decide) rfl rfl) rfl rfl hl.1 rfl (lv_room (Nat.le_of_ble_eq_true rfl)) d_MO_output_30 ⟨Nat.le_refl 0, Nat.le_refl 0⟩) (fun r u H locs hw hP hD hS => ?_)
      obtain ⟨r5, rfl⟩ : ∃ z, z = r := ⟨_, rfl⟩
      have hP : va_P D vwCl (wl_MO_output cI cL cR a_t a_t_width a_t_shift a_t_outOp a_t_outA a_t_outB a_t_transfers a_t_to a_t_op a_t_opA a_t_opB a_t_next a_t_gives a_t_state a_t_from a_t_by a_t_depth a_t_number a_t_part a_t_newPart a_t_node a_t_newNode a_t_parent a_t_born a_t_one a_t_pieces a_t_chain a_t_behind a_t_classOf a_t_classState 0 t_room t_registers t_bits t_inputs t_first t_isFresh t_isRoom t_walked t_parts t_nodes t_classes n_t_width f_t_width n_t_shift f_t_shift n_t_outOp f_t_outOp n_t_outA f_t_outA n_t_outB f_t_outB) H := hP
      have hD : va_D A (wl_MO_output cI cL cR a_t a_t_width a_t_shift a_t_outOp a_t_outA a_t_outB a_t_transfers a_t_to a_t_op a_t_opA a_t_opB a_t_next a_t_gives a_t_state a_t_from a_t_by a_t_depth a_t_number a_t_part a_t_newPart a_t_node a_t_newNode a_t_parent a_t_born a_t_one a_t_pieces a_t_chain a_t_behind a_t_classOf a_t_classState 0 t_room t_registers t_bits t_inputs t_first t_isFresh t_isRoom t_walked t_parts t_nodes t_classes n_t_width f_t_width n_t_shift f_t_shift n_t_outOp f_t_outOp n_t_outA f_t_outA n_t_outB f_t_outB) := hD
      refine W.widen (k := 0) (n := 0) (Nat.le_refl _) (Nat.le_refl _) ?_
      refine W.eq (g2 := F0 m 33 ls [.int r5]) rfl ?_
      refine lv_goto (tgt := 41) hx hb d_MO_output_33 (by decide) ?_
      exact hret r5 0 H locs _ _ 41 ls d_MO_output_41 hP hD hS hw (Nat.le_refl 0) (Nat.le_refl 0)

abbrev wl_MO_come (cI cL cR : ClassId) (a_t : Nat) (a_t_width : Nat) (a_t_shift : Nat) (a_t_outOp : Nat) (a_t_outA : Nat) (a_t_outB : Nat) (a_t_transfers : Nat) (a_t_to : Nat) (a_t_op : Nat) (a_t_opA : Nat) (a_t_opB : Nat) (a_t_next : Nat) (a_t_gives : Nat) (a_t_state : Nat) (a_t_from : Nat) (a_t_by : Nat) (a_t_depth : Nat) (a_t_number : Nat) (a_t_part : Nat) (a_t_newPart : Nat) (a_t_node : Nat) (a_t_newNode : Nat) (a_t_parent : Nat) (a_t_born : Nat) (a_t_one : Nat) (a_t_pieces : Nat) (a_t_chain : Nat) (a_t_behind : Nat) (a_t_classOf : Nat) (a_t_classState : Nat) (t_thrown : Int32) (t_room : Int32) (t_registers : Int32) (t_bits : Int32) (t_inputs : Int32) (t_first : Int32) (t_isFresh : Int32) (t_isRoom : Int32) (t_walked : Int32) (t_parts : Int32) (t_nodes : Int32) (t_classes : Int32) (n_t_state : Nat) (f_t_state : Nat → Int32) (n_t_from : Nat) (f_t_from : Nat → Int32) (n_t_by : Nat) (f_t_by : Nat → Int32) (n_t_depth : Nat) (f_t_depth : Nat → Int32) (n_t_number : Nat) (f_t_number : Nat → Int32) : va_W := [(a_t, .inr (7, [.int t_thrown, .int t_room, .int t_registers, .int t_bits, .int t_inputs, .int t_first, .ref a_t_width, .ref a_t_shift, .ref a_t_outOp, .ref a_t_outA, .ref a_t_outB, .ref a_t_transfers, .ref a_t_to, .ref a_t_op, .ref a_t_opA, .ref a_t_opB, .int t_isFresh, .ref a_t_next, .ref a_t_gives, .int t_isRoom, .int t_walked, .ref a_t_state, .ref a_t_from, .ref a_t_by, .ref a_t_depth, .ref a_t_number, .int t_parts, .int t_nodes, .ref a_t_part, .ref a_t_newPart, .ref a_t_node, .ref a_t_newNode, .ref a_t_parent, .ref a_t_born, .ref a_t_one, .ref a_t_pieces, .ref a_t_chain, .ref a_t_behind, .int t_classes, .ref a_t_classOf, .ref a_t_classState])), (a_t_state, .inl (cI, n_t_state, .inl f_t_state)), (a_t_from, .inl (cI, n_t_from, .inl f_t_from)), (a_t_by, .inl (cI, n_t_by, .inl f_t_by)), (a_t_depth, .inl (cI, n_t_depth, .inl f_t_depth)), (a_t_number, .inl (cI, n_t_number, .inl f_t_number))]
def wp_MO_come (t_thrown : Int32) (t_room : Int32) (t_registers : Int32) (t_bits : Int32) (t_inputs : Int32) (t_first : Int32) (t_isFresh : Int32) (t_isRoom : Int32) (t_walked : Int32) (t_parts : Int32) (t_nodes : Int32) (t_classes : Int32) (n_t_state : Nat) (f_t_state : Nat → Int32) (n_t_from : Nat) (f_t_from : Nat → Int32) (n_t_by : Nat) (f_t_by : Nat → Int32) (n_t_depth : Nat) (f_t_depth : Nat → Int32) (n_t_number : Nat) (f_t_number : Nat → Int32) (a1 : Int32) (a2 : Int32) (a3 : Int32) (post : Int32 → (Nat → Int32) → (Nat → Int32) → (Nat → Int32) → (Nat → Int32) → (Nat → Int32) → Prop) : Prop :=
  (vp_in t_walked n_t_state ∧ (∀ f1 : Nat → Int32, f1 = (upd f_t_state t_walked.toNatClampNeg a1) → (vp_in t_walked n_t_from ∧ (∀ f2 : Nat → Int32, f2 = (upd f_t_from t_walked.toNatClampNeg a2) → (vp_in t_walked n_t_by ∧ (∀ f3 : Nat → Int32, f3 = (upd f_t_by t_walked.toNatClampNeg a3) → (((0 : Int32) ≤ a2 → (vp_in a2 n_t_depth ∧ (∀ y4 : Int32, y4 = ((f_t_depth a2.toNatClampNeg) + (1 : Int32)) → (vp_in t_walked n_t_depth ∧ (∀ f5 : Nat → Int32, f5 = (upd f_t_depth t_walked.toNatClampNeg y4) → (vp_in a1 n_t_number ∧ (∀ f6 : Nat → Int32, f6 = (upd f_t_number a1.toNatClampNeg t_walked) → (∀ y7 : Int32, y7 = (t_walked + (1 : Int32)) → post y7 f1 f2 f3 f5 f6)))))))) ∧ (¬ (0 : Int32) ≤ a2 → (vp_in t_walked n_t_depth ∧ (∀ f8 : Nat → Int32, f8 = (upd f_t_depth t_walked.toNatClampNeg (0 : Int32)) → (vp_in a1 n_t_number ∧ (∀ f9 : Nat → Int32, f9 = (upd f_t_number a1.toNatClampNeg t_walked) → (∀ y10 : Int32, y10 = (t_walked + (1 : Int32)) → post y10 f1 f2 f3 f8 f9)))))))))))))
abbrev rm_MO_come : Room := { frames := 1, cells := 0, slots := 0, locals := 12 }
set_option maxHeartbeats 4000000 in
set_option maxRecDepth 100000 in
theorem c_MO_come (l : Launch) (D : va_G) (cI cL cR : ClassId) (a_t a_t_width a_t_shift a_t_outOp a_t_outA a_t_outB a_t_transfers a_t_to a_t_op a_t_opA a_t_opB a_t_next a_t_gives a_t_state a_t_from a_t_by a_t_depth a_t_number a_t_part a_t_newPart a_t_node a_t_newNode a_t_parent a_t_born a_t_one a_t_pieces a_t_chain a_t_behind a_t_classOf a_t_classState : Nat) (t_thrown : Int32) (t_room : Int32) (t_registers : Int32) (t_bits : Int32) (t_inputs : Int32) (t_first : Int32) (t_isFresh : Int32) (t_isRoom : Int32) (t_walked : Int32) (t_parts : Int32) (t_nodes : Int32) (t_classes : Int32) (n_t_state : Nat) (f_t_state : Nat → Int32) (n_t_from : Nat) (f_t_from : Nat → Int32) (n_t_by : Nat) (f_t_by : Nat → Int32) (n_t_depth : Nat) (f_t_depth : Nat → Int32) (n_t_number : Nat) (f_t_number : Nat → Int32) (a1 : Int32) (a2 : Int32) (a3 : Int32) (sz : Nat) (post : Int32 → (Nat → Int32) → (Nat → Int32) → (Nat → Int32) → (Nat → Int32) → (Nat → Int32) → Prop) (hw : wp_MO_come t_thrown t_room t_registers t_bits t_inputs t_first t_isFresh t_isRoom t_walked t_parts t_nodes t_classes n_t_state f_t_state n_t_from f_t_from n_t_by f_t_by n_t_depth f_t_depth n_t_number f_t_number a1 a2 a3 post) : ky_M ky_rV l y_MO_come (.code y_MO_come b_MO_come 4 (none) :: wsG) rm_MO_come D vwCl (ky_T cI cL cR) (wl_MO_come cI cL cR a_t a_t_width a_t_shift a_t_outOp a_t_outA a_t_outB a_t_transfers a_t_to a_t_op a_t_opA a_t_opB a_t_next a_t_gives a_t_state a_t_from a_t_by a_t_depth a_t_number a_t_part a_t_newPart a_t_node a_t_newNode a_t_parent a_t_born a_t_one a_t_pieces a_t_chain a_t_behind a_t_classOf a_t_classState t_thrown t_room t_registers t_bits t_inputs t_first t_isFresh t_isRoom t_walked t_parts t_nodes t_classes n_t_state f_t_state n_t_from f_t_from n_t_by f_t_by n_t_depth f_t_depth n_t_number f_t_number) sz [.ref a_t, .int a1, .int a2, .int a3] (fun _ (u : Int32 × (Nat → Int32) × (Nat → Int32) × (Nat → Int32) × (Nat → Int32) × (Nat → Int32)) => post u.1 u.2.1 u.2.2.1 u.2.2.2.1 u.2.2.2.2.1 u.2.2.2.2.2) (fun u => wl_MO_come cI cL cR a_t a_t_width a_t_shift a_t_outOp a_t_outA a_t_outB a_t_transfers a_t_to a_t_op a_t_opA a_t_opB a_t_next a_t_gives a_t_state a_t_from a_t_by a_t_depth a_t_number a_t_part a_t_newPart a_t_node a_t_newNode a_t_parent a_t_born a_t_one a_t_pieces a_t_chain a_t_behind a_t_classOf a_t_classState t_thrown t_room t_registers t_bits t_inputs t_first t_isFresh t_isRoom u.1 t_parts t_nodes t_classes n_t_state u.2.1 n_t_from u.2.2.1 n_t_by u.2.2.2.1 n_t_depth u.2.2.2.2.1 n_t_number u.2.2.2.2.2) := by
  refine ky_ofV (plainFor_of_name (by decide)) (Nat.le_of_ble_eq_true rfl) ?_
  intro p e s m args below meth c A Q ls hI hret
  obtain ⟨hx, hb, hml, hown, hin, hts, hK, hP, hD, hA, hS, hl⟩ := hI
  have hown : s.vm.findClass R_MO = some m.cls := hown
  have hl : lv_has ls 4 [(0, .ref a_t), (1, .int a1), (2, .int a2), (3, .int a3)] := hl
  obtain ⟨H, locs, eH, eL⟩ : ∃ (H : Heap) (locs : List Loc), H = s.heap ∧ locs = [] := ⟨_, _, rfl, rfl⟩
  rw [← eL] at hS ⊢
  have hS : va_S A s.heap H locs := by rw [eH]; exact hS
  have hP : va_P D vwCl (wl_MO_come cI cL cR a_t a_t_width a_t_shift a_t_outOp a_t_outA a_t_outB a_t_transfers a_t_to a_t_op a_t_opA a_t_opB a_t_next a_t_gives a_t_state a_t_from a_t_by a_t_depth a_t_number a_t_part a_t_newPart a_t_node a_t_newNode a_t_parent a_t_born a_t_one a_t_pieces a_t_chain a_t_behind a_t_classOf a_t_classState t_thrown t_room t_registers t_bits t_inputs t_first t_isFresh t_isRoom t_walked t_parts t_nodes t_classes n_t_state f_t_state n_t_from f_t_from n_t_by f_t_by n_t_depth f_t_depth n_t_number f_t_number) H := by rw [eH]; exact hP
  suffices hgo : W p l e rm_MO_come s m args below meth c H locs 0 0 Q (F0 m 0 ls []) by rw [eH] at hgo; exact hgo
  clear eH eL
  unfold wp_MO_come at hw
  refine lv_aload_n hx hb d_MO_come_0 rfl (lv_at hl 0 rfl) ?_
  refine gf_MO_46 hx hb hts hown hK hP 0 rfl rfl d_MO_come_1 ?_
  refine lv_aload_n hx hb d_MO_come_4 rfl (lv_at hl 0 rfl) ?_
  refine gf_MO_152 hx hb hts hown hK hP 0 rfl rfl d_MO_come_5 ?_
  refine lv_iload_n hx hb d_MO_come_8 rfl (lv_at hl 1 rfl) ?_
  obtain ⟨h1, hw⟩ := hw
  refine va_iast hx hb hK hP hD hS 1 0 rfl rfl h1 d_MO_come_9 (fun H locs hP hD hS => ?_)
  have hP : va_P D vwCl (wl_MO_come cI cL cR a_t a_t_width a_t_shift a_t_outOp a_t_outA a_t_outB a_t_transfers a_t_to a_t_op a_t_opA a_t_opB a_t_next a_t_gives a_t_state a_t_from a_t_by a_t_depth a_t_number a_t_part a_t_newPart a_t_node a_t_newNode a_t_parent a_t_born a_t_one a_t_pieces a_t_chain a_t_behind a_t_classOf a_t_classState t_thrown t_room t_registers t_bits t_inputs t_first t_isFresh t_isRoom t_walked t_parts t_nodes t_classes n_t_state (upd f_t_state t_walked.toNatClampNeg a1) n_t_from f_t_from n_t_by f_t_by n_t_depth f_t_depth n_t_number f_t_number) H := hP
  have hD : va_D A (wl_MO_come cI cL cR a_t a_t_width a_t_shift a_t_outOp a_t_outA a_t_outB a_t_transfers a_t_to a_t_op a_t_opA a_t_opB a_t_next a_t_gives a_t_state a_t_from a_t_by a_t_depth a_t_number a_t_part a_t_newPart a_t_node a_t_newNode a_t_parent a_t_born a_t_one a_t_pieces a_t_chain a_t_behind a_t_classOf a_t_classState t_thrown t_room t_registers t_bits t_inputs t_first t_isFresh t_isRoom t_walked t_parts t_nodes t_classes n_t_state (upd f_t_state t_walked.toNatClampNeg a1) n_t_from f_t_from n_t_by f_t_by n_t_depth f_t_depth n_t_number f_t_number) := hD
  generalize ef1 : (upd f_t_state t_walked.toNatClampNeg a1) = f1 at hP hD
  have hw := hw f1 ef1.symm
  refine lv_aload_n hx hb d_MO_come_10 rfl (lv_at hl 0 rfl) ?_
  refine gf_MO_49 hx hb hts hown hK hP 0 rfl rfl d_MO_come_11 ?_
  refine lv_aload_n hx hb d_MO_come_14 rfl (lv_at hl 0 rfl) ?_
  refine gf_MO_152 hx hb hts hown hK hP 0 rfl rfl d_MO_come_15 ?_
  refine lv_iload_n hx hb d_MO_come_18 rfl (lv_at hl 2 rfl) ?_
  obtain ⟨h1, hw⟩ := hw
  refine va_iast hx hb hK hP hD hS 2 0 rfl rfl h1 d_MO_come_19 (fun H locs hP hD hS => ?_)
  have hP : va_P D vwCl (wl_MO_come cI cL cR a_t a_t_width a_t_shift a_t_outOp a_t_outA a_t_outB a_t_transfers a_t_to a_t_op a_t_opA a_t_opB a_t_next a_t_gives a_t_state a_t_from a_t_by a_t_depth a_t_number a_t_part a_t_newPart a_t_node a_t_newNode a_t_parent a_t_born a_t_one a_t_pieces a_t_chain a_t_behind a_t_classOf a_t_classState t_thrown t_room t_registers t_bits t_inputs t_first t_isFresh t_isRoom t_walked t_parts t_nodes t_classes n_t_state f1 n_t_from (upd f_t_from t_walked.toNatClampNeg a2) n_t_by f_t_by n_t_depth f_t_depth n_t_number f_t_number) H := hP
  have hD : va_D A (wl_MO_come cI cL cR a_t a_t_width a_t_shift a_t_outOp a_t_outA a_t_outB a_t_transfers a_t_to a_t_op a_t_opA a_t_opB a_t_next a_t_gives a_t_state a_t_from a_t_by a_t_depth a_t_number a_t_part a_t_newPart a_t_node a_t_newNode a_t_parent a_t_born a_t_one a_t_pieces a_t_chain a_t_behind a_t_classOf a_t_classState t_thrown t_room t_registers t_bits t_inputs t_first t_isFresh t_isRoom t_walked t_parts t_nodes t_classes n_t_state f1 n_t_from (upd f_t_from t_walked.toNatClampNeg a2) n_t_by f_t_by n_t_depth f_t_depth n_t_number f_t_number) := hD
  generalize ef2 : (upd f_t_from t_walked.toNatClampNeg a2) = f2 at hP hD
  have hw := hw f2 ef2.symm
  refine lv_aload_n hx hb d_MO_come_20 rfl (lv_at hl 0 rfl) ?_
  refine gf_MO_52 hx hb hts hown hK hP 0 rfl rfl d_MO_come_21 ?_
  refine lv_aload_n hx hb d_MO_come_24 rfl (lv_at hl 0 rfl) ?_
  refine gf_MO_152 hx hb hts hown hK hP 0 rfl rfl d_MO_come_25 ?_
  refine lv_iload_n hx hb d_MO_come_28 rfl (lv_at hl 3 rfl) ?_
  obtain ⟨h1, hw⟩ := hw
  refine va_iast hx hb hK hP hD hS 3 0 rfl rfl h1 d_MO_come_29 (fun H locs hP hD hS => ?_)
  have hP : va_P D vwCl (wl_MO_come cI cL cR a_t a_t_width a_t_shift a_t_outOp a_t_outA a_t_outB a_t_transfers a_t_to a_t_op a_t_opA a_t_opB a_t_next a_t_gives a_t_state a_t_from a_t_by a_t_depth a_t_number a_t_part a_t_newPart a_t_node a_t_newNode a_t_parent a_t_born a_t_one a_t_pieces a_t_chain a_t_behind a_t_classOf a_t_classState t_thrown t_room t_registers t_bits t_inputs t_first t_isFresh t_isRoom t_walked t_parts t_nodes t_classes n_t_state f1 n_t_from f2 n_t_by (upd f_t_by t_walked.toNatClampNeg a3) n_t_depth f_t_depth n_t_number f_t_number) H := hP
  have hD : va_D A (wl_MO_come cI cL cR a_t a_t_width a_t_shift a_t_outOp a_t_outA a_t_outB a_t_transfers a_t_to a_t_op a_t_opA a_t_opB a_t_next a_t_gives a_t_state a_t_from a_t_by a_t_depth a_t_number a_t_part a_t_newPart a_t_node a_t_newNode a_t_parent a_t_born a_t_one a_t_pieces a_t_chain a_t_behind a_t_classOf a_t_classState t_thrown t_room t_registers t_bits t_inputs t_first t_isFresh t_isRoom t_walked t_parts t_nodes t_classes n_t_state f1 n_t_from f2 n_t_by (upd f_t_by t_walked.toNatClampNeg a3) n_t_depth f_t_depth n_t_number f_t_number) := hD
  generalize ef3 : (upd f_t_by t_walked.toNatClampNeg a3) = f3 at hP hD
  have hw := hw f3 ef3.symm
  refine lv_aload_n hx hb d_MO_come_30 rfl (lv_at hl 0 rfl) ?_
  refine gf_MO_55 hx hb hts hown hK hP 0 rfl rfl d_MO_come_31 ?_
  refine lv_aload_n hx hb d_MO_come_34 rfl (lv_at hl 0 rfl) ?_
  refine gf_MO_152 hx hb hts hown hK hP 0 rfl rfl d_MO_come_35 ?_
  refine lv_iload_n hx hb d_MO_come_38 rfl (lv_at hl 2 rfl) ?_
  refine lv_if_ge (tgt := 46) hx hb d_MO_come_39 (by decide) (fun hc => ?_) (fun hc => ?_)
  · have hw := hw.1 hc
    refine lv_aload_n hx hb d_MO_come_46 rfl (lv_at hl 0 rfl) ?_
    refine gf_MO_55 hx hb hts hown hK hP 0 rfl rfl d_MO_come_47 ?_
    refine lv_iload_n hx hb d_MO_come_50 rfl (lv_at hl 2 rfl) ?_
    obtain ⟨h1, hw⟩ := hw
    refine va_iald hx hb hK hP 4 0 rfl rfl h1 d_MO_come_51 ?_
    refine lv_iconst (v := 1) hx hb d_MO_come_52 (by decide) ?_
    refine lv_iadd hx hb d_MO_come_53 ?_
    refine lv_topi (fun y4 ey4 => ?_)
    have hw := hw y4 ey4
    obtain ⟨h1, hw⟩ := hw
    refine va_iast hx hb hK hP hD hS 4 0 rfl rfl h1 d_MO_come_54 (fun H locs hP hD hS => ?_)
    have hP : va_P D vwCl (wl_MO_come cI cL cR a_t a_t_width a_t_shift a_t_outOp a_t_outA a_t_outB a_t_transfers a_t_to a_t_op a_t_opA a_t_opB a_t_next a_t_gives a_t_state a_t_from a_t_by a_t_depth a_t_number a_t_part a_t_newPart a_t_node a_t_newNode a_t_parent a_t_born a_t_one a_t_pieces a_t_chain a_t_behind a_t_classOf a_t_classState t_thrown t_room t_registers t_bits t_inputs t_first t_isFresh t_isRoom t_walked t_parts t_nodes t_classes n_t_state f1 n_t_from f2 n_t_by f3 n_t_depth (upd f_t_depth t_walked.toNatClampNeg y4) n_t_number f_t_number) H := hP
    have hD : va_D A (wl_MO_come cI cL cR a_t a_t_width a_t_shift a_t_outOp a_t_outA a_t_outB a_t_transfers a_t_to a_t_op a_t_opA a_t_opB a_t_next a_t_gives a_t_state a_t_from a_t_by a_t_depth a_t_number a_t_part a_t_newPart a_t_node a_t_newNode a_t_parent a_t_born a_t_one a_t_pieces a_t_chain a_t_behind a_t_classOf a_t_classState t_thrown t_room t_registers t_bits t_inputs t_first t_isFresh t_isRoom t_walked t_parts t_nodes t_classes n_t_state f1 n_t_from f2 n_t_by f3 n_t_depth (upd f_t_depth t_walked.toNatClampNeg y4) n_t_number f_t_number) := hD
    generalize ef5 : (upd f_t_depth t_walked.toNatClampNeg y4) = f5 at hP hD
    have hw := hw f5 ef5.symm
    refine lv_aload_n hx hb d_MO_come_55 rfl (lv_at hl 0 rfl) ?_
    refine gf_MO_58 hx hb hts hown hK hP 0 rfl rfl d_MO_come_56 ?_
    refine lv_iload_n hx hb d_MO_come_59 rfl (lv_at hl 1 rfl) ?_
    refine lv_aload_n hx hb d_MO_come_60 rfl (lv_at hl 0 rfl) ?_
    refine gf_MO_152 hx hb hts hown hK hP 0 rfl rfl d_MO_come_61 ?_
    obtain ⟨h1, hw⟩ := hw
    refine va_iast hx hb hK hP hD hS 5 0 rfl rfl h1 d_MO_come_64 (fun H locs hP hD hS => ?_)
    have hP : va_P D vwCl (wl_MO_come cI cL cR a_t a_t_width a_t_shift a_t_outOp a_t_outA a_t_outB a_t_transfers a_t_to a_t_op a_t_opA a_t_opB a_t_next a_t_gives a_t_state a_t_from a_t_by a_t_depth a_t_number a_t_part a_t_newPart a_t_node a_t_newNode a_t_parent a_t_born a_t_one a_t_pieces a_t_chain a_t_behind a_t_classOf a_t_classState t_thrown t_room t_registers t_bits t_inputs t_first t_isFresh t_isRoom t_walked t_parts t_nodes t_classes n_t_state f1 n_t_from f2 n_t_by f3 n_t_depth f5 n_t_number (upd f_t_number a1.toNatClampNeg t_walked)) H := hP
    have hD : va_D A (wl_MO_come cI cL cR a_t a_t_width a_t_shift a_t_outOp a_t_outA a_t_outB a_t_transfers a_t_to a_t_op a_t_opA a_t_opB a_t_next a_t_gives a_t_state a_t_from a_t_by a_t_depth a_t_number a_t_part a_t_newPart a_t_node a_t_newNode a_t_parent a_t_born a_t_one a_t_pieces a_t_chain a_t_behind a_t_classOf a_t_classState t_thrown t_room t_registers t_bits t_inputs t_first t_isFresh t_isRoom t_walked t_parts t_nodes t_classes n_t_state f1 n_t_from f2 n_t_by f3 n_t_depth f5 n_t_number (upd f_t_number a1.toNatClampNeg t_walked)) := hD
    generalize ef6 : (upd f_t_number a1.toNatClampNeg t_walked) = f6 at hP hD
    have hw := hw f6 ef6.symm
    refine lv_aload_n hx hb d_MO_come_65 rfl (lv_at hl 0 rfl) ?_
    refine lv_dup hx hb d_MO_come_66 rfl ?_
    refine gf_MO_152 hx hb hts hown hK hP 0 rfl rfl d_MO_come_67 ?_
    refine lv_iconst (v := 1) hx hb d_MO_come_70 (by decide) ?_
    refine lv_iadd hx hb d_MO_come_71 ?_
    refine lv_topi (fun y7 ey7 => ?_)
    have hw := hw y7 ey7
    refine pf_MO_152 (v := .int y7) hx hb hts hown hK hP hD hS 0 rfl rfl rfl (Nat.le_of_ble_eq_true rfl) d_MO_come_72 (fun H locs hP hD hS => ?_)
    have hP : va_P D vwCl (wl_MO_come cI cL cR a_t a_t_width a_t_shift a_t_outOp a_t_outA a_t_outB a_t_transfers a_t_to a_t_op a_t_opA a_t_opB a_t_next a_t_gives a_t_state a_t_from a_t_by a_t_depth a_t_number a_t_part a_t_newPart a_t_node a_t_newNode a_t_parent a_t_born a_t_one a_t_pieces a_t_chain a_t_behind a_t_classOf a_t_classState t_thrown t_room t_registers t_bits t_inputs t_first t_isFresh t_isRoom y7 t_parts t_nodes t_classes n_t_state f1 n_t_from f2 n_t_by f3 n_t_depth f5 n_t_number f6) H := hP
    have hD : va_D A (wl_MO_come cI cL cR a_t a_t_width a_t_shift a_t_outOp a_t_outA a_t_outB a_t_transfers a_t_to a_t_op a_t_opA a_t_opB a_t_next a_t_gives a_t_state a_t_from a_t_by a_t_depth a_t_number a_t_part a_t_newPart a_t_node a_t_newNode a_t_parent a_t_born a_t_one a_t_pieces a_t_chain a_t_behind a_t_classOf a_t_classState t_thrown t_room t_registers t_bits t_inputs t_first t_isFresh t_isRoom y7 t_parts t_nodes t_classes n_t_state f1 n_t_from f2 n_t_by f3 n_t_depth f5 n_t_number f6) := hD
    exact hret (y7, f1, f2, f3, f5, f6) H locs _ _ 75 ls d_MO_come_75 hP hD hS hw (Nat.le_refl 0) (Nat.le_refl 0)
  · have hw := hw.2 hc
    refine lv_iconst (v := 0) hx hb d_MO_come_42 (by decide) ?_
    refine lv_goto (tgt := 54) hx hb d_MO_come_43 (by decide) ?_
    obtain ⟨h1, hw⟩ := hw
    refine va_iast hx hb hK hP hD hS 4 0 rfl rfl h1 d_MO_come_54 (fun H locs hP hD hS => ?_)
    have hP : va_P D vwCl (wl_MO_come cI cL cR a_t a_t_width a_t_shift a_t_outOp a_t_outA a_t_outB a_t_transfers a_t_to a_t_op a_t_opA a_t_opB a_t_next a_t_gives a_t_state a_t_from a_t_by a_t_depth a_t_number a_t_part a_t_newPart a_t_node a_t_newNode a_t_parent a_t_born a_t_one a_t_pieces a_t_chain a_t_behind a_t_classOf a_t_classState t_thrown t_room t_registers t_bits t_inputs t_first t_isFresh t_isRoom t_walked t_parts t_nodes t_classes n_t_state f1 n_t_from f2 n_t_by f3 n_t_depth (upd f_t_depth t_walked.toNatClampNeg (0 : Int32)) n_t_number f_t_number) H := hP
    have hD : va_D A (wl_MO_come cI cL cR a_t a_t_width a_t_shift a_t_outOp a_t_outA a_t_outB a_t_transfers a_t_to a_t_op a_t_opA a_t_opB a_t_next a_t_gives a_t_state a_t_from a_t_by a_t_depth a_t_number a_t_part a_t_newPart a_t_node a_t_newNode a_t_parent a_t_born a_t_one a_t_pieces a_t_chain a_t_behind a_t_classOf a_t_classState t_thrown t_room t_registers t_bits t_inputs t_first t_isFresh t_isRoom t_walked t_parts t_nodes t_classes n_t_state f1 n_t_from f2 n_t_by f3 n_t_depth (upd f_t_depth t_walked.toNatClampNeg (0 : Int32)) n_t_number f_t_number) := hD
    generalize ef8 : (upd f_t_depth t_walked.toNatClampNeg (0 : Int32)) = f8 at hP hD
    have hw := hw f8 ef8.symm
    refine lv_aload_n hx hb d_MO_come_55 rfl (lv_at hl 0 rfl) ?_
    refine gf_MO_58 hx hb hts hown hK hP 0 rfl rfl d_MO_come_56 ?_
    refine lv_iload_n hx hb d_MO_come_59 rfl (lv_at hl 1 rfl) ?_
    refine lv_aload_n hx hb d_MO_come_60 rfl (lv_at hl 0 rfl) ?_
    refine gf_MO_152 hx hb hts hown hK hP 0 rfl rfl d_MO_come_61 ?_
    obtain ⟨h1, hw⟩ := hw
    refine va_iast hx hb hK hP hD hS 5 0 rfl rfl h1 d_MO_come_64 (fun H locs hP hD hS => ?_)
    have hP : va_P D vwCl (wl_MO_come cI cL cR a_t a_t_width a_t_shift a_t_outOp a_t_outA a_t_outB a_t_transfers a_t_to a_t_op a_t_opA a_t_opB a_t_next a_t_gives a_t_state a_t_from a_t_by a_t_depth a_t_number a_t_part a_t_newPart a_t_node a_t_newNode a_t_parent a_t_born a_t_one a_t_pieces a_t_chain a_t_behind a_t_classOf a_t_classState t_thrown t_room t_registers t_bits t_inputs t_first t_isFresh t_isRoom t_walked t_parts t_nodes t_classes n_t_state f1 n_t_from f2 n_t_by f3 n_t_depth f8 n_t_number (upd f_t_number a1.toNatClampNeg t_walked)) H := hP
    have hD : va_D A (wl_MO_come cI cL cR a_t a_t_width a_t_shift a_t_outOp a_t_outA a_t_outB a_t_transfers a_t_to a_t_op a_t_opA a_t_opB a_t_next a_t_gives a_t_state a_t_from a_t_by a_t_depth a_t_number a_t_part a_t_newPart a_t_node a_t_newNode a_t_parent a_t_born a_t_one a_t_pieces a_t_chain a_t_behind a_t_classOf a_t_classState t_thrown t_room t_registers t_bits t_inputs t_first t_isFresh t_isRoom t_walked t_parts t_nodes t_classes n_t_state f1 n_t_from f2 n_t_by f3 n_t_depth f8 n_t_number (upd f_t_number a1.toNatClampNeg t_walked)) := hD
    generalize ef9 : (upd f_t_number a1.toNatClampNeg t_walked) = f9 at hP hD
    have hw := hw f9 ef9.symm
    refine lv_aload_n hx hb d_MO_come_65 rfl (lv_at hl 0 rfl) ?_
    refine lv_dup hx hb d_MO_come_66 rfl ?_
    refine gf_MO_152 hx hb hts hown hK hP 0 rfl rfl d_MO_come_67 ?_
    refine lv_iconst (v := 1) hx hb d_MO_come_70 (by decide) ?_
    refine lv_iadd hx hb d_MO_come_71 ?_
    refine lv_topi (fun y10 ey10 => ?_)
    have hw := hw y10 ey10
    refine pf_MO_152 (v := .int y10) hx hb hts hown hK hP hD hS 0 rfl rfl rfl (Nat.le_of_ble_eq_true rfl) d_MO_come_72 (fun H locs hP hD hS => ?_)
    have hP : va_P D vwCl (wl_MO_come cI cL cR a_t a_t_width a_t_shift a_t_outOp a_t_outA a_t_outB a_t_transfers a_t_to a_t_op a_t_opA a_t_opB a_t_next a_t_gives a_t_state a_t_from a_t_by a_t_depth a_t_number a_t_part a_t_newPart a_t_node a_t_newNode a_t_parent a_t_born a_t_one a_t_pieces a_t_chain a_t_behind a_t_classOf a_t_classState t_thrown t_room t_registers t_bits t_inputs t_first t_isFresh t_isRoom y10 t_parts t_nodes t_classes n_t_state f1 n_t_from f2 n_t_by f3 n_t_depth f8 n_t_number f9) H := hP
    have hD : va_D A (wl_MO_come cI cL cR a_t a_t_width a_t_shift a_t_outOp a_t_outA a_t_outB a_t_transfers a_t_to a_t_op a_t_opA a_t_opB a_t_next a_t_gives a_t_state a_t_from a_t_by a_t_depth a_t_number a_t_part a_t_newPart a_t_node a_t_newNode a_t_parent a_t_born a_t_one a_t_pieces a_t_chain a_t_behind a_t_classOf a_t_classState t_thrown t_room t_registers t_bits t_inputs t_first t_isFresh t_isRoom y10 t_parts t_nodes t_classes n_t_state f1 n_t_from f2 n_t_by f3 n_t_depth f8 n_t_number f9) := hD
    exact hret (y10, f1, f2, f3, f8, f9) H locs _ _ 75 ls d_MO_come_75 hP hD hS hw (Nat.le_refl 0) (Nat.le_refl 0)

abbrev wl_MO_walk (cI cL cR : ClassId) (a_t : Nat) (a_t_width : Nat) (a_t_shift : Nat) (a_t_outOp : Nat) (a_t_outA : Nat) (a_t_outB : Nat) (a_t_transfers : Nat) (a_t_to : Nat) (a_t_op : Nat) (a_t_opA : Nat) (a_t_opB : Nat) (a_t_next : Nat) (a_t_gives : Nat) (a_t_state : Nat) (a_t_from : Nat) (a_t_by : Nat) (a_t_depth : Nat) (a_t_number : Nat) (a_t_part : Nat) (a_t_newPart : Nat) (a_t_node : Nat) (a_t_newNode : Nat) (a_t_parent : Nat) (a_t_born : Nat) (a_t_one : Nat) (a_t_pieces : Nat) (a_t_chain : Nat) (a_t_behind : Nat) (a_t_classOf : Nat) (a_t_classState : Nat) (t_thrown : Int32) (t_room : Int32) (t_registers : Int32) (t_bits : Int32) (t_inputs : Int32) (t_first : Int32) (t_isFresh : Int32) (t_isRoom : Int32) (t_walked : Int32) (t_parts : Int32) (t_nodes : Int32) (t_classes : Int32) (n_t_next : Nat) (f_t_next : Nat → Int32) (n_t_state : Nat) (f_t_state : Nat → Int32) (n_t_from : Nat) (f_t_from : Nat → Int32) (n_t_by : Nat) (f_t_by : Nat → Int32) (n_t_depth : Nat) (f_t_depth : Nat → Int32) (n_t_number : Nat) (f_t_number : Nat → Int32) : va_W := [(a_t, .inr (7, [.int t_thrown, .int t_room, .int t_registers, .int t_bits, .int t_inputs, .int t_first, .ref a_t_width, .ref a_t_shift, .ref a_t_outOp, .ref a_t_outA, .ref a_t_outB, .ref a_t_transfers, .ref a_t_to, .ref a_t_op, .ref a_t_opA, .ref a_t_opB, .int t_isFresh, .ref a_t_next, .ref a_t_gives, .int t_isRoom, .int t_walked, .ref a_t_state, .ref a_t_from, .ref a_t_by, .ref a_t_depth, .ref a_t_number, .int t_parts, .int t_nodes, .ref a_t_part, .ref a_t_newPart, .ref a_t_node, .ref a_t_newNode, .ref a_t_parent, .ref a_t_born, .ref a_t_one, .ref a_t_pieces, .ref a_t_chain, .ref a_t_behind, .int t_classes, .ref a_t_classOf, .ref a_t_classState])), (a_t_next, .inl (cI, n_t_next, .inl f_t_next)), (a_t_state, .inl (cI, n_t_state, .inl f_t_state)), (a_t_from, .inl (cI, n_t_from, .inl f_t_from)), (a_t_by, .inl (cI, n_t_by, .inl f_t_by)), (a_t_depth, .inl (cI, n_t_depth, .inl f_t_depth)), (a_t_number, .inl (cI, n_t_number, .inl f_t_number))]
def wp_MO_walk_J120 (t_thrown : Int32) (t_room : Int32) (t_registers : Int32) (t_bits : Int32) (t_inputs : Int32) (t_first : Int32) (t_isFresh : Int32) (t_isRoom : Int32) (t_walked : Int32) (t_parts : Int32) (t_nodes : Int32) (t_classes : Int32) (n_t_next : Nat) (f_t_next : Nat → Int32) (n_t_state : Nat) (f_t_state : Nat → Int32) (n_t_from : Nat) (f_t_from : Nat → Int32) (n_t_by : Nat) (f_t_by : Nat → Int32) (n_t_depth : Nat) (f_t_depth : Nat → Int32) (n_t_number : Nat) (f_t_number : Nat → Int32) (K44 : Int32 → Int32 → (Nat → Int32) → (Nat → Int32) → (Nat → Int32) → (Nat → Int32) → (Nat → Int32) → Int32 → Prop) (K61 : Int32 → Int32 → (Nat → Int32) → (Nat → Int32) → (Nat → Int32) → (Nat → Int32) → (Nat → Int32) → Int32 → Int32 → Prop) (post : Int32 → Int32 → (Nat → Int32) → (Nat → Int32) → (Nat → Int32) → (Nat → Int32) → (Nat → Int32) → Prop) (t_isRoom_120 : Int32) (t_walked_120 : Int32) (f_t_state_120 : Nat → Int32) (f_t_from_120 : Nat → Int32) (f_t_by_120 : Nat → Int32) (f_t_depth_120 : Nat → Int32) (f_t_number_120 : Nat → Int32) (x1_120 : Int32) (x2_120 : Int32) (x3_120 : Int32) : Prop :=
  (vp_in x3_120 n_t_number ∧ (((0 : Int32) ≤ (f_t_number_120 x3_120.toNatClampNeg) → (∀ y5 : Int32, y5 = x2_120 + 1 → K61 t_isRoom_120 t_walked_120 f_t_state_120 f_t_from_120 f_t_by_120 f_t_depth_120 f_t_number_120 x1_120 y5)) ∧ (¬ (0 : Int32) ≤ (f_t_number_120 x3_120.toNatClampNeg) → wp_MO_come t_thrown t_room t_registers t_bits t_inputs t_first t_isFresh t_isRoom_120 t_walked_120 t_parts t_nodes t_classes n_t_state f_t_state_120 n_t_from f_t_from_120 n_t_by f_t_by_120 n_t_depth f_t_depth_120 n_t_number f_t_number_120 x3_120 x1_120 x2_120 (fun m_walked_6 f_state_6 f_from_6 f_by_6 f_depth_6 f_number_6 => (∀ y7 : Int32, y7 = x2_120 + 1 → K61 t_isRoom_120 m_walked_6 f_state_6 f_from_6 f_by_6 f_depth_6 f_number_6 x1_120 y7)))))
def wp_MO_walk_L61 (t_thrown : Int32) (t_room : Int32) (t_registers : Int32) (t_bits : Int32) (t_inputs : Int32) (t_first : Int32) (t_isFresh : Int32) (t_isRoom : Int32) (t_walked : Int32) (t_parts : Int32) (t_nodes : Int32) (t_classes : Int32) (n_t_next : Nat) (f_t_next : Nat → Int32) (n_t_state : Nat) (f_t_state : Nat → Int32) (n_t_from : Nat) (f_t_from : Nat → Int32) (n_t_by : Nat) (f_t_by : Nat → Int32) (n_t_depth : Nat) (f_t_depth : Nat → Int32) (n_t_number : Nat) (f_t_number : Nat → Int32) (K44 : Int32 → Int32 → (Nat → Int32) → (Nat → Int32) → (Nat → Int32) → (Nat → Int32) → (Nat → Int32) → Int32 → Prop) (post : Int32 → Int32 → (Nat → Int32) → (Nat → Int32) → (Nat → Int32) → (Nat → Int32) → (Nat → Int32) → Prop) : Nat → Int32 → Int32 → (Nat → Int32) → (Nat → Int32) → (Nat → Int32) → (Nat → Int32) → (Nat → Int32) → Int32 → Int32 → Prop
  | 0, _, _, _, _, _, _, _, _, _ => False
  | n61 + 1, t_isRoom_61, t_walked_61, f_t_state_61, f_t_from_61, f_t_by_61, f_t_depth_61, f_t_number_61, x1_61, x2_61 => ((t_inputs ≤ x2_61 → (∀ y2 : Int32, y2 = x1_61 + 1 → K44 t_isRoom_61 t_walked_61 f_t_state_61 f_t_from_61 f_t_by_61 f_t_depth_61 f_t_number_61 y2)) ∧ (¬ t_inputs ≤ x2_61 → ((t_isRoom_61 = 0 → (∀ y3 : Int32, y3 = x1_61 + 1 → K44 t_isRoom_61 t_walked_61 f_t_state_61 f_t_from_61 f_t_by_61 f_t_depth_61 f_t_number_61 y3)) ∧ (¬ t_isRoom_61 = 0 → (vp_in x1_61 n_t_state ∧ (vp_in (((4 : Int32) * (f_t_state_61 x1_61.toNatClampNeg)) + x2_61) n_t_next ∧ (∀ y4 : Int32, y4 = (f_t_next (((4 : Int32) * (f_t_state_61 x1_61.toNatClampNeg)) + x2_61).toNatClampNeg) → (vp_in y4 n_t_number ∧ (((0 : Int32) ≤ (f_t_number_61 y4.toNatClampNeg) → wp_MO_walk_J120 t_thrown t_room t_registers t_bits t_inputs t_first t_isFresh t_isRoom t_walked t_parts t_nodes t_classes n_t_next f_t_next n_t_state f_t_state n_t_from f_t_from n_t_by f_t_by n_t_depth f_t_depth n_t_number f_t_number K44 (wp_MO_walk_L61 t_thrown t_room t_registers t_bits t_inputs t_first t_isFresh t_isRoom t_walked t_parts t_nodes t_classes n_t_next f_t_next n_t_state f_t_state n_t_from f_t_from n_t_by f_t_by n_t_depth f_t_depth n_t_number f_t_number K44 post n61) post t_isRoom_61 t_walked_61 f_t_state_61 f_t_from_61 f_t_by_61 f_t_depth_61 f_t_number_61 x1_61 x2_61 y4) ∧ (¬ (0 : Int32) ≤ (f_t_number_61 y4.toNatClampNeg) → ((¬ t_walked_61 = t_room → wp_MO_walk_J120 t_thrown t_room t_registers t_bits t_inputs t_first t_isFresh t_isRoom t_walked t_parts t_nodes t_classes n_t_next f_t_next n_t_state f_t_state n_t_from f_t_from n_t_by f_t_by n_t_depth f_t_depth n_t_number f_t_number K44 (wp_MO_walk_L61 t_thrown t_room t_registers t_bits t_inputs t_first t_isFresh t_isRoom t_walked t_parts t_nodes t_classes n_t_next f_t_next n_t_state f_t_state n_t_from f_t_from n_t_by f_t_by n_t_depth f_t_depth n_t_number f_t_number K44 post n61) post t_isRoom_61 t_walked_61 f_t_state_61 f_t_from_61 f_t_by_61 f_t_depth_61 f_t_number_61 x1_61 x2_61 y4) ∧ (t_walked_61 = t_room → (∀ y8 : Int32, y8 = x2_61 + 1 → (wp_MO_walk_L61 t_thrown t_room t_registers t_bits t_inputs t_first t_isFresh t_isRoom t_walked t_parts t_nodes t_classes n_t_next f_t_next n_t_state f_t_state n_t_from f_t_from n_t_by f_t_by n_t_depth f_t_depth n_t_number f_t_number K44 post n61) 0 t_walked_61 f_t_state_61 f_t_from_61 f_t_by_61 f_t_depth_61 f_t_number_61 x1_61 y8)))))))))))))
def wp_MO_walk_L44 (t_thrown : Int32) (t_room : Int32) (t_registers : Int32) (t_bits : Int32) (t_inputs : Int32) (t_first : Int32) (t_isFresh : Int32) (t_isRoom : Int32) (t_walked : Int32) (t_parts : Int32) (t_nodes : Int32) (t_classes : Int32) (n_t_next : Nat) (f_t_next : Nat → Int32) (n_t_state : Nat) (f_t_state : Nat → Int32) (n_t_from : Nat) (f_t_from : Nat → Int32) (n_t_by : Nat) (f_t_by : Nat → Int32) (n_t_depth : Nat) (f_t_depth : Nat → Int32) (n_t_number : Nat) (f_t_number : Nat → Int32)  (post : Int32 → Int32 → (Nat → Int32) → (Nat → Int32) → (Nat → Int32) → (Nat → Int32) → (Nat → Int32) → Prop) : Nat → Int32 → Int32 → (Nat → Int32) → (Nat → Int32) → (Nat → Int32) → (Nat → Int32) → (Nat → Int32) → Int32 → Prop
  | 0, _, _, _, _, _, _, _, _ => False
  | n44 + 1, t_isRoom_44, t_walked_44, f_t_state_44, f_t_from_44, f_t_by_44, f_t_depth_44, f_t_number_44, x1_44 => ((t_walked_44 ≤ x1_44 → post t_isRoom_44 t_walked_44 f_t_state_44 f_t_from_44 f_t_by_44 f_t_depth_44 f_t_number_44) ∧ (¬ t_walked_44 ≤ x1_44 → ((t_isRoom_44 = 0 → post t_isRoom_44 t_walked_44 f_t_state_44 f_t_from_44 f_t_by_44 f_t_depth_44 f_t_number_44) ∧ (¬ t_isRoom_44 = 0 → ∃ n : Nat, wp_MO_walk_L61 t_thrown t_room t_registers t_bits t_inputs t_first t_isFresh t_isRoom t_walked t_parts t_nodes t_classes n_t_next f_t_next n_t_state f_t_state n_t_from f_t_from n_t_by f_t_by n_t_depth f_t_depth n_t_number f_t_number (wp_MO_walk_L44 t_thrown t_room t_registers t_bits t_inputs t_first t_isFresh t_isRoom t_walked t_parts t_nodes t_classes n_t_next f_t_next n_t_state f_t_state n_t_from f_t_from n_t_by f_t_by n_t_depth f_t_depth n_t_number f_t_number post n44) post n t_isRoom_44 t_walked_44 f_t_state_44 f_t_from_44 f_t_by_44 f_t_depth_44 f_t_number_44 x1_44 0))))
def wp_MO_walk_L2 (t_thrown : Int32) (t_room : Int32) (t_registers : Int32) (t_bits : Int32) (t_inputs : Int32) (t_first : Int32) (t_isFresh : Int32) (t_isRoom : Int32) (t_walked : Int32) (t_parts : Int32) (t_nodes : Int32) (t_classes : Int32) (n_t_next : Nat) (f_t_next : Nat → Int32) (n_t_state : Nat) (f_t_state : Nat → Int32) (n_t_from : Nat) (f_t_from : Nat → Int32) (n_t_by : Nat) (f_t_by : Nat → Int32) (n_t_depth : Nat) (f_t_depth : Nat → Int32) (n_t_number : Nat) (f_t_number : Nat → Int32)  (post : Int32 → Int32 → (Nat → Int32) → (Nat → Int32) → (Nat → Int32) → (Nat → Int32) → (Nat → Int32) → Prop) : Nat → Int32 → Int32 → (Nat → Int32) → (Nat → Int32) → (Nat → Int32) → (Nat → Int32) → (Nat → Int32) → Int32 → Prop
  | 0, _, _, _, _, _, _, _, _ => False
  | n2 + 1, t_isRoom_2, t_walked_2, f_t_state_2, f_t_from_2, f_t_by_2, f_t_depth_2, f_t_number_2, x1_2 => (((4096 : Int32) ≤ x1_2 → wp_MO_come t_thrown t_room t_registers t_bits t_inputs t_first t_isFresh 1 0 t_parts t_nodes t_classes n_t_state f_t_state_2 n_t_from f_t_from_2 n_t_by f_t_by_2 n_t_depth f_t_depth_2 n_t_number f_t_number_2 t_first ((-1) : Int32) ((-1) : Int32) (fun m_walked_1 f_state_1 f_from_1 f_by_1 f_depth_1 f_number_1 => ∃ n : Nat, wp_MO_walk_L44 t_thrown t_room t_registers t_bits t_inputs t_first t_isFresh t_isRoom t_walked t_parts t_nodes t_classes n_t_next f_t_next n_t_state f_t_state n_t_from f_t_from n_t_by f_t_by n_t_depth f_t_depth n_t_number f_t_number post n 1 m_walked_1 f_state_1 f_from_1 f_by_1 f_depth_1 f_number_1 0)) ∧ (¬ (4096 : Int32) ≤ x1_2 → (vp_in x1_2 n_t_number ∧ (∀ f9 : Nat → Int32, f9 = (upd f_t_number_2 x1_2.toNatClampNeg ((-1) : Int32)) → (∀ y10 : Int32, y10 = x1_2 + 1 → (wp_MO_walk_L2 t_thrown t_room t_registers t_bits t_inputs t_first t_isFresh t_isRoom t_walked t_parts t_nodes t_classes n_t_next f_t_next n_t_state f_t_state n_t_from f_t_from n_t_by f_t_by n_t_depth f_t_depth n_t_number f_t_number post n2) t_isRoom_2 t_walked_2 f_t_state_2 f_t_from_2 f_t_by_2 f_t_depth_2 f9 y10)))))
def wp_MO_walk (t_thrown : Int32) (t_room : Int32) (t_registers : Int32) (t_bits : Int32) (t_inputs : Int32) (t_first : Int32) (t_isFresh : Int32) (t_isRoom : Int32) (t_walked : Int32) (t_parts : Int32) (t_nodes : Int32) (t_classes : Int32) (n_t_next : Nat) (f_t_next : Nat → Int32) (n_t_state : Nat) (f_t_state : Nat → Int32) (n_t_from : Nat) (f_t_from : Nat → Int32) (n_t_by : Nat) (f_t_by : Nat → Int32) (n_t_depth : Nat) (f_t_depth : Nat → Int32) (n_t_number : Nat) (f_t_number : Nat → Int32) (post : Int32 → Int32 → (Nat → Int32) → (Nat → Int32) → (Nat → Int32) → (Nat → Int32) → (Nat → Int32) → Prop) : Prop :=
  ∃ n : Nat, wp_MO_walk_L2 t_thrown t_room t_registers t_bits t_inputs t_first t_isFresh t_isRoom t_walked t_parts t_nodes t_classes n_t_next f_t_next n_t_state f_t_state n_t_from f_t_from n_t_by f_t_by n_t_depth f_t_depth n_t_number f_t_number post n t_isRoom t_walked f_t_state f_t_from f_t_by f_t_depth f_t_number 0
abbrev rm_MO_walk : Room := { frames := 2, cells := 0, slots := 0, locals := 36 }
set_option maxHeartbeats 4000000 in
set_option maxRecDepth 100000 in
theorem c_MO_walk (l : Launch) (D : va_G) (cI cL cR : ClassId) (a_t a_t_width a_t_shift a_t_outOp a_t_outA a_t_outB a_t_transfers a_t_to a_t_op a_t_opA a_t_opB a_t_next a_t_gives a_t_state a_t_from a_t_by a_t_depth a_t_number a_t_part a_t_newPart a_t_node a_t_newNode a_t_parent a_t_born a_t_one a_t_pieces a_t_chain a_t_behind a_t_classOf a_t_classState : Nat) (t_thrown : Int32) (t_room : Int32) (t_registers : Int32) (t_bits : Int32) (t_inputs : Int32) (t_first : Int32) (t_isFresh : Int32) (t_isRoom : Int32) (t_walked : Int32) (t_parts : Int32) (t_nodes : Int32) (t_classes : Int32) (n_t_next : Nat) (f_t_next : Nat → Int32) (n_t_state : Nat) (f_t_state : Nat → Int32) (n_t_from : Nat) (f_t_from : Nat → Int32) (n_t_by : Nat) (f_t_by : Nat → Int32) (n_t_depth : Nat) (f_t_depth : Nat → Int32) (n_t_number : Nat) (f_t_number : Nat → Int32) (sz : Nat) (post : Int32 → Int32 → (Nat → Int32) → (Nat → Int32) → (Nat → Int32) → (Nat → Int32) → (Nat → Int32) → Prop) (hw : wp_MO_walk t_thrown t_room t_registers t_bits t_inputs t_first t_isFresh t_isRoom t_walked t_parts t_nodes t_classes n_t_next f_t_next n_t_state f_t_state n_t_from f_t_from n_t_by f_t_by n_t_depth f_t_depth n_t_number f_t_number post) : ky_M ky_rV l y_MO_walk (.code y_MO_walk b_MO_walk 4 (none) :: wsG) rm_MO_walk D vwCl (ky_T cI cL cR) (wl_MO_walk cI cL cR a_t a_t_width a_t_shift a_t_outOp a_t_outA a_t_outB a_t_transfers a_t_to a_t_op a_t_opA a_t_opB a_t_next a_t_gives a_t_state a_t_from a_t_by a_t_depth a_t_number a_t_part a_t_newPart a_t_node a_t_newNode a_t_parent a_t_born a_t_one a_t_pieces a_t_chain a_t_behind a_t_classOf a_t_classState t_thrown t_room t_registers t_bits t_inputs t_first t_isFresh t_isRoom t_walked t_parts t_nodes t_classes n_t_next f_t_next n_t_state f_t_state n_t_from f_t_from n_t_by f_t_by n_t_depth f_t_depth n_t_number f_t_number) sz [.ref a_t] (fun _ (u : Int32 × Int32 × (Nat → Int32) × (Nat → Int32) × (Nat → Int32) × (Nat → Int32) × (Nat → Int32)) => post u.1 u.2.1 u.2.2.1 u.2.2.2.1 u.2.2.2.2.1 u.2.2.2.2.2.1 u.2.2.2.2.2.2) (fun u => wl_MO_walk cI cL cR a_t a_t_width a_t_shift a_t_outOp a_t_outA a_t_outB a_t_transfers a_t_to a_t_op a_t_opA a_t_opB a_t_next a_t_gives a_t_state a_t_from a_t_by a_t_depth a_t_number a_t_part a_t_newPart a_t_node a_t_newNode a_t_parent a_t_born a_t_one a_t_pieces a_t_chain a_t_behind a_t_classOf a_t_classState t_thrown t_room t_registers t_bits t_inputs t_first t_isFresh u.1 u.2.1 t_parts t_nodes t_classes n_t_next f_t_next n_t_state u.2.2.1 n_t_from u.2.2.2.1 n_t_by u.2.2.2.2.1 n_t_depth u.2.2.2.2.2.1 n_t_number u.2.2.2.2.2.2) := by
  refine ky_ofV (plainFor_of_name (by decide)) (Nat.le_of_ble_eq_true rfl) ?_
  intro p e s m args below meth c A Q ls hI hret
  obtain ⟨hx, hb, hml, hown, hin, hts, hK, hP, hD, hA, hS, hl⟩ := hI
  have hown : s.vm.findClass R_MO = some m.cls := hown
  have hl : lv_has ls 4 [(0, .ref a_t)] := hl
  obtain ⟨H, locs, eH, eL⟩ : ∃ (H : Heap) (locs : List Loc), H = s.heap ∧ locs = [] := ⟨_, _, rfl, rfl⟩
  rw [← eL] at hS ⊢
  have hS : va_S A s.heap H locs := by rw [eH]; exact hS
  have hP : va_P D vwCl (wl_MO_walk cI cL cR a_t a_t_width a_t_shift a_t_outOp a_t_outA a_t_outB a_t_transfers a_t_to a_t_op a_t_opA a_t_opB a_t_next a_t_gives a_t_state a_t_from a_t_by a_t_depth a_t_number a_t_part a_t_newPart a_t_node a_t_newNode a_t_parent a_t_born a_t_one a_t_pieces a_t_chain a_t_behind a_t_classOf a_t_classState t_thrown t_room t_registers t_bits t_inputs t_first t_isFresh t_isRoom t_walked t_parts t_nodes t_classes n_t_next f_t_next n_t_state f_t_state n_t_from f_t_from n_t_by f_t_by n_t_depth f_t_depth n_t_number f_t_number) H := by rw [eH]; exact hP
  suffices hgo : W p l e rm_MO_walk s m args below meth c H locs 0 0 Q (F0 m 0 ls []) by rw [eH] at hgo; exact hgo
  clear eH eL
  unfold wp_MO_walk at hw
  refine lv_iconst (v := 0) hx hb d_MO_walk_0 (by decide) ?_
  refine lv_istore_n (lv' := [(1, .int 0), (0, .ref a_t)]) hx hb d_MO_walk_1 rfl hl (by decide) rfl (fun ls hl => ?_)
  have hL2 : ∀ (n : Nat) (t_isRoom_2 : Int32) (t_walked_2 : Int32) (f_t_state_2 : Nat → Int32) (f_t_from_2 : Nat → Int32) (f_t_by_2 : Nat → Int32) (f_t_depth_2 : Nat → Int32) (f_t_number_2 : Nat → Int32) (x1_2 : Int32), wp_MO_walk_L2 t_thrown t_room t_registers t_bits t_inputs t_first t_isFresh t_isRoom t_walked t_parts t_nodes t_classes n_t_next f_t_next n_t_state f_t_state n_t_from f_t_from n_t_by f_t_by n_t_depth f_t_depth n_t_number f_t_number post n t_isRoom_2 t_walked_2 f_t_state_2 f_t_from_2 f_t_by_2 f_t_depth_2 f_t_number_2 x1_2 → ∀ (H : Heap) (locs : List Loc) (ls : Array Slot), va_P D vwCl (wl_MO_walk cI cL cR a_t a_t_width a_t_shift a_t_outOp a_t_outA a_t_outB a_t_transfers a_t_to a_t_op a_t_opA a_t_opB a_t_next a_t_gives a_t_state a_t_from a_t_by a_t_depth a_t_number a_t_part a_t_newPart a_t_node a_t_newNode a_t_parent a_t_born a_t_one a_t_pieces a_t_chain a_t_behind a_t_classOf a_t_classState t_thrown t_room t_registers t_bits t_inputs t_first t_isFresh t_isRoom_2 t_walked_2 t_parts t_nodes t_classes n_t_next f_t_next n_t_state f_t_state_2 n_t_from f_t_from_2 n_t_by f_t_by_2 n_t_depth f_t_depth_2 n_t_number f_t_number_2) H → va_D A (wl_MO_walk cI cL cR a_t a_t_width a_t_shift a_t_outOp a_t_outA a_t_outB a_t_transfers a_t_to a_t_op a_t_opA a_t_opB a_t_next a_t_gives a_t_state a_t_from a_t_by a_t_depth a_t_number a_t_part a_t_newPart a_t_node a_t_newNode a_t_parent a_t_born a_t_one a_t_pieces a_t_chain a_t_behind a_t_classOf a_t_classState t_thrown t_room t_registers t_bits t_inputs t_first t_isFresh t_isRoom_2 t_walked_2 t_parts t_nodes t_classes n_t_next f_t_next n_t_state f_t_state_2 n_t_from f_t_from_2 n_t_by f_t_by_2 n_t_depth f_t_depth_2 n_t_number f_t_number_2) → va_S A s.heap H locs → lv_has ls 4 [(0, .ref a_t), (1, .int x1_2)] → W p l e rm_MO_walk s m args below meth c H locs 0 0 Q (F0 m 2 ls []) := by
    intro n
    induction n with
    | zero => intro t_isRoom_2 t_walked_2 f_t_state_2 f_t_from_2 f_t_by_2 f_t_depth_2 f_t_number_2 x1_2 hw; rw [wp_MO_walk_L2] at hw; exact hw.elim
    | succ n2 ih2 =>
      intro t_isRoom_2 t_walked_2 f_t_state_2 f_t_from_2 f_t_by_2 f_t_depth_2 f_t_number_2 x1_2 hw H locs ls hP hD hS hl
      rw [wp_MO_walk_L2] at hw
      refine lv_iload_n hx hb d_MO_walk_2 rfl (lv_at hl 1 rfl) ?_
      refine lv_sipush (v := 4096) hx hb d_MO_walk_3 (by decide) ?_
      refine lv_icmp_ge (tgt := 22) hx hb d_MO_walk_6 (by decide) (fun hc => ?_) (fun hc => ?_)
      · have hw := hw.1 hc
        refine lv_aload_n hx hb d_MO_walk_22 rfl (lv_at hl 0 rfl) ?_
        refine lv_iconst (v := 0) hx hb d_MO_walk_23 (by decide) ?_
        refine pf_MO_152 (v := .int 0) hx hb hts hown hK hP hD hS 0 rfl rfl rfl (Nat.le_of_ble_eq_true rfl) d_MO_walk_24 (fun H locs hP hD hS => ?_)
        have hP : va_P D vwCl (wl_MO_walk cI cL cR a_t a_t_width a_t_shift a_t_outOp a_t_outA a_t_outB a_t_transfers a_t_to a_t_op a_t_opA a_t_opB a_t_next a_t_gives a_t_state a_t_from a_t_by a_t_depth a_t_number a_t_part a_t_newPart a_t_node a_t_newNode a_t_parent a_t_born a_t_one a_t_pieces a_t_chain a_t_behind a_t_classOf a_t_classState t_thrown t_room t_registers t_bits t_inputs t_first t_isFresh t_isRoom_2 0 t_parts t_nodes t_classes n_t_next f_t_next n_t_state f_t_state_2 n_t_from f_t_from_2 n_t_by f_t_by_2 n_t_depth f_t_depth_2 n_t_number f_t_number_2) H := hP
        have hD : va_D A (wl_MO_walk cI cL cR a_t a_t_width a_t_shift a_t_outOp a_t_outA a_t_outB a_t_transfers a_t_to a_t_op a_t_opA a_t_opB a_t_next a_t_gives a_t_state a_t_from a_t_by a_t_depth a_t_number a_t_part a_t_newPart a_t_node a_t_newNode a_t_parent a_t_born a_t_one a_t_pieces a_t_chain a_t_behind a_t_classOf a_t_classState t_thrown t_room t_registers t_bits t_inputs t_first t_isFresh t_isRoom_2 0 t_parts t_nodes t_classes n_t_next f_t_next n_t_state f_t_state_2 n_t_from f_t_from_2 n_t_by f_t_by_2 n_t_depth f_t_depth_2 n_t_number f_t_number_2) := hD
        refine lv_aload_n hx hb d_MO_walk_27 rfl (lv_at hl 0 rfl) ?_
        refine lv_iconst (v := 1) hx hb d_MO_walk_28 (by decide) ?_
        refine pf_MO_155 (v := .int 1) hx hb hts hown hK hP hD hS 0 rfl (by decide +kernel) (by decide +kernel) (Nat.le_of_ble_eq_true rfl) d_MO_walk_29 (fun H locs hP hD hS => ?_)
        have hP : va_P D vwCl (wl_MO_walk cI cL cR a_t a_t_width a_t_shift a_t_outOp a_t_outA a_t_outB a_t_transfers a_t_to a_t_op a_t_opA a_t_opB a_t_next a_t_gives a_t_state a_t_from a_t_by a_t_depth a_t_number a_t_part a_t_newPart a_t_node a_t_newNode a_t_parent a_t_born a_t_one a_t_pieces a_t_chain a_t_behind a_t_classOf a_t_classState t_thrown t_room t_registers t_bits t_inputs t_first t_isFresh 1 0 t_parts t_nodes t_classes n_t_next f_t_next n_t_state f_t_state_2 n_t_from f_t_from_2 n_t_by f_t_by_2 n_t_depth f_t_depth_2 n_t_number f_t_number_2) H := hP
        have hD : va_D A (wl_MO_walk cI cL cR a_t a_t_width a_t_shift a_t_outOp a_t_outA a_t_outB a_t_transfers a_t_to a_t_op a_t_opA a_t_opB a_t_next a_t_gives a_t_state a_t_from a_t_by a_t_depth a_t_number a_t_part a_t_newPart a_t_node a_t_newNode a_t_parent a_t_born a_t_one a_t_pieces a_t_chain a_t_behind a_t_classOf a_t_classState t_thrown t_room t_registers t_bits t_inputs t_first t_isFresh 1 0 t_parts t_nodes t_classes n_t_next f_t_next n_t_state f_t_state_2 n_t_from f_t_from_2 n_t_by f_t_by_2 n_t_depth f_t_depth_2 n_t_number f_t_number_2) := hD
        refine lv_aload_n hx hb d_MO_walk_32 rfl (lv_at hl 0 rfl) ?_
        refine lv_aload_n hx hb d_MO_walk_33 rfl (lv_at hl 0 rfl) ?_
        refine gf_MO_135 hx hb hts hown hK hP 0 rfl rfl d_MO_walk_34 ?_
        refine lv_iconst (v := (-1)) hx hb d_MO_walk_37 (by decide) ?_
        refine lv_iconst (v := (-1)) hx hb d_MO_walk_38 (by decide) ?_
        refine ky_call (wr := [(a_t_next, .inl (cI, n_t_next, .inl f_t_next))]) hP hD hS hA [0, 2, 3, 4, 5, 6] [1] rfl rfl (by decide) (by decide) (va_runV (As := [.int t_first, .int (-1), .int (-1)]) (rest := []) ⟨hx, hb, hml, hown, hts⟩ (c_MO_come l D cI cL cR a_t a_t_width a_t_shift a_t_outOp a_t_outA a_t_outB a_t_transfers a_t_to a_t_op a_t_opA a_t_opB a_t_next a_t_gives a_t_state a_t_from a_t_by a_t_depth a_t_number a_t_part a_t_newPart a_t_node a_t_newNode a_t_parent a_t_born a_t_one a_t_pieces a_t_chain a_t_behind a_t_classOf a_t_classState t_thrown t_room t_registers t_bits t_inputs t_first t_isFresh 1 0 t_parts t_nodes t_classes n_t_state f_t_state_2 n_t_from f_t_from_2 n_t_by f_t_by_2 n_t_depth f_t_depth_2 n_t_number f_t_number_2 t_first ((-1) : Int32) ((-1) : Int32) H.size _ hw) (cw_MO_158 hts ⟨Nat.le_of_ble_eq_true rfl, Nat.le_of_ble_eq_true rfl⟩) (ky_preV hK hP hD [0, 2, 3, 4, 5, 6] rfl (by decide) rfl rfl) rfl rfl hl.1 rfl (lv_room (Nat.le_of_ble_eq_true rfl)) d_MO_walk_39 ⟨Nat.le_refl 0, Nat.le_refl 0⟩) (fun _ u H locs hw hP hD hS => ?_)
        obtain ⟨m_walked_1, f_state_1, f_from_1, f_by_1, f_depth_1, f_number_1⟩ := u
        try dsimp only at hw
        have hP : va_P D vwCl (wl_MO_walk cI cL cR a_t a_t_width a_t_shift a_t_outOp a_t_outA a_t_outB a_t_transfers a_t_to a_t_op a_t_opA a_t_opB a_t_next a_t_gives a_t_state a_t_from a_t_by a_t_depth a_t_number a_t_part a_t_newPart a_t_node a_t_newNode a_t_parent a_t_born a_t_one a_t_pieces a_t_chain a_t_behind a_t_classOf a_t_classState t_thrown t_room t_registers t_bits t_inputs t_first t_isFresh 1 m_walked_1 t_parts t_nodes t_classes n_t_next f_t_next n_t_state f_state_1 n_t_from f_from_1 n_t_by f_by_1 n_t_depth f_depth_1 n_t_number f_number_1) H := hP.sub [1, 0, 2, 3, 4, 5, 6] rfl
        have hD : va_D A (wl_MO_walk cI cL cR a_t a_t_width a_t_shift a_t_outOp a_t_outA a_t_outB a_t_transfers a_t_to a_t_op a_t_opA a_t_opB a_t_next a_t_gives a_t_state a_t_from a_t_by a_t_depth a_t_number a_t_part a_t_newPart a_t_node a_t_newNode a_t_parent a_t_born a_t_one a_t_pieces a_t_chain a_t_behind a_t_classOf a_t_classState t_thrown t_room t_registers t_bits t_inputs t_first t_isFresh 1 m_walked_1 t_parts t_nodes t_classes n_t_next f_t_next n_t_state f_state_1 n_t_from f_from_1 n_t_by f_by_1 n_t_depth f_depth_1 n_t_number f_number_1) := hD.sub [1, 0, 2, 3, 4, 5, 6] (by decide) rfl
        refine W.widen (k := 0) (n := 0) (Nat.le_refl _) (Nat.le_refl _) ?_
        refine W.eq (g2 := F0 m 42 ls []) rfl ?_
        refine lv_iconst (v := 0) hx hb d_MO_walk_42 (by decide) ?_
        refine lv_istore_n (lv' := [(1, .int 0), (0, .ref a_t)]) hx hb d_MO_walk_43 rfl hl (by decide) rfl (fun ls hl => ?_)
        have hL44 : ∀ (n : Nat) (t_isRoom_44 : Int32) (t_walked_44 : Int32) (f_t_state_44 : Nat → Int32) (f_t_from_44 : Nat → Int32) (f_t_by_44 : Nat → Int32) (f_t_depth_44 : Nat → Int32) (f_t_number_44 : Nat → Int32) (x1_44 : Int32), wp_MO_walk_L44 t_thrown t_room t_registers t_bits t_inputs t_first t_isFresh t_isRoom t_walked t_parts t_nodes t_classes n_t_next f_t_next n_t_state f_t_state n_t_from f_t_from n_t_by f_t_by n_t_depth f_t_depth n_t_number f_t_number post n t_isRoom_44 t_walked_44 f_t_state_44 f_t_from_44 f_t_by_44 f_t_depth_44 f_t_number_44 x1_44 → ∀ (H : Heap) (locs : List Loc) (ls : Array Slot), va_P D vwCl (wl_MO_walk cI cL cR a_t a_t_width a_t_shift a_t_outOp a_t_outA a_t_outB a_t_transfers a_t_to a_t_op a_t_opA a_t_opB a_t_next a_t_gives a_t_state a_t_from a_t_by a_t_depth a_t_number a_t_part a_t_newPart a_t_node a_t_newNode a_t_parent a_t_born a_t_one a_t_pieces a_t_chain a_t_behind a_t_classOf a_t_classState t_thrown t_room t_registers t_bits t_inputs t_first t_isFresh t_isRoom_44 t_walked_44 t_parts t_nodes t_classes n_t_next f_t_next n_t_state f_t_state_44 n_t_from f_t_from_44 n_t_by f_t_by_44 n_t_depth f_t_depth_44 n_t_number f_t_number_44) H → va_D A (wl_MO_walk cI cL cR a_t a_t_width a_t_shift a_t_outOp a_t_outA a_t_outB a_t_transfers a_t_to a_t_op a_t_opA a_t_opB a_t_next a_t_gives a_t_state a_t_from a_t_by a_t_depth a_t_number a_t_part a_t_newPart a_t_node a_t_newNode a_t_parent a_t_born a_t_one a_t_pieces a_t_chain a_t_behind a_t_classOf a_t_classState t_thrown t_room t_registers t_bits t_inputs t_first t_isFresh t_isRoom_44 t_walked_44 t_parts t_nodes t_classes n_t_next f_t_next n_t_state f_t_state_44 n_t_from f_t_from_44 n_t_by f_t_by_44 n_t_depth f_t_depth_44 n_t_number f_t_number_44) → va_S A s.heap H locs → lv_has ls 4 [(0, .ref a_t), (1, .int x1_44)] → W p l e rm_MO_walk s m args below meth c H locs 0 0 Q (F0 m 44 ls []) := by
          intro n
          induction n with
          | zero => intro t_isRoom_44 t_walked_44 f_t_state_44 f_t_from_44 f_t_by_44 f_t_depth_44 f_t_number_44 x1_44 hw; rw [wp_MO_walk_L44] at hw; exact hw.elim
          | succ n44 ih44 =>
            intro t_isRoom_44 t_walked_44 f_t_state_44 f_t_from_44 f_t_by_44 f_t_depth_44 f_t_number_44 x1_44 hw H locs ls hP hD hS hl
            rw [wp_MO_walk_L44] at hw
            refine lv_iload_n hx hb d_MO_walk_44 rfl (lv_at hl 1 rfl) ?_
            refine lv_aload_n hx hb d_MO_walk_45 rfl (lv_at hl 0 rfl) ?_
            refine gf_MO_152 hx hb hts hown hK hP 0 rfl rfl d_MO_walk_46 ?_
            refine lv_icmp_ge (tgt := 148) hx hb d_MO_walk_49 (by decide) (fun hc => ?_) (fun hc => ?_)
            · have hw := hw.1 hc
              exact hret (t_isRoom_44, t_walked_44, f_t_state_44, f_t_from_44, f_t_by_44, f_t_depth_44, f_t_number_44) H locs _ _ 148 ls d_MO_walk_148 hP hD hS hw (Nat.le_refl 0) (Nat.le_refl 0)
            · have hw := hw.2 hc
              refine lv_aload_n hx hb d_MO_walk_52 rfl (lv_at hl 0 rfl) ?_
              refine gf_MO_155 hx hb hts hown hK hP 0 rfl rfl d_MO_walk_53 ?_
              refine lv_if_eq (tgt := 148) hx hb d_MO_walk_56 (by decide) (fun hc => ?_) (fun hc => ?_)
              · have hw := hw.1 hc
                exact hret (t_isRoom_44, t_walked_44, f_t_state_44, f_t_from_44, f_t_by_44, f_t_depth_44, f_t_number_44) H locs _ _ 148 ls d_MO_walk_148 hP hD hS hw (Nat.le_refl 0) (Nat.le_refl 0)
              · have hw := hw.2 hc
                refine lv_iconst (v := 0) hx hb d_MO_walk_59 (by decide) ?_
                refine lv_istore_n (lv' := [(2, .int 0), (0, .ref a_t), (1, .int x1_44)]) hx hb d_MO_walk_60 rfl hl (by decide) rfl (fun ls hl => ?_)
                have hL61 : ∀ (n : Nat) (t_isRoom_61 : Int32) (t_walked_61 : Int32) (f_t_state_61 : Nat → Int32) (f_t_from_61 : Nat → Int32) (f_t_by_61 : Nat → Int32) (f_t_depth_61 : Nat → Int32) (f_t_number_61 : Nat → Int32) (x1_61 : Int32) (x2_61 : Int32), wp_MO_walk_L61 t_thrown t_room t_registers t_bits t_inputs t_first t_isFresh t_isRoom t_walked t_parts t_nodes t_classes n_t_next f_t_next n_t_state f_t_state n_t_from f_t_from n_t_by f_t_by n_t_depth f_t_depth n_t_number f_t_number (wp_MO_walk_L44 t_thrown t_room t_registers t_bits t_inputs t_first t_isFresh t_isRoom t_walked t_parts t_nodes t_classes n_t_next f_t_next n_t_state f_t_state n_t_from f_t_from n_t_by f_t_by n_t_depth f_t_depth n_t_number f_t_number post n44) post n t_isRoom_61 t_walked_61 f_t_state_61 f_t_from_61 f_t_by_61 f_t_depth_61 f_t_number_61 x1_61 x2_61 → ∀ (H : Heap) (locs : List Loc) (ls : Array Slot), va_P D vwCl (wl_MO_walk cI cL cR a_t a_t_width a_t_shift a_t_outOp a_t_outA a_t_outB a_t_transfers a_t_to a_t_op a_t_opA a_t_opB a_t_next a_t_gives a_t_state a_t_from a_t_by a_t_depth a_t_number a_t_part a_t_newPart a_t_node a_t_newNode a_t_parent a_t_born a_t_one a_t_pieces a_t_chain a_t_behind a_t_classOf a_t_classState t_thrown t_room t_registers t_bits t_inputs t_first t_isFresh t_isRoom_61 t_walked_61 t_parts t_nodes t_classes n_t_next f_t_next n_t_state f_t_state_61 n_t_from f_t_from_61 n_t_by f_t_by_61 n_t_depth f_t_depth_61 n_t_number f_t_number_61) H → va_D A (wl_MO_walk cI cL cR a_t a_t_width a_t_shift a_t_outOp a_t_outA a_t_outB a_t_transfers a_t_to a_t_op a_t_opA a_t_opB a_t_next a_t_gives a_t_state a_t_from a_t_by a_t_depth a_t_number a_t_part a_t_newPart a_t_node a_t_newNode a_t_parent a_t_born a_t_one a_t_pieces a_t_chain a_t_behind a_t_classOf a_t_classState t_thrown t_room t_registers t_bits t_inputs t_first t_isFresh t_isRoom_61 t_walked_61 t_parts t_nodes t_classes n_t_next f_t_next n_t_state f_t_state_61 n_t_from f_t_from_61 n_t_by f_t_by_61 n_t_depth f_t_depth_61 n_t_number f_t_number_61) → va_S A s.heap H locs → lv_has ls 4 [(0, .ref a_t), (1, .int x1_61), (2, .int x2_61)] → W p l e rm_MO_walk s m args below meth c H locs 0 0 Q (F0 m 61 ls []) := by
                  intro n
                  induction n with
                  | zero => intro t_isRoom_61 t_walked_61 f_t_state_61 f_t_from_61 f_t_by_61 f_t_depth_61 f_t_number_61 x1_61 x2_61 hw; rw [wp_MO_walk_L61] at hw; exact hw.elim
                  | succ n61 ih61 =>
                    intro t_isRoom_61 t_walked_61 f_t_state_61 f_t_from_61 f_t_by_61 f_t_depth_61 f_t_number_61 x1_61 x2_61 hw H locs ls hP hD hS hl
                    rw [wp_MO_walk_L61] at hw
                    refine lv_iload_n hx hb d_MO_walk_61 rfl (lv_at hl 2 rfl) ?_
                    refine lv_aload_n hx hb d_MO_walk_62 rfl (lv_at hl 0 rfl) ?_
                    refine gf_MO_112 hx hb hts hown hK hP 0 rfl rfl d_MO_walk_63 ?_
                    refine lv_icmp_ge (tgt := 142) hx hb d_MO_walk_66 (by decide) (fun hc => ?_) (fun hc => ?_)
                    · have hw := hw.1 hc
                      obtain ⟨y2, ey2⟩ : ∃ z : Int32, z = x1_61 + 1 := ⟨_, rfl⟩
                      refine lv_iinc (v := y2) (lv' := [(1, .int y2), (0, .ref a_t), (2, .int x2_61)]) hx hb d_MO_walk_142 hl (k := 1) rfl (by rw [ey2]; rfl) (by decide) rfl (fun ls hl => ?_)
                      have hw := hw y2 ey2
                      refine lv_goto (tgt := 44) hx hb d_MO_walk_145 (by decide) ?_
                      exact ih44 t_isRoom_61 t_walked_61 f_t_state_61 f_t_from_61 f_t_by_61 f_t_depth_61 f_t_number_61 y2 hw H locs ls hP hD hS (lv_sub hl [1, 0] rfl)
                    · have hw := hw.2 hc
                      refine lv_aload_n hx hb d_MO_walk_69 rfl (lv_at hl 0 rfl) ?_
                      refine gf_MO_155 hx hb hts hown hK hP 0 rfl rfl d_MO_walk_70 ?_
                      refine lv_if_eq (tgt := 142) hx hb d_MO_walk_73 (by decide) (fun hc => ?_) (fun hc => ?_)
                      · have hw := hw.1 hc
                        obtain ⟨y3, ey3⟩ : ∃ z : Int32, z = x1_61 + 1 := ⟨_, rfl⟩
                        refine lv_iinc (v := y3) (lv' := [(1, .int y3), (0, .ref a_t), (2, .int x2_61)]) hx hb d_MO_walk_142 hl (k := 1) rfl (by rw [ey3]; rfl) (by decide) rfl (fun ls hl => ?_)
                        have hw := hw y3 ey3
                        refine lv_goto (tgt := 44) hx hb d_MO_walk_145 (by decide) ?_
                        exact ih44 t_isRoom_61 t_walked_61 f_t_state_61 f_t_from_61 f_t_by_61 f_t_depth_61 f_t_number_61 y3 hw H locs ls hP hD hS (lv_sub hl [1, 0] rfl)
                      · have hw := hw.2 hc
                        refine lv_aload_n hx hb d_MO_walk_76 rfl (lv_at hl 0 rfl) ?_
                        refine gf_MO_40 hx hb hts hown hK hP 0 rfl rfl d_MO_walk_77 ?_
                        refine lv_iconst (v := 4) hx hb d_MO_walk_80 (by decide) ?_
                        refine lv_aload_n hx hb d_MO_walk_81 rfl (lv_at hl 0 rfl) ?_
                        refine gf_MO_46 hx hb hts hown hK hP 0 rfl rfl d_MO_walk_82 ?_
                        refine lv_iload_n hx hb d_MO_walk_85 rfl (lv_at hl 1 rfl) ?_
                        obtain ⟨h1, hw⟩ := hw
                        refine va_iald hx hb hK hP 2 0 rfl rfl h1 d_MO_walk_86 ?_
                        refine lv_imul hx hb d_MO_walk_87 ?_
                        refine lv_iload_n hx hb d_MO_walk_88 rfl (lv_at hl 2 rfl) ?_
                        refine lv_iadd hx hb d_MO_walk_89 ?_
                        obtain ⟨h1, hw⟩ := hw
                        refine va_iald hx hb hK hP 1 0 rfl rfl h1 d_MO_walk_90 ?_
                        refine lv_topi (fun y4 ey4 => ?_)
                        have hw := hw y4 ey4
                        refine lv_istore_n (lv' := [(3, .int y4), (0, .ref a_t), (1, .int x1_61), (2, .int x2_61)]) hx hb d_MO_walk_91 rfl hl (by decide) rfl (fun ls hl => ?_)
                        refine lv_aload_n hx hb d_MO_walk_92 rfl (lv_at hl 1 rfl) ?_
                        refine gf_MO_58 hx hb hts hown hK hP 0 rfl rfl d_MO_walk_93 ?_
                        refine lv_iload_n hx hb d_MO_walk_96 rfl (lv_at hl 0 rfl) ?_
                        obtain ⟨h1, hw⟩ := hw
                        refine va_iald hx hb hK hP 6 0 rfl rfl h1 d_MO_walk_97 ?_
                        have hJ120 : ∀ (t_isRoom_120 : Int32) (t_walked_120 : Int32) (f_t_state_120 : Nat → Int32) (f_t_from_120 : Nat → Int32) (f_t_by_120 : Nat → Int32) (f_t_depth_120 : Nat → Int32) (f_t_number_120 : Nat → Int32) (x1_120 : Int32) (x2_120 : Int32) (x3_120 : Int32), wp_MO_walk_J120 t_thrown t_room t_registers t_bits t_inputs t_first t_isFresh t_isRoom t_walked t_parts t_nodes t_classes n_t_next f_t_next n_t_state f_t_state n_t_from f_t_from n_t_by f_t_by n_t_depth f_t_depth n_t_number f_t_number (wp_MO_walk_L44 t_thrown t_room t_registers t_bits t_inputs t_first t_isFresh t_isRoom t_walked t_parts t_nodes t_classes n_t_next f_t_next n_t_state f_t_state n_t_from f_t_from n_t_by f_t_by n_t_depth f_t_depth n_t_number f_t_number post n44) (wp_MO_walk_L61 t_thrown t_room t_registers t_bits t_inputs t_first t_isFresh t_isRoom t_walked t_parts t_nodes t_classes n_t_next f_t_next n_t_state f_t_state n_t_from f_t_from n_t_by f_t_by n_t_depth f_t_depth n_t_number f_t_number (wp_MO_walk_L44 t_thrown t_room t_registers t_bits t_inputs t_first t_isFresh t_isRoom t_walked t_parts t_nodes t_classes n_t_next f_t_next n_t_state f_t_state n_t_from f_t_from n_t_by f_t_by n_t_depth f_t_depth n_t_number f_t_number post n44) post n61) post t_isRoom_120 t_walked_120 f_t_state_120 f_t_from_120 f_t_by_120 f_t_depth_120 f_t_number_120 x1_120 x2_120 x3_120 → ∀ (H : Heap) (locs : List Loc) (ls : Array Slot), va_P D vwCl (wl_MO_walk cI cL cR a_t a_t_width a_t_shift a_t_outOp a_t_outA a_t_outB a_t_transfers a_t_to a_t_op a_t_opA a_t_opB a_t_next a_t_gives a_t_state a_t_from a_t_by a_t_depth a_t_number a_t_part a_t_newPart a_t_node a_t_newNode a_t_parent a_t_born a_t_one a_t_pieces a_t_chain a_t_behind a_t_classOf a_t_classState t_thrown t_room t_registers t_bits t_inputs t_first t_isFresh t_isRoom_120 t_walked_120 t_parts t_nodes t_classes n_t_next f_t_next n_t_state f_t_state_120 n_t_from f_t_from_120 n_t_by f_t_by_120 n_t_depth f_t_depth_120 n_t_number f_t_number_120) H → va_D A (wl_MO_walk cI cL cR a_t a_t_width a_t_shift a_t_outOp a_t_outA a_t_outB a_t_transfers a_t_to a_t_op a_t_opA a_t_opB a_t_next a_t_gives a_t_state a_t_from a_t_by a_t_depth a_t_number a_t_part a_t_newPart a_t_node a_t_newNode a_t_parent a_t_born a_t_one a_t_pieces a_t_chain a_t_behind a_t_classOf a_t_classState t_thrown t_room t_registers t_bits t_inputs t_first t_isFresh t_isRoom_120 t_walked_120 t_parts t_nodes t_classes n_t_next f_t_next n_t_state f_t_state_120 n_t_from f_t_from_120 n_t_by f_t_by_120 n_t_depth f_t_depth_120 n_t_number f_t_number_120) → va_S A s.heap H locs → lv_has ls 4 [(0, .ref a_t), (1, .int x1_120), (2, .int x2_120), (3, .int x3_120)] → W p l e rm_MO_walk s m args below meth c H locs 0 0 Q (F0 m 120 ls []) := by
                          intro t_isRoom_120 t_walked_120 f_t_state_120 f_t_from_120 f_t_by_120 f_t_depth_120 f_t_number_120 x1_120 x2_120 x3_120 hw H locs ls hP hD hS hl
                          rw [wp_MO_walk_J120] at hw
                          refine lv_aload_n hx hb d_MO_walk_120 rfl (lv_at hl 0 rfl) ?_
                          refine gf_MO_58 hx hb hts hown hK hP 0 rfl rfl d_MO_walk_121 ?_
                          refine lv_iload_n hx hb d_MO_walk_124 rfl (lv_at hl 3 rfl) ?_
                          obtain ⟨h1, hw⟩ := hw
                          refine va_iald hx hb hK hP 6 0 rfl rfl h1 d_MO_walk_125 ?_
                          refine lv_if_ge (tgt := 136) hx hb d_MO_walk_126 (by decide) (fun hc => ?_) (fun hc => ?_)
                          · have hw := hw.1 hc
                            obtain ⟨y5, ey5⟩ : ∃ z : Int32, z = x2_120 + 1 := ⟨_, rfl⟩
                            refine lv_iinc (v := y5) (lv' := [(2, .int y5), (0, .ref a_t), (1, .int x1_120), (3, .int x3_120)]) hx hb d_MO_walk_136 hl (k := 2) rfl (by rw [ey5]; rfl) (by decide) rfl (fun ls hl => ?_)
                            have hw := hw y5 ey5
                            refine lv_goto (tgt := 61) hx hb d_MO_walk_139 (by decide) ?_
                            exact ih61 t_isRoom_120 t_walked_120 f_t_state_120 f_t_from_120 f_t_by_120 f_t_depth_120 f_t_number_120 x1_120 y5 hw H locs ls hP hD hS (lv_sub hl [1, 2, 0] rfl)
                          · have hw := hw.2 hc
                            refine lv_aload_n hx hb d_MO_walk_129 rfl (lv_at hl 0 rfl) ?_
                            refine lv_iload_n hx hb d_MO_walk_130 rfl (lv_at hl 3 rfl) ?_
                            refine lv_iload_n hx hb d_MO_walk_131 rfl (lv_at hl 1 rfl) ?_
                            refine lv_iload_n hx hb d_MO_walk_132 rfl (lv_at hl 2 rfl) ?_
                            refine ky_call (wr := [(a_t_next, .inl (cI, n_t_next, .inl f_t_next))]) hP hD hS hA [0, 2, 3, 4, 5, 6] [1] rfl rfl (by decide) (by decide) (va_runV (As := [.int x3_120, .int x1_120, .int x2_120]) (rest := []) ⟨hx, hb, hml, hown, hts⟩ (c_MO_come l D cI cL cR a_t a_t_width a_t_shift a_t_outOp a_t_outA a_t_outB a_t_transfers a_t_to a_t_op a_t_opA a_t_opB a_t_next a_t_gives a_t_state a_t_from a_t_by a_t_depth a_t_number a_t_part a_t_newPart a_t_node a_t_newNode a_t_parent a_t_born a_t_one a_t_pieces a_t_chain a_t_behind a_t_classOf a_t_classState t_thrown t_room t_registers t_bits t_inputs t_first t_isFresh t_isRoom_120 t_walked_120 t_parts t_nodes t_classes n_t_state f_t_state_120 n_t_from f_t_from_120 n_t_by f_t_by_120 n_t_depth f_t_depth_120 n_t_number f_t_number_120 x3_120 x1_120 x2_120 H.size _ hw) (cw_MO_158 hts ⟨Nat.le_of_ble_eq_true rfl, Nat.le_of_ble_eq_true rfl⟩) (ky_preV hK hP hD [0, 2, 3, 4, 5, 6] rfl (by decide) rfl rfl) rfl rfl hl.1 rfl (lv_room (Nat.le_of_ble_eq_true rfl)) d_MO_walk_133 ⟨Nat.le_refl 0, Nat.le_refl 0⟩) (fun _ u H locs hw hP hD hS => ?_)
                            obtain ⟨m_walked_6, f_state_6, f_from_6, f_by_6, f_depth_6, f_number_6⟩ := u
                            try dsimp only at hw
                            have hP : va_P D vwCl (wl_MO_walk cI cL cR a_t a_t_width a_t_shift a_t_outOp a_t_outA a_t_outB a_t_transfers a_t_to a_t_op a_t_opA a_t_opB a_t_next a_t_gives a_t_state a_t_from a_t_by a_t_depth a_t_number a_t_part a_t_newPart a_t_node a_t_newNode a_t_parent a_t_born a_t_one a_t_pieces a_t_chain a_t_behind a_t_classOf a_t_classState t_thrown t_room t_registers t_bits t_inputs t_first t_isFresh t_isRoom_120 m_walked_6 t_parts t_nodes t_classes n_t_next f_t_next n_t_state f_state_6 n_t_from f_from_6 n_t_by f_by_6 n_t_depth f_depth_6 n_t_number f_number_6) H := hP.sub [1, 0, 2, 3, 4, 5, 6] rfl
                            have hD : va_D A (wl_MO_walk cI cL cR a_t a_t_width a_t_shift a_t_outOp a_t_outA a_t_outB a_t_transfers a_t_to a_t_op a_t_opA a_t_opB a_t_next a_t_gives a_t_state a_t_from a_t_by a_t_depth a_t_number a_t_part a_t_newPart a_t_node a_t_newNode a_t_parent a_t_born a_t_one a_t_pieces a_t_chain a_t_behind a_t_classOf a_t_classState t_thrown t_room t_registers t_bits t_inputs t_first t_isFresh t_isRoom_120 m_walked_6 t_parts t_nodes t_classes n_t_next f_t_next n_t_state f_state_6 n_t_from f_from_6 n_t_by f_by_6 n_t_depth f_depth_6 n_t_number f_number_6) := hD.sub [1, 0, 2, 3, 4, 5, 6] (by decide) rfl
                            refine W.widen (k := 0) (n := 0) (Nat.le_refl _) (Nat.le_refl _) ?_
                            refine W.eq (g2 := F0 m 136 ls []) rfl ?_
                            obtain ⟨y7, ey7⟩ : ∃ z : Int32, z = x2_120 + 1 := ⟨_, rfl⟩
                            refine lv_iinc (v := y7) (lv' := [(2, .int y7), (0, .ref a_t), (1, .int x1_120), (3, .int x3_120)]) hx hb d_MO_walk_136 hl (k := 2) rfl (by rw [ey7]; rfl) (by decide) rfl (fun ls hl => ?_)
                            have hw := hw y7 ey7
                            refine lv_goto (tgt := 61) hx hb d_MO_walk_139 (by decide) ?_
                            exact ih61 t_isRoom_120 m_walked_6 f_state_6 f_from_6 f_by_6 f_depth_6 f_number_6 x1_120 y7 hw H locs ls hP hD hS (lv_sub hl [1, 2, 0] rfl)
                        refine lv_if_ge (tgt := 120) hx hb d_MO_walk_98 (by decide) (fun hc => ?_) (fun hc => ?_)
                        · have hw := hw.1 hc
                          exact hJ120 t_isRoom_61 t_walked_61 f_t_state_61 f_t_from_61 f_t_by_61 f_t_depth_61 f_t_number_61 x1_61 x2_61 y4 hw H locs ls hP hD hS (lv_sub hl [1, 2, 3, 0] rfl)
                        · have hw := hw.2 hc
                          refine lv_aload_n hx hb d_MO_walk_101 rfl (lv_at hl 1 rfl) ?_
                          refine gf_MO_152 hx hb hts hown hK hP 0 rfl rfl d_MO_walk_102 ?_
                          refine lv_aload_n hx hb d_MO_walk_105 rfl (lv_at hl 1 rfl) ?_
                          refine gf_MO_97 hx hb hts hown hK hP 0 rfl rfl d_MO_walk_106 ?_
                          refine lv_icmp_ne (tgt := 120) hx hb d_MO_walk_109 (by decide) (fun hc => ?_) (fun hc => ?_)
                          · have hw := hw.1 hc
                            exact hJ120 t_isRoom_61 t_walked_61 f_t_state_61 f_t_from_61 f_t_by_61 f_t_depth_61 f_t_number_61 x1_61 x2_61 y4 hw H locs ls hP hD hS (lv_sub hl [1, 2, 3, 0] rfl)
                          · have hw := hw.2 hc
                            refine lv_aload_n hx hb d_MO_walk_112 rfl (lv_at hl 1 rfl) ?_
                            refine lv_iconst (v := 0) hx hb d_MO_walk_113 (by decide) ?_
                            refine pf_MO_155 (v := .int 0) hx hb hts hown hK hP hD hS 0 rfl (by decide +kernel) (by decide +kernel) (Nat.le_of_ble_eq_true rfl) d_MO_walk_114 (fun H locs hP hD hS => ?_)
                            have hP : va_P D vwCl (wl_MO_walk cI cL cR a_t a_t_width a_t_shift a_t_outOp a_t_outA a_t_outB a_t_transfers a_t_to a_t_op a_t_opA a_t_opB a_t_next a_t_gives a_t_state a_t_from a_t_by a_t_depth a_t_number a_t_part a_t_newPart a_t_node a_t_newNode a_t_parent a_t_born a_t_one a_t_pieces a_t_chain a_t_behind a_t_classOf a_t_classState t_thrown t_room t_registers t_bits t_inputs t_first t_isFresh 0 t_walked_61 t_parts t_nodes t_classes n_t_next f_t_next n_t_state f_t_state_61 n_t_from f_t_from_61 n_t_by f_t_by_61 n_t_depth f_t_depth_61 n_t_number f_t_number_61) H := hP
                            have hD : va_D A (wl_MO_walk cI cL cR a_t a_t_width a_t_shift a_t_outOp a_t_outA a_t_outB a_t_transfers a_t_to a_t_op a_t_opA a_t_opB a_t_next a_t_gives a_t_state a_t_from a_t_by a_t_depth a_t_number a_t_part a_t_newPart a_t_node a_t_newNode a_t_parent a_t_born a_t_one a_t_pieces a_t_chain a_t_behind a_t_classOf a_t_classState t_thrown t_room t_registers t_bits t_inputs t_first t_isFresh 0 t_walked_61 t_parts t_nodes t_classes n_t_next f_t_next n_t_state f_t_state_61 n_t_from f_t_from_61 n_t_by f_t_by_61 n_t_depth f_t_depth_61 n_t_number f_t_number_61) := hD
                            refine lv_goto (tgt := 136) hx hb d_MO_walk_117 (by decide) ?_
                            obtain ⟨y8, ey8⟩ : ∃ z : Int32, z = x2_61 + 1 := ⟨_, rfl⟩
                            refine lv_iinc (v := y8) (lv' := [(2, .int y8), (3, .int y4), (0, .ref a_t), (1, .int x1_61)]) hx hb d_MO_walk_136 hl (k := 3) rfl (by rw [ey8]; rfl) (by decide) rfl (fun ls hl => ?_)
                            have hw := hw y8 ey8
                            refine lv_goto (tgt := 61) hx hb d_MO_walk_139 (by decide) ?_
                            exact ih61 0 t_walked_61 f_t_state_61 f_t_from_61 f_t_by_61 f_t_depth_61 f_t_number_61 x1_61 y8 hw H locs ls hP hD hS (lv_sub hl [2, 3, 0] rfl)
                obtain ⟨n, hw⟩ := hw
                exact hL61 n t_isRoom_44 t_walked_44 f_t_state_44 f_t_from_44 f_t_by_44 f_t_depth_44 f_t_number_44 x1_44 0 hw H locs ls hP hD hS (lv_sub hl [1, 2, 0] rfl)
        obtain ⟨n, hw⟩ := hw
        exact hL44 n 1 m_walked_1 f_state_1 f_from_1 f_by_1 f_depth_1 f_number_1 0 hw H locs ls hP hD hS (lv_sub hl [1, 0] rfl)
      · have hw := hw.2 hc
        refine lv_aload_n hx hb d_MO_walk_9 rfl (lv_at hl 0 rfl) ?_
        refine gf_MO_58 hx hb hts hown hK hP 0 rfl rfl d_MO_walk_10 ?_
        refine lv_iload_n hx hb d_MO_walk_13 rfl (lv_at hl 1 rfl) ?_
        refine lv_iconst (v := (-1)) hx hb d_MO_walk_14 (by decide) ?_
        obtain ⟨h1, hw⟩ := hw
        refine va_iast hx hb hK hP hD hS 6 0 rfl rfl h1 d_MO_walk_15 (fun H locs hP hD hS => ?_)
        have hP : va_P D vwCl (wl_MO_walk cI cL cR a_t a_t_width a_t_shift a_t_outOp a_t_outA a_t_outB a_t_transfers a_t_to a_t_op a_t_opA a_t_opB a_t_next a_t_gives a_t_state a_t_from a_t_by a_t_depth a_t_number a_t_part a_t_newPart a_t_node a_t_newNode a_t_parent a_t_born a_t_one a_t_pieces a_t_chain a_t_behind a_t_classOf a_t_classState t_thrown t_room t_registers t_bits t_inputs t_first t_isFresh t_isRoom_2 t_walked_2 t_parts t_nodes t_classes n_t_next f_t_next n_t_state f_t_state_2 n_t_from f_t_from_2 n_t_by f_t_by_2 n_t_depth f_t_depth_2 n_t_number (upd f_t_number_2 x1_2.toNatClampNeg ((-1) : Int32))) H := hP
        have hD : va_D A (wl_MO_walk cI cL cR a_t a_t_width a_t_shift a_t_outOp a_t_outA a_t_outB a_t_transfers a_t_to a_t_op a_t_opA a_t_opB a_t_next a_t_gives a_t_state a_t_from a_t_by a_t_depth a_t_number a_t_part a_t_newPart a_t_node a_t_newNode a_t_parent a_t_born a_t_one a_t_pieces a_t_chain a_t_behind a_t_classOf a_t_classState t_thrown t_room t_registers t_bits t_inputs t_first t_isFresh t_isRoom_2 t_walked_2 t_parts t_nodes t_classes n_t_next f_t_next n_t_state f_t_state_2 n_t_from f_t_from_2 n_t_by f_t_by_2 n_t_depth f_t_depth_2 n_t_number (upd f_t_number_2 x1_2.toNatClampNeg ((-1) : Int32))) := hD
        generalize ef9 : (upd f_t_number_2 x1_2.toNatClampNeg ((-1) : Int32)) = f9 at hP hD
        have hw := hw f9 ef9.symm
        obtain ⟨y10, ey10⟩ : ∃ z : Int32, z = x1_2 + 1 := ⟨_, rfl⟩
        refine lv_iinc (v := y10) (lv' := [(1, .int y10), (0, .ref a_t)]) hx hb d_MO_walk_16 hl (k := 1) rfl (by rw [ey10]; rfl) (by decide) rfl (fun ls hl => ?_)
        have hw := hw y10 ey10
        refine lv_goto (tgt := 2) hx hb d_MO_walk_19 (by decide) ?_
        exact ih2 t_isRoom_2 t_walked_2 f_t_state_2 f_t_from_2 f_t_by_2 f_t_depth_2 f9 y10 hw H locs ls hP hD hS (lv_sub hl [1, 0] rfl)
  obtain ⟨n, hw⟩ := hw
  exact hL2 n t_isRoom t_walked f_t_state f_t_from f_t_by f_t_depth f_t_number 0 hw H locs ls hP hD hS (lv_sub hl [1, 0] rfl)


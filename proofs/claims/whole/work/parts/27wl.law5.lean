theorem lc_endC {r2 r3 : Int32} {A : Prop} (h : r2 = r3) (hA : A) : (r2 = r3 → A) ∧ (¬ r2 = r3 → False) := ⟨fun _ => hA, fun z => z h⟩
theorem wa_no {S I room first : Nat} {st : Nat → Nat → Nat} {W : wk_T} {size fits joined resting : Int32} {back order numberOf : Nat → Int32} (eW : W = bf st I room first S) (h : wa_res S I st room first size fits joined resting back order numberOf) (hok : w_ok W = false) : fits = 0 := by
  obtain ⟨W', e, h⟩ := h
  rw [← eW] at e
  subst e
  rcases h with ⟨h1, _⟩ | ⟨_, h2, _⟩
  · exact h1
  · rw [hok] at h2; exact absurd h2 (by decide)
theorem mo_no {S I room first : Nat} {st out : Nat → Nat → Nat} {W : wk_T} {isFresh isRoom walked parts nodes classes : Int32} {next gives state fro by' depth number part newPart node newNode parent born one pieces chain behind classOf classState : Nat → Int32} (eW : W = bf st I room first S) (h : mo_res S I st out room first isFresh isRoom walked parts nodes classes next gives state fro by' depth number part newPart node newNode parent born one pieces chain behind classOf classState) (hok : w_ok W = false) : isRoom = 0 := by
  obtain ⟨W', e, h⟩ := h.2.2.2.1
  rw [← eW] at e
  subst e
  rcases h with ⟨h1, _⟩ | ⟨_, h2, _⟩
  · exact h1
  · rw [hok] at h2; exact absurd h2 (by decide)
theorem s_MO_nine1 {k : Nat} {post : Int32 → Prop} (hk : k < 9) (hp : post 1) : wp_MO_within (nI k) 0 8 post := by
  have h := s_MO_within1 (N := 9) (k := k) (post := post) (by omega) hk hp
  rw [show nI 9 - (1 : Int32) = 8 by decide] at h
  exact h
theorem s_MO_nine0 {a : Int32} {post : Int32 → Prop} (ha : ¬ q_is 9 a) (hp : post 0) : wp_MO_within a 0 8 post := by
  have h := s_MO_within0 (N := 9) (a := a) (post := post) (by omega) ha hp
  rw [show nI 9 - (1 : Int32) = 8 by decide] at h
  exact h
set_option maxHeartbeats 8000000 in
theorem l_LC15 {x_firstState : Int32} {x_machine_registers : Int32} {x_machine_bits : Int32} {x_machine_inputs : Int32} {x_machine_transfers : Int32} {f_x_machine_shifts : Nat → Int32} {f_x_machine_masks : Nat → Int32} {f_x_machine_rules : Nat → Option Nat} {aMv_x_machine_rules_4 : Nat → Nat} {vTr_x_machine_rules_4 : Nat → Int32} {fTg_x_machine_rules_4 : Nat → Nat → Int32} {fOp_x_machine_rules_4 : Nat → Nat → Int32} {fLf_x_machine_rules_4 : Nat → Nat → Int32} {fRt_x_machine_rules_4 : Nat → Nat → Int32} {nMv_x_machine_rules_4 : Nat → Nat} {fMv_x_machine_rules_4 : Nat → Nat → Int32} {x_walk_size : Int32} {x_walk_stands : Int32} {x_walk_fits : Int32} {x_walk_joined : Int32} {x_walk_resting : Int32} {n_x_walk_ways_back : Nat} {f_x_walk_ways_back : Nat → Int32} {n_x_walk_order : Nat} {f_x_walk_order : Nat → Int32} {n_x_walk_numberOf : Nat} {f_x_walk_numberOf : Nat → Int32} {n_x_walk_entered : Nat} {f_x_walk_entered : Nat → Int32} {x_grouping_groups : Int32} {x_grouping_stands : Int32} {x_grouping_lastSlot : Int32} {n_x_grouping_groupOf : Nat} {f_x_grouping_groupOf : Nat → Int32} {n_x_grouping_lowest : Nat} {f_x_grouping_lowest : Nat → Int32} {n_x_grouping_keys : Nat} {f_x_grouping_keys : Nat → Int64} {n_x_grouping_slots : Nat} {f_x_grouping_slots : Nat → Int32} {x_telling_stands : Int32} {x_telling_apart : Int32} {x_telling_left : Int32} {x_telling_right : Int32} {x_telling_size : Int32} {n_x_telling_words_back : Nat} {f_x_telling_words_back : Nat → Int32} {n_x_telling_lefts : Nat} {f_x_telling_lefts : Nat → Int32} {n_x_telling_rights : Nat} {f_x_telling_rights : Nat → Int32} {n_x_telling_joinedTo : Nat} {f_x_telling_joinedTo : Nat → Int32} {m_thrown : Int32} {m_registers : Int32} {m_bits : Int32} {m_inputs : Int32} {m_first : Int32} {m_isFresh : Int32} {m_isRoom : Int32} {m_walked : Int32} {m_parts : Int32} {m_nodes : Int32} {m_classes : Int32} {f_m_width : Nat → Int32} {f_m_shift : Nat → Int32} {f_m_outOp : Nat → Int32} {f_m_outA : Nat → Int32} {f_m_outB : Nat → Int32} {f_m_transfers : Nat → Int32} {f_m_to : Nat → Int32} {f_m_op : Nat → Int32} {f_m_opA : Nat → Int32} {f_m_opB : Nat → Int32} {f_m_next : Nat → Int32} {f_m_gives : Nat → Int32} {f_m_state : Nat → Int32} {f_m_from : Nat → Int32} {f_m_by : Nat → Int32} {f_m_depth : Nat → Int32} {f_m_number : Nat → Int32} {f_m_part : Nat → Int32} {f_m_newPart : Nat → Int32} {f_m_node : Nat → Int32} {f_m_newNode : Nat → Int32} {f_m_parent : Nat → Int32} {f_m_born : Nat → Int32} {f_m_one : Nat → Int32} {f_m_pieces : Nat → Int32} {f_m_chain : Nat → Int32} {f_m_behind : Nat → Int32} {f_m_classOf : Nat → Int32} {f_m_classState : Nat → Int32} {f_o : Nat → Int64} {a_x_walk_ways_back : Nat} {a_x_walk_order : Nat} {a_x_walk_numberOf : Nat} {a_x_walk_entered : Nat} {a_x_grouping_groupOf : Nat} {a_x_grouping_lowest : Nat} {a_x_grouping_keys : Nat} {a_x_grouping_slots : Nat} {a_x_telling_words_back : Nat} {a_x_telling_lefts : Nat} {a_x_telling_rights : Nat} {a_x_telling_joinedTo : Nat} {kc : Nat} {ks : Nat} {L : Nat} {xs : Nat → Int32} {K : Nat → Nat → Int32 → Int32 → Int32 → Int32 → Int32 → (Nat → Int32) → (Nat → Int32) → (Nat → Nat) → (Nat → Int32) → (Nat → Nat → Int32) → (Nat → Nat → Int32) → (Nat → Nat → Int32) → (Nat → Nat → Int32) → (Nat → Nat) → (Nat → Nat → Int32) → Int32 → Int32 → Int32 → Int32 → Int32 → Nat → Nat → (Nat → Int32) → Nat → Nat → (Nat → Int32) → Nat → Nat → (Nat → Int32) → Nat → Nat → (Nat → Int32) → Int32 → Int32 → Int32 → Nat → Nat → (Nat → Int32) → Nat → Nat → (Nat → Int32) → Nat → Nat → (Nat → Int64) → Nat → Nat → (Nat → Int32) → Int32 → Int32 → Int32 → Int32 → Int32 → Nat → Nat → (Nat → Int32) → Nat → Nat → (Nat → Int32) → Nat → Nat → (Nat → Int32) → Nat → Nat → (Nat → Int32) → Int32 → Int32 → Int32 → Int32 → Int32 → Int32 → Int32 → Int32 → Int32 → Int32 → Int32 → (Nat → Int32) → (Nat → Int32) → (Nat → Int32) → (Nat → Int32) → (Nat → Int32) → (Nat → Int32) → (Nat → Int32) → (Nat → Int32) → (Nat → Int32) → (Nat → Int32) → (Nat → Int32) → (Nat → Int32) → (Nat → Int32) → (Nat → Int32) → (Nat → Int32) → (Nat → Int32) → (Nat → Int32) → (Nat → Int32) → (Nat → Int32) → (Nat → Int32) → (Nat → Int32) → (Nat → Int32) → (Nat → Int32) → (Nat → Int32) → (Nat → Int32) → (Nat → Int32) → (Nat → Int32) → (Nat → Int32) → (Nat → Int32) → (Nat → Int64) → Prop} {room X : Nat} (hr0 : 0 < room) (hroom : room ≤ 4096) (hX : X + 6 ≤ L) (hL : L ≤ 3073) (h : iv room X kc ks x_firstState x_machine_registers x_machine_bits x_machine_inputs x_machine_transfers f_x_machine_shifts f_x_machine_masks aMv_x_machine_rules_4 vTr_x_machine_rules_4 fTg_x_machine_rules_4 fOp_x_machine_rules_4 fLf_x_machine_rules_4 fRt_x_machine_rules_4 nMv_x_machine_rules_4 fMv_x_machine_rules_4 x_walk_size x_walk_stands x_walk_fits x_walk_joined x_walk_resting a_x_walk_ways_back n_x_walk_ways_back f_x_walk_ways_back a_x_walk_order n_x_walk_order f_x_walk_order a_x_walk_numberOf n_x_walk_numberOf f_x_walk_numberOf a_x_walk_entered n_x_walk_entered f_x_walk_entered x_grouping_groups x_grouping_stands x_grouping_lastSlot a_x_grouping_groupOf n_x_grouping_groupOf f_x_grouping_groupOf a_x_grouping_lowest n_x_grouping_lowest f_x_grouping_lowest a_x_grouping_keys n_x_grouping_keys f_x_grouping_keys a_x_grouping_slots n_x_grouping_slots f_x_grouping_slots x_telling_stands x_telling_apart x_telling_left x_telling_right x_telling_size a_x_telling_words_back n_x_telling_words_back f_x_telling_words_back a_x_telling_lefts n_x_telling_lefts f_x_telling_lefts a_x_telling_rights n_x_telling_rights f_x_telling_rights a_x_telling_joinedTo n_x_telling_joinedTo f_x_telling_joinedTo m_thrown m_registers m_bits m_inputs m_first m_isFresh m_isRoom m_walked m_parts m_nodes m_classes f_m_width f_m_shift f_m_outOp f_m_outA f_m_outB f_m_transfers f_m_to f_m_op f_m_opA f_m_opB f_m_next f_m_gives f_m_state f_m_from f_m_by f_m_depth f_m_number f_m_part f_m_newPart f_m_node f_m_newNode f_m_parent f_m_born f_m_one f_m_pieces f_m_chain f_m_behind f_m_classOf f_m_classState f_o) (hK : ∀ kc ks x_firstState x_machine_registers x_machine_bits x_machine_inputs x_machine_transfers f_x_machine_shifts f_x_machine_masks aMv_x_machine_rules_4 vTr_x_machine_rules_4 fTg_x_machine_rules_4 fOp_x_machine_rules_4 fLf_x_machine_rules_4 fRt_x_machine_rules_4 nMv_x_machine_rules_4 fMv_x_machine_rules_4 x_walk_size x_walk_stands x_walk_fits x_walk_joined x_walk_resting a_x_walk_ways_back n_x_walk_ways_back f_x_walk_ways_back a_x_walk_order n_x_walk_order f_x_walk_order a_x_walk_numberOf n_x_walk_numberOf f_x_walk_numberOf a_x_walk_entered n_x_walk_entered f_x_walk_entered x_grouping_groups x_grouping_stands x_grouping_lastSlot a_x_grouping_groupOf n_x_grouping_groupOf f_x_grouping_groupOf a_x_grouping_lowest n_x_grouping_lowest f_x_grouping_lowest a_x_grouping_keys n_x_grouping_keys f_x_grouping_keys a_x_grouping_slots n_x_grouping_slots f_x_grouping_slots x_telling_stands x_telling_apart x_telling_left x_telling_right x_telling_size a_x_telling_words_back n_x_telling_words_back f_x_telling_words_back a_x_telling_lefts n_x_telling_lefts f_x_telling_lefts a_x_telling_rights n_x_telling_rights f_x_telling_rights a_x_telling_joinedTo n_x_telling_joinedTo f_x_telling_joinedTo m_thrown m_registers m_bits m_inputs m_first m_isFresh m_isRoom m_walked m_parts m_nodes m_classes f_m_width f_m_shift f_m_outOp f_m_outA f_m_outB f_m_transfers f_m_to f_m_op f_m_opA f_m_opB f_m_next f_m_gives f_m_state f_m_from f_m_by f_m_depth f_m_number f_m_part f_m_newPart f_m_node f_m_newNode f_m_parent f_m_born f_m_one f_m_pieces f_m_chain f_m_behind f_m_classOf f_m_classState f_o, iv room (X + 6) kc ks x_firstState x_machine_registers x_machine_bits x_machine_inputs x_machine_transfers f_x_machine_shifts f_x_machine_masks aMv_x_machine_rules_4 vTr_x_machine_rules_4 fTg_x_machine_rules_4 fOp_x_machine_rules_4 fLf_x_machine_rules_4 fRt_x_machine_rules_4 nMv_x_machine_rules_4 fMv_x_machine_rules_4 x_walk_size x_walk_stands x_walk_fits x_walk_joined x_walk_resting a_x_walk_ways_back n_x_walk_ways_back f_x_walk_ways_back a_x_walk_order n_x_walk_order f_x_walk_order a_x_walk_numberOf n_x_walk_numberOf f_x_walk_numberOf a_x_walk_entered n_x_walk_entered f_x_walk_entered x_grouping_groups x_grouping_stands x_grouping_lastSlot a_x_grouping_groupOf n_x_grouping_groupOf f_x_grouping_groupOf a_x_grouping_lowest n_x_grouping_lowest f_x_grouping_lowest a_x_grouping_keys n_x_grouping_keys f_x_grouping_keys a_x_grouping_slots n_x_grouping_slots f_x_grouping_slots x_telling_stands x_telling_apart x_telling_left x_telling_right x_telling_size a_x_telling_words_back n_x_telling_words_back f_x_telling_words_back a_x_telling_lefts n_x_telling_lefts f_x_telling_lefts a_x_telling_rights n_x_telling_rights f_x_telling_rights a_x_telling_joinedTo n_x_telling_joinedTo f_x_telling_joinedTo m_thrown m_registers m_bits m_inputs m_first m_isFresh m_isRoom m_walked m_parts m_nodes m_classes f_m_width f_m_shift f_m_outOp f_m_outA f_m_outB f_m_transfers f_m_to f_m_op f_m_opA f_m_opB f_m_next f_m_gives f_m_state f_m_from f_m_by f_m_depth f_m_number f_m_part f_m_newPart f_m_node f_m_newNode f_m_parent f_m_born f_m_one f_m_pieces f_m_chain f_m_behind f_m_classOf f_m_classState f_o → K kc ks x_firstState x_machine_registers x_machine_bits x_machine_inputs x_machine_transfers f_x_machine_shifts f_x_machine_masks aMv_x_machine_rules_4 vTr_x_machine_rules_4 fTg_x_machine_rules_4 fOp_x_machine_rules_4 fLf_x_machine_rules_4 fRt_x_machine_rules_4 nMv_x_machine_rules_4 fMv_x_machine_rules_4 x_walk_size x_walk_stands x_walk_fits x_walk_joined x_walk_resting a_x_walk_ways_back n_x_walk_ways_back f_x_walk_ways_back a_x_walk_order n_x_walk_order f_x_walk_order a_x_walk_numberOf n_x_walk_numberOf f_x_walk_numberOf a_x_walk_entered n_x_walk_entered f_x_walk_entered x_grouping_groups x_grouping_stands x_grouping_lastSlot a_x_grouping_groupOf n_x_grouping_groupOf f_x_grouping_groupOf a_x_grouping_lowest n_x_grouping_lowest f_x_grouping_lowest a_x_grouping_keys n_x_grouping_keys f_x_grouping_keys a_x_grouping_slots n_x_grouping_slots f_x_grouping_slots x_telling_stands x_telling_apart x_telling_left x_telling_right x_telling_size a_x_telling_words_back n_x_telling_words_back f_x_telling_words_back a_x_telling_lefts n_x_telling_lefts f_x_telling_lefts a_x_telling_rights n_x_telling_rights f_x_telling_rights a_x_telling_joinedTo n_x_telling_joinedTo f_x_telling_joinedTo m_thrown m_registers m_bits m_inputs m_first m_isFresh m_isRoom m_walked m_parts m_nodes m_classes f_m_width f_m_shift f_m_outOp f_m_outA f_m_outB f_m_transfers f_m_to f_m_op f_m_opA f_m_opB f_m_next f_m_gives f_m_state f_m_from f_m_by f_m_depth f_m_number f_m_part f_m_newPart f_m_node f_m_newNode f_m_parent f_m_born f_m_one f_m_pieces f_m_chain f_m_behind f_m_classOf f_m_classState f_o) : wp_LC15 (nI room) x_firstState x_machine_registers x_machine_bits x_machine_inputs x_machine_transfers 4 f_x_machine_shifts 4 f_x_machine_masks 4 f_x_machine_rules aMv_x_machine_rules_4 vTr_x_machine_rules_4 fTg_x_machine_rules_4 fOp_x_machine_rules_4 fLf_x_machine_rules_4 fRt_x_machine_rules_4 nMv_x_machine_rules_4 fMv_x_machine_rules_4 x_walk_size x_walk_stands x_walk_fits x_walk_joined x_walk_resting n_x_walk_ways_back f_x_walk_ways_back n_x_walk_order f_x_walk_order n_x_walk_numberOf f_x_walk_numberOf n_x_walk_entered f_x_walk_entered x_grouping_groups x_grouping_stands x_grouping_lastSlot n_x_grouping_groupOf f_x_grouping_groupOf n_x_grouping_lowest f_x_grouping_lowest n_x_grouping_keys f_x_grouping_keys n_x_grouping_slots f_x_grouping_slots x_telling_stands x_telling_apart x_telling_left x_telling_right x_telling_size n_x_telling_words_back f_x_telling_words_back n_x_telling_lefts f_x_telling_lefts n_x_telling_rights f_x_telling_rights n_x_telling_joinedTo f_x_telling_joinedTo m_thrown (nI room) m_registers m_bits m_inputs m_first m_isFresh m_isRoom m_walked m_parts m_nodes m_classes 4 f_m_width 4 f_m_shift 4 f_m_outOp 4 f_m_outA 4 f_m_outB 4 f_m_transfers 32 f_m_to 32 f_m_op 32 f_m_opA 32 f_m_opB 16384 f_m_next 16384 f_m_gives 4096 f_m_state 4096 f_m_from 4096 f_m_by 4096 f_m_depth 4096 f_m_number 4096 f_m_part 4096 f_m_newPart 4096 f_m_node 4096 f_m_newNode 8192 f_m_parent 8192 f_m_born 4096 f_m_one 4096 f_m_pieces 4099 f_m_chain 4096 f_m_behind 4096 f_m_classOf 4096 f_m_classState 1 f_o a_x_walk_ways_back a_x_walk_order a_x_walk_numberOf a_x_walk_entered a_x_grouping_groupOf a_x_grouping_lowest a_x_grouping_keys a_x_grouping_slots a_x_telling_words_back a_x_telling_lefts a_x_telling_rights a_x_telling_joinedTo kc ks (nI X) L xs K := by
  obtain ⟨R, B, I, first, nw, ng, nt, hm, hv, rfl, rfl, hf, hw, hg, ht, hr, hkc, hks⟩ := h; obtain ⟨rfl, rfl, rfl, rfl, rfl, rfl, hW, hI, hsh, hru, hvz, htr⟩ := hm; obtain ⟨hwn, rfl, rfl, rfl, rfl, hws⟩ := hw; obtain ⟨hgn, rfl, rfl, rfl, rfl, hgs⟩ := hg; obtain ⟨htn, rfl, rfl, rfl, rfl, hts⟩ := ht; have hI4 := hI.1; have hR4 := hW.1; have hB := hW.2.1; have hS12 := q_p2 hB; have lw := iv_n_le hwn; have lg := iv_n_le hgn; have lt := iv_n_le htn; have cw := bc_le nw (2 ^ B); have cg := bc_le ng (2 ^ B); have ct := bc_le nt (2 ^ B); have sw := bs_le 4 nw (2 ^ B); have sg := bs_le 5 ng (2 ^ B); have st := bs_le 4 nt (2 ^ B); obtain ⟨W, eW⟩ : ∃ W, W = bf (mc_st f_m_width f_m_shift f_m_transfers f_m_to f_m_op f_m_opA f_m_opB) I room first (2 ^ B) := ⟨_, rfl⟩
  unfold wp_LC15
  rw [show (1 : Int32) = nI 1 from rfl, nI_add]
  generalize xs (nI (X + 1)).toNatClampNeg = a
  refine ⟨pk_in (X + 1) L (by omega), ?_⟩
  by_cases ha : q_is 9 a
  · obtain ⟨k, hk, rfl⟩ := ha
    have hc : k = 0 ∨ k = 1 ∨ k = 2 ∨ k = 3 ∨ k = 4 ∨ k = 5 ∨ k = 6 ∨ k = 7 ∨ k = 8 := by omega
    rcases hc with rfl | rfl | rfl | rfl | rfl | rfl | rfl | rfl | rfl
    · refine ⟨2, 12, by omega, by omega, ?_⟩
      unfold wp_SE_count
      refine ⟨fun _ => ⟨pk_in (X + 1) L (by omega), ?_⟩, fun z => absurd z (by decide), fun z => absurd z (by decide), fun z => absurd z (by decide), fun z => absurd z (by decide), fun z => absurd z (by decide), fun z => absurd z (by decide), fun z => absurd z (by decide), fun z => absurd z (by decide), fun z0 z1 z2 z3 z4 z5 z6 z7 z8 => absurd rfl z0⟩
      unfold wp_MO_count
      refine s_MO_nine1 hk ⟨fun _ => ⟨fun _ => ⟨fun z => absurd z (by decide), fun _ => ⟨fun z => absurd rfl z, fun _ => ?_⟩⟩, fun z => absurd z (by decide)⟩, fun z => absurd z (by decide)⟩
      exact lc_endC rfl (hK _ _ _ _ _ _ _ _ _ _ _ _ _ _ _ _ _ _ _ _ _ _ _ _ _ _ _ _ _ _ _ _ _ _ _ _ _ _ _ _ _ _ _ _ _ _ _ _ _ _ _ _ _ _ _ _ _ _ _ _ _ _ _ _ _ _ _ _ _ _ _ _ _ _ _ _ _ _ _ _ _ _ _ _ _ _ _ _ _ _ _ _ _ _ _ _ _ _ _ _ _ _ _ _ _ _ _ ⟨R, B, I, first, nw, ng, nt, ⟨rfl, rfl, rfl, rfl, rfl, rfl, hW, hI, hsh, hru, hvz, htr⟩, hv, rfl, rfl, hf, ⟨hwn, rfl, rfl, rfl, rfl, hws⟩, ⟨hgn, rfl, rfl, rfl, rfl, hgs⟩, ⟨htn, rfl, rfl, rfl, rfl, hts⟩, hr, by omega, by omega⟩)
    · refine ⟨2, 12, by omega, by omega, ?_⟩
      unfold wp_SE_count
      refine ⟨fun z => absurd z (by decide), fun _ => ⟨pk_in (X + 1) L (by omega), ?_⟩, fun z => absurd z (by decide), fun z => absurd z (by decide), fun z => absurd z (by decide), fun z => absurd z (by decide), fun z => absurd z (by decide), fun z => absurd z (by decide), fun z => absurd z (by decide), fun z0 z1 z2 z3 z4 z5 z6 z7 z8 => absurd rfl z1⟩
      unfold wp_MO_count
      refine s_MO_nine1 hk ⟨fun _ => ⟨fun _ => ⟨fun z => absurd z (by decide), fun _ => ⟨fun _ => ⟨fun z => absurd rfl z, fun _ => ?_⟩, fun z => absurd z (by decide)⟩⟩, fun z => absurd z (by decide)⟩, fun z => absurd z (by decide)⟩
      exact lc_endC rfl (hK _ _ _ _ _ _ _ _ _ _ _ _ _ _ _ _ _ _ _ _ _ _ _ _ _ _ _ _ _ _ _ _ _ _ _ _ _ _ _ _ _ _ _ _ _ _ _ _ _ _ _ _ _ _ _ _ _ _ _ _ _ _ _ _ _ _ _ _ _ _ _ _ _ _ _ _ _ _ _ _ _ _ _ _ _ _ _ _ _ _ _ _ _ _ _ _ _ _ _ _ _ _ _ _ _ _ _ ⟨R, B, I, first, nw, ng, nt, ⟨rfl, rfl, rfl, rfl, rfl, rfl, hW, hI, hsh, hru, hvz, htr⟩, hv, rfl, rfl, hf, ⟨hwn, rfl, rfl, rfl, rfl, hws⟩, ⟨hgn, rfl, rfl, rfl, rfl, hgs⟩, ⟨htn, rfl, rfl, rfl, rfl, hts⟩, hr, by omega, by omega⟩)
    · refine ⟨2, 12, by omega, by omega, ?_⟩
      unfold wp_SE_count
      refine ⟨fun z => absurd z (by decide), fun z => absurd z (by decide), fun _ => ⟨pk_in (X + 1) L (by omega), ?_⟩, fun z => absurd z (by decide), fun z => absurd z (by decide), fun z => absurd z (by decide), fun z => absurd z (by decide), fun z => absurd z (by decide), fun z => absurd z (by decide), fun z0 z1 z2 z3 z4 z5 z6 z7 z8 => absurd rfl z2⟩
      unfold wp_MO_count
      refine s_MO_nine1 hk ⟨fun _ => ⟨fun _ => ⟨fun z => absurd z (by decide), fun _ => ⟨fun _ => ⟨fun _ => ⟨fun z => absurd rfl z, fun _ => ?_⟩, fun z => absurd z (by decide)⟩, fun z => absurd z (by decide)⟩⟩, fun z => absurd z (by decide)⟩, fun z => absurd z (by decide)⟩
      exact lc_endC rfl (hK _ _ _ _ _ _ _ _ _ _ _ _ _ _ _ _ _ _ _ _ _ _ _ _ _ _ _ _ _ _ _ _ _ _ _ _ _ _ _ _ _ _ _ _ _ _ _ _ _ _ _ _ _ _ _ _ _ _ _ _ _ _ _ _ _ _ _ _ _ _ _ _ _ _ _ _ _ _ _ _ _ _ _ _ _ _ _ _ _ _ _ _ _ _ _ _ _ _ _ _ _ _ _ _ _ _ _ ⟨R, B, I, first, nw, ng, nt, ⟨rfl, rfl, rfl, rfl, rfl, rfl, hW, hI, hsh, hru, hvz, htr⟩, hv, rfl, rfl, hf, ⟨hwn, rfl, rfl, rfl, rfl, hws⟩, ⟨hgn, rfl, rfl, rfl, rfl, hgs⟩, ⟨htn, rfl, rfl, rfl, rfl, hts⟩, hr, by omega, by omega⟩)
    · refine ⟨2, 12, by omega, by omega, ?_⟩
      unfold wp_SE_count
      refine ⟨fun z => absurd z (by decide), fun z => absurd z (by decide), fun z => absurd z (by decide), fun _ => ⟨pk_in (X + 1) L (by omega), ?_⟩, fun z => absurd z (by decide), fun z => absurd z (by decide), fun z => absurd z (by decide), fun z => absurd z (by decide), fun z => absurd z (by decide), fun z0 z1 z2 z3 z4 z5 z6 z7 z8 => absurd rfl z3⟩
      unfold wp_MO_count
      refine s_MO_nine1 hk ⟨fun _ => ⟨fun z => absurd rfl z, fun _ => ⟨pk_in 0 4 (by omega), pk_in 1 4 (by omega), pk_in 2 4 (by omega), pk_in 3 4 (by omega), ?_⟩⟩, fun z => absurd z (by decide)⟩
      exact lc_endC htr (hK _ _ _ _ _ _ _ _ _ _ _ _ _ _ _ _ _ _ _ _ _ _ _ _ _ _ _ _ _ _ _ _ _ _ _ _ _ _ _ _ _ _ _ _ _ _ _ _ _ _ _ _ _ _ _ _ _ _ _ _ _ _ _ _ _ _ _ _ _ _ _ _ _ _ _ _ _ _ _ _ _ _ _ _ _ _ _ _ _ _ _ _ _ _ _ _ _ _ _ _ _ _ _ _ _ _ _ ⟨R, B, I, first, nw, ng, nt, ⟨rfl, rfl, rfl, rfl, rfl, rfl, hW, hI, hsh, hru, hvz, htr⟩, hv, rfl, rfl, hf, ⟨hwn, rfl, rfl, rfl, rfl, hws⟩, ⟨hgn, rfl, rfl, rfl, rfl, hgs⟩, ⟨htn, rfl, rfl, rfl, rfl, hts⟩, hr, by omega, by omega⟩)
    · refine ⟨2, 12, by omega, by omega, ?_⟩
      unfold wp_SE_count
      refine ⟨fun z => absurd z (by decide), fun z => absurd z (by decide), fun z => absurd z (by decide), fun z => absurd z (by decide), fun _ => ⟨pk_in (X + 1) L (by omega), ?_⟩, fun z => absurd z (by decide), fun z => absurd z (by decide), fun z => absurd z (by decide), fun z => absurd z (by decide), fun z0 z1 z2 z3 z4 z5 z6 z7 z8 => absurd rfl z4⟩
      unfold wp_MO_count
      refine s_MO_nine1 hk ⟨fun _ => ⟨fun _ => ⟨fun z => absurd z (by decide), fun _ => ⟨fun _ => ⟨fun _ => ⟨fun _ => ⟨fun z => absurd rfl z, fun _ => ?_⟩, fun z => absurd z (by decide)⟩, fun z => absurd z (by decide)⟩, fun z => absurd z (by decide)⟩⟩, fun z => absurd z (by decide)⟩, fun z => absurd z (by decide)⟩
      exact lc_endC rfl (hK _ _ _ _ _ _ _ _ _ _ _ _ _ _ _ _ _ _ _ _ _ _ _ _ _ _ _ _ _ _ _ _ _ _ _ _ _ _ _ _ _ _ _ _ _ _ _ _ _ _ _ _ _ _ _ _ _ _ _ _ _ _ _ _ _ _ _ _ _ _ _ _ _ _ _ _ _ _ _ _ _ _ _ _ _ _ _ _ _ _ _ _ _ _ _ _ _ _ _ _ _ _ _ _ _ _ _ ⟨R, B, I, first, nw, ng, nt, ⟨rfl, rfl, rfl, rfl, rfl, rfl, hW, hI, hsh, hru, hvz, htr⟩, hv, rfl, rfl, hf, ⟨hwn, rfl, rfl, rfl, rfl, hws⟩, ⟨hgn, rfl, rfl, rfl, rfl, hgs⟩, ⟨htn, rfl, rfl, rfl, rfl, hts⟩, hr, by omega, by omega⟩)
    · refine ⟨2, 12, by omega, by omega, ?_⟩
      unfold wp_SE_count
      refine ⟨fun z => absurd z (by decide), fun z => absurd z (by decide), fun z => absurd z (by decide), fun z => absurd z (by decide), fun z => absurd z (by decide), fun _ => ⟨pk_in (X + 1) L (by omega), ?_⟩, fun z => absurd z (by decide), fun z => absurd z (by decide), fun z => absurd z (by decide), fun z0 z1 z2 z3 z4 z5 z6 z7 z8 => absurd rfl z5⟩
      unfold wp_MO_count
      refine s_MO_nine1 hk ⟨fun _ => ⟨fun _ => ⟨fun z => absurd z (by decide), fun _ => ⟨fun _ => ⟨fun _ => ⟨fun _ => ⟨fun _ => ?_, fun z => absurd z (by decide)⟩, fun z => absurd z (by decide)⟩, fun z => absurd z (by decide)⟩, fun z => absurd z (by decide)⟩⟩, fun z => absurd z (by decide)⟩, fun z => absurd z (by decide)⟩
      exact lc_endC rfl (hK _ _ _ _ _ _ _ _ _ _ _ _ _ _ _ _ _ _ _ _ _ _ _ _ _ _ _ _ _ _ _ _ _ _ _ _ _ _ _ _ _ _ _ _ _ _ _ _ _ _ _ _ _ _ _ _ _ _ _ _ _ _ _ _ _ _ _ _ _ _ _ _ _ _ _ _ _ _ _ _ _ _ _ _ _ _ _ _ _ _ _ _ _ _ _ _ _ _ _ _ _ _ _ _ _ _ _ ⟨R, B, I, first, nw, ng, nt, ⟨rfl, rfl, rfl, rfl, rfl, rfl, hW, hI, hsh, hru, hvz, htr⟩, hv, rfl, rfl, hf, ⟨hwn, rfl, rfl, rfl, rfl, hws⟩, ⟨hgn, rfl, rfl, rfl, rfl, hgs⟩, ⟨htn, rfl, rfl, rfl, rfl, hts⟩, hr, by omega, by omega⟩)
    · refine ⟨bc nw (2 ^ B) + 2, bs 4 nw (2 ^ B) + 12, by omega, by omega, ?_⟩
      unfold wp_SE_count
      refine ⟨fun z => absurd z (by decide), fun z => absurd z (by decide), fun z => absurd z (by decide), fun z => absurd z (by decide), fun z => absurd z (by decide), fun z => absurd z (by decide), fun _ => ⟨bc nw (2 ^ B) + 1, bs 4 nw (2 ^ B) + 6, by omega, by omega, ?_⟩, fun z => absurd z (by decide), fun z => absurd z (by decide), fun z0 z1 z2 z3 z4 z5 z6 z7 z8 => absurd rfl z6⟩
      unfold wp_SE_countWalk
      refine ⟨bc nw (2 ^ B), bs 4 nw (2 ^ B), by omega, by omega, ?_⟩
      refine s_WA_run (ms_of hW hI hsh hru) (by omega) hv hf hr0 hroom (fun h => ⟨by unfold bc; rw [if_pos h]; exact Nat.le_refl _, by unfold bs; rw [if_pos h]; exact Nat.le_refl _⟩) hws (fun size sd fits joined resting back order numberOf entered g w1 w2 w3 w4 n hsd hres hg' hSn hn' => ?_)
      obtain ⟨u1, u2, u3, u4, u5⟩ := iv_bud hwn hSn hn'
      cases hok : w_ok W with
      | true =>
        obtain ⟨e1, e2, hwk, hrep, e5, e6⟩ := wa_get eW hres hok
        subst e1 e2
        have hle := wk_le hwk
        have hpos := hwk.1
        have es : nI (w_sz W) - (1 : Int32) = nI (w_sz W - 1) := by rw [show (1 : Int32) = nI 1 from rfl, pk_sub (by omega)]
        refine ⟨fun _ => ⟨fun z => absurd rfl z, fun _ => ?_⟩, fun z => absurd z (by decide)⟩
        rw [es]
        refine s_TR_length hrep.1 (by omega) (by omega) (by omega) ?_
        refine ⟨pk_in (X + 1) L (by omega), ?_⟩
        unfold wp_MO_count
        refine s_MO_nine1 hk ⟨fun _ => ⟨fun _ => ⟨fun _ => ?_, fun z => absurd (by decide) z⟩, fun z => absurd z (by decide)⟩, fun z => absurd z (by decide)⟩
        refine s_MO_work hW hI hr0 hroom hf hr (fun isFresh isRoom walked parts nodes classes next gives state fro by' depth number part newPart node newNode parent born one pieces chain behind classOf classState hmo => ?_)
        obtain ⟨f1, f2, -, hrm, -⟩ := mo_get eW hmo hok
        subst f1 f2
        refine ⟨fun _ => ?_, fun z => absurd z (by decide)⟩
        rw [es]
        refine ⟨fun z => absurd rfl z, fun _ => ⟨pk_in (w_sz W - 1) 4096 (by omega), ?_⟩⟩
        exact lc_endC (by rw [nI_clamp (by omega), (hrm.1 _ (by omega)).2.1]) (hK _ _ _ _ _ _ _ _ _ _ _ _ _ _ _ _ _ _ _ _ _ _ _ _ _ _ _ _ _ _ _ _ _ _ _ _ _ _ _ _ _ _ _ _ _ _ _ _ _ _ _ _ _ _ _ _ _ _ _ _ _ _ _ _ _ _ _ _ _ _ _ _ _ _ _ _ _ _ _ _ _ _ _ _ _ _ _ _ _ _ _ _ _ _ _ _ _ _ _ _ _ _ _ _ _ _ _ ⟨R, B, I, first, n, ng, nt, ⟨rfl, rfl, rfl, rfl, rfl, rfl, hW, hI, hsh, hru, hvz, htr⟩, hg', rfl, rfl, hf, ⟨u4, rfl, rfl, rfl, rfl, fun _ => ⟨hres, hSn⟩⟩, ⟨hgn, rfl, rfl, rfl, rfl, hgs⟩, ⟨htn, rfl, rfl, rfl, rfl, hts⟩, fun _ => hmo, by omega, by omega⟩)
      | false =>
        have e1 := wa_no eW hres hok
        subst e1
        refine ⟨fun z => absurd rfl z, fun _ => ⟨pk_in (X + 1) L (by omega), ?_⟩⟩
        unfold wp_MO_count
        refine s_MO_nine1 hk ⟨fun _ => ⟨fun _ => ⟨fun _ => ?_, fun z => absurd (by decide) z⟩, fun z => absurd z (by decide)⟩, fun z => absurd z (by decide)⟩
        refine s_MO_work hW hI hr0 hroom hf hr (fun isFresh isRoom walked parts nodes classes next gives state fro by' depth number part newPart node newNode parent born one pieces chain behind classOf classState hmo => ?_)
        have f1 := mo_no eW hmo hok
        subst f1
        refine ⟨fun z => absurd rfl z, fun _ => ?_⟩
        exact lc_endC rfl (hK _ _ _ _ _ _ _ _ _ _ _ _ _ _ _ _ _ _ _ _ _ _ _ _ _ _ _ _ _ _ _ _ _ _ _ _ _ _ _ _ _ _ _ _ _ _ _ _ _ _ _ _ _ _ _ _ _ _ _ _ _ _ _ _ _ _ _ _ _ _ _ _ _ _ _ _ _ _ _ _ _ _ _ _ _ _ _ _ _ _ _ _ _ _ _ _ _ _ _ _ _ _ _ _ _ _ _ ⟨R, B, I, first, n, ng, nt, ⟨rfl, rfl, rfl, rfl, rfl, rfl, hW, hI, hsh, hru, hvz, htr⟩, hg', rfl, rfl, hf, ⟨u4, rfl, rfl, rfl, rfl, fun _ => ⟨hres, hSn⟩⟩, ⟨hgn, rfl, rfl, rfl, rfl, hgs⟩, ⟨htn, rfl, rfl, rfl, rfl, hts⟩, fun _ => hmo, by omega, by omega⟩)
    · refine ⟨bc nw (2 ^ B) + 2, bs 4 nw (2 ^ B) + 12, by omega, by omega, ?_⟩
      unfold wp_SE_count
      refine ⟨fun z => absurd z (by decide), fun z => absurd z (by decide), fun z => absurd z (by decide), fun z => absurd z (by decide), fun z => absurd z (by decide), fun z => absurd z (by decide), fun z => absurd z (by decide), fun _ => ⟨bc nw (2 ^ B) + 1, bs 4 nw (2 ^ B) + 6, by omega, by omega, ?_⟩, fun z => absurd z (by decide), fun z0 z1 z2 z3 z4 z5 z6 z7 z8 => absurd rfl z7⟩
      unfold wp_SE_countWalk
      refine ⟨bc nw (2 ^ B), bs 4 nw (2 ^ B), by omega, by omega, ?_⟩
      refine s_WA_run (ms_of hW hI hsh hru) (by omega) hv hf hr0 hroom (fun h => ⟨by unfold bc; rw [if_pos h]; exact Nat.le_refl _, by unfold bs; rw [if_pos h]; exact Nat.le_refl _⟩) hws (fun size sd fits joined resting back order numberOf entered g w1 w2 w3 w4 n hsd hres hg' hSn hn' => ?_)
      obtain ⟨u1, u2, u3, u4, u5⟩ := iv_bud hwn hSn hn'
      cases hok : w_ok W with
      | true =>
        obtain ⟨e1, e2, hwk, hrep, e5, e6⟩ := wa_get eW hres hok
        subst e1 e2
        have hle := wk_le hwk
        have hpos := hwk.1
        have es : nI (w_sz W) - (1 : Int32) = nI (w_sz W - 1) := by rw [show (1 : Int32) = nI 1 from rfl, pk_sub (by omega)]
        refine ⟨fun _ => ⟨fun _ => ⟨fun z => absurd rfl z, fun _ => ?_⟩, fun z => absurd z (by decide)⟩, fun z => absurd z (by decide)⟩
        refine ⟨pk_in (X + 1) L (by omega), ?_⟩
        unfold wp_MO_count
        refine s_MO_nine1 hk ⟨fun _ => ⟨fun _ => ⟨fun _ => ?_, fun z => absurd (by decide) z⟩, fun z => absurd z (by decide)⟩, fun z => absurd z (by decide)⟩
        refine s_MO_work hW hI hr0 hroom hf hr (fun isFresh isRoom walked parts nodes classes next gives state fro by' depth number part newPart node newNode parent born one pieces chain behind classOf classState hmo => ?_)
        obtain ⟨f1, f2, -, hrm, -⟩ := mo_get eW hmo hok
        subst f1 f2
        refine ⟨fun _ => ?_, fun z => absurd z (by decide)⟩
        refine ⟨fun _ => ⟨fun z => absurd rfl z, fun _ => s_MO_intoMany hI4 hS12 (fun s i h1 h2 => (mc_st_ok hW hI h2 h1).1) (fun s i h1 h2 => (hmo.2.1 s i h1 h2).1) hwk hok hrm (fun pieces' => ?_)⟩, fun z => absurd z (by decide)⟩
        exact lc_endC e5 (hK _ _ _ _ _ _ _ _ _ _ _ _ _ _ _ _ _ _ _ _ _ _ _ _ _ _ _ _ _ _ _ _ _ _ _ _ _ _ _ _ _ _ _ _ _ _ _ _ _ _ _ _ _ _ _ _ _ _ _ _ _ _ _ _ _ _ _ _ _ _ _ _ _ _ _ _ _ _ _ _ _ _ _ _ _ _ _ _ _ _ _ _ _ _ _ _ _ _ _ _ _ _ _ _ _ _ _ ⟨R, B, I, first, n, ng, nt, ⟨rfl, rfl, rfl, rfl, rfl, rfl, hW, hI, hsh, hru, hvz, htr⟩, hg', rfl, rfl, hf, ⟨u4, rfl, rfl, rfl, rfl, fun _ => ⟨hres, hSn⟩⟩, ⟨hgn, rfl, rfl, rfl, rfl, hgs⟩, ⟨htn, rfl, rfl, rfl, rfl, hts⟩, fun _ => hmo, by omega, by omega⟩)
      | false =>
        have e1 := wa_no eW hres hok
        subst e1
        refine ⟨fun z => absurd rfl z, fun _ => ⟨pk_in (X + 1) L (by omega), ?_⟩⟩
        unfold wp_MO_count
        refine s_MO_nine1 hk ⟨fun _ => ⟨fun _ => ⟨fun _ => ?_, fun z => absurd (by decide) z⟩, fun z => absurd z (by decide)⟩, fun z => absurd z (by decide)⟩
        refine s_MO_work hW hI hr0 hroom hf hr (fun isFresh isRoom walked parts nodes classes next gives state fro by' depth number part newPart node newNode parent born one pieces chain behind classOf classState hmo => ?_)
        have f1 := mo_no eW hmo hok
        subst f1
        refine ⟨fun z => absurd rfl z, fun _ => ?_⟩
        exact lc_endC rfl (hK _ _ _ _ _ _ _ _ _ _ _ _ _ _ _ _ _ _ _ _ _ _ _ _ _ _ _ _ _ _ _ _ _ _ _ _ _ _ _ _ _ _ _ _ _ _ _ _ _ _ _ _ _ _ _ _ _ _ _ _ _ _ _ _ _ _ _ _ _ _ _ _ _ _ _ _ _ _ _ _ _ _ _ _ _ _ _ _ _ _ _ _ _ _ _ _ _ _ _ _ _ _ _ _ _ _ _ ⟨R, B, I, first, n, ng, nt, ⟨rfl, rfl, rfl, rfl, rfl, rfl, hW, hI, hsh, hru, hvz, htr⟩, hg', rfl, rfl, hf, ⟨u4, rfl, rfl, rfl, rfl, fun _ => ⟨hres, hSn⟩⟩, ⟨hgn, rfl, rfl, rfl, rfl, hgs⟩, ⟨htn, rfl, rfl, rfl, rfl, hts⟩, fun _ => hmo, by omega, by omega⟩)
    · refine ⟨bc nw (2 ^ B) + 2, bs 4 nw (2 ^ B) + 12, by omega, by omega, ?_⟩
      unfold wp_SE_count
      refine ⟨fun z => absurd z (by decide), fun z => absurd z (by decide), fun z => absurd z (by decide), fun z => absurd z (by decide), fun z => absurd z (by decide), fun z => absurd z (by decide), fun z => absurd z (by decide), fun z => absurd z (by decide), fun _ => ⟨bc nw (2 ^ B) + 1, bs 4 nw (2 ^ B) + 6, by omega, by omega, ?_⟩, fun z0 z1 z2 z3 z4 z5 z6 z7 z8 => absurd rfl z8⟩
      unfold wp_SE_countWalk
      refine ⟨bc nw (2 ^ B), bs 4 nw (2 ^ B), by omega, by omega, ?_⟩
      refine s_WA_run (ms_of hW hI hsh hru) (by omega) hv hf hr0 hroom (fun h => ⟨by unfold bc; rw [if_pos h]; exact Nat.le_refl _, by unfold bs; rw [if_pos h]; exact Nat.le_refl _⟩) hws (fun size sd fits joined resting back order numberOf entered g w1 w2 w3 w4 n hsd hres hg' hSn hn' => ?_)
      obtain ⟨u1, u2, u3, u4, u5⟩ := iv_bud hwn hSn hn'
      cases hok : w_ok W with
      | true =>
        obtain ⟨e1, e2, hwk, hrep, e5, e6⟩ := wa_get eW hres hok
        subst e1 e2
        have hle := wk_le hwk
        have hpos := hwk.1
        have es : nI (w_sz W) - (1 : Int32) = nI (w_sz W - 1) := by rw [show (1 : Int32) = nI 1 from rfl, pk_sub (by omega)]
        refine ⟨fun _ => ⟨fun _ => ⟨fun _ => ?_, fun z => absurd z (by decide)⟩, fun z => absurd z (by decide)⟩, fun z => absurd z (by decide)⟩
        refine ⟨pk_in (X + 1) L (by omega), ?_⟩
        unfold wp_MO_count
        refine s_MO_nine1 hk ⟨fun _ => ⟨fun _ => ⟨fun _ => ?_, fun z => absurd (by decide) z⟩, fun z => absurd z (by decide)⟩, fun z => absurd z (by decide)⟩
        refine s_MO_work hW hI hr0 hroom hf hr (fun isFresh isRoom walked parts nodes classes next gives state fro by' depth number part newPart node newNode parent born one pieces chain behind classOf classState hmo => ?_)
        obtain ⟨f1, f2, -, hrm, -⟩ := mo_get eW hmo hok
        subst f1 f2
        refine ⟨fun _ => ?_, fun z => absurd z (by decide)⟩
        refine ⟨fun _ => ⟨fun _ => s_MO_stays hI4 hS12 (fun s i h1 h2 => (mc_st_ok hW hI h2 h1).1) (fun s i h1 h2 => (hmo.2.1 s i h1 h2).1) hwk hrm ?_, fun z => absurd z (by decide)⟩, fun z => absurd z (by decide)⟩
        exact lc_endC e6 (hK _ _ _ _ _ _ _ _ _ _ _ _ _ _ _ _ _ _ _ _ _ _ _ _ _ _ _ _ _ _ _ _ _ _ _ _ _ _ _ _ _ _ _ _ _ _ _ _ _ _ _ _ _ _ _ _ _ _ _ _ _ _ _ _ _ _ _ _ _ _ _ _ _ _ _ _ _ _ _ _ _ _ _ _ _ _ _ _ _ _ _ _ _ _ _ _ _ _ _ _ _ _ _ _ _ _ _ ⟨R, B, I, first, n, ng, nt, ⟨rfl, rfl, rfl, rfl, rfl, rfl, hW, hI, hsh, hru, hvz, htr⟩, hg', rfl, rfl, hf, ⟨u4, rfl, rfl, rfl, rfl, fun _ => ⟨hres, hSn⟩⟩, ⟨hgn, rfl, rfl, rfl, rfl, hgs⟩, ⟨htn, rfl, rfl, rfl, rfl, hts⟩, fun _ => hmo, by omega, by omega⟩)
      | false =>
        have e1 := wa_no eW hres hok
        subst e1
        refine ⟨fun z => absurd rfl z, fun _ => ⟨pk_in (X + 1) L (by omega), ?_⟩⟩
        unfold wp_MO_count
        refine s_MO_nine1 hk ⟨fun _ => ⟨fun _ => ⟨fun _ => ?_, fun z => absurd (by decide) z⟩, fun z => absurd z (by decide)⟩, fun z => absurd z (by decide)⟩
        refine s_MO_work hW hI hr0 hroom hf hr (fun isFresh isRoom walked parts nodes classes next gives state fro by' depth number part newPart node newNode parent born one pieces chain behind classOf classState hmo => ?_)
        have f1 := mo_no eW hmo hok
        subst f1
        refine ⟨fun z => absurd rfl z, fun _ => ?_⟩
        exact lc_endC rfl (hK _ _ _ _ _ _ _ _ _ _ _ _ _ _ _ _ _ _ _ _ _ _ _ _ _ _ _ _ _ _ _ _ _ _ _ _ _ _ _ _ _ _ _ _ _ _ _ _ _ _ _ _ _ _ _ _ _ _ _ _ _ _ _ _ _ _ _ _ _ _ _ _ _ _ _ _ _ _ _ _ _ _ _ _ _ _ _ _ _ _ _ _ _ _ _ _ _ _ _ _ _ _ _ _ _ _ _ ⟨R, B, I, first, n, ng, nt, ⟨rfl, rfl, rfl, rfl, rfl, rfl, hW, hI, hsh, hru, hvz, htr⟩, hg', rfl, rfl, hf, ⟨u4, rfl, rfl, rfl, rfl, fun _ => ⟨hres, hSn⟩⟩, ⟨hgn, rfl, rfl, rfl, rfl, hgs⟩, ⟨htn, rfl, rfl, rfl, rfl, hts⟩, fun _ => hmo, by omega, by omega⟩)
  · refine ⟨2, 12, by omega, by omega, ?_⟩
    unfold wp_SE_count
    refine ⟨fun z => absurd ⟨0, by omega, z⟩ ha, fun z => absurd ⟨1, by omega, z⟩ ha, fun z => absurd ⟨2, by omega, z⟩ ha, fun z => absurd ⟨3, by omega, z⟩ ha, fun z => absurd ⟨4, by omega, z⟩ ha, fun z => absurd ⟨5, by omega, z⟩ ha, fun z => absurd ⟨6, by omega, z⟩ ha, fun z => absurd ⟨7, by omega, z⟩ ha, fun z => absurd ⟨8, by omega, z⟩ ha, fun _ _ _ _ _ _ _ _ _ => ⟨pk_in (X + 1) L (by omega), ?_⟩⟩
    unfold wp_MO_count
    refine s_MO_nine0 ha ⟨fun z => absurd rfl z, fun _ => ?_⟩
    exact lc_endC rfl (hK _ _ _ _ _ _ _ _ _ _ _ _ _ _ _ _ _ _ _ _ _ _ _ _ _ _ _ _ _ _ _ _ _ _ _ _ _ _ _ _ _ _ _ _ _ _ _ _ _ _ _ _ _ _ _ _ _ _ _ _ _ _ _ _ _ _ _ _ _ _ _ _ _ _ _ _ _ _ _ _ _ _ _ _ _ _ _ _ _ _ _ _ _ _ _ _ _ _ _ _ _ _ _ _ _ _ _ ⟨R, B, I, first, nw, ng, nt, ⟨rfl, rfl, rfl, rfl, rfl, rfl, hW, hI, hsh, hru, hvz, htr⟩, hv, rfl, rfl, hf, ⟨hwn, rfl, rfl, rfl, rfl, hws⟩, ⟨hgn, rfl, rfl, rfl, rfl, hgs⟩, ⟨htn, rfl, rfl, rfl, rfl, hts⟩, hr, by omega, by omega⟩)

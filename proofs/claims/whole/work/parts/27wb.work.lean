/-- what the reference has worked out -/
def mo_res (S I : Nat) (st out : Nat → Nat → Nat) (room first : Nat) (isFresh isRoom walked parts nodes classes : Int32) (next gives state fro by' depth number part newPart node newNode parent born one pieces chain behind classOf classState : Nat → Int32) : Prop :=
  isFresh ≠ 0 ∧ (∀ s i, s < S → i < I → next (4 * s + i) = nI (st s i) ∧ gives (4 * s + i) = nI (out s i)) ∧ pt_R S I st out part node parent born ∧ wm_res S I st room first isRoom walked state fro by' depth number ∧
  (isRoom ≠ 0 → fc_rep (fun j k => ∀ r, pm_E I st out r (w_ord (bf st I room first S) j) (w_ord (bf st I room first S) k)) (w_ord (bf st I room first S)) (w_sz (bf st I room first S)) classes classOf classState)
theorem s_MO_work {t_thrown : Int32} {t_isFresh : Int32} {t_isRoom : Int32} {t_walked : Int32} {t_parts : Int32} {t_nodes : Int32} {t_classes : Int32} {f_t_width : Nat → Int32} {f_t_shift : Nat → Int32} {f_t_outOp : Nat → Int32} {f_t_outA : Nat → Int32} {f_t_outB : Nat → Int32} {f_t_transfers : Nat → Int32} {f_t_to : Nat → Int32} {f_t_op : Nat → Int32} {f_t_opA : Nat → Int32} {f_t_opB : Nat → Int32} {f_t_next : Nat → Int32} {f_t_gives : Nat → Int32} {f_t_state : Nat → Int32} {f_t_from : Nat → Int32} {f_t_by : Nat → Int32} {f_t_depth : Nat → Int32} {f_t_number : Nat → Int32} {f_t_part : Nat → Int32} {f_t_newPart : Nat → Int32} {f_t_node : Nat → Int32} {f_t_newNode : Nat → Int32} {f_t_parent : Nat → Int32} {f_t_born : Nat → Int32} {f_t_one : Nat → Int32} {f_t_pieces : Nat → Int32} {f_t_chain : Nat → Int32} {f_t_behind : Nat → Int32} {f_t_classOf : Nat → Int32} {f_t_classState : Nat → Int32} {R B I room first : Nat} {post : Int32 → Int32 → Int32 → Int32 → Int32 → Int32 → (Nat → Int32) → (Nat → Int32) → (Nat → Int32) → (Nat → Int32) → (Nat → Int32) → (Nat → Int32) → (Nat → Int32) → (Nat → Int32) → (Nat → Int32) → (Nat → Int32) → (Nat → Int32) → (Nat → Int32) → (Nat → Int32) → (Nat → Int32) → (Nat → Int32) → (Nat → Int32) → (Nat → Int32) → (Nat → Int32) → (Nat → Int32) → Prop} (hW : mc_W R B f_t_width f_t_shift) (hI : mc_I R I f_t_outA f_t_outB f_t_transfers f_t_to f_t_opA f_t_opB) (hr0 : 0 < room) (hroom : room ≤ 4096) (hf : first < 2 ^ B)
    (hs : ¬ t_isFresh = 0 → mo_res (2 ^ B) I (mc_st f_t_width f_t_shift f_t_transfers f_t_to f_t_op f_t_opA f_t_opB) (mc_out f_t_width f_t_shift f_t_outOp f_t_outA f_t_outB) room first t_isFresh t_isRoom t_walked t_parts t_nodes t_classes f_t_next f_t_gives f_t_state f_t_from f_t_by f_t_depth f_t_number f_t_part f_t_newPart f_t_node f_t_newNode f_t_parent f_t_born f_t_one f_t_pieces f_t_chain f_t_behind f_t_classOf f_t_classState)
    (hp : ∀ isFresh isRoom walked parts nodes classes next gives state fro by' depth number part newPart node newNode parent born one pieces chain behind classOf classState, mo_res (2 ^ B) I (mc_st f_t_width f_t_shift f_t_transfers f_t_to f_t_op f_t_opA f_t_opB) (mc_out f_t_width f_t_shift f_t_outOp f_t_outA f_t_outB) room first isFresh isRoom walked parts nodes classes next gives state fro by' depth number part newPart node newNode parent born one pieces chain behind classOf classState → post isFresh isRoom walked parts nodes classes next gives state fro by' depth number part newPart node newNode parent born one pieces chain behind classOf classState) : wp_MO_work t_thrown (nI room) (nI R) (nI B) (nI I) (nI first) t_isFresh t_isRoom t_walked t_parts t_nodes t_classes 4 f_t_width 4 f_t_shift 4 f_t_outOp 4 f_t_outA 4 f_t_outB 4 f_t_transfers 32 f_t_to 32 f_t_op 32 f_t_opA 32 f_t_opB 16384 f_t_next 16384 f_t_gives 4096 f_t_state 4096 f_t_from 4096 f_t_by 4096 f_t_depth 4096 f_t_number 4096 f_t_part 4096 f_t_newPart 4096 f_t_node 4096 f_t_newNode 8192 f_t_parent 8192 f_t_born 4096 f_t_one 4096 f_t_pieces 4099 f_t_chain 4096 f_t_behind 4096 f_t_classOf 4096 f_t_classState post := by
  have hB := hW.2.1
  have hI4 := hI.1
  have hB2 : (2 : Nat) ^ B ≤ 2 ^ 12 := Nat.pow_le_pow_right (by omega) hB
  have hok : ∀ s i, s < 2 ^ B → i < I → mc_st f_t_width f_t_shift f_t_transfers f_t_to f_t_op f_t_opA f_t_opB s i < 2 ^ B ∧ mc_out f_t_width f_t_shift f_t_outOp f_t_outA f_t_outB s i < 16 := fun s i h1 h2 => ⟨(mc_st_ok hW hI h2 h1).1, (mc_out_ok _ _ _ _ _ s i).1⟩
  have hste : ∀ s i, s < 2 ^ B → i < I → mc_step f_t_width f_t_shift f_t_to f_t_op f_t_opA f_t_opB i (nI s) (f_t_transfers i).toNatClampNeg = nI (mc_st f_t_width f_t_shift f_t_transfers f_t_to f_t_op f_t_opA f_t_opB s i) := fun s i h1 h2 => (mc_st_ok hW hI h2 h1).2
  have houe : ∀ s i, mc_res (f_t_outOp i) (mc_val f_t_width f_t_shift (nI s) (f_t_outA i)) (mc_val f_t_width f_t_shift (nI s) (f_t_outB i)) &&& (15 : Int32) = nI (mc_out f_t_width f_t_shift f_t_outOp f_t_outA f_t_outB s i) := fun s i => (mc_out_ok _ _ _ _ _ s i).2
  generalize eS : 2 ^ B = S at *
  generalize est : mc_st f_t_width f_t_shift f_t_transfers f_t_to f_t_op f_t_opA f_t_opB = st at *
  generalize eou : mc_out f_t_width f_t_shift f_t_outOp f_t_outA f_t_outB = out at *
  unfold wp_MO_work
  have rows : ∀ (m k : Nat) (next gives : Nat → Int32), k ≤ S → S - k ≤ m → (∀ s i, s < k → i < I → next (4 * s + i) = nI (st s i) ∧ gives (4 * s + i) = nI (out s i)) → wp_MO_work_L10 t_thrown (nI room) (nI R) (nI B) (nI I) (nI first) t_isFresh t_isRoom t_walked t_parts t_nodes t_classes 4 f_t_width 4 f_t_shift 4 f_t_outOp 4 f_t_outA 4 f_t_outB 4 f_t_transfers 32 f_t_to 32 f_t_op 32 f_t_opA 32 f_t_opB 16384 f_t_next 16384 f_t_gives 4096 f_t_state 4096 f_t_from 4096 f_t_by 4096 f_t_depth 4096 f_t_number 4096 f_t_part 4096 f_t_newPart 4096 f_t_node 4096 f_t_newNode 8192 f_t_parent 8192 f_t_born 4096 f_t_one 4096 f_t_pieces 4099 f_t_chain 4096 f_t_behind 4096 f_t_classOf 4096 f_t_classState post (m + 1) t_isFresh t_isRoom t_walked t_parts t_nodes t_classes next gives f_t_state f_t_from f_t_by f_t_depth f_t_number f_t_part f_t_newPart f_t_node f_t_newNode f_t_parent f_t_born f_t_one f_t_pieces f_t_chain f_t_behind f_t_classOf f_t_classState (nI k) := by
    have fin : ∀ (m : Nat) (next gives : Nat → Int32), (∀ s i, s < S → i < I → next (4 * s + i) = nI (st s i) ∧ gives (4 * s + i) = nI (out s i)) → wp_MO_work_L10 t_thrown (nI room) (nI R) (nI B) (nI I) (nI first) t_isFresh t_isRoom t_walked t_parts t_nodes t_classes 4 f_t_width 4 f_t_shift 4 f_t_outOp 4 f_t_outA 4 f_t_outB 4 f_t_transfers 32 f_t_to 32 f_t_op 32 f_t_opA 32 f_t_opB 16384 f_t_next 16384 f_t_gives 4096 f_t_state 4096 f_t_from 4096 f_t_by 4096 f_t_depth 4096 f_t_number 4096 f_t_part 4096 f_t_newPart 4096 f_t_node 4096 f_t_newNode 8192 f_t_parent 8192 f_t_born 4096 f_t_one 4096 f_t_pieces 4099 f_t_chain 4096 f_t_behind 4096 f_t_classOf 4096 f_t_classState post (m + 1) t_isFresh t_isRoom t_walked t_parts t_nodes t_classes next gives f_t_state f_t_from f_t_by f_t_depth f_t_number f_t_part f_t_newPart f_t_node f_t_newNode f_t_parent f_t_born f_t_one f_t_pieces f_t_chain f_t_behind f_t_classOf f_t_classState (nI S) := by
      intro m next gives hng
      unfold wp_MO_work_L10
      rw [q_1sh hB, eS]
      refine pk_le S S (fun _ => ?_) (fun h => absurd h (by omega))
      refine s_MO_walk (S := S) (st := st) (out := out) hI4 (by omega) hroom hr0 hf (fun s i h1 h2 => (hok s i h1 h2).1) (fun s i h1 h2 => (hng s i h1 h2).1) (fun isRoom walked state fro by' depth number hwm => ?_)
      refine s_MO_partAll (st := st) (out := out) hI4 hB eS.symm (fun s i h1 h2 => ⟨(hok s i h1 h2).1, (hok s i h1 h2).2, (hng s i h1 h2).1, (hng s i h1 h2).2⟩) (fun parts nodes part newPart node newNode parent born one pieces chain behind hpt => ?_)
      refine ⟨fun h0 => hp _ _ _ _ _ _ _ _ _ _ _ _ _ _ _ _ _ _ _ _ _ _ _ _ _ ⟨by decide, hng, hpt, hwm, fun z => absurd h0 z⟩, fun h0 => ?_⟩
      obtain ⟨W, eW, hw⟩ := id hwm
      rcases hw with ⟨h1, _⟩ | ⟨h1, h2, h3, h4, h5⟩
      · exact absurd h1 h0
      have hpt' := id hpt
      obtain ⟨R', parts', nodes', P, N, hR, ⟨a1, a2, a3, a4, a5, a6, a7, a8⟩, hst⟩ := hpt'
      subst h3
      have hle := wk_le h4
      refine s_MO_findClasses (S := S) (sz := w_sz W) (ord := w_ord W) (P := P) (by omega) hle (fun k hk => ⟨(h4.2.2.1 k hk).1, (h5.1 k hk).1⟩) (fun s hs => ⟨by have := (a4 s hs).1; omega, (a4 s hs).2.1⟩) (fun classes classOf classState hfc => ?_)
      refine hp _ _ _ _ _ _ _ _ _ _ _ _ _ _ _ _ _ _ _ _ _ _ _ _ _ ⟨by decide, hng, hpt, hwm, fun _ => ?_⟩
      obtain ⟨C, cl, lo, g1, g2, g3, g4⟩ := hfc
      rw [← eW]
      refine ⟨C, cl, lo, gc_cong (fun j k hj hk => ?_) g1, g2, g3, g4⟩
      have o1 := (h4.2.2.1 j hj).1
      have o2 := (h4.2.2.1 k hk).1
      show P (w_ord W j) = P (w_ord W k) ↔ _
      rw [a6 _ _ o1 o2]
      exact ⟨hst _ _ o1 o2, fun z => z R'⟩
    intro m
    induction m with
    | zero =>
      intro k next gives hk hm hng
      have e : k = S := by omega
      subst e
      exact fin 0 next gives hng
    | succ m ih =>
      intro k next gives hk hm hng
      rcases Nat.lt_or_ge k S with hlt | hge
      · have row : ∀ (n i : Nat) (next gives : Nat → Int32), i ≤ I → I - i ≤ n → (∀ s i, s < k → i < I → next (4 * s + i) = nI (st s i) ∧ gives (4 * s + i) = nI (out s i)) → (∀ x, x < i → next (4 * k + x) = nI (st k x) ∧ gives (4 * k + x) = nI (out k x)) → wp_MO_work_L22 t_thrown (nI room) (nI R) (nI B) (nI I) (nI first) t_isFresh t_isRoom t_walked t_parts t_nodes t_classes 4 f_t_width 4 f_t_shift 4 f_t_outOp 4 f_t_outA 4 f_t_outB 4 f_t_transfers 32 f_t_to 32 f_t_op 32 f_t_opA 32 f_t_opB 16384 f_t_next 16384 f_t_gives 4096 f_t_state 4096 f_t_from 4096 f_t_by 4096 f_t_depth 4096 f_t_number 4096 f_t_part 4096 f_t_newPart 4096 f_t_node 4096 f_t_newNode 8192 f_t_parent 8192 f_t_born 4096 f_t_one 4096 f_t_pieces 4099 f_t_chain 4096 f_t_behind 4096 f_t_classOf 4096 f_t_classState (wp_MO_work_L10 t_thrown (nI room) (nI R) (nI B) (nI I) (nI first) t_isFresh t_isRoom t_walked t_parts t_nodes t_classes 4 f_t_width 4 f_t_shift 4 f_t_outOp 4 f_t_outA 4 f_t_outB 4 f_t_transfers 32 f_t_to 32 f_t_op 32 f_t_opA 32 f_t_opB 16384 f_t_next 16384 f_t_gives 4096 f_t_state 4096 f_t_from 4096 f_t_by 4096 f_t_depth 4096 f_t_number 4096 f_t_part 4096 f_t_newPart 4096 f_t_node 4096 f_t_newNode 8192 f_t_parent 8192 f_t_born 4096 f_t_one 4096 f_t_pieces 4099 f_t_chain 4096 f_t_behind 4096 f_t_classOf 4096 f_t_classState post (m + 1)) post (n + 1) t_isFresh t_isRoom t_walked t_parts t_nodes t_classes next gives f_t_state f_t_from f_t_by f_t_depth f_t_number f_t_part f_t_newPart f_t_node f_t_newNode f_t_parent f_t_born f_t_one f_t_pieces f_t_chain f_t_behind f_t_classOf f_t_classState (nI k) (nI i) := by
          have fi : ∀ (n : Nat) (next gives : Nat → Int32), (∀ s i, s < k → i < I → next (4 * s + i) = nI (st s i) ∧ gives (4 * s + i) = nI (out s i)) → (∀ x, x < I → next (4 * k + x) = nI (st k x) ∧ gives (4 * k + x) = nI (out k x)) → wp_MO_work_L22 t_thrown (nI room) (nI R) (nI B) (nI I) (nI first) t_isFresh t_isRoom t_walked t_parts t_nodes t_classes 4 f_t_width 4 f_t_shift 4 f_t_outOp 4 f_t_outA 4 f_t_outB 4 f_t_transfers 32 f_t_to 32 f_t_op 32 f_t_opA 32 f_t_opB 16384 f_t_next 16384 f_t_gives 4096 f_t_state 4096 f_t_from 4096 f_t_by 4096 f_t_depth 4096 f_t_number 4096 f_t_part 4096 f_t_newPart 4096 f_t_node 4096 f_t_newNode 8192 f_t_parent 8192 f_t_born 4096 f_t_one 4096 f_t_pieces 4099 f_t_chain 4096 f_t_behind 4096 f_t_classOf 4096 f_t_classState (wp_MO_work_L10 t_thrown (nI room) (nI R) (nI B) (nI I) (nI first) t_isFresh t_isRoom t_walked t_parts t_nodes t_classes 4 f_t_width 4 f_t_shift 4 f_t_outOp 4 f_t_outA 4 f_t_outB 4 f_t_transfers 32 f_t_to 32 f_t_op 32 f_t_opA 32 f_t_opB 16384 f_t_next 16384 f_t_gives 4096 f_t_state 4096 f_t_from 4096 f_t_by 4096 f_t_depth 4096 f_t_number 4096 f_t_part 4096 f_t_newPart 4096 f_t_node 4096 f_t_newNode 8192 f_t_parent 8192 f_t_born 4096 f_t_one 4096 f_t_pieces 4099 f_t_chain 4096 f_t_behind 4096 f_t_classOf 4096 f_t_classState post (m + 1)) post (n + 1) t_isFresh t_isRoom t_walked t_parts t_nodes t_classes next gives f_t_state f_t_from f_t_by f_t_depth f_t_number f_t_part f_t_newPart f_t_node f_t_newNode f_t_parent f_t_born f_t_one f_t_pieces f_t_chain f_t_behind f_t_classOf f_t_classState (nI k) (nI I) := by
            intro n next gives h1 h2
            unfold wp_MO_work_L22
            refine pk_le I I (fun _ => ?_) (fun h => absurd h (by omega))
            rintro _ rfl
            rw [nI_1]
            refine ih (k + 1) next gives (by omega) (by omega) (fun s i hs hi => ?_)
            by_cases e : s = k
            · subst e; exact h2 i hi
            · exact h1 s i (by omega) hi
          intro n
          induction n with
          | zero =>
            intro i next gives hi hn h1 h2
            have e : i = I := by omega
            subst e
            exact fi 0 next gives h1 h2
          | succ n ihn =>
            intro i next gives hi hn h1 h2
            rcases Nat.lt_or_ge i I with hil | hig
            · unfold wp_MO_work_L22
              refine pk_le I i (fun h => absurd h (by omega)) (fun _ => ?_)
              refine s_MO_stepOf hW hI hil ?_
              rw [hste k i hlt hil, show (4 : Int32) = nI 4 from rfl, pk_mul, nI_add]
              refine ⟨pk_in (4 * k + i) 16384 (by omega), ?_⟩
              rintro _ rfl
              refine s_MO_outputOf hW hI hil ?_
              rw [houe k i]
              refine ⟨pk_in (4 * k + i) 16384 (by omega), ?_⟩
              rintro _ rfl _ rfl
              rw [nI_1, nI_clamp (by omega)]
              refine ihn (i + 1) _ _ (by omega) (by omega) (fun s x hs hx => ?_) (fun x hx => ?_)
              · rw [pk_un (by omega), pk_un (by omega)]; exact h1 s x hs hx
              · by_cases e : x = i
                · subst e; rw [pk_us, pk_us]; exact ⟨rfl, rfl⟩
                · rw [pk_un (by omega), pk_un (by omega)]; exact h2 x (by omega)
            · have e : i = I := by omega
              subst e
              exact fi (n + 1) next gives h1 h2
        unfold wp_MO_work_L10
        rw [q_1sh hB, eS]
        refine pk_le S k (fun h => absurd h (by omega)) (fun _ => ?_)
        exact ⟨I + 1, row I 0 next gives (by omega) (by omega) hng (fun x hx => absurd hx (by omega))⟩
      · have e : k = S := by omega
        subst e
        exact fin (m + 1) next gives hng
  refine ⟨fun _ => ⟨S + 1, rows S 0 _ _ (by omega) (by omega) (fun s i h => absurd h (by omega))⟩, fun h => hp _ _ _ _ _ _ _ _ _ _ _ _ _ _ _ _ _ _ _ _ _ _ _ _ _ (hs h)⟩

def bc (n S : Nat) : Nat := if n < S then 4 else 0
def bs (k n S : Nat) : Nat := if n < S then k * S else 0
def iv_n (B n : Nat) : Prop := n = 0 ∨ ∃ b, b ≤ B ∧ n = 2 ^ b
theorem iv_n_le {B n : Nat} (h : iv_n B n) : n ≤ 2 ^ B := by
  rcases h with h | ⟨b, hb, rfl⟩
  · rw [h]; exact Nat.zero_le _
  · exact Nat.pow_le_pow_right (by omega) hb
theorem iv_n_up {B B' n : Nat} (h : iv_n B n) (hB : B ≤ B') : iv_n B' n := by
  rcases h with h | ⟨b, hb, rfl⟩
  · exact Or.inl h
  · exact Or.inr ⟨b, by omega, rfl⟩
theorem bc_le (n S : Nat) : bc n S ≤ 4 := by unfold bc; split <;> omega
theorem bs_le (k n S : Nat) : bs k n S ≤ k * S := by unfold bs; split <;> omega
theorem iv_bud {B n n' : Nat} (h : iv_n B n) (h1 : 2 ^ B ≤ n') (h2 : n' = n ∨ n < 2 ^ B ∧ n' = 2 ^ B) : bc n (2 ^ B) + 4 * n ≤ 4 * n' ∧ bs 4 n (2 ^ B) + 8 * n ≤ 8 * n' ∧ bs 5 n (2 ^ B) + 10 * n ≤ 10 * n' ∧ iv_n B n' ∧ n' ≤ 2 ^ B := by
  have hle := iv_n_le h
  unfold bc bs
  rcases h2 with e | ⟨e1, e2⟩
  · rw [if_neg (by omega), if_neg (by omega), if_neg (by omega)]
    exact ⟨by omega, by omega, by omega, by rw [e]; exact h, by omega⟩
  · have h3 : 2 * n ≤ 2 ^ B := by
      rcases h with h | ⟨b, hb, rfl⟩
      · omega
      · have hlt : b < B := (Nat.pow_lt_pow_iff_right (by omega)).mp e1
        have : (2 : Nat) ^ (b + 1) ≤ 2 ^ B := Nat.pow_le_pow_right (by omega) hlt
        rw [Nat.pow_succ] at this
        omega
    rw [if_pos e1, if_pos e1, if_pos e1]
    exact ⟨by omega, by omega, by omega, Or.inr ⟨B, Nat.le_refl _, e2⟩, by omega⟩
theorem s_needState1 {mc : Nat} {ms : Nat} {t_room : Int32} {t_firstState : Int32} {t_machine_registers : Int32} {t_machine_inputs : Int32} {t_machine_transfers : Int32} {B s : Nat} {post : Prop} {thr : Nat → Prop} (hB : B ≤ 12) (hs : s < 2 ^ B) (hp : post) : wp_SE_needState mc ms t_room t_firstState t_machine_registers (nI B) t_machine_inputs t_machine_transfers (nI s) post thr := by
  have h2 := q_p2 hB
  unfold wp_SE_needState wp_MA_hasState wp_MA_states
  rw [q_1sh hB]
  refine br_f (nI_pos (by omega)) (pk_le (2 ^ B) s (fun h => absurd h (by omega)) (fun _ => ⟨fun _ => hp, fun z => absurd z (by decide)⟩))
theorem s_needState0 {mc : Nat} {ms : Nat} {t_room : Int32} {t_firstState : Int32} {t_machine_registers : Int32} {t_machine_inputs : Int32} {t_machine_transfers : Int32} {B : Nat} {a : Int32} {post : Prop} {thr : Nat → Prop} (hB : B ≤ 12) (ha : ¬ q_is (2 ^ B) a) (h1 : 1 ≤ mc) (h6 : 6 ≤ ms) (hp : thr 1) : wp_SE_needState mc ms t_room t_firstState t_machine_registers (nI B) t_machine_inputs t_machine_transfers a post thr := by
  have h2 := q_p2 hB
  unfold wp_SE_needState wp_MA_hasState wp_MA_states
  rw [q_1sh hB]
  have fin : (¬ (0 : Int32) = 0 → post) ∧ ((0 : Int32) = 0 → (0 + 1 ≤ mc ∧ 0 + 6 ≤ ms ∧ thr 1)) := ⟨fun z => absurd rfl z, fun _ => ⟨by omega, by omega, hp⟩⟩
  rcases q_ix a (N := 2 ^ B) (by omega) with ⟨h, g⟩ | ⟨h, h3, g⟩ | ⟨k, hk, e⟩
  · exact br_t h fin
  · exact br_f h (br_t h3 fin)
  · exact absurd ⟨k, hk, e⟩ ha
theorem s_needInput1 {mc : Nat} {ms : Nat} {t_room : Int32} {t_firstState : Int32} {t_machine_registers : Int32} {t_machine_bits : Int32} {t_machine_transfers : Int32} {I i : Nat} {post : Prop} {thr : Nat → Prop} (hI : I ≤ 4) (hi : i < I) (hp : post) : wp_SE_needInput mc ms t_room t_firstState t_machine_registers t_machine_bits (nI I) t_machine_transfers (nI i) post thr := by
  unfold wp_SE_needInput wp_MA_hasInput
  exact br_f (nI_pos (by omega)) (pk_le I i (fun h => absurd h (by omega)) (fun _ => ⟨fun _ => hp, fun z => absurd z (by decide)⟩))
theorem s_needInput0 {mc : Nat} {ms : Nat} {t_room : Int32} {t_firstState : Int32} {t_machine_registers : Int32} {t_machine_bits : Int32} {t_machine_transfers : Int32} {I : Nat} {a : Int32} {post : Prop} {thr : Nat → Prop} (hI : I ≤ 4) (ha : ¬ q_is I a) (h1 : 1 ≤ mc) (h6 : 6 ≤ ms) (hp : thr 1) : wp_SE_needInput mc ms t_room t_firstState t_machine_registers t_machine_bits (nI I) t_machine_transfers a post thr := by
  unfold wp_SE_needInput wp_MA_hasInput
  have fin : (¬ (0 : Int32) = 0 → post) ∧ ((0 : Int32) = 0 → (0 + 1 ≤ mc ∧ 0 + 6 ≤ ms ∧ thr 1)) := ⟨fun z => absurd rfl z, fun _ => ⟨by omega, by omega, hp⟩⟩
  rcases q_ix a (N := I) (by omega) with ⟨h, g⟩ | ⟨h, h3, g⟩ | ⟨k, hk, e⟩
  · exact br_t h fin
  · exact br_f h (br_t h3 fin)
  · exact absurd ⟨k, hk, e⟩ ha
theorem s_needWalked1 {mc : Nat} {ms : Nat} {t_room : Int32} {t_firstState : Int32} {t_walk_stands : Int32} {t_walk_fits : Int32} {t_walk_joined : Int32} {t_walk_resting : Int32} {sz k : Nat} {post : Prop} {thr : Nat → Prop} (hz : sz ≤ 4096) (hk : k < sz) (hp : post) : wp_SE_needWalked mc ms t_room t_firstState (nI sz) t_walk_stands t_walk_fits t_walk_joined t_walk_resting (nI k) post thr := by
  unfold wp_SE_needWalked
  exact br_f (nI_pos (by omega)) (pk_lt k sz (fun _ => hp) (fun h => absurd h (by omega)))
theorem s_needWalked0 {mc : Nat} {ms : Nat} {t_room : Int32} {t_firstState : Int32} {t_walk_stands : Int32} {t_walk_fits : Int32} {t_walk_joined : Int32} {t_walk_resting : Int32} {sz : Nat} {a : Int32} {post : Prop} {thr : Nat → Prop} (hz : sz ≤ 4096) (ha : ¬ q_is sz a) (h1 : 1 ≤ mc) (h6 : 6 ≤ ms) (hp : thr 4) : wp_SE_needWalked mc ms t_room t_firstState (nI sz) t_walk_stands t_walk_fits t_walk_joined t_walk_resting a post thr := by
  unfold wp_SE_needWalked
  rcases q_ix a (N := sz) (by omega) with ⟨h, g⟩ | ⟨h, h3, g⟩ | ⟨k, hk, e⟩
  · exact br_t h ⟨by omega, by omega, hp⟩
  · refine br_f h (br_f (fun z => ?_) ⟨by omega, by omega, hp⟩)
    rw [q_lt] at z; rw [q_le] at h3; omega
  · exact absurd ⟨k, hk, e⟩ ha
theorem s_needPlace1 {mc : Nat} {ms : Nat} {t_room : Int32} {t_firstState : Int32} {i : Nat} {post : Prop} {thr : Nat → Prop} (hi : i < 2 ^ 31) (hp : post) : wp_SE_needPlace mc ms t_room t_firstState (nI i) post thr := by
  unfold wp_SE_needPlace
  exact br_t (nI_pos' hi) hp
theorem s_needPlace0 {mc : Nat} {ms : Nat} {t_room : Int32} {t_firstState : Int32} {a : Int32} {post : Prop} {thr : Nat → Prop} (ha : a < 0) (h1 : 1 ≤ mc) (h6 : 6 ≤ ms) (hp : thr 4) : wp_SE_needPlace mc ms t_room t_firstState a post thr := by
  unfold wp_SE_needPlace
  refine br_f (fun z => ?_) ⟨by omega, by omega, hp⟩
  rw [q_lt] at ha; rw [q_le] at z; omega
theorem s_MO_isState1 {t_thrown : Int32} {t_room : Int32} {t_registers : Int32} {t_inputs : Int32} {t_first : Int32} {t_isFresh : Int32} {t_isRoom : Int32} {t_walked : Int32} {t_parts : Int32} {t_nodes : Int32} {t_classes : Int32} {B s : Nat} {post : Int32 → Prop} (hB : B ≤ 12) (hs : s < 2 ^ B) (hp : post 1) : wp_MO_isState t_thrown t_room t_registers (nI B) t_inputs t_first t_isFresh t_isRoom t_walked t_parts t_nodes t_classes (nI s) post := s_MO_isState hB (fun _ _ _ => hp) (fun h => absurd ⟨s, hs, rfl⟩ h)
theorem s_MO_isState0 {t_thrown : Int32} {t_room : Int32} {t_registers : Int32} {t_inputs : Int32} {t_first : Int32} {t_isFresh : Int32} {t_isRoom : Int32} {t_walked : Int32} {t_parts : Int32} {t_nodes : Int32} {t_classes : Int32} {B : Nat} {a : Int32} {post : Int32 → Prop} (hB : B ≤ 12) (ha : ¬ q_is (2 ^ B) a) (hp : post 0) : wp_MO_isState t_thrown t_room t_registers (nI B) t_inputs t_first t_isFresh t_isRoom t_walked t_parts t_nodes t_classes a post := s_MO_isState hB (fun s hs e => absurd ⟨s, hs, e⟩ ha) (fun _ => hp)
theorem s_MO_within1 {N k : Nat} {post : Int32 → Prop} (hN : N < 2 ^ 31) (hk : k < N) (hp : post 1) : wp_MO_within (nI k) 0 (nI N - 1) post := s_MO_within hN (fun _ _ _ => hp) (fun h => absurd ⟨k, hk, rfl⟩ h)
theorem s_MO_within0 {N : Nat} {a : Int32} {post : Int32 → Prop} (hN : N < 2 ^ 31) (ha : ¬ q_is N a) (hp : post 0) : wp_MO_within a 0 (nI N - 1) post := s_MO_within hN (fun s hs e => absurd ⟨s, hs, e⟩ ha) (fun _ => hp)
theorem wa_get {S I room first : Nat} {st : Nat → Nat → Nat} {W : wk_T} {size fits joined resting : Int32} {back order numberOf : Nat → Int32} (eW : W = bf st I room first S) (h : wa_res S I st room first size fits joined resting back order numberOf) (hok : w_ok W = true) :
    fits = 1 ∧ size = nI (w_sz W) ∧ wk_inv S I st room (w_sz W) 0 W ∧ wa_rep S W back order numberOf ∧ joined = nI (cN (fun j => decide (2 ≤ en_a st (w_ord W) I j (w_sz W))) (w_sz W)) ∧ resting = wr_n I st (w_ord W) (w_sz W) := by
  obtain ⟨W', e, h⟩ := h
  rw [← eW] at e
  subst e
  rcases h with ⟨_, h2⟩ | ⟨h1, h2, h3, h4, h5, h6, h7⟩
  · rw [hok] at h2; exact absurd h2 (by decide)
  · exact ⟨h1, h3, h4, h5, h6, h7⟩
theorem mo_get {S I room first : Nat} {st out : Nat → Nat → Nat} {W : wk_T} {isFresh isRoom walked parts nodes classes : Int32} {next gives state fro by' depth number part newPart node newNode parent born one pieces chain behind classOf classState : Nat → Int32} (eW : W = bf st I room first S) (h : mo_res S I st out room first isFresh isRoom walked parts nodes classes next gives state fro by' depth number part newPart node newNode parent born one pieces chain behind classOf classState) (hok : w_ok W = true) :
    isRoom = 1 ∧ walked = nI (w_sz W) ∧ wk_inv S I st room (w_sz W) 0 W ∧ wm_rep W state fro by' depth number ∧ fc_rep (fun j k => ∀ r, pm_E I st out r (w_ord W j) (w_ord W k)) (w_ord W) (w_sz W) classes classOf classState := by
  obtain ⟨_, _, _, ⟨W', e, hw⟩, hfc⟩ := h
  rw [← eW] at e hfc
  subst e
  rcases hw with ⟨_, h2⟩ | ⟨h1, h2, h3, h4, h5⟩
  · rw [hok] at h2; exact absurd h2 (by decide)
  · exact ⟨h1, h3, h4, h5, hfc (by rw [h1]; decide)⟩
theorem s_SE_needRoom {mc : Nat} {ms : Nat} {t_machine_registers : Int32} {t_machine_bits : Int32} {t_machine_inputs : Int32} {t_machine_transfers : Int32} {n_t_machine_shifts : Nat} {f_t_machine_shifts : Nat → Int32} {n_t_machine_masks : Nat} {f_t_machine_masks : Nat → Int32} {n_t_machine_rules : Nat} {f_t_machine_rules : Nat → Option Nat} {vTr_t_machine_rules_4 : Nat → Int32} {fTg_t_machine_rules_4 : Nat → Nat → Int32} {fOp_t_machine_rules_4 : Nat → Nat → Int32} {fLf_t_machine_rules_4 : Nat → Nat → Int32} {fRt_t_machine_rules_4 : Nat → Nat → Int32} {nMv_t_machine_rules_4 : Nat → Nat} {fMv_t_machine_rules_4 : Nat → Nat → Int32} {t_walk_size : Int32} {t_walk_stands : Int32} {t_walk_fits : Int32} {t_walk_joined : Int32} {t_walk_resting : Int32} {f_t_walk_ways_back : Nat → Int32} {f_t_walk_order : Nat → Int32} {f_t_walk_numberOf : Nat → Int32} {f_t_walk_entered : Nat → Int32} {a_t_walk_ways_back : Nat} {a_t_walk_order : Nat} {a_t_walk_numberOf : Nat} {a_t_walk_entered : Nat} {S I room first n0 : Nat} {W : wk_T} {st out : Nat → Nat → Nat} {MV : (Nat → Nat → Int32) → Prop} {post : (Nat → Nat → Int32) → Int32 → Int32 → Int32 → Int32 → Int32 → Nat → Nat → (Nat → Int32) → Nat → Nat → (Nat → Int32) → Nat → Nat → (Nat → Int32) → Nat → Nat → (Nat → Int32) → Prop} {thr : Nat → (Nat → Nat → Int32) → Int32 → Int32 → Int32 → Int32 → Int32 → Nat → Nat → (Nat → Int32) → Nat → Nat → (Nat → Int32) → Nat → Nat → (Nat → Int32) → Nat → Nat → (Nat → Int32) → Prop} (hM : ms_ok t_machine_registers t_machine_bits t_machine_inputs t_machine_transfers n_t_machine_shifts f_t_machine_shifts n_t_machine_masks f_t_machine_masks n_t_machine_rules f_t_machine_rules vTr_t_machine_rules_4 fTg_t_machine_rules_4 fOp_t_machine_rules_4 fLf_t_machine_rules_4 fRt_t_machine_rules_4 nMv_t_machine_rules_4 S I st out MV) (hn : n0 < 2 ^ 28) (hg : MV fMv_t_machine_rules_4) (hf : first < S) (hr0 : 0 < room) (hroom : room ≤ 4096) (eW : W = bf st I room first S) (hc : bc n0 S + 1 ≤ mc) (hcs : bs 4 n0 S + 6 ≤ ms)
    (hs : ¬ t_walk_stands = 0 → wa_res S I st room first t_walk_size t_walk_fits t_walk_joined t_walk_resting f_t_walk_ways_back f_t_walk_order f_t_walk_numberOf ∧ S ≤ n0)
    (hp1 : w_ok W = true → ∀ (g : Nat → Nat → Int32) (sd joined resting : Int32) (back order numberOf entered : Nat → Int32) (w1 w2 w3 w4 n : Nat), MV g → sd ≠ 0 → wa_res S I st room first (nI (w_sz W)) 1 joined resting back order numberOf → S ≤ n → (n = n0 ∨ n0 < S ∧ n = S) → post g (nI (w_sz W)) sd 1 joined resting w1 n back w2 n order w3 n numberOf w4 n entered)
    (hp0 : w_ok W = false → ∀ (g : Nat → Nat → Int32) (size sd joined resting : Int32) (back order numberOf entered : Nat → Int32) (w1 w2 w3 w4 n : Nat), MV g → sd ≠ 0 → wa_res S I st room first size 0 joined resting back order numberOf → S ≤ n → (n = n0 ∨ n0 < S ∧ n = S) → thr 3 g size sd 0 joined resting w1 n back w2 n order w3 n numberOf w4 n entered) :
    wp_SE_needRoom mc ms (nI room) (nI first) t_machine_registers t_machine_bits t_machine_inputs t_machine_transfers n_t_machine_shifts f_t_machine_shifts n_t_machine_masks f_t_machine_masks n_t_machine_rules f_t_machine_rules vTr_t_machine_rules_4 fTg_t_machine_rules_4 fOp_t_machine_rules_4 fLf_t_machine_rules_4 fRt_t_machine_rules_4 nMv_t_machine_rules_4 fMv_t_machine_rules_4 t_walk_size t_walk_stands t_walk_fits t_walk_joined t_walk_resting n0 f_t_walk_ways_back n0 f_t_walk_order n0 f_t_walk_numberOf n0 f_t_walk_entered a_t_walk_ways_back a_t_walk_order a_t_walk_numberOf a_t_walk_entered post thr := by
  unfold wp_SE_needRoom
  refine ⟨bc n0 S, bs 4 n0 S, by omega, by omega, ?_⟩
  refine s_WA_run hM hn hg hf hr0 hroom (fun h => ⟨by unfold bc; rw [if_pos h]; exact Nat.le_refl _, by unfold bs; rw [if_pos h]; exact Nat.le_refl _⟩) hs (fun size sd fits joined resting back order numberOf entered g w1 w2 w3 w4 n hsd hres hg' hSn hn' => ?_)
  cases hok : w_ok W with
  | true =>
    obtain ⟨e1, e2, _⟩ := wa_get eW hres hok
    subst e1 e2
    exact ⟨fun _ => hp1 hok g sd joined resting back order numberOf entered w1 w2 w3 w4 n hg' hsd hres hSn hn', fun z => absurd z (by decide)⟩
  | false =>
    have e : fits = 0 := by
      obtain ⟨W', e, h⟩ := id hres
      rw [← eW] at e
      subst e
      rcases h with ⟨h1, _⟩ | ⟨_, h2, _⟩
      · exact h1
      · rw [hok] at h2; exact absurd h2 (by decide)
    subst e
    exact ⟨fun z => absurd rfl z, fun _ => ⟨by omega, by omega, hp0 hok g size sd joined resting back order numberOf entered w1 w2 w3 w4 n hg' hsd hres hSn hn'⟩⟩
theorem s_MO_hasRoom {t_thrown : Int32} {t_isFresh : Int32} {t_isRoom : Int32} {t_walked : Int32} {t_parts : Int32} {t_nodes : Int32} {t_classes : Int32} {f_t_width : Nat → Int32} {f_t_shift : Nat → Int32} {f_t_outOp : Nat → Int32} {f_t_outA : Nat → Int32} {f_t_outB : Nat → Int32} {f_t_transfers : Nat → Int32} {f_t_to : Nat → Int32} {f_t_op : Nat → Int32} {f_t_opA : Nat → Int32} {f_t_opB : Nat → Int32} {f_t_next : Nat → Int32} {f_t_gives : Nat → Int32} {f_t_state : Nat → Int32} {f_t_from : Nat → Int32} {f_t_by : Nat → Int32} {f_t_depth : Nat → Int32} {f_t_number : Nat → Int32} {f_t_part : Nat → Int32} {f_t_newPart : Nat → Int32} {f_t_node : Nat → Int32} {f_t_newNode : Nat → Int32} {f_t_parent : Nat → Int32} {f_t_born : Nat → Int32} {f_t_one : Nat → Int32} {f_t_pieces : Nat → Int32} {f_t_chain : Nat → Int32} {f_t_behind : Nat → Int32} {f_t_classOf : Nat → Int32} {f_t_classState : Nat → Int32} {R B I room first : Nat} {W : wk_T} {post : Int32 → Int32 → Int32 → Int32 → Int32 → Int32 → Int32 → Int32 → (Nat → Int32) → (Nat → Int32) → (Nat → Int32) → (Nat → Int32) → (Nat → Int32) → (Nat → Int32) → (Nat → Int32) → (Nat → Int32) → (Nat → Int32) → (Nat → Int32) → (Nat → Int32) → (Nat → Int32) → (Nat → Int32) → (Nat → Int32) → (Nat → Int32) → (Nat → Int32) → (Nat → Int32) → (Nat → Int32) → (Nat → Int32) → Prop} (hW : mc_W R B f_t_width f_t_shift) (hI : mc_I R I f_t_outA f_t_outB f_t_transfers f_t_to f_t_opA f_t_opB) (hr0 : 0 < room) (hroom : room ≤ 4096) (hf : first < 2 ^ B) (eW : W = bf (mc_st f_t_width f_t_shift f_t_transfers f_t_to f_t_op f_t_opA f_t_opB) I room first (2 ^ B))
    (hs : ¬ t_isFresh = 0 → mo_res (2 ^ B) I (mc_st f_t_width f_t_shift f_t_transfers f_t_to f_t_op f_t_opA f_t_opB) (mc_out f_t_width f_t_shift f_t_outOp f_t_outA f_t_outB) room first t_isFresh t_isRoom t_walked t_parts t_nodes t_classes f_t_next f_t_gives f_t_state f_t_from f_t_by f_t_depth f_t_number f_t_part f_t_newPart f_t_node f_t_newNode f_t_parent f_t_born f_t_one f_t_pieces f_t_chain f_t_behind f_t_classOf f_t_classState)
    (hp1 : w_ok W = true → ∀ isFresh isRoom walked parts nodes classes next gives state fro by' depth number part newPart node newNode parent born one pieces chain behind classOf classState, mo_res (2 ^ B) I (mc_st f_t_width f_t_shift f_t_transfers f_t_to f_t_op f_t_opA f_t_opB) (mc_out f_t_width f_t_shift f_t_outOp f_t_outA f_t_outB) room first isFresh isRoom walked parts nodes classes next gives state fro by' depth number part newPart node newNode parent born one pieces chain behind classOf classState → isRoom = 1 → walked = nI (w_sz W) → post 1 0 isFresh isRoom walked parts nodes classes next gives state fro by' depth number part newPart node newNode parent born one pieces chain behind classOf classState)
    (hp0 : w_ok W = false → ∀ isFresh isRoom walked parts nodes classes next gives state fro by' depth number part newPart node newNode parent born one pieces chain behind classOf classState, mo_res (2 ^ B) I (mc_st f_t_width f_t_shift f_t_transfers f_t_to f_t_op f_t_opA f_t_opB) (mc_out f_t_width f_t_shift f_t_outOp f_t_outA f_t_outB) room first isFresh isRoom walked parts nodes classes next gives state fro by' depth number part newPart node newNode parent born one pieces chain behind classOf classState → post 0 1 isFresh isRoom walked parts nodes classes next gives state fro by' depth number part newPart node newNode parent born one pieces chain behind classOf classState) : wp_MO_hasRoom t_thrown (nI room) (nI R) (nI B) (nI I) (nI first) t_isFresh t_isRoom t_walked t_parts t_nodes t_classes 4 f_t_width 4 f_t_shift 4 f_t_outOp 4 f_t_outA 4 f_t_outB 4 f_t_transfers 32 f_t_to 32 f_t_op 32 f_t_opA 32 f_t_opB 16384 f_t_next 16384 f_t_gives 4096 f_t_state 4096 f_t_from 4096 f_t_by 4096 f_t_depth 4096 f_t_number 4096 f_t_part 4096 f_t_newPart 4096 f_t_node 4096 f_t_newNode 8192 f_t_parent 8192 f_t_born 4096 f_t_one 4096 f_t_pieces 4099 f_t_chain 4096 f_t_behind 4096 f_t_classOf 4096 f_t_classState post := by
  unfold wp_MO_hasRoom
  refine s_MO_work hW hI hr0 hroom hf hs (fun isFresh isRoom walked parts nodes classes next gives state fro by' depth number part newPart node newNode parent born one pieces chain behind classOf classState hmo => ?_)
  cases hok : w_ok W with
  | true =>
    obtain ⟨e1, e2, _⟩ := mo_get eW hmo hok
    subst e1
    exact ⟨fun z => absurd z (by decide), fun _ => ⟨rfl, hp1 hok _ _ _ _ _ _ _ _ _ _ _ _ _ _ _ _ _ _ _ _ _ _ _ _ _ hmo rfl e2⟩⟩
  | false =>
    have e : isRoom = 0 := by
      obtain ⟨W', e, h⟩ := hmo.2.2.2.1
      rw [← eW] at e
      subst e
      rcases h with ⟨h1, _⟩ | ⟨_, h2, _⟩
      · exact h1
      · rw [hok] at h2; exact absurd h2 (by decide)
    subst e
    exact ⟨fun _ => ⟨rfl, hp0 hok _ _ _ _ _ _ _ _ _ _ _ _ _ _ _ _ _ _ _ _ _ _ _ _ _ hmo⟩, fun z => absurd rfl z⟩
theorem lc_end {r2 r3 r4 : Int32} {o : Nat → Int64} {A : Prop} (h : r4 = r2) (h2 : r2 = 0 → o 0 = r3.toInt64) (hA : A) : ((r4 = r2 → ((¬ r2 = 0 → A) ∧ (r2 = 0 → (vp_in (0 : Int32) 1 ∧ (((lg_cmp (o (0 : Int32).toNatClampNeg) r3.toInt64) = 0 → A) ∧ (¬ (lg_cmp (o (0 : Int32).toNatClampNeg) r3.toInt64) = 0 → False)))))) ∧ (¬ r4 = r2 → False)) :=
  ⟨fun _ => ⟨fun _ => hA, fun z => ⟨pk_in 0 1 (by omega), fun _ => hA, fun y => y ((lg_cmp_eq _ _).mpr (h2 z))⟩⟩, fun y => absurd h y⟩
theorem lc_endB {r2 r3 r4 : Int32} {o : Nat → Int64} {A : Prop} (h : r4 = r2) (h0 : r2 = 0 → r3 = 0 → o 0 = 0) (h1 : r2 = 0 → ¬ r3 = 0 → o 0 = 1) (hA : A) : ((r4 = r2 → ((¬ r2 = 0 → A) ∧ (r2 = 0 → (vp_in (0 : Int32) 1 ∧ ((r3 = 0 → (((lg_cmp (o (0 : Int32).toNatClampNeg) (0 : Int64)) = 0 → A) ∧ (¬ (lg_cmp (o (0 : Int32).toNatClampNeg) (0 : Int64)) = 0 → False))) ∧ (¬ r3 = 0 → (((lg_cmp (o (0 : Int32).toNatClampNeg) (1 : Int64)) = 0 → A) ∧ (¬ (lg_cmp (o (0 : Int32).toNatClampNeg) (1 : Int64)) = 0 → False)))))))) ∧ (¬ r4 = r2 → False)) :=
  ⟨fun _ => ⟨fun _ => hA, fun z => ⟨pk_in 0 1 (by omega), fun q => ⟨fun _ => hA, fun y => y ((lg_cmp_eq _ _).mpr (h0 z q))⟩, fun q => ⟨fun _ => hA, fun y => y ((lg_cmp_eq _ _).mpr (h1 z q))⟩⟩⟩, fun y => absurd h y⟩

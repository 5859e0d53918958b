/-- what a walk left -/
def wa_res (S I : Nat) (st : Nat → Nat → Nat) (room first : Nat) (size fits joined resting : Int32) (back order numberOf : Nat → Int32) : Prop :=
  ∃ W, W = bf st I room first S ∧ ((fits = 0 ∧ w_ok W = false) ∨ (fits = 1 ∧ w_ok W = true ∧ size = nI (w_sz W) ∧ wk_inv S I st room (w_sz W) 0 W ∧ wa_rep S W back order numberOf ∧ joined = nI (cN (fun j => decide (2 ≤ en_a st (w_ord W) I j (w_sz W))) (w_sz W)) ∧ resting = wr_n I st (w_ord W) (w_sz W)))
theorem wc_next {I : Nat} {st : Nat → Nat → Nat} {ord : Nat → Nat} {sz k : Nat} {entered : Nat → Int32} {joined : Int32} (h : wc_inv I st ord sz k I entered joined) : wc_inv I st ord sz (k + 1) 0 entered joined := h
theorem s_WA_run_L69 {mc : Nat} {ms : Nat} {t_size : Int32} {t_stands : Int32} {t_fits : Int32} {t_joined : Int32} {t_resting : Int32} {n_t_ways_back : Nat} {f_t_ways_back : Nat → Int32} {n_t_order : Nat} {f_t_order : Nat → Int32} {n_t_numberOf : Nat} {f_t_numberOf : Nat → Int32} {n_t_entered : Nat} {f_t_entered : Nat → Int32} {a1_registers : Int32} {a1_bits : Int32} {a1_inputs : Int32} {a1_transfers : Int32} {n_a1_shifts : Nat} {f_a1_shifts : Nat → Int32} {n_a1_masks : Nat} {f_a1_masks : Nat → Int32} {n_a1_rules : Nat} {f_a1_rules : Nat → Option Nat} {vTr_a1_rules_4 : Nat → Int32} {fTg_a1_rules_4 : Nat → Nat → Int32} {fOp_a1_rules_4 : Nat → Nat → Int32} {fLf_a1_rules_4 : Nat → Nat → Int32} {fRt_a1_rules_4 : Nat → Nat → Int32} {nMv_a1_rules_4 : Nat → Nat} {fMv_a1_rules_4 : Nat → Nat → Int32} {a_t_ways_back : Nat} {a_t_order : Nat} {a_t_numberOf : Nat} {a_t_entered : Nat} {n S I room first : Nat} {a2 : Int32} {st out : Nat → Nat → Nat} {MV : (Nat → Nat → Int32) → Prop} {post : Int32 → Int32 → Int32 → Int32 → Int32 → Nat → Nat → (Nat → Int32) → Nat → Nat → (Nat → Int32) → Nat → Nat → (Nat → Int32) → Nat → Nat → (Nat → Int32) → (Nat → Nat → Int32) → Prop} (hM : ms_ok a1_registers a1_bits a1_inputs a1_transfers n_a1_shifts f_a1_shifts n_a1_masks f_a1_masks n_a1_rules f_a1_rules vTr_a1_rules_4 fTg_a1_rules_4 fOp_a1_rules_4 fLf_a1_rules_4 fRt_a1_rules_4 nMv_a1_rules_4 S I st out MV) (hS : S ≤ n) (hn : n < 2 ^ 28) (hroom : room ≤ 4096) {sd : Int32} {kc ks w1 w2 w3 w4 : Nat}
    (hp : ∀ (size fits joined resting : Int32) (back order numberOf entered : Nat → Int32) (g : Nat → Nat → Int32), wa_res S I st room first size fits joined resting back order numberOf → MV g → post size sd fits joined resting w1 n back w2 n order w3 n numberOf w4 n entered g) :
    ∀ (m k : Nat) (W : wk_T) (back order numberOf entered : Nat → Int32) (joined : Int32) (g : Nat → Nat → Int32), W = bf st I room first k → w_ok W = true → wk_inv S I st room k 0 W → k ≤ w_sz W → wa_rep S W back order numberOf → wc_inv I st (w_ord W) (w_sz W) k 0 entered joined → MV g → S - k ≤ m → wp_WA_run_L69 mc ms t_size t_stands t_fits t_joined t_resting n_t_ways_back f_t_ways_back n_t_order f_t_order n_t_numberOf f_t_numberOf n_t_entered f_t_entered a1_registers a1_bits a1_inputs a1_transfers n_a1_shifts f_a1_shifts n_a1_masks f_a1_masks n_a1_rules f_a1_rules vTr_a1_rules_4 fTg_a1_rules_4 fOp_a1_rules_4 fLf_a1_rules_4 fRt_a1_rules_4 nMv_a1_rules_4 fMv_a1_rules_4 a_t_ways_back a_t_order a_t_numberOf a_t_entered a2 (nI room) post (m + 2) kc ks (nI (w_sz W)) sd 1 joined (wr_n I st (w_ord W) k) w1 n back w2 n order w3 n numberOf w4 n entered g (nI S) (nI k) := by
  have hM' := id hM
  obtain ⟨hi0, hI, hb0, hS0, hS1, hst, hN, hG⟩ := hM'
  have fin : ∀ (k : Nat) (W : wk_T) (back order numberOf entered : Nat → Int32) (joined : Int32) (g : Nat → Nat → Int32), W = bf st I room first k → w_ok W = true → wk_inv S I st room k 0 W → k ≤ w_sz W → w_sz W ≤ k → wa_rep S W back order numberOf → wc_inv I st (w_ord W) (w_sz W) k 0 entered joined → MV g → post (nI (w_sz W)) sd 1 joined (wr_n I st (w_ord W) k) w1 n back w2 n order w3 n numberOf w4 n entered g := by
    intro k W back order numberOf entered joined g e1 e2 hw hk1 hk2 hr hc hg
    have hle := wk_le hw
    have e : k = w_sz W := by omega
    have hstop := bf_stop (st := st) (I := I) (room := room) (first := first) (k := k) (Or.inl (by rw [← e1]; exact hk2)) (S - k)
    rw [show k + (S - k) = S by omega, ← e1] at hstop
    refine hp _ _ _ _ _ _ _ _ _ ⟨W, hstop.symm, Or.inr ⟨rfl, e2, rfl, e ▸ hw, hr, ?_, by rw [← e]⟩⟩ hg
    rw [hc.2, ← e]; rfl
  intro m
  induction m with
  | zero =>
    intro k W back order numberOf entered joined g e1 e2 hw hk hr hc hg hm
    have hle := wk_le hw
    unfold wp_WA_run_L69
    exact pk_le S k (fun _ => fin k W back order numberOf entered joined g e1 e2 hw hk (by omega) hr hc hg) (fun h => absurd h (by omega))
  | succ m ih =>
    intro k W back order numberOf entered joined g e1 e2 hw hk hr hc hg hm
    have hle := wk_le hw
    unfold wp_WA_run_L69
    refine pk_le S k (fun _ => fin k W back order numberOf entered joined g e1 e2 hw hk (by omega) hr hc hg) (fun hkS => ?_)
    refine pk_le (w_sz W) k (fun _ => fin k W back order numberOf entered joined g e1 e2 hw hk (by omega) hr hc hg) (fun hks => ?_)
    refine ⟨fun h => absurd h (by decide), fun _ => ?_⟩
    unfold wp_WA_goOn
    refine ⟨pk_in k n (by omega), ?_⟩
    rintro _ rfl
    rw [nI_clamp (by omega), hr.2.1 k hks]
    have hrow : bf st I room first (k + 1) = bf_row st room k W I := by
      show (if k < w_sz (bf st I room first k) then _ else _) = _
      rw [← e1, if_pos hks]
    refine ⟨I + 1, ?_⟩
    refine s_WA_goOn_L14 hM hS hn hroom (W0 := W) (fun W' back order numberOf entered joined g e1' e2' hw' hk' hr' hc' hg' => ?_) (fun W' size joined resting back order numberOf entered g e1' e2' hg' => ?_) I 0 W back order numberOf entered joined g rfl e2 hw hks hr hc hg (by omega) (by omega)
    · rintro _ rfl
      rw [nI_1]
      exact ih (k + 1) W' back order numberOf entered joined g (by rw [hrow]; exact e1') e2' (wk_next hw') (by omega) hr' (wc_next hc') hg' (by omega)
    · rintro _ rfl
      rw [nI_1]
      have hz : w_ok (bf st I room first (k + 1)) = false := by rw [hrow, ← e1']; exact e2'
      have hstop := bf_stop (st := st) (I := I) (room := room) (first := first) (k := k + 1) (Or.inr hz) (S - (k + 1))
      rw [show k + 1 + (S - (k + 1)) = S by omega] at hstop
      have fin2 := hp size 0 joined resting back order numberOf entered g ⟨_, rfl, Or.inl ⟨rfl, by rw [hstop]; exact hz⟩⟩ hg'
      unfold wp_WA_run_L69
      refine br_c (fun _ => fin2) (fun _ => br_c (fun _ => fin2) (fun _ => br_t rfl fin2))
theorem s_WA_run {mc : Nat} {ms : Nat} {t_size : Int32} {t_stands : Int32} {t_fits : Int32} {t_joined : Int32} {t_resting : Int32} {f_t_ways_back : Nat → Int32} {f_t_order : Nat → Int32} {f_t_numberOf : Nat → Int32} {f_t_entered : Nat → Int32} {a1_registers : Int32} {a1_bits : Int32} {a1_inputs : Int32} {a1_transfers : Int32} {n_a1_shifts : Nat} {f_a1_shifts : Nat → Int32} {n_a1_masks : Nat} {f_a1_masks : Nat → Int32} {n_a1_rules : Nat} {f_a1_rules : Nat → Option Nat} {vTr_a1_rules_4 : Nat → Int32} {fTg_a1_rules_4 : Nat → Nat → Int32} {fOp_a1_rules_4 : Nat → Nat → Int32} {fLf_a1_rules_4 : Nat → Nat → Int32} {fRt_a1_rules_4 : Nat → Nat → Int32} {nMv_a1_rules_4 : Nat → Nat} {fMv_a1_rules_4 : Nat → Nat → Int32} {a_t_ways_back : Nat} {a_t_order : Nat} {a_t_numberOf : Nat} {a_t_entered : Nat} {n0 S I room first : Nat} {st out : Nat → Nat → Nat} {MV : (Nat → Nat → Int32) → Prop} {post : Int32 → Int32 → Int32 → Int32 → Int32 → Nat → Nat → (Nat → Int32) → Nat → Nat → (Nat → Int32) → Nat → Nat → (Nat → Int32) → Nat → Nat → (Nat → Int32) → (Nat → Nat → Int32) → Prop} (hM : ms_ok a1_registers a1_bits a1_inputs a1_transfers n_a1_shifts f_a1_shifts n_a1_masks f_a1_masks n_a1_rules f_a1_rules vTr_a1_rules_4 fTg_a1_rules_4 fOp_a1_rules_4 fLf_a1_rules_4 fRt_a1_rules_4 nMv_a1_rules_4 S I st out MV) (hn : n0 < 2 ^ 28) (hg : MV fMv_a1_rules_4) (hf : first < S) (hr0 : 0 < room) (hroom : room ≤ 4096) (hbud : n0 < S → 4 ≤ mc ∧ 4 * S ≤ ms)
    (hs : ¬ t_stands = 0 → wa_res S I st room first t_size t_fits t_joined t_resting f_t_ways_back f_t_order f_t_numberOf ∧ S ≤ n0)
    (hp : ∀ (size sd fits joined resting : Int32) (back order numberOf entered : Nat → Int32) (g : Nat → Nat → Int32) (w1 w2 w3 w4 n : Nat), sd ≠ 0 → wa_res S I st room first size fits joined resting back order numberOf → MV g → S ≤ n → (n = n0 ∨ n0 < S ∧ n = S) → post size sd fits joined resting w1 n back w2 n order w3 n numberOf w4 n entered g) :
    wp_WA_run mc ms t_size t_stands t_fits t_joined t_resting n0 f_t_ways_back n0 f_t_order n0 f_t_numberOf n0 f_t_entered a1_registers a1_bits a1_inputs a1_transfers n_a1_shifts f_a1_shifts n_a1_masks f_a1_masks n_a1_rules f_a1_rules vTr_a1_rules_4 fTg_a1_rules_4 fOp_a1_rules_4 fLf_a1_rules_4 fRt_a1_rules_4 nMv_a1_rules_4 fMv_a1_rules_4 a_t_ways_back a_t_order a_t_numberOf a_t_entered (nI first) (nI room) post := by
  have hM' := id hM
  obtain ⟨hi0, hI, hb0, hS0, hS1, hst, hN, hG⟩ := hM'
  unfold wp_WA_run
  refine ⟨fun _ => ?_, fun h => hp _ _ _ _ _ _ _ _ _ _ _ _ _ _ n0 h (hs h).1 hg (hs h).2 (Or.inl rfl)⟩
  unfold wp_MA_states
  rw [hb0]
  refine ⟨mc, ms, by omega, by omega, ?_⟩
  have key : ∀ (w1 w2 w3 w4 n : Nat) (back order numberOf entered : Nat → Int32), S ≤ n → (n = n0 ∨ n0 < S ∧ n = S) → wp_AR_fill n numberOf (-1) (fun f_a0_4 => wp_WA_come 0 1 1 0 0 n order n f_a0_4 n entered (nI first) (fun m_size_5 f_order_5 f_numberOf_5 f_entered_5 => wp_TR_start n back (0 : Int32) (fun f_back_6 => ∃ m : Nat, wp_WA_run_L69 mc ms t_size t_stands t_fits t_joined t_resting n0 f_t_ways_back n0 f_t_order n0 f_t_numberOf n0 f_t_entered a1_registers a1_bits a1_inputs a1_transfers n_a1_shifts f_a1_shifts n_a1_masks f_a1_masks n_a1_rules f_a1_rules vTr_a1_rules_4 fTg_a1_rules_4 fOp_a1_rules_4 fLf_a1_rules_4 fRt_a1_rules_4 nMv_a1_rules_4 fMv_a1_rules_4 a_t_ways_back a_t_order a_t_numberOf a_t_entered (nI first) (nI room) post m (0 + mc) (0 + ms) m_size_5 1 1 0 0 w1 n f_back_6 w2 n f_order_5 w3 n f_numberOf_5 w4 n f_entered_5 fMv_a1_rules_4 (nI S) 0))) := by
    intro w1 w2 w3 w4 n back order numberOf entered hSn hnn
    have hn2 : n < 2 ^ 28 := by omega
    refine s_AR_fill (by omega) (fun f hf4 => ?_)
    unfold wp_WA_come
    refine ⟨pk_in first n (by omega), ?_⟩
    rintro _ rfl
    refine ⟨pk_in 0 n (by omega), ?_⟩
    rintro _ rfl
    refine ⟨pk_in 0 n (by omega), ?_⟩
    rintro _ rfl _ rfl
    unfold wp_TR_start
    refine ⟨pk_in 0 n (by omega), ?_⟩
    rintro _ rfl
    rw [nI_clamp (by omega), show (0 : Int32).toNatClampNeg = 0 from rfl]
    refine ⟨S + 2, ?_⟩
    have hw := wk_init (I := I) (st := st) (room := room) hf hr0
    refine s_WA_run_L69 hM hSn hn2 hroom (first := first) (fun size fits joined resting back order numberOf entered g hres hg => hp _ _ _ _ _ _ _ _ _ _ _ _ _ _ n (by decide) hres hg hSn hnn) S 0 (bf st I room first 0) _ _ _ _ 0 fMv_a1_rules_4 rfl rfl hw (by omega) ?_ ?_ hg (by omega)
    · refine ⟨fun j hj => Or.inl ⟨rfl, ?_⟩, fun j hj => ?_, fun t ht => ?_⟩
      · have : j = 0 := by have : j < 1 := hj; omega
        subst this; exact pk_us
      · have : j = 0 := by have : j < 1 := hj; omega
        subst this; exact pk_us
      · show _ = w_enc (va_up (fun _ => 0) first 1 t)
        by_cases e : t = first
        · subst e; rw [pk_us, q_us]; rfl
        · rw [pk_un e, q_un e, hf4 t (by omega)]; rfl
    · refine ⟨fun j hj => ?_, rfl⟩
      have : j = 0 := by have : j < 1 := hj; omega
      subst this; exact pk_us
  unfold wp_WA_makeRows
  refine pk_le S n0 (fun h => key _ _ _ _ n0 _ _ _ _ h (Or.inl rfl)) (fun h => ?_)
  obtain ⟨b1, b2⟩ := hbud h
  rw [nI_clamp (by omega)]
  refine ⟨nI_pos (by omega), by omega, by omega, by omega, fun q1 => ⟨nI_pos (by omega), by omega, by omega, by omega, fun q2 => ⟨nI_pos (by omega), by omega, by omega, by omega, fun q3 => ⟨1, S, by omega, by omega, ?_⟩⟩⟩⟩
  unfold wp_TR_makeRows
  rw [nI_clamp (by omega)]
  exact ⟨nI_pos (by omega), by omega, by omega, by omega, fun q4 => key _ _ _ _ S _ _ _ _ (Nat.le_refl _) (Or.inr ⟨h, rfl⟩)⟩

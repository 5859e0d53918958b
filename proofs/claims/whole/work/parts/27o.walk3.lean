theorem w_i0 {b : Bool} : ((if b = true then (1 : Int32) else 0) = 0) ↔ b = false := by cases b <;> decide
def wr_n (I : Nat) (st : Nat → Nat → Nat) (ord : Nat → Nat) (k : Nat) : Int32 := nI (cN (fun K => rs_b st ord K I) k)
theorem wr_cong {I : Nat} {st : Nat → Nat → Nat} {ord ord' : Nat → Nat} {k : Nat} (h : ∀ K, K < k → ord' K = ord K) : wr_n I st ord' k = wr_n I st ord k := by
  unfold wr_n
  congr 1
  exact cN_cong (fun K hK => by show rs_b st ord' K I = rs_b st ord K I; exact rs_cong (h K hK) I)
theorem wa_come {S I : Nat} {st : Nat → Nat → Nat} {room k i : Nat} {W : wk_T} {back order numberOf : Nat → Int32} (hI : I ≤ 4) (hw : wk_inv S I st room k i W) (hk : k < w_sz W) (hi : i < I) (h : wa_rep S W back order numberOf) :
    wa_rep S (bf_come (st (w_ord W k) i) k i W) (upd back (w_sz W) (nI (4 * k + i))) (upd order (w_sz W) (nI (st (w_ord W k) i))) (upd numberOf (st (w_ord W k) i) (nI (w_sz W))) := by
  obtain ⟨h1, h2, h3⟩ := h
  refine ⟨fun j hj => ?_, fun j hj => ?_, fun t ht => ?_⟩
  · show (va_up (w_wd W) (w_sz W) (w_wd W k ++ [i]) j = [] ∧ _) ∨ ∃ p x, p < j ∧ x < 4 ∧ _ ∧ va_up (w_wd W) (w_sz W) (w_wd W k ++ [i]) j = va_up (w_wd W) (w_sz W) (w_wd W k ++ [i]) p ++ [x]
    by_cases e : j = w_sz W
    · subst e
      exact Or.inr ⟨k, i, hk, by omega, pk_us, by rw [q_us, q_un (by omega)]⟩
    · have hj' : j < w_sz W := by have : j < w_sz W + 1 := hj; omega
      rw [pk_un e, q_un e]
      rcases h1 j hj' with z | ⟨p, x, z1, z2, z3, z4⟩
      · exact Or.inl z
      · exact Or.inr ⟨p, x, z1, z2, z3, by rw [q_un (by omega)]; exact z4⟩
  · show _ = nI (va_up (w_ord W) (w_sz W) (st (w_ord W k) i) j)
    by_cases e : j = w_sz W
    · subst e; rw [pk_us, q_us]
    · have hj' : j < w_sz W := by have : j < w_sz W + 1 := hj; omega
      rw [pk_un e, q_un e]; exact h2 j hj'
  · show _ = w_enc (va_up (w_num W) (st (w_ord W k) i) (w_sz W + 1) t)
    by_cases e : t = st (w_ord W k) i
    · subst e; rw [pk_us, q_us, w_enc1]
    · rw [pk_un e, q_un e]; exact h3 t ht
theorem s_WA_goOn_L14 {t_size : Int32} {t_stands : Int32} {t_fits : Int32} {t_joined : Int32} {t_resting : Int32} {f_t_ways_back : Nat → Int32} {f_t_order : Nat → Int32} {f_t_numberOf : Nat → Int32} {f_t_entered : Nat → Int32} {a1_registers : Int32} {a1_bits : Int32} {a1_inputs : Int32} {a1_transfers : Int32} {n_a1_shifts : Nat} {f_a1_shifts : Nat → Int32} {n_a1_masks : Nat} {f_a1_masks : Nat → Int32} {n_a1_rules : Nat} {f_a1_rules : Nat → Option Nat} {vTr_a1_rules_4 : Nat → Int32} {fTg_a1_rules_4 : Nat → Nat → Int32} {fOp_a1_rules_4 : Nat → Nat → Int32} {fLf_a1_rules_4 : Nat → Nat → Int32} {fRt_a1_rules_4 : Nat → Nat → Int32} {nMv_a1_rules_4 : Nat → Nat} {fMv_a1_rules_4 : Nat → Nat → Int32} {n S I k room : Nat} {W0 : wk_T} {st out : Nat → Nat → Nat} {MV : (Nat → Nat → Int32) → Prop} {post : Int32 → Int32 → Int32 → Int32 → (Nat → Int32) → (Nat → Int32) → (Nat → Int32) → (Nat → Int32) → (Nat → Nat → Int32) → Prop} (hM : ms_ok a1_registers a1_bits a1_inputs a1_transfers n_a1_shifts f_a1_shifts n_a1_masks f_a1_masks n_a1_rules f_a1_rules vTr_a1_rules_4 fTg_a1_rules_4 fOp_a1_rules_4 fLf_a1_rules_4 fRt_a1_rules_4 nMv_a1_rules_4 S I st out MV) (hS : S ≤ n) (hn : n < 2 ^ 28) (hroom : room ≤ 4096)
    (hp1 : ∀ (W : wk_T) (back order numberOf entered : Nat → Int32) (joined : Int32) (g : Nat → Nat → Int32), W = bf_row st room k W0 I → w_ok W = true → wk_inv S I st room k I W → k < w_sz W → wa_rep S W back order numberOf → wc_inv I st (w_ord W) (w_sz W) k I entered joined → MV g → post (nI (w_sz W)) 1 joined (wr_n I st (w_ord W) (k + 1)) back order numberOf entered g)
    (hp2 : ∀ (W : wk_T) (size joined resting : Int32) (back order numberOf entered : Nat → Int32) (g : Nat → Nat → Int32), W = bf_row st room k W0 I → w_ok W = false → MV g → post size 0 joined resting back order numberOf entered g) :
    ∀ (m i : Nat) (W : wk_T) (back order numberOf entered : Nat → Int32) (joined : Int32) (g : Nat → Nat → Int32), W = bf_row st room k W0 i → w_ok W = true → wk_inv S I st room k i W → k < w_sz W → wa_rep S W back order numberOf → wc_inv I st (w_ord W) (w_sz W) k i entered joined → MV g → i ≤ I → I - i ≤ m →
      wp_WA_goOn_L14 t_size t_stands t_fits t_joined t_resting n f_t_ways_back n f_t_order n f_t_numberOf n f_t_entered a1_registers a1_bits a1_inputs a1_transfers n_a1_shifts f_a1_shifts n_a1_masks f_a1_masks n_a1_rules f_a1_rules vTr_a1_rules_4 fTg_a1_rules_4 fOp_a1_rules_4 fLf_a1_rules_4 fRt_a1_rules_4 nMv_a1_rules_4 fMv_a1_rules_4 (nI k) (nI room) post (m + 1) (nI (w_sz W)) 1 joined (wr_n I st (w_ord W) k) back order numberOf entered g (nI (w_ord W k)) (if rs_b st (w_ord W) k i = true then 1 else 0) (nI i) := by
  obtain ⟨hi0, hI, hb0, hS0, hS1, hst, hN, hG⟩ := hM
  subst hi0
  intro m
  have fin : ∀ (m : Nat) (W : wk_T) (back order numberOf entered : Nat → Int32) (joined : Int32) (g : Nat → Nat → Int32), W = bf_row st room k W0 I → w_ok W = true → wk_inv S I st room k I W → k < w_sz W → wa_rep S W back order numberOf → wc_inv I st (w_ord W) (w_sz W) k I entered joined → MV g →
      wp_WA_goOn_L14 t_size t_stands t_fits t_joined t_resting n f_t_ways_back n f_t_order n f_t_numberOf n f_t_entered a1_registers a1_bits (nI I) a1_transfers n_a1_shifts f_a1_shifts n_a1_masks f_a1_masks n_a1_rules f_a1_rules vTr_a1_rules_4 fTg_a1_rules_4 fOp_a1_rules_4 fLf_a1_rules_4 fRt_a1_rules_4 nMv_a1_rules_4 fMv_a1_rules_4 (nI k) (nI room) post (m + 1) (nI (w_sz W)) 1 joined (wr_n I st (w_ord W) k) back order numberOf entered g (nI (w_ord W k)) (if rs_b st (w_ord W) k I = true then 1 else 0) (nI I) := by
    intro m W back order numberOf entered joined g e1 e2 hw hk hr hc hg
    unfold wp_WA_goOn_L14
    refine pk_le I I (fun _ => ?_) (fun h => absurd h (by omega))
    have z := hp1 W back order numberOf entered joined g e1 e2 hw hk hr hc hg
    unfold wr_n at z ⊢
    unfold cN at z
    by_cases hb : rs_b st (w_ord W) k I = true
    · rw [if_pos hb] at z ⊢
      refine ⟨fun h => absurd h (by decide), fun _ => ?_⟩
      rintro _ rfl
      rw [show (1 : Int32) = nI 1 from rfl, nI_add]; exact z
    · rw [if_neg hb, Nat.add_zero] at z
      rw [if_neg hb]
      exact ⟨fun _ => z, fun h => absurd rfl h⟩
  induction m with
  | zero =>
    intro i W back order numberOf entered joined g e1 e2 hw hk hr hc hg hi hm
    have e : i = I := by omega
    subst e
    exact fin 0 W back order numberOf entered joined g e1 e2 hw hk hr hc hg
  | succ m ih =>
    intro i W back order numberOf entered joined g e1 e2 hw hk hr hc hg hi hm
    rcases Nat.lt_or_ge i I with hlt | hge
    · have hle := wk_le hw
      have hok := hw.2.2.1 k hk
      have htS := (hst _ i hok.1 hlt).1
      have hstep : bf_row st room k W0 (i + 1) = bf_in st room k i W := by rw [e1]; rfl
      -- from here on: enter, and go on
      have after : ∀ (W' : wk_T) (back order numberOf entered : Nat → Int32) (joined : Int32) (g : Nat → Nat → Int32), W' = bf_row st room k W0 (i + 1) → w_ok W' = true → wk_inv S I st room k (i + 1) W' → k < w_sz W' → wa_rep S W' back order numberOf → wc_inv I st (w_ord W') (w_sz W') k i entered joined → MV g → w_ord W' k = w_ord W k → wr_n I st (w_ord W') k = wr_n I st (w_ord W) k → rs_b st (w_ord W') k i = rs_b st (w_ord W) k i → w_num W' (st (w_ord W k) i) ≠ 0 →
          wp_WA_goOn_J78 t_size t_stands t_fits t_joined t_resting n f_t_ways_back n f_t_order n f_t_numberOf n f_t_entered a1_registers a1_bits (nI I) a1_transfers n_a1_shifts f_a1_shifts n_a1_masks f_a1_masks n_a1_rules f_a1_rules vTr_a1_rules_4 fTg_a1_rules_4 fOp_a1_rules_4 fLf_a1_rules_4 fRt_a1_rules_4 nMv_a1_rules_4 fMv_a1_rules_4 (nI k) (nI room) (wp_WA_goOn_L14 t_size t_stands t_fits t_joined t_resting n f_t_ways_back n f_t_order n f_t_numberOf n f_t_entered a1_registers a1_bits (nI I) a1_transfers n_a1_shifts f_a1_shifts n_a1_masks f_a1_masks n_a1_rules f_a1_rules vTr_a1_rules_4 fTg_a1_rules_4 fOp_a1_rules_4 fLf_a1_rules_4 fRt_a1_rules_4 nMv_a1_rules_4 fMv_a1_rules_4 (nI k) (nI room) post (m + 1)) post (nI (w_sz W')) 1 joined (wr_n I st (w_ord W) k) back order numberOf entered g (nI (w_ord W k)) (if rs_b st (w_ord W) k i = true then 1 else 0) (nI i) (nI (st (w_ord W k) i)) := by
        intro W' back order numberOf entered joined g e1' e2' hw' hk' hr' hc' hg' ho hres hrs hnz
        have hle' := wk_le hw'
        unfold wp_WA_goOn_J78
        refine ⟨pk_in _ n (Nat.lt_of_lt_of_le htS hS), ?_⟩
        rw [nI_clamp (by omega), hr'.2.2 _ htS]
        rcases hw'.2.2.2.1 (st (w_ord W k) i) with z | ⟨j, z1, z2, z3⟩
        · exact absurd z hnz
        rw [z2, w_enc1]
        refine wc_enter hI hS1 hn hS hw' hk' hlt hc' z1 (by rw [ho]; exact z3) (fun entered' joined' hc2 => ?_)
        have nx := ih (i + 1) W' back order numberOf entered' joined' g e1' e2' hw' hk' hr' hc2 hg' (by omega) (by omega)
        rw [hres, ho] at nx
        unfold rs_b at nx
        rw [hrs, ho] at nx
        by_cases hb : rs_b st (w_ord W) k i = true
        · rw [if_pos hb]
          rw [hb, Bool.true_and] at nx
          refine ⟨fun h => absurd h (by decide), fun _ => ⟨fun hne => ?_, fun heq => ?_⟩⟩
          · rintro _ rfl
            rw [nI_1]
            rw [if_neg (by simpa using fun z => hne (by rw [z]))] at nx
            exact nx
          · rintro _ rfl
            rw [nI_1]
            rw [if_pos (by simpa using (nI_eq (by omega) (by omega)).mp heq)] at nx
            exact nx
        · rw [if_neg hb]
          have hb' : rs_b st (w_ord W) k i = false := by simpa using hb
          rw [hb', Bool.false_and, if_neg (by simp)] at nx
          refine ⟨fun _ => ?_, fun h => absurd rfl h⟩
          rintro _ rfl
          rw [nI_1]
          exact nx
      unfold wp_WA_goOn_L14
      refine pk_le I i (fun h => absurd h (by omega)) (fun _ => ?_)
      refine hN _ _ _ _ hg hok.1 hlt (fun g1 hg1 => ?_)
      refine ⟨pk_in _ n (Nat.lt_of_lt_of_le htS hS), ?_⟩
      rw [nI_clamp (by omega), hr.2.2 _ htS]
      by_cases h0 : w_num W (st (w_ord W k) i) = 0
      · rw [h0, w_enc0]
        refine ⟨fun h => absurd rfl h, fun _ => ?_⟩
        refine pk_lt (w_sz W) room (fun hlt2 => ?_) (fun hge2 => ?_)
        · have hin : bf_in st room k i W = bf_come (st (w_ord W k) i) k i W := by
            unfold bf_in; rw [if_pos e2, if_pos h0, if_neg (by omega)]
          have hw' := wk_come hw hk hlt e2 htS h0 hlt2
          have hle' : w_sz W + 1 ≤ S := wk_le hw'
          refine s_TR_lead (by omega) hn ?_
          unfold wp_WA_come
          refine ⟨pk_in _ n (Nat.lt_of_lt_of_le htS hS), ?_⟩
          rintro _ rfl
          refine ⟨pk_in (w_sz W) n (by omega), ?_⟩
          rintro _ rfl
          refine ⟨pk_in (w_sz W) n (by omega), ?_⟩
          rintro _ rfl _ rfl
          rw [nI_clamp (by omega), nI_clamp (by omega), show (1 : Int32) = nI 1 from rfl, nI_add]
          exact after (bf_come (st (w_ord W k) i) k i W) _ _ _ _ joined g1 (by rw [hstep, hin]) rfl hw' (Nat.lt_succ_of_lt hk) (wa_come hI hw hk hlt hr) (wc_come hw hk hlt e2 h0 hc) hg1 (q_un (by omega)) (wr_cong (fun K hK => q_un (by omega))) (rs_cong (q_un (by omega)) i) (by show va_up _ _ _ _ ≠ 0; rw [q_us]; exact Nat.succ_ne_zero _)
        · have hin : bf_in st room k i W = (w_sz W, w_ord W, w_num W, w_wd W, false) := by
            unfold bf_in; rw [if_pos e2, if_pos h0, if_pos hge2]
          have hz : w_ok (bf_row st room k W0 (i + 1)) = false := by rw [hstep, hin]
          have hs := bf_row_stop hz (I - (i + 1))
          rw [show i + 1 + (I - (i + 1)) = I by omega] at hs
          exact hp2 _ _ _ _ _ _ _ _ g1 rfl (by rw [hs]; exact hz) hg1
      · have hin : bf_in st room k i W = W := by
          unfold bf_in; rw [if_pos e2, if_neg h0]
        rcases hw.2.2.2.1 (st (w_ord W k) i) with z | ⟨j, z1, z2, z3⟩
        · exact absurd z h0
        rw [z2, w_enc1]
        refine ⟨fun _ => ?_, fun h => absurd h (q_m1 (by omega))⟩
        exact after W _ _ _ _ joined g1 (by rw [hstep, hin]) e2 (wk_stay hw h0) hk hr hc hg1 rfl rfl rfl h0
    · have e : i = I := by omega
      subst e
      exact fin (m + 1) W back order numberOf entered joined g e1 e2 hw hk hr hc hg

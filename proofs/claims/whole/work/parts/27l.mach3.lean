def mv_ok (B I : Nat) (st out : Nat → Nat → Nat) (g : Nat → Nat → Int32) : Prop := ∀ i, i < I → ∀ s, s < 2 ^ B → g i s = -1 ∨ g i s = nI (4096 * out s i + st s i)
theorem mv_up {B I : Nat} {st out : Nat → Nat → Nat} {g : Nat → Nat → Int32} {i s : Nat} {f' : Nat → Int32} (h : mv_ok B I st out g) (h1 : ∀ x, x ≠ s → f' x = g i x) (h2 : f' s = nI (4096 * out s i + st s i)) : mv_ok B I st out (va_up g i f') := by
  intro j hj x hx
  unfold va_up
  by_cases e : j = i
  · subst e
    rw [if_pos rfl]
    by_cases e2 : x = s
    · subst e2; exact Or.inr h2
    · rw [h1 x e2]; exact h j hj x hx
  · rw [if_neg e]; exact h j hj x hx
theorem q_1sh {B : Nat} (hB : B ≤ 12) : (1 : Int32) <<< (nI B &&& 31) = nI (2 ^ B) := by
  have hB2 : (2 : Nat) ^ B ≤ 2 ^ 12 := Nat.pow_le_pow_right (by omega) hB
  have := pk_shlN (n := 1) (nI B &&& 31) B (q_sl B (by omega)) (by omega)
  rw [Nat.one_mul] at this
  exact this
theorem ms_of {t_registers : Int32} {t_transfers : Int32} {f_t_shifts : Nat → Int32} {f_t_masks : Nat → Int32} {f_t_rules : Nat → Option Nat} {vTr_t_rules_4 : Nat → Int32} {fTg_t_rules_4 : Nat → Nat → Int32} {fOp_t_rules_4 : Nat → Nat → Int32} {fLf_t_rules_4 : Nat → Nat → Int32} {fRt_t_rules_4 : Nat → Nat → Int32} {nMv_t_rules_4 : Nat → Nat} {R B I : Nat} {fw fs fq fx fy fn ft fo fa fb : Nat → Int32} (hW : mc_W R B fw fs) (hI : mc_I R I fx fy fn ft fa fb) (hs : ∀ r, r < R → f_t_shifts r = fs r ∧ f_t_masks r = mc_msk (fw r)) (hr : ∀ i, i < I → mt_rule i (vTr_t_rules_4 i) (fTg_t_rules_4 i) (fOp_t_rules_4 i) (fLf_t_rules_4 i) (fRt_t_rules_4 i) fq fx fy fn ft fo fa fb ∧ nMv_t_rules_4 i = 2 ^ B) :
    ms_ok t_registers (nI B) (nI I) t_transfers 4 f_t_shifts 4 f_t_masks 4 f_t_rules vTr_t_rules_4 fTg_t_rules_4 fOp_t_rules_4 fLf_t_rules_4 fRt_t_rules_4 nMv_t_rules_4 (2 ^ B) I (mc_st fw fs fn ft fo fa fb) (mc_out fw fs fq fx fy) (mv_ok B I (mc_st fw fs fn ft fo fa fb) (mc_out fw fs fq fx fy)) := by
  have hB2 : (2 : Nat) ^ B ≤ 2 ^ 12 := Nat.pow_le_pow_right (by omega) hW.2.1
  refine ⟨rfl, hI.1, q_1sh hW.2.1, Nat.two_pow_pos B, hB2, fun s i hs hi => ⟨(mc_st_ok hW hI hi hs).1, (mc_out_ok fw fs fq fx fy s i).1⟩, ?_, ?_⟩
  · intro g s i post hg hsS hi hp
    have hI4 := hI.1
    unfold wp_MA4_next wp_MA_next
    refine ⟨i, by omega, rfl, ?_⟩
    rw [(hr i hi).2]
    have hst := (mc_st_ok (fo := fo) hW hI hi hsS).1
    have ho := (mc_out_ok fw fs fq fx fy s i).1
    refine s_MA_move hW hI hs (hr i hi).1 hi hsS (hg i hi s hsS) (fun f' h1 h2 => ?_)
    have e : nI (4096 * mc_out fw fs fq fx fy s i + mc_st fw fs fn ft fo fa fb s i) &&& (4095 : Int32) = nI (mc_st fw fs fn ft fo fa fb s i) := by
      rw [pk_andN (by omega) 12 (by decide)]
      congr 1
      omega
    rw [e]
    exact hp _ (mv_up hg h1 h2)
  · intro g s i post hg hsS hi hp
    have hI4 := hI.1
    unfold wp_MA4_given wp_MA_given
    refine ⟨i, by omega, rfl, ?_⟩
    rw [(hr i hi).2]
    have hst := (mc_st_ok (fo := fo) hW hI hi hsS).1
    have ho := (mc_out_ok fw fs fq fx fy s i).1
    refine s_MA_move hW hI hs (hr i hi).1 hi hsS (hg i hi s hsS) (fun f' h1 h2 => ?_)
    have e : nI (4096 * mc_out fw fs fq fx fy s i + mc_st fw fs fn ft fo fa fb s i) >>> ((12 : Int32) &&& 31) = nI (mc_out fw fs fq fx fy s i) := by
      rw [pk_shrN (by omega) _ 12 (by decide)]
      congr 1
      omega
    rw [e]
    exact hp _ (mv_up hg h1 h2)

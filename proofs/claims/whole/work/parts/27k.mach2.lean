theorem s_MA_operandValue {t_registers : Int32} {t_bits : Int32} {t_inputs : Int32} {t_transfers : Int32} {f_t_shifts : Nat → Int32} {f_t_masks : Nat → Int32} {R B : Nat} {s a : Int32} {fw fs : Nat → Int32} {post : Int32 → Prop} (hW : mc_W R B fw fs) (hs : ∀ r, r < R → f_t_shifts r = fs r ∧ f_t_masks r = mc_msk (fw r)) (ha : mc_op R a) (hp : post (mc_val fw fs s a)) : wp_MA_operandValue t_registers t_bits t_inputs t_transfers 4 f_t_shifts 4 f_t_masks a s post := by
  unfold wp_MA_operandValue
  have := hW.1
  unfold mc_val at hp
  rcases ha with ⟨r, hr, rfl⟩ | ⟨h0, c, hc, e⟩
  · rw [if_pos (nI_pos' (by omega)), nI_clamp (by omega)] at hp
    refine br_t (nI_pos' (by omega)) ⟨pk_in r 4 (by omega), pk_in r 4 (by omega), ?_⟩
    rw [nI_clamp (by omega), (hs r hr).1, (hs r hr).2]; exact hp
  · rw [if_neg h0] at hp
    exact br_f h0 hp
theorem s_MA_valueOf {o : Int32} {x y : Nat} {post : Int32 → Prop} (hx : x < 16) (hp : post (mc_res o (nI x) (nI y))) : wp_MA_valueOf o (nI x) (nI y) post := by
  unfold wp_MA_valueOf
  have e : nI x >>> ((1 : Int32) &&& 31) = nI x / (2 : Int32) := by
    rw [pk_shrN (by omega) _ 1 (by decide), show (2 : Int32) = nI 2 from rfl, pk_div (by omega) (by omega) (by omega)]
  rw [e]
  exact mc_cases hp
theorem s_MA_withRegister {t_registers : Int32} {t_bits : Int32} {t_inputs : Int32} {t_transfers : Int32} {f_t_shifts : Nat → Int32} {f_t_masks : Nat → Int32} {R B r : Nat} {t v : Int32} {fw fs : Nat → Int32} {post : Int32 → Prop} (hW : mc_W R B fw fs) (hs : ∀ r, r < R → f_t_shifts r = fs r ∧ f_t_masks r = mc_msk (fw r)) (hr : r < R) (hp : post (mc_put (fw r) (fs r) t v)) : wp_MA_withRegister t_registers t_bits t_inputs t_transfers 4 f_t_shifts 4 f_t_masks t (nI r) v post := by
  unfold wp_MA_withRegister
  have := hW.1
  refine ⟨pk_in r 4 (by omega), pk_in r 4 (by omega), ?_⟩
  rintro _ rfl
  refine ⟨pk_in r 4 (by omega), pk_in r 4 (by omega), ?_⟩
  rw [nI_clamp (by omega), (hs r hr).1, (hs r hr).2]; exact hp
/-- one rule holds what the reference holds of the input -/
def mt_rule (i : Nat) (v : Int32) (gt go gl gr : Nat → Int32) (fq fx fy fn ft fo fa fb : Nat → Int32) : Prop :=
  v = fn i ∧ go 0 = fq i ∧ gl 0 = fx i ∧ gr 0 = fy i ∧ ∀ j, j < (fn i).toNatClampNeg → gt (j + 1) = ft (8 * i + j) ∧ go (j + 1) = fo (8 * i + j) ∧ gl (j + 1) = fa (8 * i + j) ∧ gr (j + 1) = fb (8 * i + j)
theorem q_mv {o t : Nat} (ho : o < 16) (ht : t < 4096) : nI o <<< ((12 : Int32) &&& 31) ||| nI t = nI (4096 * o + t) := by
  rw [pk_shlN _ 12 (by decide) (by omega), q_or (by omega) (by omega)]
  have := Nat.two_pow_add_eq_or_of_lt (i := 12) (b := t) ht o
  rw [show o * 2 ^ 12 = 2 ^ 12 * o from Nat.mul_comm _ _, ← this]
theorem s_MA_move {t_registers : Int32} {t_bits : Int32} {t_inputs : Int32} {t_transfers : Int32} {f_t_shifts : Nat → Int32} {f_t_masks : Nat → Int32} {f_t_rules : Nat → Option Nat} {t_rules_r_transfers : Int32} {f_t_rules_r_targets : Nat → Int32} {f_t_rules_r_ops : Nat → Int32} {f_t_rules_r_lefts : Nat → Int32} {f_t_rules_r_rights : Nat → Int32} {f_t_rules_r_moves : Nat → Int32} {R B I i s : Nat} {fw fs fq fx fy fn ft fo fa fb : Nat → Int32} {post : Int32 → (Nat → Int32) → Prop} (hW : mc_W R B fw fs) (hI : mc_I R I fx fy fn ft fa fb) (hs : ∀ r, r < R → f_t_shifts r = fs r ∧ f_t_masks r = mc_msk (fw r)) (hr : mt_rule i t_rules_r_transfers f_t_rules_r_targets f_t_rules_r_ops f_t_rules_r_lefts f_t_rules_r_rights fq fx fy fn ft fo fa fb) (hi : i < I) (hsS : s < 2 ^ B)
    (hm : f_t_rules_r_moves s = -1 ∨ f_t_rules_r_moves s = nI (4096 * mc_out fw fs fq fx fy s i + mc_st fw fs fn ft fo fa fb s i))
    (hp : ∀ f', (∀ x, x ≠ s → f' x = f_t_rules_r_moves x) → f' s = nI (4096 * mc_out fw fs fq fx fy s i + mc_st fw fs fn ft fo fa fb s i) → post (nI (4096 * mc_out fw fs fq fx fy s i + mc_st fw fs fn ft fo fa fb s i)) f') :
    wp_MA_move t_registers t_bits t_inputs t_transfers 4 f_t_shifts 4 f_t_masks 4 f_t_rules t_rules_r_transfers 9 f_t_rules_r_targets 9 f_t_rules_r_ops 9 f_t_rules_r_lefts 9 f_t_rules_r_rights (2^B) f_t_rules_r_moves (nI s) (nI i) post := by
  unfold wp_MA_move
  have hB2 : (2 : Nat) ^ B ≤ 2 ^ 12 := Nat.pow_le_pow_right (by omega) hW.2.1
  have hI4 := hI.1
  have hR4 := hW.1
  have ho := mc_out_ok fw fs fq fx fy s i
  have hst := mc_st_ok (fo := fo) hW hI hi hsS
  refine ⟨pk_in i 4 (by omega), pk_in s (2 ^ B) hsS, ?_⟩
  rw [nI_clamp (by omega)]
  by_cases hc : f_t_rules_r_moves s = -1
  · refine br_t hc ?_
    obtain ⟨t, ht, et, _⟩ := hI.2.1 i (by omega)
    obtain ⟨r1, r2, r3, r4, r5⟩ := hr
    rw [et, nI_clamp (by omega)] at hst r5
    rw [et] at r1
    subst r1
    have hops := hI.2.2 i hi
    rw [et, nI_clamp (by omega)] at hops
    have key : ∀ (k j : Nat), j ≤ t → t - j ≤ k → wp_MA_move_L33 t_registers t_bits t_inputs t_transfers 4 f_t_shifts 4 f_t_masks 4 f_t_rules (nI t) 9 f_t_rules_r_targets 9 f_t_rules_r_ops 9 f_t_rules_r_lefts 9 f_t_rules_r_rights (2 ^ B) f_t_rules_r_moves (nI s) (nI i) post (k + 1) f_t_rules_r_moves (nI (mc_out fw fs fq fx fy s i)) (mc_step fw fs ft fo fa fb i (nI s) j) (nI (j + 1)) := by
      intro k
      have fin : wp_MA_move_L33 t_registers t_bits t_inputs t_transfers 4 f_t_shifts 4 f_t_masks 4 f_t_rules (nI t) 9 f_t_rules_r_targets 9 f_t_rules_r_ops 9 f_t_rules_r_lefts 9 f_t_rules_r_rights (2 ^ B) f_t_rules_r_moves (nI s) (nI i) post (k + 1) f_t_rules_r_moves (nI (mc_out fw fs fq fx fy s i)) (mc_step fw fs ft fo fa fb i (nI s) t) (nI (t + 1)) := by
        unfold wp_MA_move_L33
        refine pk_lt t (t + 1) (fun _ => ?_) (fun h => absurd h (by omega))
        rw [hst.2, q_mv ho.1 (by omega)]
        rintro _ rfl
        refine ⟨pk_in s (2 ^ B) hsS, ?_⟩
        rintro _ rfl
        refine ⟨pk_in s (2 ^ B) hsS, ?_⟩
        rw [nI_clamp (by omega), pk_us]
        exact hp _ (fun x hx => pk_un hx) pk_us
      induction k with
      | zero =>
        intro j hj hk
        have e : j = t := by omega
        subst e
        exact fin
      | succ k ih =>
        intro j hj hk
        rcases Nat.lt_or_ge j t with hlt | hge
        · unfold wp_MA_move_L33
          refine pk_lt t (j + 1) (fun h => absurd h (by omega)) (fun _ => ⟨pk_in (j + 1) 9 (by omega), ?_⟩)
          obtain ⟨a1, a2, a3, a4⟩ := r5 j hlt
          obtain ⟨b1, b2, r, hr, er⟩ := hops.2.2 j hlt
          rw [nI_clamp (by omega), a1, a2, a3, a4]
          refine s_MA_operandValue hW hs b1 ⟨pk_in (j + 1) 9 (by omega), s_MA_operandValue hW hs b2 ⟨pk_in (j + 1) 9 (by omega), ?_⟩⟩
          obtain ⟨v1, hv1, ev1⟩ := mc_val_lt (s := nI s) hW b1
          obtain ⟨v2, hv2, ev2⟩ := mc_val_lt (s := nI s) hW b2
          have z := ih (by
            unfold wp_MA_move_L33
            refine pk_lt t (t + 1) (fun _ => ?_) (fun h => absurd h (by omega))
            rw [hst.2, q_mv ho.1 (by omega)]
            rintro _ rfl
            refine ⟨pk_in s (2 ^ B) hsS, ?_⟩
            rintro _ rfl
            refine ⟨pk_in s (2 ^ B) hsS, ?_⟩
            rw [nI_clamp (by omega), pk_us]
            exact hp _ (fun x hx => pk_un hx) pk_us) (j + 1) (by omega) (by omega)
          rw [ev1, ev2]
          refine s_MA_valueOf hv1 ?_
          rw [← ev1, ← ev2, er]
          refine ⟨fun _ => ⟨pk_in (j + 1) 9 (by omega), s_MA_withRegister hW hs hr ?_⟩, fun h => absurd h (nI_ne0 (by omega) (by omega))⟩
          rintro _ rfl
          rw [nI_1]
          unfold mc_step at z
          rw [er, nI_clamp (by omega)] at z
          exact z
        · have e : j = t := by omega
          subst e
          exact fin
    refine ⟨t + 2, ?_⟩
    unfold wp_MA_move_L33
    refine pk_lt t 0 (fun h => absurd h (by omega)) (fun _ => ⟨pk_in 0 9 (by omega), ?_⟩)
    rw [show (0 : Int32).toNatClampNeg = 0 from rfl, r2, r3, r4]
    refine s_MA_operandValue hW hs hops.1 ⟨pk_in 0 9 (by omega), s_MA_operandValue hW hs hops.2.1 ⟨pk_in 0 9 (by omega), ?_⟩⟩
    obtain ⟨v1, hv1, ev1⟩ := mc_val_lt (s := nI s) hW hops.1
    obtain ⟨v2, hv2, ev2⟩ := mc_val_lt (s := nI s) hW hops.2.1
    rw [ev1, ev2]
    refine s_MA_valueOf hv1 ?_
    rw [← ev1, ← ev2]
    refine ⟨fun h => absurd rfl h, fun _ => ?_⟩
    rw [ho.2]
    rintro _ rfl _ rfl
    exact key t 0 (by omega) (by omega)
  · refine br_f hc ⟨pk_in s (2 ^ B) hsS, ?_⟩
    rcases hm with hm | hm
    · exact absurd hm hc
    · rw [hm]; exact hp _ (fun _ _ => rfl) hm

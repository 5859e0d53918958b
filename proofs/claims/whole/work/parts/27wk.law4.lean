def q_op (R : Nat) (a : Int32) : Prop := ¬ a < (-16) ∧ ¬ nI R ≤ a
def q_ex (R : Nat) (o a b : Int32) : Prop := q_is 10 o ∧ q_op R a ∧ q_op R b
theorem q_op_mc {R : Nat} {a : Int32} (h : q_op R a) : mc_op R a := by
  by_cases h0 : a < 0
  · refine Or.inr ⟨fun z => ?_, ?_⟩
    · rw [q_lt] at h0; rw [q_le] at z; omega
    · have e16 : (-16 : Int32).toInt = -16 := by decide
      have e0 : (0 : Int32).toInt = 0 := rfl
      have e1 : (-1 : Int32).toInt = -1 := by decide
      have h1 := h.1
      rw [q_lt] at h0 h1
      have hm : ((-1 : Int32) - a).toInt = -1 - a.toInt := by
        rw [Int32.toInt_sub, e1, Int.bmod_def]; split <;> omega
      refine ⟨(-1 - a.toInt).toNat, by omega, q_ext ?_⟩
      rw [hm, nI_toInt (by omega)]; omega
  · obtain ⟨k, hk, rfl⟩ := nI_of h0
    refine Or.inl ⟨k, ?_, rfl⟩
    rcases Nat.lt_or_ge k R with z | z
    · exact z
    · exact absurd (nI_le z hk) h.2
theorem s_MA_hasOperand {t_bits : Int32} {t_inputs : Int32} {t_transfers : Int32} {R : Nat} {a : Int32} {post : Int32 → Prop} (h1 : q_op R a → post 1) (h0 : ¬ q_op R a → post 0) : wp_MA_hasOperand (nI R) t_bits t_inputs t_transfers a post := by
  unfold wp_MA_hasOperand
  exact ⟨fun z => h0 (fun q => q.1 z), fun z => ⟨fun y => h0 (fun q => q.2 y), fun y => h1 ⟨z, y⟩⟩⟩
theorem s_MA_hasExpression {t_bits : Int32} {t_inputs : Int32} {t_transfers : Int32} {R : Nat} {o a b : Int32} {post : Int32 → Prop} (h1 : q_ex R o a b → post 1) (h0 : ¬ q_ex R o a b → post 0) : wp_MA_hasExpression (nI R) t_bits t_inputs t_transfers o a b post := by
  unfold wp_MA_hasExpression
  rcases q_ix o (N := 10) (by omega) with ⟨h, g⟩ | ⟨h, h3, g⟩ | ⟨k, hk, rfl⟩
  · exact br_t h (h0 (fun q => g q.1))
  · exact br_f h (br_t h3 (h0 (fun q => g q.1)))
  · refine br_f (nI_pos (by omega)) (pk_le 10 k (fun h => absurd h (by omega)) (fun _ => ?_))
    exact s_MA_hasOperand (fun qa => ⟨fun z => absurd z (by decide), fun _ => s_MA_hasOperand (fun qb => ⟨fun z => absurd z (by decide), fun _ => h1 ⟨⟨k, hk, rfl⟩, qa, qb⟩⟩) (fun qb => ⟨fun _ => h0 (fun q => qb q.2.2), fun z => absurd rfl z⟩)⟩) (fun qa => ⟨fun _ => h0 (fun q => qa q.2.1), fun z => absurd rfl z⟩)
theorem s_MO_isOperand {t_thrown : Int32} {t_room : Int32} {t_bits : Int32} {t_inputs : Int32} {t_first : Int32} {t_isFresh : Int32} {t_isRoom : Int32} {t_walked : Int32} {t_parts : Int32} {t_nodes : Int32} {t_classes : Int32} {R : Nat} {a : Int32} {post : Int32 → Prop} (hR : R < 2 ^ 31) (h1 : q_op R a → post 1) (h0 : ¬ q_op R a → post 0) : wp_MO_isOperand t_thrown t_room (nI R) t_bits t_inputs t_first t_isFresh t_isRoom t_walked t_parts t_nodes t_classes a post := by
  unfold wp_MO_isOperand wp_MO_within
  have e : nI R - (1 : Int32) < a ↔ nI R ≤ a := by rw [q_lt, q_le, q_pm1 hR, nI_toInt hR]; omega
  exact ⟨fun z => ⟨rfl, h0 (fun q => q.1 z)⟩, fun z => ⟨fun y => ⟨rfl, h0 (fun q => q.2 (e.mp y))⟩, fun y => ⟨rfl, h1 ⟨z, fun x => y (e.mpr x)⟩⟩⟩⟩
theorem s_MO_isExpression {t_thrown : Int32} {t_room : Int32} {t_bits : Int32} {t_inputs : Int32} {t_first : Int32} {t_isFresh : Int32} {t_isRoom : Int32} {t_walked : Int32} {t_parts : Int32} {t_nodes : Int32} {t_classes : Int32} {R : Nat} {o a b : Int32} {post : Int32 → Prop} (hR : R < 2 ^ 31) (h1 : q_ex R o a b → post 1) (h0 : ¬ q_ex R o a b → post 0) : wp_MO_isExpression t_thrown t_room (nI R) t_bits t_inputs t_first t_isFresh t_isRoom t_walked t_parts t_nodes t_classes o a b post := by
  unfold wp_MO_isExpression
  rw [show (9 : Int32) = nI 10 - 1 by decide]
  by_cases ho : q_is 10 o
  · obtain ⟨k, hk, rfl⟩ := ho
    refine s_MO_within1 (by omega) hk ⟨fun z => absurd z (by decide), fun _ => ?_⟩
    exact s_MO_isOperand hR (fun qa => ⟨fun z => absurd z (by decide), fun _ => s_MO_isOperand hR (fun qb => ⟨fun z => absurd z (by decide), fun _ => h1 ⟨⟨k, hk, rfl⟩, qa, qb⟩⟩) (fun qb => ⟨fun _ => h0 (fun q => qb q.2.2), fun z => absurd rfl z⟩)⟩) (fun qa => ⟨fun _ => h0 (fun q => qa q.2.1), fun z => absurd rfl z⟩)
  · exact s_MO_within0 (by omega) ho ⟨fun _ => h0 (fun q => ho q.1), fun z => absurd rfl z⟩
theorem s_hasRegister1 {t_bits : Int32} {t_inputs : Int32} {t_transfers : Int32} {R r : Nat} {post : Int32 → Prop} (hR : R ≤ 4) (hr : r < R) (hp : post 1) : wp_MA_hasRegister (nI R) t_bits t_inputs t_transfers (nI r) post := by
  unfold wp_MA_hasRegister
  exact br_f (nI_pos (by omega)) (pk_le R r (fun h => absurd h (by omega)) (fun _ => hp))
theorem s_hasRegister0 {t_bits : Int32} {t_inputs : Int32} {t_transfers : Int32} {R : Nat} {a : Int32} {post : Int32 → Prop} (hR : R ≤ 4) (ha : ¬ q_is R a) (hp : post 0) : wp_MA_hasRegister (nI R) t_bits t_inputs t_transfers a post := by
  unfold wp_MA_hasRegister
  rcases q_ix a (N := R) (by omega) with ⟨h, g⟩ | ⟨h, h3, g⟩ | ⟨k, hk, e⟩
  · exact br_t h hp
  · exact br_f h (br_t h3 hp)
  · exact absurd ⟨k, hk, e⟩ ha
section IVM
variable {R B I : Nat} {xr xb xn xt mr mb mn o a b : Int32} {shifts masks vTr : Nat → Int32} {fTg fOp fLf fRt : Nat → Nat → Int32} {nMv : Nat → Nat} {fw fs fq fx fy fn ft fo fa fb : Nat → Int32}
theorem iv_input (h : iv_m R B I xr xb xn xt shifts masks vTr fTg fOp fLf fRt nMv mr mb mn fw fs fq fx fy fn ft fo fa fb) (hIl : I < 4) (ha : mc_op R a) (hb : mc_op R b) :
    iv_m R B (I + 1) xr xb (nI (I + 1)) xt shifts masks vTr fTg (va_up fOp I (upd (fOp I) 0 o)) (va_up fLf I (upd (fLf I) 0 a)) (va_up fRt I (upd (fRt I) 0 b)) (va_up nMv I (2 ^ B)) mr mb (nI (I + 1)) fw fs (upd fq I o) (upd fx I a) (upd fy I b) fn ft fo fa fb := by
  obtain ⟨e1, e2, e3, e4, e5, e6, hW, ⟨hI1, hI2, hI3⟩, hsh, hru, hvz, htr⟩ := h
  obtain ⟨t0, _, et0, ht0⟩ := hI2 I hIl
  have ht1 := ht0 (Nat.le_refl _)
  subst ht1
  refine ⟨e1, e2, rfl, e4, e5, rfl, hW, ⟨by omega, fun i hi => ?_, fun i hi => ?_⟩, hsh, fun i hi => ?_, fun i h1 h2 => hvz i (by omega) h2, htr⟩
  · obtain ⟨t, z1, z2, z3⟩ := hI2 i hi
    exact ⟨t, z1, z2, fun h => z3 (by omega)⟩
  · by_cases e : i = I
    · rw [e, pk_us, pk_us]
      refine ⟨ha, hb, fun j hj => ?_⟩
      rw [et0, nI_clamp (by omega)] at hj
      exact absurd hj (by omega)
    · rw [pk_un e, pk_un e]; exact hI3 i (by omega)
  · by_cases e : i = I
    · rw [e, q_us, q_us, q_us, q_us]
      refine ⟨⟨?_, ?_, ?_, ?_, fun j hj => ?_⟩, rfl⟩
      · rw [hvz I (Nat.le_refl _) hIl, et0]; rfl
      · rw [pk_us, pk_us]
      · rw [pk_us, pk_us]
      · rw [pk_us, pk_us]
      · rw [et0, nI_clamp (by omega)] at hj
        exact absurd hj (by omega)
    · rw [q_un e, q_un e, q_un e, q_un e]
      obtain ⟨⟨z1, z2, z3, z4, z5⟩, z6⟩ := hru i (by omega)
      exact ⟨⟨z1, by rw [pk_un e]; exact z2, by rw [pk_un e]; exact z3, by rw [pk_un e]; exact z4, z5⟩, z6⟩
theorem iv_transfer {i t r : Nat} (h : iv_m R B I xr xb xn xt shifts masks vTr fTg fOp fLf fRt nMv mr mb mn fw fs fq fx fy fn ft fo fa fb) (hi : i < I) (ht : t < 8) (et : fn i = nI t) (hr : r < R) (ha : mc_op R a) (hb : mc_op R b) :
    iv_m R B I xr xb xn (xt + 1) shifts masks (va_up vTr i (nI (t + 1))) (va_up fTg i (upd (fTg i) (t + 1) (nI r))) (va_up fOp i (upd (fOp i) (t + 1) o)) (va_up fLf i (upd (fLf i) (t + 1) a)) (va_up fRt i (upd (fRt i) (t + 1) b)) nMv mr mb mn fw fs fq fx fy (upd fn i (nI (t + 1))) (upd ft (8 * i + t) (nI r)) (upd fo (8 * i + t) o) (upd fa (8 * i + t) a) (upd fb (8 * i + t) b) := by
  obtain ⟨e1, e2, e3, e4, e5, e6, hW, ⟨hI1, hI2, hI3⟩, hsh, hru, hvz, htr⟩ := h
  have hne : ∀ i' j, i' ≠ i → j < 8 → 8 * i' + j ≠ 8 * i + t := fun i' j h1 h2 => by omega
  have hlen : ∀ i', i' < 4 → ∀ j, j < (fn i').toNatClampNeg → j < 8 := fun i' h4 j hj => by
    obtain ⟨t', z1, z2, z3⟩ := hI2 i' h4
    rw [z2, nI_clamp (by omega)] at hj; omega
  refine ⟨e1, e2, e3, e4, e5, e6, hW, ⟨hI1, fun i' h4 => ?_, fun i' hi' => ?_⟩, hsh, fun i' hi' => ?_, fun i' h1 h2 => ?_, ?_⟩
  · by_cases e : i' = i
    · rw [e, pk_us]; exact ⟨t + 1, by omega, rfl, fun h => absurd h (by omega)⟩
    · rw [pk_un e]; exact hI2 i' h4
  · obtain ⟨z1, z2, z3⟩ := hI3 i' hi'
    refine ⟨z1, z2, fun j hj => ?_⟩
    by_cases e : i' = i
    · subst e
      rw [pk_us, nI_clamp (by omega)] at hj
      by_cases ej : j = t
      · subst ej; rw [pk_us, pk_us, pk_us]; exact ⟨ha, hb, r, hr, rfl⟩
      · rw [pk_un (by omega), pk_un (by omega), pk_un (by omega)]
        exact z3 j (by rw [et, nI_clamp (by omega)]; omega)
    · rw [pk_un e] at hj
      have h8 := hlen i' (by omega) j hj
      rw [pk_un (hne i' j e h8), pk_un (hne i' j e h8), pk_un (hne i' j e h8)]
      exact z3 j hj
  · obtain ⟨⟨z1, z2, z3, z4, z5⟩, z6⟩ := hru i' hi'
    by_cases e : i' = i
    · subst e
      rw [q_us, q_us, q_us, q_us, q_us]
      refine ⟨⟨by rw [pk_us], by rw [pk_un (by omega)]; exact z2, by rw [pk_un (by omega)]; exact z3, by rw [pk_un (by omega)]; exact z4, fun j hj => ?_⟩, z6⟩
      rw [pk_us, nI_clamp (by omega)] at hj
      by_cases ej : j = t
      · subst ej; rw [pk_us, pk_us, pk_us, pk_us, pk_us, pk_us, pk_us, pk_us]; exact ⟨rfl, rfl, rfl, rfl⟩
      · rw [pk_un (by omega), pk_un (by omega), pk_un (by omega), pk_un (by omega), pk_un (by omega), pk_un (by omega), pk_un (by omega), pk_un (by omega)]
        exact z5 j (by rw [et, nI_clamp (by omega)]; omega)
    · rw [q_un e, q_un e, q_un e, q_un e, q_un e]
      refine ⟨⟨by rw [pk_un e]; exact z1, z2, z3, z4, fun j hj => ?_⟩, z6⟩
      rw [pk_un e] at hj
      have h8 := hlen i' (by omega) j hj
      rw [pk_un (hne i' j e h8), pk_un (hne i' j e h8), pk_un (hne i' j e h8), pk_un (hne i' j e h8)]
      exact z5 j hj
  · rw [q_un (by omega)]; exact hvz i' h1 h2
  · obtain ⟨t0, _, f0, _⟩ := hI2 0 (by omega)
    obtain ⟨t1, _, f1, _⟩ := hI2 1 (by omega)
    obtain ⟨t2, _, f2, _⟩ := hI2 2 (by omega)
    obtain ⟨t3, _, f3, _⟩ := hI2 3 (by omega)
    have hc : i = 0 ∨ i = 1 ∨ i = 2 ∨ i = 3 := by omega
    rw [htr]
    rcases hc with rfl | rfl | rfl | rfl
    · have : t0 = t := (nI_eq (by omega) (by omega)).mp (f0.symm.trans et)
      rw [pk_us, pk_un (by omega), pk_un (by omega), pk_un (by omega), f0, f1, f2, f3, nI_add, nI_add, nI_add, nI_add, nI_add, nI_add, nI_1]
      congr 1; omega
    · have : t1 = t := (nI_eq (by omega) (by omega)).mp (f1.symm.trans et)
      rw [pk_us, pk_un (by omega), pk_un (by omega), pk_un (by omega), f0, f1, f2, f3, nI_add, nI_add, nI_add, nI_add, nI_add, nI_add, nI_1]
      congr 1; omega
    · have : t2 = t := (nI_eq (by omega) (by omega)).mp (f2.symm.trans et)
      rw [pk_us, pk_un (by omega), pk_un (by omega), pk_un (by omega), f0, f1, f2, f3, nI_add, nI_add, nI_add, nI_add, nI_add, nI_1]
      congr 1; omega
    · have : t3 = t := (nI_eq (by omega) (by omega)).mp (f3.symm.trans et)
      rw [pk_us, pk_un (by omega), pk_un (by omega), pk_un (by omega), f0, f1, f2, f3, nI_add, nI_add, nI_add, nI_add, nI_1]
      congr 1; omega
theorem mv_input {st : Nat → Nat → Nat} {g : Nat → Nat → Int32} {f' : Nat → Int32} (h : mv_ok B I st (mc_out fw fs fq fx fy) g) (h1 : ∀ j, j < 2 ^ B → f' j = -1) : mv_ok B (I + 1) st (mc_out fw fs (upd fq I o) (upd fx I a) (upd fy I b)) (va_up g I f') := by
  intro i hi s hs
  by_cases e : i = I
  · rw [e, q_us]; exact Or.inl (h1 s hs)
  · rw [q_un e]
    have z : mc_out fw fs (upd fq I o) (upd fx I a) (upd fy I b) s i = mc_out fw fs fq fx fy s i := by unfold mc_out; rw [pk_un e, pk_un e, pk_un e]
    rw [z]; exact h i (by omega) s hs
theorem mc_step_cong {ft' fo' fa' fb' : Nat → Int32} {i n : Nat} {s : Int32} (h : ∀ x, x < n → ft' (8 * i + x) = ft (8 * i + x) ∧ fo' (8 * i + x) = fo (8 * i + x) ∧ fa' (8 * i + x) = fa (8 * i + x) ∧ fb' (8 * i + x) = fb (8 * i + x)) : ∀ j, j ≤ n → mc_step fw fs ft' fo' fa' fb' i s j = mc_step fw fs ft fo fa fb i s j := by
  intro j
  induction j with
  | zero => intro _; rfl
  | succ j ih =>
    intro hj
    obtain ⟨z1, z2, z3, z4⟩ := h j (by omega)
    unfold mc_step
    rw [ih (by omega), z1, z2, z3, z4]
theorem mv_transfer {out : Nat → Nat → Nat} {g : Nat → Nat → Int32} {f' : Nat → Int32} {i t r : Nat} (h : mv_ok B I (mc_st fw fs fn ft fo fa fb) out g) (hl : ∀ i', i' < I → (fn i').toNatClampNeg ≤ 8) (ht : t < 8) (h1 : ∀ j, j < 2 ^ B → f' j = -1) : mv_ok B I (mc_st fw fs (upd fn i (nI (t + 1))) (upd ft (8 * i + t) (nI r)) (upd fo (8 * i + t) o) (upd fa (8 * i + t) a) (upd fb (8 * i + t) b)) out (va_up g i f') := by
  intro i' hi s hs
  by_cases e : i' = i
  · rw [e, q_us]; exact Or.inl (h1 s hs)
  · rw [q_un e]
    have h8 := hl i' hi
    have z : mc_st fw fs (upd fn i (nI (t + 1))) (upd ft (8 * i + t) (nI r)) (upd fo (8 * i + t) o) (upd fa (8 * i + t) a) (upd fb (8 * i + t) b) s i' = mc_st fw fs fn ft fo fa fb s i' := by
      unfold mc_st
      rw [pk_un e, mc_step_cong (n := (fn i').toNatClampNeg) (fun x hx => ⟨pk_un (by omega), pk_un (by omega), pk_un (by omega), pk_un (by omega)⟩) _ (Nat.le_refl _)]
    rw [z]; exact h i' hi s hs
end IVM
set_option maxHeartbeats 4000000 in
theorem l_LC1 {x_firstState : Int32} {x_machine_registers : Int32} {x_machine_bits : Int32} {x_machine_inputs : Int32} {x_machine_transfers : Int32} {f_x_machine_shifts : Nat → Int32} {f_x_machine_masks : Nat → Int32} {f_x_machine_rules : Nat → Option Nat} {aMv_x_machine_rules_4 : Nat → Nat} {vTr_x_machine_rules_4 : Nat → Int32} {fTg_x_machine_rules_4 : Nat → Nat → Int32} {fOp_x_machine_rules_4 : Nat → Nat → Int32} {fLf_x_machine_rules_4 : Nat → Nat → Int32} {fRt_x_machine_rules_4 : Nat → Nat → Int32} {nMv_x_machine_rules_4 : Nat → Nat} {fMv_x_machine_rules_4 : Nat → Nat → Int32} {x_walk_size : Int32} {x_walk_stands : Int32} {x_walk_fits : Int32} {x_walk_joined : Int32} {x_walk_resting : Int32} {n_x_walk_ways_back : Nat} {f_x_walk_ways_back : Nat → Int32} {n_x_walk_order : Nat} {f_x_walk_order : Nat → Int32} {n_x_walk_numberOf : Nat} {f_x_walk_numberOf : Nat → Int32} {n_x_walk_entered : Nat} {f_x_walk_entered : Nat → Int32} {x_grouping_groups : Int32} {x_grouping_stands : Int32} {x_grouping_lastSlot : Int32} {n_x_grouping_groupOf : Nat} {f_x_grouping_groupOf : Nat → Int32} {n_x_grouping_lowest : Nat} {f_x_grouping_lowest : Nat → Int32} {n_x_grouping_keys : Nat} {f_x_grouping_keys : Nat → Int64} {n_x_grouping_slots : Nat} {f_x_grouping_slots : Nat → Int32} {x_telling_stands : Int32} {x_telling_apart : Int32} {x_telling_left : Int32} {x_telling_right : Int32} {x_telling_size : Int32} {n_x_telling_words_back : Nat} {f_x_telling_words_back : Nat → Int32} {n_x_telling_lefts : Nat} {f_x_telling_lefts : Nat → Int32} {n_x_telling_rights : Nat} {f_x_telling_rights : Nat → Int32} {n_x_telling_joinedTo : Nat} {f_x_telling_joinedTo : Nat → Int32} {m_thrown : Int32} {m_registers : Int32} {m_bits : Int32} {m_inputs : Int32} {m_first : Int32} {m_isFresh : Int32} {m_isRoom : Int32} {m_walked : Int32} {m_parts : Int32} {m_nodes : Int32} {m_classes : Int32} {f_m_width : Nat → Int32} {f_m_shift : Nat → Int32} {f_m_outOp : Nat → Int32} {f_m_outA : Nat → Int32} {f_m_outB : Nat → Int32} {f_m_transfers : Nat → Int32} {f_m_to : Nat → Int32} {f_m_op : Nat → Int32} {f_m_opA : Nat → Int32} {f_m_opB : Nat → Int32} {f_m_next : Nat → Int32} {f_m_gives : Nat → Int32} {f_m_state : Nat → Int32} {f_m_from : Nat → Int32} {f_m_by : Nat → Int32} {f_m_depth : Nat → Int32} {f_m_number : Nat → Int32} {f_m_part : Nat → Int32} {f_m_newPart : Nat → Int32} {f_m_node : Nat → Int32} {f_m_newNode : Nat → Int32} {f_m_parent : Nat → Int32} {f_m_born : Nat → Int32} {f_m_one : Nat → Int32} {f_m_pieces : Nat → Int32} {f_m_chain : Nat → Int32} {f_m_behind : Nat → Int32} {f_m_classOf : Nat → Int32} {f_m_classState : Nat → Int32} {f_o : Nat → Int64} {a_x_walk_ways_back : Nat} {a_x_walk_order : Nat} {a_x_walk_numberOf : Nat} {a_x_walk_entered : Nat} {a_x_grouping_groupOf : Nat} {a_x_grouping_lowest : Nat} {a_x_grouping_keys : Nat} {a_x_grouping_slots : Nat} {a_x_telling_words_back : Nat} {a_x_telling_lefts : Nat} {a_x_telling_rights : Nat} {a_x_telling_joinedTo : Nat} {kc : Nat} {ks : Nat} {L : Nat} {xs : Nat → Int32} {K : Nat → Nat → Int32 → Int32 → Int32 → Int32 → Int32 → (Nat → Int32) → (Nat → Int32) → (Nat → Nat) → (Nat → Int32) → (Nat → Nat → Int32) → (Nat → Nat → Int32) → (Nat → Nat → Int32) → (Nat → Nat → Int32) → (Nat → Nat) → (Nat → Nat → Int32) → Int32 → Int32 → Int32 → Int32 → Int32 → Nat → Nat → (Nat → Int32) → Nat → Nat → (Nat → Int32) → Nat → Nat → (Nat → Int32) → Nat → Nat → (Nat → Int32) → Int32 → Int32 → Int32 → Nat → Nat → (Nat → Int32) → Nat → Nat → (Nat → Int32) → Nat → Nat → (Nat → Int64) → Nat → Nat → (Nat → Int32) → Int32 → Int32 → Int32 → Int32 → Int32 → Nat → Nat → (Nat → Int32) → Nat → Nat → (Nat → Int32) → Nat → Nat → (Nat → Int32) → Nat → Nat → (Nat → Int32) → Int32 → Int32 → Int32 → Int32 → Int32 → Int32 → Int32 → Int32 → Int32 → Int32 → Int32 → (Nat → Int32) → (Nat → Int32) → (Nat → Int32) → (Nat → Int32) → (Nat → Int32) → (Nat → Int32) → (Nat → Int32) → (Nat → Int32) → (Nat → Int32) → (Nat → Int32) → (Nat → Int32) → (Nat → Int32) → (Nat → Int32) → (Nat → Int32) → (Nat → Int32) → (Nat → Int32) → (Nat → Int32) → (Nat → Int32) → (Nat → Int32) → (Nat → Int32) → (Nat → Int32) → (Nat → Int32) → (Nat → Int32) → (Nat → Int32) → (Nat → Int32) → (Nat → Int32) → (Nat → Int32) → (Nat → Int32) → (Nat → Int32) → (Nat → Int64) → Prop} {room X : Nat} (hr0 : 0 < room) (hroom : room ≤ 4096) (hX : X + 6 ≤ L) (hL : L ≤ 3073) (h : iv room X kc ks x_firstState x_machine_registers x_machine_bits x_machine_inputs x_machine_transfers f_x_machine_shifts f_x_machine_masks aMv_x_machine_rules_4 vTr_x_machine_rules_4 fTg_x_machine_rules_4 fOp_x_machine_rules_4 fLf_x_machine_rules_4 fRt_x_machine_rules_4 nMv_x_machine_rules_4 fMv_x_machine_rules_4 x_walk_size x_walk_stands x_walk_fits x_walk_joined x_walk_resting a_x_walk_ways_back n_x_walk_ways_back f_x_walk_ways_back a_x_walk_order n_x_walk_order f_x_walk_order a_x_walk_numberOf n_x_walk_numberOf f_x_walk_numberOf a_x_walk_entered n_x_walk_entered f_x_walk_entered x_grouping_groups x_grouping_stands x_grouping_lastSlot a_x_grouping_groupOf n_x_grouping_groupOf f_x_grouping_groupOf a_x_grouping_lowest n_x_grouping_lowest f_x_grouping_lowest a_x_grouping_keys n_x_grouping_keys f_x_grouping_keys a_x_grouping_slots n_x_grouping_slots f_x_grouping_slots x_telling_stands x_telling_apart x_telling_left x_telling_right x_telling_size a_x_telling_words_back n_x_telling_words_back f_x_telling_words_back a_x_telling_lefts n_x_telling_lefts f_x_telling_lefts a_x_telling_rights n_x_telling_rights f_x_telling_rights a_x_telling_joinedTo n_x_telling_joinedTo f_x_telling_joinedTo m_thrown m_registers m_bits m_inputs m_first m_isFresh m_isRoom m_walked m_parts m_nodes m_classes f_m_width f_m_shift f_m_outOp f_m_outA f_m_outB f_m_transfers f_m_to f_m_op f_m_opA f_m_opB f_m_next f_m_gives f_m_state f_m_from f_m_by f_m_depth f_m_number f_m_part f_m_newPart f_m_node f_m_newNode f_m_parent f_m_born f_m_one f_m_pieces f_m_chain f_m_behind f_m_classOf f_m_classState f_o) (hK : ∀ kc ks x_firstState x_machine_registers x_machine_bits x_machine_inputs x_machine_transfers f_x_machine_shifts f_x_machine_masks aMv_x_machine_rules_4 vTr_x_machine_rules_4 fTg_x_machine_rules_4 fOp_x_machine_rules_4 fLf_x_machine_rules_4 fRt_x_machine_rules_4 nMv_x_machine_rules_4 fMv_x_machine_rules_4 x_walk_size x_walk_stands x_walk_fits x_walk_joined x_walk_resting a_x_walk_ways_back n_x_walk_ways_back f_x_walk_ways_back a_x_walk_order n_x_walk_order f_x_walk_order a_x_walk_numberOf n_x_walk_numberOf f_x_walk_numberOf a_x_walk_entered n_x_walk_entered f_x_walk_entered x_grouping_groups x_grouping_stands x_grouping_lastSlot a_x_grouping_groupOf n_x_grouping_groupOf f_x_grouping_groupOf a_x_grouping_lowest n_x_grouping_lowest f_x_grouping_lowest a_x_grouping_keys n_x_grouping_keys f_x_grouping_keys a_x_grouping_slots n_x_grouping_slots f_x_grouping_slots x_telling_stands x_telling_apart x_telling_left x_telling_right x_telling_size a_x_telling_words_back n_x_telling_words_back f_x_telling_words_back a_x_telling_lefts n_x_telling_lefts f_x_telling_lefts a_x_telling_rights n_x_telling_rights f_x_telling_rights a_x_telling_joinedTo n_x_telling_joinedTo f_x_telling_joinedTo m_thrown m_registers m_bits m_inputs m_first m_isFresh m_isRoom m_walked m_parts m_nodes m_classes f_m_width f_m_shift f_m_outOp f_m_outA f_m_outB f_m_transfers f_m_to f_m_op f_m_opA f_m_opB f_m_next f_m_gives f_m_state f_m_from f_m_by f_m_depth f_m_number f_m_part f_m_newPart f_m_node f_m_newNode f_m_parent f_m_born f_m_one f_m_pieces f_m_chain f_m_behind f_m_classOf f_m_classState f_o, iv room (X + 6) kc ks x_firstState x_machine_registers x_machine_bits x_machine_inputs x_machine_transfers f_x_machine_shifts f_x_machine_masks aMv_x_machine_rules_4 vTr_x_machine_rules_4 fTg_x_machine_rules_4 fOp_x_machine_rules_4 fLf_x_machine_rules_4 fRt_x_machine_rules_4 nMv_x_machine_rules_4 fMv_x_machine_rules_4 x_walk_size x_walk_stands x_walk_fits x_walk_joined x_walk_resting a_x_walk_ways_back n_x_walk_ways_back f_x_walk_ways_back a_x_walk_order n_x_walk_order f_x_walk_order a_x_walk_numberOf n_x_walk_numberOf f_x_walk_numberOf a_x_walk_entered n_x_walk_entered f_x_walk_entered x_grouping_groups x_grouping_stands x_grouping_lastSlot a_x_grouping_groupOf n_x_grouping_groupOf f_x_grouping_groupOf a_x_grouping_lowest n_x_grouping_lowest f_x_grouping_lowest a_x_grouping_keys n_x_grouping_keys f_x_grouping_keys a_x_grouping_slots n_x_grouping_slots f_x_grouping_slots x_telling_stands x_telling_apart x_telling_left x_telling_right x_telling_size a_x_telling_words_back n_x_telling_words_back f_x_telling_words_back a_x_telling_lefts n_x_telling_lefts f_x_telling_lefts a_x_telling_rights n_x_telling_rights f_x_telling_rights a_x_telling_joinedTo n_x_telling_joinedTo f_x_telling_joinedTo m_thrown m_registers m_bits m_inputs m_first m_isFresh m_isRoom m_walked m_parts m_nodes m_classes f_m_width f_m_shift f_m_outOp f_m_outA f_m_outB f_m_transfers f_m_to f_m_op f_m_opA f_m_opB f_m_next f_m_gives f_m_state f_m_from f_m_by f_m_depth f_m_number f_m_part f_m_newPart f_m_node f_m_newNode f_m_parent f_m_born f_m_one f_m_pieces f_m_chain f_m_behind f_m_classOf f_m_classState f_o → K kc ks x_firstState x_machine_registers x_machine_bits x_machine_inputs x_machine_transfers f_x_machine_shifts f_x_machine_masks aMv_x_machine_rules_4 vTr_x_machine_rules_4 fTg_x_machine_rules_4 fOp_x_machine_rules_4 fLf_x_machine_rules_4 fRt_x_machine_rules_4 nMv_x_machine_rules_4 fMv_x_machine_rules_4 x_walk_size x_walk_stands x_walk_fits x_walk_joined x_walk_resting a_x_walk_ways_back n_x_walk_ways_back f_x_walk_ways_back a_x_walk_order n_x_walk_order f_x_walk_order a_x_walk_numberOf n_x_walk_numberOf f_x_walk_numberOf a_x_walk_entered n_x_walk_entered f_x_walk_entered x_grouping_groups x_grouping_stands x_grouping_lastSlot a_x_grouping_groupOf n_x_grouping_groupOf f_x_grouping_groupOf a_x_grouping_lowest n_x_grouping_lowest f_x_grouping_lowest a_x_grouping_keys n_x_grouping_keys f_x_grouping_keys a_x_grouping_slots n_x_grouping_slots f_x_grouping_slots x_telling_stands x_telling_apart x_telling_left x_telling_right x_telling_size a_x_telling_words_back n_x_telling_words_back f_x_telling_words_back a_x_telling_lefts n_x_telling_lefts f_x_telling_lefts a_x_telling_rights n_x_telling_rights f_x_telling_rights a_x_telling_joinedTo n_x_telling_joinedTo f_x_telling_joinedTo m_thrown m_registers m_bits m_inputs m_first m_isFresh m_isRoom m_walked m_parts m_nodes m_classes f_m_width f_m_shift f_m_outOp f_m_outA f_m_outB f_m_transfers f_m_to f_m_op f_m_opA f_m_opB f_m_next f_m_gives f_m_state f_m_from f_m_by f_m_depth f_m_number f_m_part f_m_newPart f_m_node f_m_newNode f_m_parent f_m_born f_m_one f_m_pieces f_m_chain f_m_behind f_m_classOf f_m_classState f_o) : wp_LC1 (nI room) x_firstState x_machine_registers x_machine_bits x_machine_inputs x_machine_transfers 4 f_x_machine_shifts 4 f_x_machine_masks 4 f_x_machine_rules aMv_x_machine_rules_4 vTr_x_machine_rules_4 fTg_x_machine_rules_4 fOp_x_machine_rules_4 fLf_x_machine_rules_4 fRt_x_machine_rules_4 nMv_x_machine_rules_4 fMv_x_machine_rules_4 x_walk_size x_walk_stands x_walk_fits x_walk_joined x_walk_resting n_x_walk_ways_back f_x_walk_ways_back n_x_walk_order f_x_walk_order n_x_walk_numberOf f_x_walk_numberOf n_x_walk_entered f_x_walk_entered x_grouping_groups x_grouping_stands x_grouping_lastSlot n_x_grouping_groupOf f_x_grouping_groupOf n_x_grouping_lowest f_x_grouping_lowest n_x_grouping_keys f_x_grouping_keys n_x_grouping_slots f_x_grouping_slots x_telling_stands x_telling_apart x_telling_left x_telling_right x_telling_size n_x_telling_words_back f_x_telling_words_back n_x_telling_lefts f_x_telling_lefts n_x_telling_rights f_x_telling_rights n_x_telling_joinedTo f_x_telling_joinedTo m_thrown (nI room) m_registers m_bits m_inputs m_first m_isFresh m_isRoom m_walked m_parts m_nodes m_classes 4 f_m_width 4 f_m_shift 4 f_m_outOp 4 f_m_outA 4 f_m_outB 4 f_m_transfers 32 f_m_to 32 f_m_op 32 f_m_opA 32 f_m_opB 16384 f_m_next 16384 f_m_gives 4096 f_m_state 4096 f_m_from 4096 f_m_by 4096 f_m_depth 4096 f_m_number 4096 f_m_part 4096 f_m_newPart 4096 f_m_node 4096 f_m_newNode 8192 f_m_parent 8192 f_m_born 4096 f_m_one 4096 f_m_pieces 4099 f_m_chain 4096 f_m_behind 4096 f_m_classOf 4096 f_m_classState 1 f_o a_x_walk_ways_back a_x_walk_order a_x_walk_numberOf a_x_walk_entered a_x_grouping_groupOf a_x_grouping_lowest a_x_grouping_keys a_x_grouping_slots a_x_telling_words_back a_x_telling_lefts a_x_telling_rights a_x_telling_joinedTo kc ks (nI X) L xs K := by
  obtain ⟨R, B, I, first, nw, ng, nt, hm, hv, rfl, rfl, hf, hw, hg, ht, hr, hkc, hks⟩ := h; obtain ⟨rfl, rfl, rfl, rfl, rfl, rfl, hW, hI, hsh, hru, hvz, htr⟩ := hm; obtain ⟨hwn, rfl, rfl, rfl, rfl, hws⟩ := hw; obtain ⟨hgn, rfl, rfl, rfl, rfl, hgs⟩ := hg; obtain ⟨htn, rfl, rfl, rfl, rfl, hts⟩ := ht; have hI4 := hI.1; have hR4 := hW.1; have hB := hW.2.1; have hS12 := q_p2 hB; have lw := iv_n_le hwn; have lg := iv_n_le hgn; have lt := iv_n_le htn; have cw := bc_le nw (2 ^ B); have cg := bc_le ng (2 ^ B); have ct := bc_le nt (2 ^ B); have sw := bs_le 4 nw (2 ^ B); have sg := bs_le 5 ng (2 ^ B); have st := bs_le 4 nt (2 ^ B); obtain ⟨W, eW⟩ : ∃ W, W = bf (mc_st f_m_width f_m_shift f_m_transfers f_m_to f_m_op f_m_opA f_m_opB) I room first (2 ^ B) := ⟨_, rfl⟩
  unfold wp_LC1
  rw [show (1 : Int32) = nI 1 from rfl, show (2 : Int32) = nI 2 from rfl, show (3 : Int32) = nI 3 from rfl, nI_add, nI_add, nI_add]
  generalize xs (nI (X + 1)).toNatClampNeg = o
  generalize xs (nI (X + 2)).toNatClampNeg = a
  generalize xs (nI (X + 3)).toNatClampNeg = b
  refine ⟨pk_in (X + 1) L (by omega), pk_in (X + 2) L (by omega), pk_in (X + 3) L (by omega), ?_⟩
  by_cases he : q_ex R o a b
  · rcases Nat.lt_or_ge I 4 with hIl | hIg
    · refine ⟨2, 2 ^ B + 12, by omega, by omega, ?_⟩
      unfold wp_LW_input
      refine ⟨2, 2 ^ B + 12, by omega, by omega, ?_⟩
      unfold wp_SE_input
      refine s_MA_hasExpression (fun _ => ⟨fun _ => ?_, fun z => absurd z (by decide)⟩) (fun z => absurd he z)
      refine pk_lt I 4 (fun _ => ?_) (fun h => absurd h (by omega))
      unfold wp_SE_forgetMachine wp_SE_forgetWalk
      refine ⟨1, 2 ^ B, by omega, by omega, ?_⟩
      unfold wp_MA4_addInput
      refine ⟨I, hIl, rfl, ?_⟩
      unfold wp_MA_addInput wp_RU_put wp_MA_states
      refine ⟨pk_in I 4 hIl, pk_in 0 9 (by omega), ?_⟩
      rintro _ rfl
      refine ⟨pk_in 0 9 (by omega), ?_⟩
      rintro _ rfl
      refine ⟨pk_in 0 9 (by omega), ?_⟩
      rintro _ rfl
      rw [q_1sh hB, nI_clamp (show 2 ^ B < 2 ^ 31 by omega), show (0 : Int32).toNatClampNeg = 0 from rfl]
      refine ⟨nI_pos (by omega), by omega, by omega, by omega, fun q3 => s_AR_fill (by omega) (fun gm hgm => ?_)⟩
      rintro _ rfl _ rfl
      refine ⟨pk_in 0 1 (by omega), ?_⟩
      rintro _ rfl
      refine ⟨pk_in (X + 1) L (by omega), pk_in (X + 2) L (by omega), pk_in (X + 3) L (by omega), ?_⟩
      unfold wp_MO_input
      refine s_MO_isExpression (by omega) (fun _ => ⟨fun _ => ?_, fun z => absurd z (by decide)⟩) (fun z => absurd he z)
      refine ⟨fun _ => ⟨pk_in I 4 hIl, ?_⟩, fun z => absurd ((nI_eq (b := 4) (by omega) (by omega)).mp z) (by omega)⟩
      rintro _ rfl
      refine ⟨pk_in I 4 hIl, ?_⟩
      rintro _ rfl
      refine ⟨pk_in I 4 hIl, ?_⟩
      rintro _ rfl _ rfl
      rw [nI_1, nI_pred, nI_clamp (show I < 2 ^ 31 by omega)]
      unfold wp_MO_thrown
      exact lc_end rfl (fun _ => if_pos rfl) (hK _ _ _ _ _ _ _ _ _ _ _ _ _ _ _ _ _ _ _ _ _ _ _ _ _ _ _ _ _ _ _ _ _ _ _ _ _ _ _ _ _ _ _ _ _ _ _ _ _ _ _ _ _ _ _ _ _ _ _ _ _ _ _ _ _ _ _ _ _ _ _ _ _ _ _ _ _ _ _ _ _ _ _ _ _ _ _ _ _ _ _ _ _ _ _ _ _ _ _ _ _ _ _ _ _ _ _ ⟨R, B, I + 1, first, nw, ng, nt, iv_input ⟨rfl, rfl, rfl, rfl, rfl, rfl, hW, hI, hsh, hru, hvz, htr⟩ hIl (q_op_mc he.2.1) (q_op_mc he.2.2), mv_input hv hgm, rfl, rfl, hf, ⟨hwn, rfl, rfl, rfl, rfl, fun z => absurd rfl z⟩, ⟨hgn, rfl, rfl, rfl, rfl, fun z => absurd rfl z⟩, ⟨htn, rfl, rfl, rfl, rfl, fun z => absurd rfl z⟩, fun z => absurd rfl z, by omega, by omega⟩)
    · have eI : I = 4 := by omega
      subst eI
      refine ⟨2, 12, by omega, by omega, ?_⟩
      unfold wp_LW_input
      refine ⟨2, 12, by omega, by omega, ?_⟩
      unfold wp_SE_input
      refine s_MA_hasExpression (fun _ => ⟨fun _ => br_f (by decide) ⟨by omega, by omega, Or.inr ⟨rfl, pk_in (X + 1) L (by omega), pk_in (X + 2) L (by omega), pk_in (X + 3) L (by omega), ?_⟩⟩, fun z => absurd z (by decide)⟩) (fun z => absurd he z)
      unfold wp_MO_input
      refine s_MO_isExpression (by omega) (fun _ => ⟨fun _ => ⟨fun z => absurd rfl z, fun _ => ?_⟩, fun z => absurd z (by decide)⟩) (fun z => absurd he z)
      unfold wp_MO_fail wp_MO_thrown
      exact lc_end rfl (fun z => absurd z (by decide)) (hK _ _ _ _ _ _ _ _ _ _ _ _ _ _ _ _ _ _ _ _ _ _ _ _ _ _ _ _ _ _ _ _ _ _ _ _ _ _ _ _ _ _ _ _ _ _ _ _ _ _ _ _ _ _ _ _ _ _ _ _ _ _ _ _ _ _ _ _ _ _ _ _ _ _ _ _ _ _ _ _ _ _ _ _ _ _ _ _ _ _ _ _ _ _ _ _ _ _ _ _ _ _ _ _ _ _ _ ⟨R, B, 4, first, nw, ng, nt, ⟨rfl, rfl, rfl, rfl, rfl, rfl, hW, hI, hsh, hru, hvz, htr⟩, hv, rfl, rfl, hf, ⟨hwn, rfl, rfl, rfl, rfl, hws⟩, ⟨hgn, rfl, rfl, rfl, rfl, hgs⟩, ⟨htn, rfl, rfl, rfl, rfl, hts⟩, hr, by omega, by omega⟩)
  · refine ⟨2, 12, by omega, by omega, ?_⟩
    unfold wp_LW_input
    refine ⟨2, 12, by omega, by omega, ?_⟩
    unfold wp_SE_input
    refine s_MA_hasExpression (fun z => absurd z he) (fun _ => ⟨fun z => absurd rfl z, fun _ => ⟨by omega, by omega, Or.inl ⟨rfl, pk_in (X + 1) L (by omega), pk_in (X + 2) L (by omega), pk_in (X + 3) L (by omega), ?_⟩⟩⟩)
    unfold wp_MO_input
    refine s_MO_isExpression (by omega) (fun z => absurd z he) (fun _ => ⟨fun z => absurd rfl z, fun _ => ?_⟩)
    unfold wp_MO_fail wp_MO_thrown
    exact lc_end rfl (fun z => absurd z (by decide)) (hK _ _ _ _ _ _ _ _ _ _ _ _ _ _ _ _ _ _ _ _ _ _ _ _ _ _ _ _ _ _ _ _ _ _ _ _ _ _ _ _ _ _ _ _ _ _ _ _ _ _ _ _ _ _ _ _ _ _ _ _ _ _ _ _ _ _ _ _ _ _ _ _ _ _ _ _ _ _ _ _ _ _ _ _ _ _ _ _ _ _ _ _ _ _ _ _ _ _ _ _ _ _ _ _ _ _ _ ⟨R, B, I, first, nw, ng, nt, ⟨rfl, rfl, rfl, rfl, rfl, rfl, hW, hI, hsh, hru, hvz, htr⟩, hv, rfl, rfl, hf, ⟨hwn, rfl, rfl, rfl, rfl, hws⟩, ⟨hgn, rfl, rfl, rfl, rfl, hgs⟩, ⟨htn, rfl, rfl, rfl, rfl, hts⟩, hr, by omega, by omega⟩)
set_option maxHeartbeats 4000000 in
theorem l_LC2 {x_firstState : Int32} {x_machine_registers : Int32} {x_machine_bits : Int32} {x_machine_inputs : Int32} {x_machine_transfers : Int32} {f_x_machine_shifts : Nat → Int32} {f_x_machine_masks : Nat → Int32} {f_x_machine_rules : Nat → Option Nat} {aMv_x_machine_rules_4 : Nat → Nat} {vTr_x_machine_rules_4 : Nat → Int32} {fTg_x_machine_rules_4 : Nat → Nat → Int32} {fOp_x_machine_rules_4 : Nat → Nat → Int32} {fLf_x_machine_rules_4 : Nat → Nat → Int32} {fRt_x_machine_rules_4 : Nat → Nat → Int32} {nMv_x_machine_rules_4 : Nat → Nat} {fMv_x_machine_rules_4 : Nat → Nat → Int32} {x_walk_size : Int32} {x_walk_stands : Int32} {x_walk_fits : Int32} {x_walk_joined : Int32} {x_walk_resting : Int32} {n_x_walk_ways_back : Nat} {f_x_walk_ways_back : Nat → Int32} {n_x_walk_order : Nat} {f_x_walk_order : Nat → Int32} {n_x_walk_numberOf : Nat} {f_x_walk_numberOf : Nat → Int32} {n_x_walk_entered : Nat} {f_x_walk_entered : Nat → Int32} {x_grouping_groups : Int32} {x_grouping_stands : Int32} {x_grouping_lastSlot : Int32} {n_x_grouping_groupOf : Nat} {f_x_grouping_groupOf : Nat → Int32} {n_x_grouping_lowest : Nat} {f_x_grouping_lowest : Nat → Int32} {n_x_grouping_keys : Nat} {f_x_grouping_keys : Nat → Int64} {n_x_grouping_slots : Nat} {f_x_grouping_slots : Nat → Int32} {x_telling_stands : Int32} {x_telling_apart : Int32} {x_telling_left : Int32} {x_telling_right : Int32} {x_telling_size : Int32} {n_x_telling_words_back : Nat} {f_x_telling_words_back : Nat → Int32} {n_x_telling_lefts : Nat} {f_x_telling_lefts : Nat → Int32} {n_x_telling_rights : Nat} {f_x_telling_rights : Nat → Int32} {n_x_telling_joinedTo : Nat} {f_x_telling_joinedTo : Nat → Int32} {m_thrown : Int32} {m_registers : Int32} {m_bits : Int32} {m_inputs : Int32} {m_first : Int32} {m_isFresh : Int32} {m_isRoom : Int32} {m_walked : Int32} {m_parts : Int32} {m_nodes : Int32} {m_classes : Int32} {f_m_width : Nat → Int32} {f_m_shift : Nat → Int32} {f_m_outOp : Nat → Int32} {f_m_outA : Nat → Int32} {f_m_outB : Nat → Int32} {f_m_transfers : Nat → Int32} {f_m_to : Nat → Int32} {f_m_op : Nat → Int32} {f_m_opA : Nat → Int32} {f_m_opB : Nat → Int32} {f_m_next : Nat → Int32} {f_m_gives : Nat → Int32} {f_m_state : Nat → Int32} {f_m_from : Nat → Int32} {f_m_by : Nat → Int32} {f_m_depth : Nat → Int32} {f_m_number : Nat → Int32} {f_m_part : Nat → Int32} {f_m_newPart : Nat → Int32} {f_m_node : Nat → Int32} {f_m_newNode : Nat → Int32} {f_m_parent : Nat → Int32} {f_m_born : Nat → Int32} {f_m_one : Nat → Int32} {f_m_pieces : Nat → Int32} {f_m_chain : Nat → Int32} {f_m_behind : Nat → Int32} {f_m_classOf : Nat → Int32} {f_m_classState : Nat → Int32} {f_o : Nat → Int64} {a_x_walk_ways_back : Nat} {a_x_walk_order : Nat} {a_x_walk_numberOf : Nat} {a_x_walk_entered : Nat} {a_x_grouping_groupOf : Nat} {a_x_grouping_lowest : Nat} {a_x_grouping_keys : Nat} {a_x_grouping_slots : Nat} {a_x_telling_words_back : Nat} {a_x_telling_lefts : Nat} {a_x_telling_rights : Nat} {a_x_telling_joinedTo : Nat} {kc : Nat} {ks : Nat} {L : Nat} {xs : Nat → Int32} {K : Nat → Nat → Int32 → Int32 → Int32 → Int32 → Int32 → (Nat → Int32) → (Nat → Int32) → (Nat → Nat) → (Nat → Int32) → (Nat → Nat → Int32) → (Nat → Nat → Int32) → (Nat → Nat → Int32) → (Nat → Nat → Int32) → (Nat → Nat) → (Nat → Nat → Int32) → Int32 → Int32 → Int32 → Int32 → Int32 → Nat → Nat → (Nat → Int32) → Nat → Nat → (Nat → Int32) → Nat → Nat → (Nat → Int32) → Nat → Nat → (Nat → Int32) → Int32 → Int32 → Int32 → Nat → Nat → (Nat → Int32) → Nat → Nat → (Nat → Int32) → Nat → Nat → (Nat → Int64) → Nat → Nat → (Nat → Int32) → Int32 → Int32 → Int32 → Int32 → Int32 → Nat → Nat → (Nat → Int32) → Nat → Nat → (Nat → Int32) → Nat → Nat → (Nat → Int32) → Nat → Nat → (Nat → Int32) → Int32 → Int32 → Int32 → Int32 → Int32 → Int32 → Int32 → Int32 → Int32 → Int32 → Int32 → (Nat → Int32) → (Nat → Int32) → (Nat → Int32) → (Nat → Int32) → (Nat → Int32) → (Nat → Int32) → (Nat → Int32) → (Nat → Int32) → (Nat → Int32) → (Nat → Int32) → (Nat → Int32) → (Nat → Int32) → (Nat → Int32) → (Nat → Int32) → (Nat → Int32) → (Nat → Int32) → (Nat → Int32) → (Nat → Int32) → (Nat → Int32) → (Nat → Int32) → (Nat → Int32) → (Nat → Int32) → (Nat → Int32) → (Nat → Int32) → (Nat → Int32) → (Nat → Int32) → (Nat → Int32) → (Nat → Int32) → (Nat → Int32) → (Nat → Int64) → Prop} {room X : Nat} (hr0 : 0 < room) (hroom : room ≤ 4096) (hX : X + 6 ≤ L) (hL : L ≤ 3073) (h : iv room X kc ks x_firstState x_machine_registers x_machine_bits x_machine_inputs x_machine_transfers f_x_machine_shifts f_x_machine_masks aMv_x_machine_rules_4 vTr_x_machine_rules_4 fTg_x_machine_rules_4 fOp_x_machine_rules_4 fLf_x_machine_rules_4 fRt_x_machine_rules_4 nMv_x_machine_rules_4 fMv_x_machine_rules_4 x_walk_size x_walk_stands x_walk_fits x_walk_joined x_walk_resting a_x_walk_ways_back n_x_walk_ways_back f_x_walk_ways_back a_x_walk_order n_x_walk_order f_x_walk_order a_x_walk_numberOf n_x_walk_numberOf f_x_walk_numberOf a_x_walk_entered n_x_walk_entered f_x_walk_entered x_grouping_groups x_grouping_stands x_grouping_lastSlot a_x_grouping_groupOf n_x_grouping_groupOf f_x_grouping_groupOf a_x_grouping_lowest n_x_grouping_lowest f_x_grouping_lowest a_x_grouping_keys n_x_grouping_keys f_x_grouping_keys a_x_grouping_slots n_x_grouping_slots f_x_grouping_slots x_telling_stands x_telling_apart x_telling_left x_telling_right x_telling_size a_x_telling_words_back n_x_telling_words_back f_x_telling_words_back a_x_telling_lefts n_x_telling_lefts f_x_telling_lefts a_x_telling_rights n_x_telling_rights f_x_telling_rights a_x_telling_joinedTo n_x_telling_joinedTo f_x_telling_joinedTo m_thrown m_registers m_bits m_inputs m_first m_isFresh m_isRoom m_walked m_parts m_nodes m_classes f_m_width f_m_shift f_m_outOp f_m_outA f_m_outB f_m_transfers f_m_to f_m_op f_m_opA f_m_opB f_m_next f_m_gives f_m_state f_m_from f_m_by f_m_depth f_m_number f_m_part f_m_newPart f_m_node f_m_newNode f_m_parent f_m_born f_m_one f_m_pieces f_m_chain f_m_behind f_m_classOf f_m_classState f_o) (hK : ∀ kc ks x_firstState x_machine_registers x_machine_bits x_machine_inputs x_machine_transfers f_x_machine_shifts f_x_machine_masks aMv_x_machine_rules_4 vTr_x_machine_rules_4 fTg_x_machine_rules_4 fOp_x_machine_rules_4 fLf_x_machine_rules_4 fRt_x_machine_rules_4 nMv_x_machine_rules_4 fMv_x_machine_rules_4 x_walk_size x_walk_stands x_walk_fits x_walk_joined x_walk_resting a_x_walk_ways_back n_x_walk_ways_back f_x_walk_ways_back a_x_walk_order n_x_walk_order f_x_walk_order a_x_walk_numberOf n_x_walk_numberOf f_x_walk_numberOf a_x_walk_entered n_x_walk_entered f_x_walk_entered x_grouping_groups x_grouping_stands x_grouping_lastSlot a_x_grouping_groupOf n_x_grouping_groupOf f_x_grouping_groupOf a_x_grouping_lowest n_x_grouping_lowest f_x_grouping_lowest a_x_grouping_keys n_x_grouping_keys f_x_grouping_keys a_x_grouping_slots n_x_grouping_slots f_x_grouping_slots x_telling_stands x_telling_apart x_telling_left x_telling_right x_telling_size a_x_telling_words_back n_x_telling_words_back f_x_telling_words_back a_x_telling_lefts n_x_telling_lefts f_x_telling_lefts a_x_telling_rights n_x_telling_rights f_x_telling_rights a_x_telling_joinedTo n_x_telling_joinedTo f_x_telling_joinedTo m_thrown m_registers m_bits m_inputs m_first m_isFresh m_isRoom m_walked m_parts m_nodes m_classes f_m_width f_m_shift f_m_outOp f_m_outA f_m_outB f_m_transfers f_m_to f_m_op f_m_opA f_m_opB f_m_next f_m_gives f_m_state f_m_from f_m_by f_m_depth f_m_number f_m_part f_m_newPart f_m_node f_m_newNode f_m_parent f_m_born f_m_one f_m_pieces f_m_chain f_m_behind f_m_classOf f_m_classState f_o, iv room (X + 6) kc ks x_firstState x_machine_registers x_machine_bits x_machine_inputs x_machine_transfers f_x_machine_shifts f_x_machine_masks aMv_x_machine_rules_4 vTr_x_machine_rules_4 fTg_x_machine_rules_4 fOp_x_machine_rules_4 fLf_x_machine_rules_4 fRt_x_machine_rules_4 nMv_x_machine_rules_4 fMv_x_machine_rules_4 x_walk_size x_walk_stands x_walk_fits x_walk_joined x_walk_resting a_x_walk_ways_back n_x_walk_ways_back f_x_walk_ways_back a_x_walk_order n_x_walk_order f_x_walk_order a_x_walk_numberOf n_x_walk_numberOf f_x_walk_numberOf a_x_walk_entered n_x_walk_entered f_x_walk_entered x_grouping_groups x_grouping_stands x_grouping_lastSlot a_x_grouping_groupOf n_x_grouping_groupOf f_x_grouping_groupOf a_x_grouping_lowest n_x_grouping_lowest f_x_grouping_lowest a_x_grouping_keys n_x_grouping_keys f_x_grouping_keys a_x_grouping_slots n_x_grouping_slots f_x_grouping_slots x_telling_stands x_telling_apart x_telling_left x_telling_right x_telling_size a_x_telling_words_back n_x_telling_words_back f_x_telling_words_back a_x_telling_lefts n_x_telling_lefts f_x_telling_lefts a_x_telling_rights n_x_telling_rights f_x_telling_rights a_x_telling_joinedTo n_x_telling_joinedTo f_x_telling_joinedTo m_thrown m_registers m_bits m_inputs m_first m_isFresh m_isRoom m_walked m_parts m_nodes m_classes f_m_width f_m_shift f_m_outOp f_m_outA f_m_outB f_m_transfers f_m_to f_m_op f_m_opA f_m_opB f_m_next f_m_gives f_m_state f_m_from f_m_by f_m_depth f_m_number f_m_part f_m_newPart f_m_node f_m_newNode f_m_parent f_m_born f_m_one f_m_pieces f_m_chain f_m_behind f_m_classOf f_m_classState f_o → K kc ks x_firstState x_machine_registers x_machine_bits x_machine_inputs x_machine_transfers f_x_machine_shifts f_x_machine_masks aMv_x_machine_rules_4 vTr_x_machine_rules_4 fTg_x_machine_rules_4 fOp_x_machine_rules_4 fLf_x_machine_rules_4 fRt_x_machine_rules_4 nMv_x_machine_rules_4 fMv_x_machine_rules_4 x_walk_size x_walk_stands x_walk_fits x_walk_joined x_walk_resting a_x_walk_ways_back n_x_walk_ways_back f_x_walk_ways_back a_x_walk_order n_x_walk_order f_x_walk_order a_x_walk_numberOf n_x_walk_numberOf f_x_walk_numberOf a_x_walk_entered n_x_walk_entered f_x_walk_entered x_grouping_groups x_grouping_stands x_grouping_lastSlot a_x_grouping_groupOf n_x_grouping_groupOf f_x_grouping_groupOf a_x_grouping_lowest n_x_grouping_lowest f_x_grouping_lowest a_x_grouping_keys n_x_grouping_keys f_x_grouping_keys a_x_grouping_slots n_x_grouping_slots f_x_grouping_slots x_telling_stands x_telling_apart x_telling_left x_telling_right x_telling_size a_x_telling_words_back n_x_telling_words_back f_x_telling_words_back a_x_telling_lefts n_x_telling_lefts f_x_telling_lefts a_x_telling_rights n_x_telling_rights f_x_telling_rights a_x_telling_joinedTo n_x_telling_joinedTo f_x_telling_joinedTo m_thrown m_registers m_bits m_inputs m_first m_isFresh m_isRoom m_walked m_parts m_nodes m_classes f_m_width f_m_shift f_m_outOp f_m_outA f_m_outB f_m_transfers f_m_to f_m_op f_m_opA f_m_opB f_m_next f_m_gives f_m_state f_m_from f_m_by f_m_depth f_m_number f_m_part f_m_newPart f_m_node f_m_newNode f_m_parent f_m_born f_m_one f_m_pieces f_m_chain f_m_behind f_m_classOf f_m_classState f_o) : wp_LC2 (nI room) x_firstState x_machine_registers x_machine_bits x_machine_inputs x_machine_transfers 4 f_x_machine_shifts 4 f_x_machine_masks 4 f_x_machine_rules aMv_x_machine_rules_4 vTr_x_machine_rules_4 fTg_x_machine_rules_4 fOp_x_machine_rules_4 fLf_x_machine_rules_4 fRt_x_machine_rules_4 nMv_x_machine_rules_4 fMv_x_machine_rules_4 x_walk_size x_walk_stands x_walk_fits x_walk_joined x_walk_resting n_x_walk_ways_back f_x_walk_ways_back n_x_walk_order f_x_walk_order n_x_walk_numberOf f_x_walk_numberOf n_x_walk_entered f_x_walk_entered x_grouping_groups x_grouping_stands x_grouping_lastSlot n_x_grouping_groupOf f_x_grouping_groupOf n_x_grouping_lowest f_x_grouping_lowest n_x_grouping_keys f_x_grouping_keys n_x_grouping_slots f_x_grouping_slots x_telling_stands x_telling_apart x_telling_left x_telling_right x_telling_size n_x_telling_words_back f_x_telling_words_back n_x_telling_lefts f_x_telling_lefts n_x_telling_rights f_x_telling_rights n_x_telling_joinedTo f_x_telling_joinedTo m_thrown (nI room) m_registers m_bits m_inputs m_first m_isFresh m_isRoom m_walked m_parts m_nodes m_classes 4 f_m_width 4 f_m_shift 4 f_m_outOp 4 f_m_outA 4 f_m_outB 4 f_m_transfers 32 f_m_to 32 f_m_op 32 f_m_opA 32 f_m_opB 16384 f_m_next 16384 f_m_gives 4096 f_m_state 4096 f_m_from 4096 f_m_by 4096 f_m_depth 4096 f_m_number 4096 f_m_part 4096 f_m_newPart 4096 f_m_node 4096 f_m_newNode 8192 f_m_parent 8192 f_m_born 4096 f_m_one 4096 f_m_pieces 4099 f_m_chain 4096 f_m_behind 4096 f_m_classOf 4096 f_m_classState 1 f_o a_x_walk_ways_back a_x_walk_order a_x_walk_numberOf a_x_walk_entered a_x_grouping_groupOf a_x_grouping_lowest a_x_grouping_keys a_x_grouping_slots a_x_telling_words_back a_x_telling_lefts a_x_telling_rights a_x_telling_joinedTo kc ks (nI X) L xs K := by
  obtain ⟨R, B, I, first, nw, ng, nt, hm, hv, rfl, rfl, hf, hw, hg, ht, hr, hkc, hks⟩ := h; obtain ⟨rfl, rfl, rfl, rfl, rfl, rfl, hW, hI, hsh, hru, hvz, htr⟩ := hm; obtain ⟨hwn, rfl, rfl, rfl, rfl, hws⟩ := hw; obtain ⟨hgn, rfl, rfl, rfl, rfl, hgs⟩ := hg; obtain ⟨htn, rfl, rfl, rfl, rfl, hts⟩ := ht; have hI4 := hI.1; have hR4 := hW.1; have hB := hW.2.1; have hS12 := q_p2 hB; have lw := iv_n_le hwn; have lg := iv_n_le hgn; have lt := iv_n_le htn; have cw := bc_le nw (2 ^ B); have cg := bc_le ng (2 ^ B); have ct := bc_le nt (2 ^ B); have sw := bs_le 4 nw (2 ^ B); have sg := bs_le 5 ng (2 ^ B); have st := bs_le 4 nt (2 ^ B); obtain ⟨W, eW⟩ : ∃ W, W = bf (mc_st f_m_width f_m_shift f_m_transfers f_m_to f_m_op f_m_opA f_m_opB) I room first (2 ^ B) := ⟨_, rfl⟩
  unfold wp_LC2
  rw [show (1 : Int32) = nI 1 from rfl, show (2 : Int32) = nI 2 from rfl, show (3 : Int32) = nI 3 from rfl, show (4 : Int32) = nI 4 from rfl, show (5 : Int32) = nI 5 from rfl, nI_add, nI_add, nI_add, nI_add, nI_add]
  generalize xs (nI (X + 1)).toNatClampNeg = ai
  generalize xs (nI (X + 2)).toNatClampNeg = ar
  generalize xs (nI (X + 3)).toNatClampNeg = o
  generalize xs (nI (X + 4)).toNatClampNeg = a
  generalize xs (nI (X + 5)).toNatClampNeg = b
  refine ⟨pk_in (X + 1) L (by omega), pk_in (X + 2) L (by omega), pk_in (X + 3) L (by omega), pk_in (X + 4) L (by omega), pk_in (X + 5) L (by omega), 2, 12, by omega, by omega, ?_⟩
  unfold wp_LW_transfer
  refine ⟨2, 12, by omega, by omega, ?_⟩
  unfold wp_SE_transfer
  by_cases hi : q_is I ai
  · obtain ⟨i, hi, rfl⟩ := hi
    by_cases hr' : q_is R ar
    · obtain ⟨r, hrr, rfl⟩ := hr'
      by_cases he : q_ex R o a b
      · obtain ⟨t, ht8, et, -⟩ := hI.2.1 i (by omega)
        have evt := (hru i hi).1.1
        have enm := (hru i hi).2
        rcases Nat.lt_or_ge t 8 with htl | htg
        · refine s_hasInput1 hI4 hi ⟨fun z => absurd z (by decide), fun _ => s_hasRegister1 hR4 hrr ⟨fun z => absurd z (by decide), fun _ => s_MA_hasExpression (fun _ => ⟨fun _ => ⟨pk_in i 4 (by omega), i, by omega, rfl, ?_⟩, fun z => absurd z (by decide)⟩) (fun z => absurd he z)⟩⟩
          rw [evt, et]
          refine pk_lt t 8 (fun _ => ?_) (fun h => absurd h (by omega))
          unfold wp_SE_forgetMachine wp_SE_forgetWalk wp_MA4_addTransfer
          refine ⟨i, by omega, rfl, ?_⟩
          unfold wp_MA_addTransfer wp_RU_put
          refine ⟨pk_in i 4 (by omega), ?_⟩
          rw [evt, et, nI_1]
          rintro _ rfl
          rw [nI_clamp (show t + 1 < 2 ^ 31 by omega)]
          refine ⟨pk_in (t + 1) 9 (by omega), ?_⟩
          rintro _ rfl
          refine ⟨pk_in (t + 1) 9 (by omega), ?_⟩
          rintro _ rfl
          refine ⟨pk_in (t + 1) 9 (by omega), ?_⟩
          rintro _ rfl
          refine ⟨pk_in (t + 1) 9 (by omega), ?_⟩
          rintro _ rfl
          rw [enm]
          refine s_AR_fill (by omega) (fun gm hgm => ?_)
          rintro _ rfl _ rfl
          refine ⟨pk_in 0 1 (by omega), ?_⟩
          rintro _ rfl
          refine ⟨pk_in (X + 1) L (by omega), pk_in (X + 2) L (by omega), pk_in (X + 3) L (by omega), pk_in (X + 4) L (by omega), pk_in (X + 5) L (by omega), ?_⟩
          unfold wp_MO_transfer
          refine s_MO_within1 (by omega) hi ⟨fun z => absurd z (by decide), fun _ => s_MO_within1 (by omega) hrr ⟨fun z => absurd z (by decide), fun _ => s_MO_isExpression (by omega) (fun _ => ⟨fun _ => ⟨pk_in i 4 (by omega), ?_⟩, fun z => absurd z (by decide)⟩) (fun z => absurd he z)⟩⟩
          rw [nI_clamp (show i < 2 ^ 31 by omega), et]
          refine ⟨fun _ => ⟨pk_in i 4 (by omega), ?_⟩, fun z => absurd ((nI_eq (b := 8) (by omega) (by omega)).mp z) (by omega)⟩
          rw [show (8 : Int32) = nI 8 from rfl, pk_mul, nI_add]
          rintro _ rfl
          rw [nI_clamp (show 8 * i + t < 2 ^ 31 by omega)]
          refine ⟨pk_in (8 * i + t) 32 (by omega), ?_⟩
          rintro _ rfl
          refine ⟨pk_in (8 * i + t) 32 (by omega), ?_⟩
          rintro _ rfl
          refine ⟨pk_in (8 * i + t) 32 (by omega), ?_⟩
          rintro _ rfl
          refine ⟨pk_in (8 * i + t) 32 (by omega), ?_⟩
          rintro _ rfl
          refine ⟨pk_in i 4 (by omega), ?_⟩
          rintro _ rfl
          refine ⟨pk_in i 4 (by omega), ?_⟩
          rintro _ rfl
          refine ⟨pk_in i 4 (by omega), ?_⟩
          rw [nI_1, pk_us]
          unfold wp_MO_thrown
          have hl8 : ∀ i', i' < I → (f_m_transfers i').toNatClampNeg ≤ 8 := fun i' h' => by
            obtain ⟨t', z1, z2, z3⟩ := hI.2.1 i' (by omega)
            rw [z2, nI_clamp (by omega)]; exact z1
          exact lc_end rfl (fun _ => if_pos rfl) (hK _ _ _ _ _ _ _ _ _ _ _ _ _ _ _ _ _ _ _ _ _ _ _ _ _ _ _ _ _ _ _ _ _ _ _ _ _ _ _ _ _ _ _ _ _ _ _ _ _ _ _ _ _ _ _ _ _ _ _ _ _ _ _ _ _ _ _ _ _ _ _ _ _ _ _ _ _ _ _ _ _ _ _ _ _ _ _ _ _ _ _ _ _ _ _ _ _ _ _ _ _ _ _ _ _ _ _ ⟨R, B, I, first, nw, ng, nt, iv_transfer ⟨rfl, rfl, rfl, rfl, rfl, rfl, hW, hI, hsh, hru, hvz, htr⟩ hi htl et hrr (q_op_mc he.2.1) (q_op_mc he.2.2), mv_transfer hv hl8 htl hgm, rfl, rfl, hf, ⟨hwn, rfl, rfl, rfl, rfl, fun z => absurd rfl z⟩, ⟨hgn, rfl, rfl, rfl, rfl, fun z => absurd rfl z⟩, ⟨htn, rfl, rfl, rfl, rfl, fun z => absurd rfl z⟩, fun z => absurd rfl z, by omega, by omega⟩)
        · have e8 : t = 8 := by omega
          subst e8
          refine s_hasInput1 hI4 hi ⟨fun z => absurd z (by decide), fun _ => s_hasRegister1 hR4 hrr ⟨fun z => absurd z (by decide), fun _ => s_MA_hasExpression (fun _ => ⟨fun _ => ⟨pk_in i 4 (by omega), i, by omega, rfl, ?_⟩, fun z => absurd z (by decide)⟩) (fun z => absurd he z)⟩⟩
          rw [evt, et]
          refine br_f (by decide) ⟨by omega, by omega, Or.inr ⟨rfl, pk_in (X + 1) L (by omega), pk_in (X + 2) L (by omega), pk_in (X + 3) L (by omega), pk_in (X + 4) L (by omega), pk_in (X + 5) L (by omega), ?_⟩⟩
          unfold wp_MO_transfer
          refine s_MO_within1 (by omega) hi ⟨fun z => absurd z (by decide), fun _ => s_MO_within1 (by omega) hrr ⟨fun z => absurd z (by decide), fun _ => s_MO_isExpression (by omega) (fun _ => ⟨fun _ => ⟨pk_in i 4 (by omega), ?_⟩, fun z => absurd z (by decide)⟩) (fun z => absurd he z)⟩⟩
          rw [nI_clamp (show i < 2 ^ 31 by omega), et]
          refine ⟨fun z => absurd rfl z, fun _ => ?_⟩
          unfold wp_MO_fail wp_MO_thrown
          exact lc_end rfl (fun z => absurd z (by decide)) (hK _ _ _ _ _ _ _ _ _ _ _ _ _ _ _ _ _ _ _ _ _ _ _ _ _ _ _ _ _ _ _ _ _ _ _ _ _ _ _ _ _ _ _ _ _ _ _ _ _ _ _ _ _ _ _ _ _ _ _ _ _ _ _ _ _ _ _ _ _ _ _ _ _ _ _ _ _ _ _ _ _ _ _ _ _ _ _ _ _ _ _ _ _ _ _ _ _ _ _ _ _ _ _ _ _ _ _ ⟨R, B, I, first, nw, ng, nt, ⟨rfl, rfl, rfl, rfl, rfl, rfl, hW, hI, hsh, hru, hvz, htr⟩, hv, rfl, rfl, hf, ⟨hwn, rfl, rfl, rfl, rfl, hws⟩, ⟨hgn, rfl, rfl, rfl, rfl, hgs⟩, ⟨htn, rfl, rfl, rfl, rfl, hts⟩, hr, by omega, by omega⟩)
      · refine s_hasInput1 hI4 hi ⟨fun z => absurd z (by decide), fun _ => s_hasRegister1 hR4 hrr ⟨fun z => absurd z (by decide), fun _ => s_MA_hasExpression (fun z => absurd z he) (fun _ => ⟨fun z => absurd rfl z, fun _ => ⟨by omega, by omega, Or.inl ⟨rfl, pk_in (X + 1) L (by omega), pk_in (X + 2) L (by omega), pk_in (X + 3) L (by omega), pk_in (X + 4) L (by omega), pk_in (X + 5) L (by omega), ?_⟩⟩⟩)⟩⟩
        unfold wp_MO_transfer
        refine s_MO_within1 (by omega) hi ⟨fun z => absurd z (by decide), fun _ => s_MO_within1 (by omega) hrr ⟨fun z => absurd z (by decide), fun _ => s_MO_isExpression (by omega) (fun z => absurd z he) (fun _ => ⟨fun z => absurd rfl z, fun _ => ?_⟩)⟩⟩
        unfold wp_MO_fail wp_MO_thrown
        exact lc_end rfl (fun z => absurd z (by decide)) (hK _ _ _ _ _ _ _ _ _ _ _ _ _ _ _ _ _ _ _ _ _ _ _ _ _ _ _ _ _ _ _ _ _ _ _ _ _ _ _ _ _ _ _ _ _ _ _ _ _ _ _ _ _ _ _ _ _ _ _ _ _ _ _ _ _ _ _ _ _ _ _ _ _ _ _ _ _ _ _ _ _ _ _ _ _ _ _ _ _ _ _ _ _ _ _ _ _ _ _ _ _ _ _ _ _ _ _ ⟨R, B, I, first, nw, ng, nt, ⟨rfl, rfl, rfl, rfl, rfl, rfl, hW, hI, hsh, hru, hvz, htr⟩, hv, rfl, rfl, hf, ⟨hwn, rfl, rfl, rfl, rfl, hws⟩, ⟨hgn, rfl, rfl, rfl, rfl, hgs⟩, ⟨htn, rfl, rfl, rfl, rfl, hts⟩, hr, by omega, by omega⟩)
    · refine s_hasInput1 hI4 hi ⟨fun z => absurd z (by decide), fun _ => s_hasRegister0 hR4 hr' ⟨fun _ => ⟨by omega, by omega, Or.inl ⟨rfl, pk_in (X + 1) L (by omega), pk_in (X + 2) L (by omega), pk_in (X + 3) L (by omega), pk_in (X + 4) L (by omega), pk_in (X + 5) L (by omega), ?_⟩⟩, fun z => absurd rfl z⟩⟩
      unfold wp_MO_transfer
      refine s_MO_within1 (by omega) hi ⟨fun z => absurd z (by decide), fun _ => s_MO_within0 (by omega) hr' ⟨fun _ => ?_, fun z => absurd rfl z⟩⟩
      unfold wp_MO_fail wp_MO_thrown
      exact lc_end rfl (fun z => absurd z (by decide)) (hK _ _ _ _ _ _ _ _ _ _ _ _ _ _ _ _ _ _ _ _ _ _ _ _ _ _ _ _ _ _ _ _ _ _ _ _ _ _ _ _ _ _ _ _ _ _ _ _ _ _ _ _ _ _ _ _ _ _ _ _ _ _ _ _ _ _ _ _ _ _ _ _ _ _ _ _ _ _ _ _ _ _ _ _ _ _ _ _ _ _ _ _ _ _ _ _ _ _ _ _ _ _ _ _ _ _ _ ⟨R, B, I, first, nw, ng, nt, ⟨rfl, rfl, rfl, rfl, rfl, rfl, hW, hI, hsh, hru, hvz, htr⟩, hv, rfl, rfl, hf, ⟨hwn, rfl, rfl, rfl, rfl, hws⟩, ⟨hgn, rfl, rfl, rfl, rfl, hgs⟩, ⟨htn, rfl, rfl, rfl, rfl, hts⟩, hr, by omega, by omega⟩)
  · refine s_hasInput0 hI4 hi ⟨fun _ => ⟨by omega, by omega, Or.inl ⟨rfl, pk_in (X + 1) L (by omega), pk_in (X + 2) L (by omega), pk_in (X + 3) L (by omega), pk_in (X + 4) L (by omega), pk_in (X + 5) L (by omega), ?_⟩⟩, fun z => absurd rfl z⟩
    unfold wp_MO_transfer
    refine s_MO_within0 (by omega) hi ⟨fun _ => ?_, fun z => absurd rfl z⟩
    unfold wp_MO_fail wp_MO_thrown
    exact lc_end rfl (fun z => absurd z (by decide)) (hK _ _ _ _ _ _ _ _ _ _ _ _ _ _ _ _ _ _ _ _ _ _ _ _ _ _ _ _ _ _ _ _ _ _ _ _ _ _ _ _ _ _ _ _ _ _ _ _ _ _ _ _ _ _ _ _ _ _ _ _ _ _ _ _ _ _ _ _ _ _ _ _ _ _ _ _ _ _ _ _ _ _ _ _ _ _ _ _ _ _ _ _ _ _ _ _ _ _ _ _ _ _ _ _ _ _ _ ⟨R, B, I, first, nw, ng, nt, ⟨rfl, rfl, rfl, rfl, rfl, rfl, hW, hI, hsh, hru, hvz, htr⟩, hv, rfl, rfl, hf, ⟨hwn, rfl, rfl, rfl, rfl, hws⟩, ⟨hgn, rfl, rfl, rfl, rfl, hgs⟩, ⟨htn, rfl, rfl, rfl, rfl, hts⟩, hr, by omega, by omega⟩)

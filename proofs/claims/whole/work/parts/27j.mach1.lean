theorem q_sl : ∀ n, n < 32 → ((nI n &&& 31).toBitVec.smod 32).toNat = n := by decide +kernel
theorem q_ofN {x : Int32} {t : Nat} (h : x.toBitVec.toNat = t) : x = nI t := by
  apply Int32.toBitVec_inj.mp
  apply BitVec.eq_of_toNat_eq
  rw [h]
  show t = (BitVec.ofNat 32 t).toNat
  rw [BitVec.toNat_ofNat, Nat.mod_eq_of_lt]
  rw [← h]; exact x.toBitVec.isLt
theorem q_or {a b : Nat} (ha : a < 2 ^ 31) (hb : b < 2 ^ 31) : nI a ||| nI b = nI (a ||| b) := by
  apply q_ofN
  rw [Int32.toBitVec_or, BitVec.toNat_or, pk_tn (by omega), pk_tn (by omega)]
/-- the mask of a register -/
def mc_msk (w : Int32) : Int32 := ((1 : Int32) <<< (w &&& 31)) - (1 : Int32)
theorem mc_msk_n : ∀ w, w < 5 → (mc_msk (nI w)).toBitVec.toNat = 2 ^ w - 1 := by decide +kernel
def mc_put (w h t v : Int32) : Int32 := (t &&& ((mc_msk w <<< (h &&& 31)) ^^^ ((-1) : Int32))) ||| ((v &&& mc_msk w) <<< (h &&& 31))
theorem mc_put_lt {w h t B : Nat} {v : Int32} (hw : w ≤ 4) (hB : B ≤ 12) (hh : h + w ≤ B) (ht : t < 2 ^ B) : ∃ t', t' < 2 ^ B ∧ mc_put (nI w) (nI h) (nI t) v = nI t' := by
  have hB2 : (2 : Nat) ^ B ≤ 2 ^ 12 := Nat.pow_le_pow_right (by omega) hB
  obtain ⟨j, hj, ej⟩ := pk_andE v w (mc_msk_n w (by omega))
  have h1 : j * 2 ^ h < 2 ^ B := by
    have : j * 2 ^ h < 2 ^ w * 2 ^ h := Nat.mul_lt_mul_of_pos_right hj (Nat.two_pow_pos h)
    rw [← Nat.pow_add] at this
    exact Nat.lt_of_lt_of_le this (Nat.pow_le_pow_right (by omega) (by omega))
  unfold mc_put
  rw [ej, pk_shlN _ h (q_sl h (by omega)) (by omega)]
  refine ⟨_, ?_, q_ofN rfl⟩
  rw [Int32.toBitVec_or, BitVec.toNat_or]
  apply Nat.or_lt_two_pow
  · rw [Int32.toBitVec_and, BitVec.toNat_and]
    refine Nat.lt_of_le_of_lt Nat.and_le_left ?_
    rw [pk_tn (by omega)]; exact ht
  · rw [pk_tn (by omega)]; exact h1
def mc_val (fw fs : Nat → Int32) (s a : Int32) : Int32 := if (0 : Int32) ≤ a then (s >>> (fs a.toNatClampNeg &&& 31)) &&& mc_msk (fw a.toNatClampNeg) else ((-1) : Int32) - a
def mc_op (R : Nat) (a : Int32) : Prop := (∃ r, r < R ∧ a = nI r) ∨ (¬ (0 : Int32) ≤ a ∧ ∃ c, c < 16 ∧ ((-1) : Int32) - a = nI c)
def mc_res (o x y : Int32) : Int32 := if o = 0 then x + y else if o = 1 then x - y else if o = 2 then x &&& y else if o = 3 then x ||| y else if o = 4 then x ^^^ y else if o = 5 then x * y else if o = 6 then (if y ≤ x then 0 else 1) else if o = 7 then (if x = y then 1 else 0) else if o = 8 then (if y = 0 then 0 else x) else (x / (2 : Int32)) + ((8 : Int32) * y)
def mc_W (R B : Nat) (fw fs : Nat → Int32) : Prop := R ≤ 4 ∧ B ≤ 12 ∧ ∀ r, r < R → ∃ w h, fw r = nI w ∧ fs r = nI h ∧ 1 ≤ w ∧ w ≤ 4 ∧ h + w ≤ B
theorem mc_val_lt {R B : Nat} {fw fs : Nat → Int32} {s a : Int32} (h : mc_W R B fw fs) (ha : mc_op R a) : ∃ v, v < 16 ∧ mc_val fw fs s a = nI v := by
  unfold mc_val
  rcases ha with ⟨r, hr, rfl⟩ | ⟨h0, c, hc, e⟩
  · obtain ⟨w, hh, e1, e2, h1, h2, h3⟩ := h.2.2 r hr
    have := h.1
    rw [if_pos (nI_pos' (by omega)), nI_clamp (by omega), e1]
    obtain ⟨j, hj, ej⟩ := pk_andE (s >>> (fs r &&& 31)) w (mc_msk_n w (by omega))
    refine ⟨j, Nat.lt_of_lt_of_le hj ?_, ej⟩
    exact Nat.pow_le_pow_right (n := 2) (by omega) h2
  · rw [if_neg h0]; exact ⟨c, hc, e⟩
def mc_step (fw fs ft fo fa fb : Nat → Int32) (i : Nat) (s : Int32) : Nat → Int32
  | 0 => s
  | j + 1 => mc_put (fw (ft (8 * i + j)).toNatClampNeg) (fs (ft (8 * i + j)).toNatClampNeg) (mc_step fw fs ft fo fa fb i s j) (mc_res (fo (8 * i + j)) (mc_val fw fs s (fa (8 * i + j))) (mc_val fw fs s (fb (8 * i + j))))
def mc_I (R I : Nat) (fx fy fn ft fa fb : Nat → Int32) : Prop :=
  I ≤ 4 ∧ (∀ i, i < 4 → ∃ t, t ≤ 8 ∧ fn i = nI t ∧ (I ≤ i → t = 0)) ∧ ∀ i, i < I → mc_op R (fx i) ∧ mc_op R (fy i) ∧ ∀ j, j < (fn i).toNatClampNeg → mc_op R (fa (8 * i + j)) ∧ mc_op R (fb (8 * i + j)) ∧ ∃ r, r < R ∧ ft (8 * i + j) = nI r
theorem mc_step_lt {R B I i s : Nat} {fw fs fx fy fn ft fo fa fb : Nat → Int32} (hW : mc_W R B fw fs) (hI : mc_I R I fx fy fn ft fa fb) (hi : i < I) (hs : s < 2 ^ B) : ∀ j, j ≤ (fn i).toNatClampNeg → ∃ t, t < 2 ^ B ∧ mc_step fw fs ft fo fa fb i (nI s) j = nI t := by
  intro j
  induction j with
  | zero => intro _; exact ⟨s, hs, rfl⟩
  | succ j ih =>
    intro hj
    obtain ⟨t, ht, e⟩ := ih (by omega)
    obtain ⟨_, _, r, hr, er⟩ := (hI.2.2 i hi).2.2 j (by omega)
    have := hW.1
    obtain ⟨w, h, e1, e2, h1, h2, h3⟩ := hW.2.2 r hr
    unfold mc_step
    rw [e, er, nI_clamp (by omega), e1, e2]
    exact mc_put_lt h2 hW.2.1 h3 ht
def mc_st (fw fs fn ft fo fa fb : Nat → Int32) (s i : Nat) : Nat := (mc_step fw fs ft fo fa fb i (nI s) (fn i).toNatClampNeg).toNatClampNeg
def mc_out (fw fs fq fx fy : Nat → Int32) (s i : Nat) : Nat := (mc_res (fq i) (mc_val fw fs (nI s) (fx i)) (mc_val fw fs (nI s) (fy i)) &&& (15 : Int32)).toNatClampNeg
theorem mc_st_ok {R B I i s : Nat} {fw fs fx fy fn ft fo fa fb : Nat → Int32} (hW : mc_W R B fw fs) (hI : mc_I R I fx fy fn ft fa fb) (hi : i < I) (hs : s < 2 ^ B) : mc_st fw fs fn ft fo fa fb s i < 2 ^ B ∧ mc_step fw fs ft fo fa fb i (nI s) (fn i).toNatClampNeg = nI (mc_st fw fs fn ft fo fa fb s i) := by
  obtain ⟨t, ht, e⟩ := mc_step_lt (fo := fo) hW hI hi hs _ (Nat.le_refl _)
  have hB2 : (2 : Nat) ^ B ≤ 2 ^ 12 := Nat.pow_le_pow_right (by omega) hW.2.1
  unfold mc_st
  rw [e, nI_clamp (by omega)]
  exact ⟨ht, rfl⟩
theorem mc_out_ok (fw fs fq fx fy : Nat → Int32) (s i : Nat) : mc_out fw fs fq fx fy s i < 16 ∧ mc_res (fq i) (mc_val fw fs (nI s) (fx i)) (mc_val fw fs (nI s) (fy i)) &&& (15 : Int32) = nI (mc_out fw fs fq fx fy s i) := by
  obtain ⟨j, hj, e⟩ := pk_andE (mc_res (fq i) (mc_val fw fs (nI s) (fx i)) (mc_val fw fs (nI s) (fy i))) (m := 15) 4 (by decide)
  unfold mc_out
  rw [e, nI_clamp (by omega)]
  exact ⟨hj, rfl⟩
/-! the reference's step -/
theorem s_MO_valueOf {t_thrown : Int32} {t_room : Int32} {t_registers : Int32} {t_bits : Int32} {t_inputs : Int32} {t_first : Int32} {t_isFresh : Int32} {t_isRoom : Int32} {t_walked : Int32} {t_parts : Int32} {t_nodes : Int32} {t_classes : Int32} {f_t_width : Nat → Int32} {f_t_shift : Nat → Int32} {R B : Nat} {s a : Int32} {post : Int32 → Prop} (hW : mc_W R B f_t_width f_t_shift) (ha : mc_op R a) (hp : post (mc_val f_t_width f_t_shift s a)) : wp_MO_valueOf t_thrown t_room t_registers t_bits t_inputs t_first t_isFresh t_isRoom t_walked t_parts t_nodes t_classes 4 f_t_width 4 f_t_shift s a post := by
  unfold wp_MO_valueOf
  have := hW.1
  unfold mc_val at hp
  rcases ha with ⟨r, hr, rfl⟩ | ⟨h0, c, hc, e⟩
  · rw [if_pos (nI_pos' (by omega))] at hp
    exact br_t (nI_pos' (by omega)) ⟨pk_in r 4 (by omega), pk_in r 4 (by omega), hp⟩
  · rw [if_neg h0] at hp
    exact br_f h0 hp
theorem mc_cases {o x y : Int32} {post : Int32 → Prop} (h : post (mc_res o x y)) :
    ((o = 0 → post (x + y)) ∧ ((o = 1 → post (x - y)) ∧ ((o = 2 → post (x &&& y)) ∧ ((o = 3 → post (x ||| y)) ∧ ((o = 4 → post (x ^^^ y)) ∧ ((o = 5 → post (x * y)) ∧ ((o = 6 → ((y ≤ x → post 0) ∧ (¬ y ≤ x → post 1))) ∧ ((o = 7 → ((¬ x = y → post 0) ∧ (x = y → post 1))) ∧ ((o = 8 → ((y = 0 → post 0) ∧ (¬ y = 0 → post x))) ∧ (¬ o = 0 → ¬ o = 1 → ¬ o = 2 → ¬ o = 3 → ¬ o = 4 → ¬ o = 5 → ¬ o = 6 → ¬ o = 7 → ¬ o = 8 → post ((x / (2 : Int32)) + ((8 : Int32) * y)))))))))))) := by
  unfold mc_res at h
  refine ⟨?_, ?_, ?_, ?_, ?_, ?_, ?_, ?_, ?_, ?_⟩
  · intro e; subst e; simpa using h
  · intro e; subst e; simpa using h
  · intro e; subst e; simpa using h
  · intro e; subst e; simpa using h
  · intro e; subst e; simpa using h
  · intro e; subst e; simpa using h
  · intro e; subst e
    have h : post (if y ≤ x then 0 else 1) := h
    exact ⟨fun z => by rwa [if_pos z] at h, fun z => by rwa [if_neg z] at h⟩
  · intro e; subst e
    have h : post (if x = y then 1 else 0) := h
    exact ⟨fun z => by rwa [if_neg z] at h, fun z => by rwa [if_pos z] at h⟩
  · intro e; subst e
    have h : post (if y = 0 then 0 else x) := h
    exact ⟨fun z => by rwa [if_pos z] at h, fun z => by rwa [if_neg z] at h⟩
  · intro e0 e1 e2 e3 e4 e5 e6 e7 e8
    rwa [if_neg e0, if_neg e1, if_neg e2, if_neg e3, if_neg e4, if_neg e5, if_neg e6, if_neg e7, if_neg e8] at h
theorem s_MO_result {t_thrown : Int32} {t_room : Int32} {t_registers : Int32} {t_bits : Int32} {t_inputs : Int32} {t_first : Int32} {t_isFresh : Int32} {t_isRoom : Int32} {t_walked : Int32} {t_parts : Int32} {t_nodes : Int32} {t_classes : Int32} {f_t_width : Nat → Int32} {f_t_shift : Nat → Int32} {R B : Nat} {s o a b : Int32} {post : Int32 → Prop} (hW : mc_W R B f_t_width f_t_shift) (ha : mc_op R a) (hb : mc_op R b) (hp : post (mc_res o (mc_val f_t_width f_t_shift s a) (mc_val f_t_width f_t_shift s b))) : wp_MO_result t_thrown t_room t_registers t_bits t_inputs t_first t_isFresh t_isRoom t_walked t_parts t_nodes t_classes 4 f_t_width 4 f_t_shift s o a b post := by
  unfold wp_MO_result
  refine s_MO_valueOf hW ha (s_MO_valueOf hW hb ?_)
  exact mc_cases hp
theorem s_MO_stepOf {t_thrown : Int32} {t_room : Int32} {t_registers : Int32} {t_bits : Int32} {t_inputs : Int32} {t_first : Int32} {t_isFresh : Int32} {t_isRoom : Int32} {t_walked : Int32} {t_parts : Int32} {t_nodes : Int32} {t_classes : Int32} {f_t_width : Nat → Int32} {f_t_shift : Nat → Int32} {f_t_transfers : Nat → Int32} {f_t_to : Nat → Int32} {f_t_op : Nat → Int32} {f_t_opA : Nat → Int32} {f_t_opB : Nat → Int32} {R B I i : Nat} {s : Int32} {fx fy : Nat → Int32} {post : Int32 → Prop} (hW : mc_W R B f_t_width f_t_shift) (hI : mc_I R I fx fy f_t_transfers f_t_to f_t_opA f_t_opB) (hi : i < I) (hp : post (mc_step f_t_width f_t_shift f_t_to f_t_op f_t_opA f_t_opB i s (f_t_transfers i).toNatClampNeg)) :
    wp_MO_stepOf t_thrown t_room t_registers t_bits t_inputs t_first t_isFresh t_isRoom t_walked t_parts t_nodes t_classes 4 f_t_width 4 f_t_shift 4 f_t_transfers 32 f_t_to 32 f_t_op 32 f_t_opA 32 f_t_opB s (nI i) post := by
  unfold wp_MO_stepOf
  rintro _ rfl
  have hI4 := hI.1
  have hR4 := hW.1
  obtain ⟨t, ht, et, _⟩ := hI.2.1 i (by omega)
  rw [et, nI_clamp (by omega)] at hp
  have key : ∀ (k j : Nat), j ≤ t → t - j ≤ k → wp_MO_stepOf_L8 t_thrown t_room t_registers t_bits t_inputs t_first t_isFresh t_isRoom t_walked t_parts t_nodes t_classes 4 f_t_width 4 f_t_shift 4 f_t_transfers 32 f_t_to 32 f_t_op 32 f_t_opA 32 f_t_opB s (nI i) post (k + 1) (mc_step f_t_width f_t_shift f_t_to f_t_op f_t_opA f_t_opB i s j) (nI (8 * i + j)) := by
    intro k
    induction k with
    | zero =>
      intro j hj hk
      have e : j = t := by omega
      subst e
      unfold wp_MO_stepOf_L8
      refine ⟨pk_in i 4 (by omega), ?_⟩
      rw [nI_clamp (by omega), et, show (8 : Int32) = nI 8 from rfl, pk_mul, nI_add]
      exact pk_le (8 * i + j) (8 * i + j) (fun _ => hp) (fun h => absurd h (by omega))
    | succ k ih =>
      intro j hj hk
      unfold wp_MO_stepOf_L8
      refine ⟨pk_in i 4 (by omega), ?_⟩
      rw [nI_clamp (by omega), et, show (8 : Int32) = nI 8 from rfl, pk_mul, nI_add]
      refine pk_le (8 * i + t) (8 * i + j) (fun h => ?_) (fun h => ⟨pk_in (8 * i + j) 32 (by omega), ?_⟩)
      · have e : j = t := by omega
        subst e; exact hp
      rintro _ rfl
      rw [nI_clamp (by omega)]
      obtain ⟨ha, hb, r, hr, er⟩ := (hI.2.2 i hi).2.2 j (by rw [et, nI_clamp (by omega)]; omega)
      have er' := er
      rw [er]
      refine ⟨pk_in r 4 (by omega), ?_⟩
      rintro _ rfl
      refine ⟨pk_in r 4 (by omega), pk_in (8 * i + j) 32 (by omega), pk_in (8 * i + j) 32 (by omega), pk_in (8 * i + j) 32 (by omega), ?_⟩
      refine s_MO_result hW ha hb ⟨pk_in r 4 (by omega), ?_⟩
      rintro _ rfl _ rfl
      rw [nI_1]
      have z := ih (j + 1) (by omega) (by omega)
      unfold mc_step at z
      rw [er] at z
      exact z
  have z := key t 0 (by omega) (by omega)
  refine ⟨t + 1, ?_⟩
  rw [show (8 : Int32) = nI 8 from rfl, pk_mul]
  exact z
theorem s_MO_outputOf {t_thrown : Int32} {t_room : Int32} {t_registers : Int32} {t_bits : Int32} {t_inputs : Int32} {t_first : Int32} {t_isFresh : Int32} {t_isRoom : Int32} {t_walked : Int32} {t_parts : Int32} {t_nodes : Int32} {t_classes : Int32} {f_t_width : Nat → Int32} {f_t_shift : Nat → Int32} {f_t_outOp : Nat → Int32} {f_t_outA : Nat → Int32} {f_t_outB : Nat → Int32} {R B I i : Nat} {s : Int32} {fn ft fa fb : Nat → Int32} {post : Int32 → Prop} (hW : mc_W R B f_t_width f_t_shift) (hI : mc_I R I f_t_outA f_t_outB fn ft fa fb) (hi : i < I) (hp : post (mc_res (f_t_outOp i) (mc_val f_t_width f_t_shift s (f_t_outA i)) (mc_val f_t_width f_t_shift s (f_t_outB i)) &&& (15 : Int32))) :
    wp_MO_outputOf t_thrown t_room t_registers t_bits t_inputs t_first t_isFresh t_isRoom t_walked t_parts t_nodes t_classes 4 f_t_width 4 f_t_shift 4 f_t_outOp 4 f_t_outA 4 f_t_outB s (nI i) post := by
  unfold wp_MO_outputOf
  have hI4 := hI.1
  refine ⟨pk_in i 4 (by omega), pk_in i 4 (by omega), pk_in i 4 (by omega), ?_⟩
  rw [nI_clamp (by omega)]
  exact s_MO_result hW (hI.2.2 i hi).1 (hI.2.2 i hi).2.1 hp

theorem wm_come {S I : Nat} {st : Nat → Nat → Nat} {room k i : Nat} {W : wk_T} {state fro by' depth number : Nat → Int32} (hI : I ≤ 4) (hw : wk_inv S I st room k i W) (hk : k < w_sz W) (hi : i < I) (h : wm_rep W state fro by' depth number) :
    wm_rep (bf_come (st (w_ord W k) i) k i W) (upd state (w_sz W) (nI (st (w_ord W k) i))) (upd fro (w_sz W) (nI k)) (upd by' (w_sz W) (nI i)) (upd depth (w_sz W) (depth k + 1)) (upd number (st (w_ord W k) i) (nI (w_sz W))) := by
  obtain ⟨h1, h3⟩ := h
  refine ⟨fun j hj => ?_, fun t ht => ?_⟩
  · show _ = nI (va_up (w_ord W) (w_sz W) (st (w_ord W k) i) j) ∧ _ = nI (va_up (w_wd W) (w_sz W) (w_wd W k ++ [i]) j).length ∧ (va_up (w_wd W) (w_sz W) (w_wd W k ++ [i]) j = [] ∨ ∃ p x, p < j ∧ x < 4 ∧ _ ∧ _ ∧ va_up (w_wd W) (w_sz W) (w_wd W k ++ [i]) j = va_up (w_wd W) (w_sz W) (w_wd W k ++ [i]) p ++ [x])
    by_cases e : j = w_sz W
    · subst e
      rw [pk_us, pk_us, pk_us, pk_us, q_us, q_us, (h1 k hk).2.1]
      refine ⟨rfl, ?_, Or.inr ⟨k, i, hk, by omega, rfl, rfl, by rw [q_un (by omega)]⟩⟩
      rw [nI_1, List.length_append, List.length_singleton]
    · have hj' : j < w_sz W := by have : j < w_sz W + 1 := hj; omega
      rw [pk_un e, pk_un e, pk_un e, pk_un e, q_un e, q_un e]
      obtain ⟨a, b, c⟩ := h1 j hj'
      refine ⟨a, b, ?_⟩
      rcases c with z | ⟨p, x, z1, z2, z3, z4, z5⟩
      · exact Or.inl z
      · exact Or.inr ⟨p, x, z1, z2, z3, z4, by rw [q_un (by omega)]; exact z5⟩
  · show _ = w_enc (va_up (w_num W) (st (w_ord W k) i) (w_sz W + 1) t)
    by_cases e : t = st (w_ord W k) i
    · subst e; rw [pk_us, q_us, w_enc1]
    · rw [pk_un e, q_un e]; exact h3 t ht
theorem s_MO_walk_L61 {t_thrown : Int32} {t_registers : Int32} {t_bits : Int32} {t_first : Int32} {t_isFresh : Int32} {t_isRoom : Int32} {t_walked : Int32} {t_parts : Int32} {t_nodes : Int32} {t_classes : Int32} {f_t_next : Nat → Int32} {f_t_state : Nat → Int32} {f_t_from : Nat → Int32} {f_t_by : Nat → Int32} {f_t_depth : Nat → Int32} {f_t_number : Nat → Int32} {S I k room : Nat} {W0 : wk_T} {st out : Nat → Nat → Nat} {K44 : Int32 → Int32 → (Nat → Int32) → (Nat → Int32) → (Nat → Int32) → (Nat → Int32) → (Nat → Int32) → Int32 → Prop} {post : Int32 → Int32 → (Nat → Int32) → (Nat → Int32) → (Nat → Int32) → (Nat → Int32) → (Nat → Int32) → Prop} (hI : I ≤ 4) (hS1 : S ≤ 4096) (hroom : room ≤ 4096) (hst : ∀ s i, s < S → i < I → st s i < S) (hnx : ∀ s i, s < S → i < I → f_t_next (4 * s + i) = nI (st s i))
    (hp1 : ∀ (W : wk_T) (state fro by' depth number : Nat → Int32), W = bf_row st room k W0 I → w_ok W = true → wk_inv S I st room k I W → k < w_sz W → wm_rep W state fro by' depth number → K44 1 (nI (w_sz W)) state fro by' depth number (nI (k + 1)))
    (hp2 : ∀ (W : wk_T) (walked : Int32) (state fro by' depth number : Nat → Int32), W = bf_row st room k W0 I → w_ok W = false → K44 0 walked state fro by' depth number (nI (k + 1))) :
    ∀ (m i : Nat) (W : wk_T) (state fro by' depth number : Nat → Int32), W = bf_row st room k W0 i → w_ok W = true → wk_inv S I st room k i W → k < w_sz W → wm_rep W state fro by' depth number → i ≤ I → I - i ≤ m →
      wp_MO_walk_L61 t_thrown (nI room) t_registers t_bits (nI I) t_first t_isFresh t_isRoom t_walked t_parts t_nodes t_classes 16384 f_t_next 4096 f_t_state 4096 f_t_from 4096 f_t_by 4096 f_t_depth 4096 f_t_number K44 post (m + 1) 1 (nI (w_sz W)) state fro by' depth number (nI k) (nI i) := by
  intro m
  have fin : ∀ (m : Nat) (W : wk_T) (state fro by' depth number : Nat → Int32), W = bf_row st room k W0 I → w_ok W = true → wk_inv S I st room k I W → k < w_sz W → wm_rep W state fro by' depth number → wp_MO_walk_L61 t_thrown (nI room) t_registers t_bits (nI I) t_first t_isFresh t_isRoom t_walked t_parts t_nodes t_classes 16384 f_t_next 4096 f_t_state 4096 f_t_from 4096 f_t_by 4096 f_t_depth 4096 f_t_number K44 post (m + 1) 1 (nI (w_sz W)) state fro by' depth number (nI k) (nI I) := by
    intro m W state fro by' depth number e1 e2 hw hk hr
    unfold wp_MO_walk_L61
    refine pk_le I I (fun _ => ?_) (fun h => absurd h (by omega))
    rintro _ rfl
    rw [nI_1]
    exact hp1 W state fro by' depth number e1 e2 hw hk hr
  induction m with
  | zero =>
    intro i W state fro by' depth number e1 e2 hw hk hr hi hm
    have e : i = I := by omega
    subst e
    exact fin 0 W state fro by' depth number e1 e2 hw hk hr
  | succ m ih =>
    intro i W state fro by' depth number e1 e2 hw hk hr hi hm
    rcases Nat.lt_or_ge i I with hlt | hge
    · have hle := wk_le hw
      have hok := hw.2.2.1 k hk
      have htS := hst _ i hok.1 hlt
      have hstep : bf_row st room k W0 (i + 1) = bf_in st room k i W := by rw [e1]; rfl
      unfold wp_MO_walk_L61
      refine pk_le I i (fun h => absurd h (by omega)) (fun _ => ?_)
      refine ⟨fun h => absurd h (by decide), fun _ => ⟨pk_in k 4096 (by omega), ?_⟩⟩
      rw [nI_clamp (by omega), (hr.1 k hk).1, show (4 : Int32) = nI 4 from rfl, pk_mul, nI_add]
      refine ⟨pk_in (4 * w_ord W k + i) 16384 (by omega), ?_⟩
      rw [nI_clamp (by omega), hnx _ i hok.1 hlt]
      rintro _ rfl
      refine ⟨pk_in _ 4096 (Nat.lt_of_lt_of_le htS hS1), ?_⟩
      rw [nI_clamp (by omega), hr.2 _ (by omega)]
      by_cases h0 : w_num W (st (w_ord W k) i) = 0
      · rw [h0, w_enc0]
        refine br_f (by decide) ?_
        by_cases hrm : w_sz W = room
        · refine ⟨fun h => absurd (by rw [hrm]) h, fun _ => ?_⟩
          rintro _ rfl
          rw [nI_1]
          have hin : bf_in st room k i W = (w_sz W, w_ord W, w_num W, w_wd W, false) := by
            unfold bf_in; rw [if_pos e2, if_pos h0, if_pos (by omega)]
          have hz : w_ok (bf_row st room k W0 (i + 1)) = false := by rw [hstep, hin]
          have hs := bf_row_stop hz (I - (i + 1))
          rw [show i + 1 + (I - (i + 1)) = I by omega] at hs
          have fin2 := hp2 _ (nI (w_sz W)) state fro by' depth number rfl (by rw [hs]; exact hz)
          unfold wp_MO_walk_L61
          refine br_c (fun _ => ?_) (fun _ => br_t rfl ?_)
          · rintro _ rfl; rw [nI_1]; exact fin2
          · rintro _ rfl; rw [nI_1]; exact fin2
        · have hr2 := hw.2.1
          refine ⟨fun _ => ?_, fun h => absurd ((nI_eq (by omega) (by omega)).mp h) hrm⟩
          have hin : bf_in st room k i W = bf_come (st (w_ord W k) i) k i W := by
            unfold bf_in; rw [if_pos e2, if_pos h0, if_neg (by omega)]
          have hw' := wk_come hw hk hlt e2 htS h0 (by omega)
          have hle' : w_sz W + 1 ≤ S := wk_le hw'
          unfold wp_MO_walk_J120
          refine ⟨pk_in _ 4096 (Nat.lt_of_lt_of_le htS hS1), ?_⟩
          rw [nI_clamp (by omega), hr.2 _ (by omega), h0, w_enc0]
          refine br_f (by decide) ?_
          unfold wp_MO_come
          refine ⟨pk_in (w_sz W) 4096 (by omega), ?_⟩
          rintro _ rfl
          refine ⟨pk_in (w_sz W) 4096 (by omega), ?_⟩
          rintro _ rfl
          refine ⟨pk_in (w_sz W) 4096 (by omega), ?_⟩
          rintro _ rfl
          refine br_t (nI_pos' (by omega)) ⟨pk_in k 4096 (by omega), ?_⟩
          rintro _ rfl
          refine ⟨pk_in (w_sz W) 4096 (by omega), ?_⟩
          rintro _ rfl
          refine ⟨pk_in _ 4096 (Nat.lt_of_lt_of_le htS hS1), ?_⟩
          rintro _ rfl _ rfl _ rfl
          rw [nI_clamp (by omega), nI_clamp (by omega), nI_clamp (by omega), nI_1, show (1 : Int32) = nI 1 from rfl, nI_add]
          exact ih (i + 1) (bf_come (st (w_ord W k) i) k i W) _ _ _ _ _ (by rw [hstep, hin]) rfl hw' (Nat.lt_succ_of_lt hk) (wm_come hI hw hk hlt hr) (by omega) (by omega)
      · have hin : bf_in st room k i W = W := by
          unfold bf_in; rw [if_pos e2, if_neg h0]
        rcases hw.2.2.2.1 (st (w_ord W k) i) with z | ⟨j, z1, z2, z3⟩
        · exact absurd z h0
        rw [z2, w_enc1]
        refine br_t (nI_pos' (by omega)) ?_
        unfold wp_MO_walk_J120
        refine ⟨pk_in _ 4096 (Nat.lt_of_lt_of_le htS hS1), ?_⟩
        rw [nI_clamp (by omega), hr.2 _ (by omega), z2, w_enc1]
        refine br_t (nI_pos' (by omega)) ?_
        rintro _ rfl
        rw [nI_1]
        exact ih (i + 1) W _ _ _ _ _ (by rw [hstep, hin]) e2 (wk_stay hw h0) hk hr (by omega) (by omega)
    · have e : i = I := by omega
      subst e
      exact fin (m + 1) W state fro by' depth number e1 e2 hw hk hr
def wm_res (S I : Nat) (st : Nat → Nat → Nat) (room first : Nat) (isRoom walked : Int32) (state fro by' depth number : Nat → Int32) : Prop :=
  ∃ W, W = bf st I room first S ∧ ((isRoom = 0 ∧ w_ok W = false) ∨ (isRoom = 1 ∧ w_ok W = true ∧ walked = nI (w_sz W) ∧ wk_inv S I st room (w_sz W) 0 W ∧ wm_rep W state fro by' depth number))
theorem s_MO_walk {t_thrown : Int32} {t_registers : Int32} {t_bits : Int32} {t_isFresh : Int32} {t_isRoom : Int32} {t_walked : Int32} {t_parts : Int32} {t_nodes : Int32} {t_classes : Int32} {f_t_next : Nat → Int32} {f_t_state : Nat → Int32} {f_t_from : Nat → Int32} {f_t_by : Nat → Int32} {f_t_depth : Nat → Int32} {f_t_number : Nat → Int32} {S I room first : Nat} {st out : Nat → Nat → Nat} {post : Int32 → Int32 → (Nat → Int32) → (Nat → Int32) → (Nat → Int32) → (Nat → Int32) → (Nat → Int32) → Prop} (hI : I ≤ 4) (hS1 : S ≤ 4096) (hroom : room ≤ 4096) (hr0 : 0 < room) (hf : first < S) (hst : ∀ s i, s < S → i < I → st s i < S) (hnx : ∀ s i, s < S → i < I → f_t_next (4 * s + i) = nI (st s i))
    (hp : ∀ (isRoom walked : Int32) (state fro by' depth number : Nat → Int32), wm_res S I st room first isRoom walked state fro by' depth number → post isRoom walked state fro by' depth number) :
    wp_MO_walk t_thrown (nI room) t_registers t_bits (nI I) (nI first) t_isFresh t_isRoom t_walked t_parts t_nodes t_classes 16384 f_t_next 4096 f_t_state 4096 f_t_from 4096 f_t_by 4096 f_t_depth 4096 f_t_number post := by
  unfold wp_MO_walk
  have outer : ∀ (m k : Nat) (W : wk_T) (state fro by' depth number : Nat → Int32), W = bf st I room first k → w_ok W = true → wk_inv S I st room k 0 W → k ≤ w_sz W → wm_rep W state fro by' depth number → S - k ≤ m →
      wp_MO_walk_L44 t_thrown (nI room) t_registers t_bits (nI I) (nI first) t_isFresh t_isRoom t_walked t_parts t_nodes t_classes 16384 f_t_next 4096 f_t_state 4096 f_t_from 4096 f_t_by 4096 f_t_depth 4096 f_t_number post (m + 2) 1 (nI (w_sz W)) state fro by' depth number (nI k) := by
    have fin : ∀ (k : Nat) (W : wk_T) (state fro by' depth number : Nat → Int32), W = bf st I room first k → w_ok W = true → wk_inv S I st room k 0 W → k ≤ w_sz W → w_sz W ≤ k → wm_rep W state fro by' depth number → post 1 (nI (w_sz W)) state fro by' depth number := by
      intro k W state fro by' depth number e1 e2 hw hk1 hk2 hr
      have hle := wk_le hw
      have e : k = w_sz W := by omega
      have hstop := bf_stop (st := st) (I := I) (room := room) (first := first) (k := k) (Or.inl (by rw [← e1]; exact hk2)) (S - k)
      rw [show k + (S - k) = S by omega, ← e1] at hstop
      exact hp _ _ _ _ _ _ _ ⟨W, hstop.symm, Or.inr ⟨rfl, e2, rfl, e ▸ hw, hr⟩⟩
    intro m
    induction m with
    | zero =>
      intro k W state fro by' depth number e1 e2 hw hk hr hm
      have hle := wk_le hw
      unfold wp_MO_walk_L44
      exact pk_le (w_sz W) k (fun _ => fin k W state fro by' depth number e1 e2 hw hk (by omega) hr) (fun h => absurd h (by omega))
    | succ m ih =>
      intro k W state fro by' depth number e1 e2 hw hk hr hm
      have hle := wk_le hw
      unfold wp_MO_walk_L44
      refine pk_le (w_sz W) k (fun _ => fin k W state fro by' depth number e1 e2 hw hk (by omega) hr) (fun hks => ?_)
      refine ⟨fun h => absurd h (by decide), fun _ => ⟨I + 1, ?_⟩⟩
      have hrow : bf st I room first (k + 1) = bf_row st room k W I := by
        show (if k < w_sz (bf st I room first k) then _ else _) = _
        rw [← e1, if_pos hks]
      refine s_MO_walk_L61 (out := out) hI hS1 hroom hst hnx (W0 := W) (fun W' state fro by' depth number e1' e2' hw' hk' hr' => ?_) (fun W' walked state fro by' depth number e1' e2' => ?_) I 0 W state fro by' depth number rfl e2 hw hks hr (by omega) (by omega)
      · exact ih (k + 1) W' state fro by' depth number (by rw [hrow]; exact e1') e2' (wk_next hw') (by omega) hr' (by omega)
      · have hz : w_ok (bf st I room first (k + 1)) = false := by rw [hrow, ← e1']; exact e2'
        have hstop := bf_stop (st := st) (I := I) (room := room) (first := first) (k := k + 1) (Or.inr hz) (S - (k + 1))
        rw [show k + 1 + (S - (k + 1)) = S by omega] at hstop
        have fin2 := hp 0 walked state fro by' depth number ⟨_, rfl, Or.inl ⟨rfl, by rw [hstop]; exact hz⟩⟩
        unfold wp_MO_walk_L44
        exact br_c (fun _ => fin2) (fun _ => br_t rfl fin2)
  have fill : ∀ (m i : Nat) (isRoom walked : Int32) (state fro by' depth number : Nat → Int32), i ≤ 4096 → 4096 - i ≤ m → (∀ t, t < i → number t = -1) →
      wp_MO_walk_L2 t_thrown (nI room) t_registers t_bits (nI I) (nI first) t_isFresh t_isRoom t_walked t_parts t_nodes t_classes 16384 f_t_next 4096 f_t_state 4096 f_t_from 4096 f_t_by 4096 f_t_depth 4096 f_t_number post (m + 1) isRoom walked state fro by' depth number (nI i) := by
    have fin : ∀ (m : Nat) (isRoom walked : Int32) (state fro by' depth number : Nat → Int32), (∀ t, t < 4096 → number t = -1) →
        wp_MO_walk_L2 t_thrown (nI room) t_registers t_bits (nI I) (nI first) t_isFresh t_isRoom t_walked t_parts t_nodes t_classes 16384 f_t_next 4096 f_t_state 4096 f_t_from 4096 f_t_by 4096 f_t_depth 4096 f_t_number post (m + 1) isRoom walked state fro by' depth number (nI 4096) := by
      intro m isRoom walked state fro by' depth number h4
      unfold wp_MO_walk_L2
      refine pk_le 4096 4096 (fun _ => ?_) (fun h => absurd h (by omega))
      unfold wp_MO_come
      refine ⟨pk_in 0 4096 (by omega), ?_⟩
      rintro _ rfl
      refine ⟨pk_in 0 4096 (by omega), ?_⟩
      rintro _ rfl
      refine ⟨pk_in 0 4096 (by omega), ?_⟩
      rintro _ rfl
      refine br_f (by decide) ⟨pk_in 0 4096 (by omega), ?_⟩
      rintro _ rfl
      refine ⟨pk_in first 4096 (by omega), ?_⟩
      rintro _ rfl _ rfl
      rw [nI_clamp (by omega), show (0 : Int32).toNatClampNeg = 0 from rfl]
      refine ⟨S + 2, ?_⟩
      have hw := wk_init (I := I) (st := st) (room := room) hf hr0
      refine outer S 0 (bf st I room first 0) _ _ _ _ _ rfl rfl hw (by omega) ⟨fun j hj => ?_, fun t ht => ?_⟩ (by omega)
      · have : j = 0 := by have : j < 1 := hj; omega
        subst this
        rw [pk_us, pk_us]
        exact ⟨rfl, rfl, Or.inl rfl⟩
      · show _ = w_enc (va_up (fun _ => 0) first 1 t)
        by_cases e : t = first
        · subst e; rw [pk_us, q_us]; rfl
        · rw [pk_un e, q_un e, h4 t ht]; rfl
    intro m
    induction m with
    | zero =>
      intro i isRoom walked state fro by' depth number hi hm h4
      have e : i = 4096 := by omega
      subst e
      exact fin 0 isRoom walked state fro by' depth number h4
    | succ m ih =>
      intro i isRoom walked state fro by' depth number hi hm h4
      rcases Nat.lt_or_ge i 4096 with hlt | hge
      · unfold wp_MO_walk_L2
        refine pk_le 4096 i (fun h => absurd h (by omega)) (fun _ => ⟨pk_in i 4096 hlt, ?_⟩)
        rintro _ rfl _ rfl
        rw [nI_1, nI_clamp (by omega)]
        refine ih (i + 1) isRoom walked state fro by' depth _ (by omega) (by omega) (fun t ht => ?_)
        by_cases e : t = i
        · subst e; exact pk_us
        · rw [pk_un e]; exact h4 t (by omega)
      · have e : i = 4096 := by omega
        subst e
        exact fin (m + 1) isRoom walked state fro by' depth number h4
  exact ⟨4097, fill 4096 0 _ _ _ _ _ _ _ (by omega) (by omega) (fun t ht => absurd ht (by omega))⟩

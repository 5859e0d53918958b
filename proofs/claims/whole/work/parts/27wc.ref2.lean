theorem q_pm1 {N : Nat} (h : N < 2 ^ 31) : (nI N - 1).toInt = (N : Int) - 1 := by
  rw [Int32.toInt_sub, nI_toInt h]
  show Int.bmod ((N : Int) - 1) (2 ^ 32) = _
  rw [Int.bmod_def]; split <;> omega
theorem q_le {x y : Int32} : x ≤ y ↔ x.toInt ≤ y.toInt := Int32.le_iff_toInt_le
theorem q_lt {x y : Int32} : x < y ↔ x.toInt < y.toInt := Int32.lt_iff_toInt_lt
theorem q_p2 {B : Nat} (hB : B ≤ 12) : (2 : Nat) ^ B ≤ 4096 := Nat.pow_le_pow_right (n := 2) (by omega) hB
/-- a is one of the first N numbers -/
def q_is (N : Nat) (a : Int32) : Prop := ∃ k, k < N ∧ a = nI k
theorem q_ix (a : Int32) {N : Nat} (hN : N < 2 ^ 31) : (a < 0 ∧ ¬ q_is N a) ∨ (¬ a < 0 ∧ nI N ≤ a ∧ ¬ q_is N a) ∨ ∃ k, k < N ∧ a = nI k := by
  rcases pk_ix a hN with h | h | h
  · refine Or.inl ⟨h, ?_⟩
    rintro ⟨k, hk, rfl⟩
    exact absurd h (nI_pos (by omega))
  · refine Or.inr (Or.inl ⟨?_, h, ?_⟩)
    · intro z
      rw [q_lt] at z; rw [q_le, nI_toInt hN] at h
      have : (0 : Int32).toInt = 0 := rfl
      omega
    · rintro ⟨k, hk, rfl⟩
      exact absurd ((nI_leI hN (by omega)).mp h) (by omega)
  · exact Or.inr (Or.inr h)
theorem s_MO_within {a : Int32} {N : Nat} {post : Int32 → Prop} (hN : N < 2 ^ 31) (h1 : ∀ k, k < N → a = nI k → post 1) (h0 : ¬ q_is N a → post 0) : wp_MO_within a 0 (nI N - 1) post := by
  unfold wp_MO_within
  rcases q_ix a hN with ⟨h, g⟩ | ⟨h, h2, g⟩ | ⟨k, hk, e⟩
  · exact br_t h (h0 g)
  · refine br_f h (br_t ?_ (h0 g))
    rw [q_lt, q_pm1 hN]; rw [q_le, nI_toInt hN] at h2; omega
  · subst e
    refine br_f (nI_pos (by omega)) (br_f ?_ (h1 k hk rfl))
    rw [q_lt, q_pm1 hN, nI_toInt (by omega)]; omega
theorem s_MO_isState {t_thrown : Int32} {t_room : Int32} {t_registers : Int32} {t_inputs : Int32} {t_first : Int32} {t_isFresh : Int32} {t_isRoom : Int32} {t_walked : Int32} {t_parts : Int32} {t_nodes : Int32} {t_classes : Int32} {a : Int32} {B : Nat} {post : Int32 → Prop} (hB : B ≤ 12) (h1 : ∀ s, s < 2 ^ B → a = nI s → post 1) (h0 : ¬ q_is (2 ^ B) a → post 0) : wp_MO_isState t_thrown t_room t_registers (nI B) t_inputs t_first t_isFresh t_isRoom t_walked t_parts t_nodes t_classes a post := by
  have h2 := q_p2 hB
  unfold wp_MO_isState
  by_cases h : a < 0
  · refine br_t h (h0 ?_)
    rintro ⟨k, hk, rfl⟩
    exact absurd h (nI_pos (by omega))
  · obtain ⟨k, hk, rfl⟩ := nI_of h
    refine br_f h ?_
    rw [pk_shrN hk _ B (q_sl B (by omega))]
    have hle : k / 2 ^ B ≤ k := Nat.div_le_self _ _
    by_cases e : k < 2 ^ B
    · rw [Nat.div_eq_of_lt e]
      exact ⟨fun z => absurd rfl z, fun _ => h1 k e rfl⟩
    · have hpos : 0 < k / 2 ^ B := Nat.div_pos (by omega) (Nat.two_pow_pos B)
      refine ⟨fun _ => h0 ?_, fun z => absurd z (nI_ne0 hpos (by omega))⟩
      rintro ⟨k', hk', e'⟩
      have := (nI_eq hk (by omega)).mp e'
      omega
theorem s_MO_word_L68 {t_thrown : Int32} {t_isFresh : Int32} {t_isRoom : Int32} {t_walked : Int32} {t_parts : Int32} {t_nodes : Int32} {t_classes : Int32} {f_t_width : Nat → Int32} {f_t_shift : Nat → Int32} {f_t_outOp : Nat → Int32} {f_t_outA : Nat → Int32} {f_t_outB : Nat → Int32} {f_t_transfers : Nat → Int32} {f_t_to : Nat → Int32} {f_t_op : Nat → Int32} {f_t_opA : Nat → Int32} {f_t_opB : Nat → Int32} {f_t_next : Nat → Int32} {f_t_gives : Nat → Int32} {f_t_state : Nat → Int32} {f_t_from : Nat → Int32} {f_t_by : Nat → Int32} {f_t_depth : Nat → Int32} {f_t_number : Nat → Int32} {f_t_part : Nat → Int32} {f_t_newPart : Nat → Int32} {f_t_node : Nat → Int32} {f_t_newNode : Nat → Int32} {f_t_parent : Nat → Int32} {f_t_born : Nat → Int32} {f_t_one : Nat → Int32} {f_t_pieces : Nat → Int32} {f_t_chain : Nat → Int32} {f_t_behind : Nat → Int32} {f_t_classOf : Nat → Int32} {f_t_classState : Nat → Int32} {a1 : Int32} {a2 : Int32} {R B I room first S i d : Nat} {st out : Nat → Nat → Nat} {post : Int32 → Int32 → Int32 → Int32 → Int32 → Int32 → Int32 → Int32 → (Nat → Int32) → (Nat → Int32) → (Nat → Int32) → (Nat → Int32) → (Nat → Int32) → (Nat → Int32) → (Nat → Int32) → (Nat → Int32) → (Nat → Int32) → (Nat → Int32) → (Nat → Int32) → (Nat → Int32) → (Nat → Int32) → (Nat → Int32) → (Nat → Int32) → (Nat → Int32) → (Nat → Int32) → (Nat → Int32) → (Nat → Int32) → Prop} {thrown isFresh isRoom walked parts nodes classes : Int32} {next gives state fro by' depth number part newPart node newNode parent born one pieces chain behind classOf classState : Nat → Int32} (hI : I ≤ 4) (hS : S ≤ 4096) (hin : ∀ s i, s < S → i < I → st s i < S ∧ out s i < 16 ∧ next (4 * s + i) = nI (st s i) ∧ gives (4 * s + i) = nI (out s i)) (hpt : pt_R S I st out part node parent born) (hd : d < 2 ^ 20) (hid : i < d) :
    ∀ (m j c s t : Nat) (v : List Nat), s < S → t < S → pm_Min I st out c v s t → v.length + j = d → j ≤ i → i - j ≤ m → post (q_pl v (i - j)) thrown isFresh isRoom walked parts nodes classes next gives state fro by' depth number part newPart node newNode parent born one pieces chain behind classOf classState → wp_MO_word_L68 t_thrown (nI room) (nI R) (nI B) (nI I) (nI first) t_isFresh t_isRoom t_walked t_parts t_nodes t_classes 4 f_t_width 4 f_t_shift 4 f_t_outOp 4 f_t_outA 4 f_t_outB 4 f_t_transfers 32 f_t_to 32 f_t_op 32 f_t_opA 32 f_t_opB 16384 f_t_next 16384 f_t_gives 4096 f_t_state 4096 f_t_from 4096 f_t_by 4096 f_t_depth 4096 f_t_number 4096 f_t_part 4096 f_t_newPart 4096 f_t_node 4096 f_t_newNode 8192 f_t_parent 8192 f_t_born 4096 f_t_one 4096 f_t_pieces 4099 f_t_chain 4096 f_t_behind 4096 f_t_classOf 4096 f_t_classState a1 a2 (nI i) post (m + 1) thrown isFresh isRoom walked parts nodes classes next gives state fro by' depth number part newPart node newNode parent born one pieces chain behind classOf classState (nI s) (nI t) (nI d) (nI j) := by
  have fin : ∀ (m c s t : Nat) (v : List Nat), s < S → t < S → pm_Min I st out c v s t → v.length + i = d → post (q_pl v 0) thrown isFresh isRoom walked parts nodes classes next gives state fro by' depth number part newPart node newNode parent born one pieces chain behind classOf classState → wp_MO_word_L68 t_thrown (nI room) (nI R) (nI B) (nI I) (nI first) t_isFresh t_isRoom t_walked t_parts t_nodes t_classes 4 f_t_width 4 f_t_shift 4 f_t_outOp 4 f_t_outA 4 f_t_outB 4 f_t_transfers 32 f_t_to 32 f_t_op 32 f_t_opA 32 f_t_opB 16384 f_t_next 16384 f_t_gives 4096 f_t_state 4096 f_t_from 4096 f_t_by 4096 f_t_depth 4096 f_t_number 4096 f_t_part 4096 f_t_newPart 4096 f_t_node 4096 f_t_newNode 8192 f_t_parent 8192 f_t_born 4096 f_t_one 4096 f_t_pieces 4099 f_t_chain 4096 f_t_behind 4096 f_t_classOf 4096 f_t_classState a1 a2 (nI i) post (m + 1) thrown isFresh isRoom walked parts nodes classes next gives state fro by' depth number part newPart node newNode parent born one pieces chain behind classOf classState (nI s) (nI t) (nI d) (nI i) := by
    intro m c s t v hs ht hm hl hp
    cases v with
    | nil => exact absurd rfl hm.1.1
    | cons x w =>
      have hl' : w.length + 1 + i = d := hl
      unfold wp_MO_word_L68
      refine pk_le i i (fun _ => ?_) (fun h => absurd h (by omega))
      rw [pk_sub (by omega), show d - i = w.length + 1 by omega]
      exact s_MO_firstOf hI hS hin hpt hs ht (by omega) hm hp
  intro m
  induction m with
  | zero =>
    intro j c s t v hs ht hm hl hj hmm hp
    have e : j = i := by omega
    subst e
    rw [Nat.sub_self] at hp
    exact fin 0 c s t v hs ht hm hl hp
  | succ m ih =>
    intro j c s t v hs ht hm hl hj hmm hp
    rcases Nat.lt_or_ge j i with hlt | hge
    · cases v with
      | nil => exact absurd rfl hm.1.1
      | cons x w =>
        have hl' : w.length + 1 + j = d := hl
        have hx : x < I := hm.1.2 x (List.mem_cons_self ..)
        have hwn : w ≠ [] := fun z => by rw [z] at hl'; have : 0 + 1 + j = d := hl'; omega
        have a := hin s x hs hx
        have b := hin t x ht hx
        unfold wp_MO_word_L68
        refine pk_le i j (fun h => absurd h (by omega)) (fun _ => ?_)
        rw [pk_sub (by omega), show d - j = w.length + 1 by omega]
        refine s_MO_firstOf hI hS hin hpt hs ht (by omega) hm ?_
        rw [show (4 : Int32) = nI 4 from rfl, pk_mul, pk_mul, nI_add, nI_add]
        refine ⟨pk_in (4 * s + x) 16384 (by omega), ?_⟩
        rw [nI_clamp (by omega), a.2.2.1]
        rintro _ rfl
        refine ⟨pk_in (4 * t + x) 16384 (by omega), ?_⟩
        rw [nI_clamp (by omega), b.2.2.1]
        rintro _ rfl _ rfl
        rw [nI_1]
        refine ih (j + 1) _ _ _ w a.1 b.1 (pm_Min_tail hwn hm) (by omega) (by omega) (by omega) ?_
        have e : q_pl (x :: w) (i - j) = q_pl w (i - (j + 1)) := by
          unfold q_pl
          rw [show i - j = (i - (j + 1)) + 1 by omega, List.getElem?_cons_succ]
        rw [← e]; exact hp
    · have e : j = i := by omega
      subst e
      rw [Nat.sub_self] at hp
      exact fin (m + 1) c s t v hs ht hm hl hp
theorem wm_len {W : wk_T} {state fro by' depth number : Nat → Int32} (h : wm_rep W state fro by' depth number) : ∀ j, j < w_sz W → (w_wd W j).length ≤ j := by
  intro j
  induction j using Nat.strongRecOn with
  | _ j ih =>
    intro hj
    rcases (h.1 j hj).2.2 with e | ⟨p, x, hp, hx, e1, e2, e3⟩
    · rw [e]; exact Nat.zero_le _
    · have := ih p hp (by omega)
      rw [e3, List.length_append]
      have : ([x] : List Nat).length = 1 := rfl
      omega
theorem s_MO_way_L47 {t_thrown : Int32} {t_isFresh : Int32} {t_isRoom : Int32} {t_walked : Int32} {t_parts : Int32} {t_nodes : Int32} {t_classes : Int32} {f_t_width : Nat → Int32} {f_t_shift : Nat → Int32} {f_t_outOp : Nat → Int32} {f_t_outA : Nat → Int32} {f_t_outB : Nat → Int32} {f_t_transfers : Nat → Int32} {f_t_to : Nat → Int32} {f_t_op : Nat → Int32} {f_t_opA : Nat → Int32} {f_t_opB : Nat → Int32} {f_t_next : Nat → Int32} {f_t_gives : Nat → Int32} {f_t_state : Nat → Int32} {f_t_from : Nat → Int32} {f_t_by : Nat → Int32} {f_t_depth : Nat → Int32} {f_t_number : Nat → Int32} {f_t_part : Nat → Int32} {f_t_newPart : Nat → Int32} {f_t_node : Nat → Int32} {f_t_newNode : Nat → Int32} {f_t_parent : Nat → Int32} {f_t_born : Nat → Int32} {f_t_one : Nat → Int32} {f_t_pieces : Nat → Int32} {f_t_chain : Nat → Int32} {f_t_behind : Nat → Int32} {f_t_classOf : Nat → Int32} {f_t_classState : Nat → Int32} {a1 : Int32} {R B I room first i : Nat} {W : wk_T} {post : Int32 → Int32 → Int32 → Int32 → Int32 → Int32 → Int32 → Int32 → (Nat → Int32) → (Nat → Int32) → (Nat → Int32) → (Nat → Int32) → (Nat → Int32) → (Nat → Int32) → (Nat → Int32) → (Nat → Int32) → (Nat → Int32) → (Nat → Int32) → (Nat → Int32) → (Nat → Int32) → (Nat → Int32) → (Nat → Int32) → (Nat → Int32) → (Nat → Int32) → (Nat → Int32) → (Nat → Int32) → (Nat → Int32) → Prop} {thrown isFresh isRoom walked parts nodes classes : Int32} {next gives state fro by' depth number part newPart node newNode parent born one pieces chain behind classOf classState : Nat → Int32} (hsz : w_sz W ≤ 4096) (h : wm_rep W state fro by' depth number) :
    ∀ (m k : Nat), k < w_sz W → k ≤ m → i < (w_wd W k).length → post (q_pl (w_wd W k) i) thrown isFresh isRoom walked parts nodes classes next gives state fro by' depth number part newPart node newNode parent born one pieces chain behind classOf classState → wp_MO_way_L47 t_thrown (nI room) (nI R) (nI B) (nI I) (nI first) t_isFresh t_isRoom t_walked t_parts t_nodes t_classes 4 f_t_width 4 f_t_shift 4 f_t_outOp 4 f_t_outA 4 f_t_outB 4 f_t_transfers 32 f_t_to 32 f_t_op 32 f_t_opA 32 f_t_opB 16384 f_t_next 16384 f_t_gives 4096 f_t_state 4096 f_t_from 4096 f_t_by 4096 f_t_depth 4096 f_t_number 4096 f_t_part 4096 f_t_newPart 4096 f_t_node 4096 f_t_newNode 8192 f_t_parent 8192 f_t_born 4096 f_t_one 4096 f_t_pieces 4099 f_t_chain 4096 f_t_behind 4096 f_t_classOf 4096 f_t_classState a1 (nI i) post (m + 1) thrown isFresh isRoom walked parts nodes classes next gives state fro by' depth number part newPart node newNode parent born one pieces chain behind classOf classState (nI k) := by
  intro m
  induction m with
  | zero =>
    intro k hk hm hi hp
    have := wm_len h k hk
    omega
  | succ m ih =>
    intro k hk hm hi hp
    have hl := wm_len h k hk
    rcases (h.1 k hk).2.2 with e | ⟨p, x, hpk, hx, e1, e2, e3⟩
    · rw [e] at hi; exact absurd hi (Nat.not_lt_zero _)
    have hl2 : (w_wd W k).length = (w_wd W p).length + 1 := by rw [e3, List.length_append]; rfl
    unfold wp_MO_way_L47
    refine ⟨pk_in k 4096 (by omega), ?_⟩
    rw [nI_clamp (by omega), (h.1 k hk).2.1, show (1 : Int32) = nI 1 from rfl, nI_add]
    refine pk_le (w_wd W k).length (i + 1) (fun hle => ⟨pk_in k 4096 (by omega), ?_⟩) (fun hgt => ⟨pk_in k 4096 (by omega), ?_⟩)
    · rw [e2]
      have ei : i = (w_wd W p).length := by omega
      rw [e3, ei, q_pl_last] at hp
      exact hp
    · rw [e1]
      rintro _ rfl
      rw [e3, q_pl_app (by omega)] at hp
      exact ih p (by omega) (by omega) (by omega) hp
/-- where an input leads, as the reference has it numbered -/
theorem wm_to {S I room : Nat} {st : Nat → Nat → Nat} {W : wk_T} {k i : Nat} (h : wk_inv S I st room (w_sz W) 0 W) (hok : w_ok W = true) (hk : k < w_sz W) (hi : i < I) : ∃ j, j < w_sz W ∧ w_num W (st (w_ord W k) i) = j + 1 ∧ w_ord W j = st (w_ord W k) i := by
  have a := h.2.2.2.2.2.2 hok k i hk hi (Or.inl hk)
  rcases h.2.2.2.1 (st (w_ord W k) i) with z | z
  · exact absurd z a
  · exact z
theorem s_MO_intoMany {t_thrown : Int32} {t_room : Int32} {t_registers : Int32} {t_bits : Int32} {t_first : Int32} {t_isFresh : Int32} {t_isRoom : Int32} {t_parts : Int32} {t_nodes : Int32} {t_classes : Int32} {f_t_next : Nat → Int32} {f_t_state : Nat → Int32} {f_t_number : Nat → Int32} {f_t_pieces : Nat → Int32} {S I room : Nat} {st : Nat → Nat → Nat} {W : wk_T} {fro by' depth : Nat → Int32} {post : Int32 → (Nat → Int32) → Prop} (hI : I ≤ 4) (hS : S ≤ 4096) (hst : ∀ s i, s < S → i < I → st s i < S) (hnx : ∀ s i, s < S → i < I → f_t_next (4 * s + i) = nI (st s i)) (hw : wk_inv S I st room (w_sz W) 0 W) (hok : w_ok W = true) (hr : wm_rep W f_t_state fro by' depth f_t_number)
    (hp : ∀ pieces, post (nI (cN (fun j => decide (2 ≤ en_a st (w_ord W) I j (w_sz W))) (w_sz W))) pieces) :
    wp_MO_intoMany t_thrown t_room t_registers t_bits (nI I) t_first t_isFresh t_isRoom (nI (w_sz W)) t_parts t_nodes t_classes 16384 f_t_next 4096 f_t_state 4096 f_t_number 4096 f_t_pieces post := by
  have hle := wk_le hw
  unfold wp_MO_intoMany
  have last : ∀ (m k : Nat) (pieces : Nat → Int32), k ≤ w_sz W → w_sz W - k ≤ m → (∀ j, j < w_sz W → pieces j = nI (en_a st (w_ord W) I j (w_sz W))) → wp_MO_intoMany_L88 t_thrown t_room t_registers t_bits (nI I) t_first t_isFresh t_isRoom (nI (w_sz W)) t_parts t_nodes t_classes 16384 f_t_next 4096 f_t_state 4096 f_t_number 4096 f_t_pieces post (m + 1) pieces (nI (cN (fun j => decide (2 ≤ en_a st (w_ord W) I j (w_sz W))) k)) (nI k) := by
    intro m
    induction m with
    | zero =>
      intro k pieces hk hm hpc
      have e : k = w_sz W := by omega
      subst e
      unfold wp_MO_intoMany_L88
      exact pk_le (w_sz W) (w_sz W) (fun _ => hp _) (fun h => absurd h (by omega))
    | succ m ih =>
      intro k pieces hk hm hpc
      unfold wp_MO_intoMany_L88
      refine pk_le (w_sz W) k (fun hge => ?_) (fun hlt => ⟨pk_in k 4096 (by omega), ?_⟩)
      · have e : k = w_sz W := by omega
        subst e
        exact hp _
      have hb := en_a_le st (w_ord W) I k (w_sz W)
      have hb2 : w_sz W * I ≤ 4096 * 4 := Nat.mul_le_mul (by omega) hI
      have hc := cN_le (fun j => decide (2 ≤ en_a st (w_ord W) I j (w_sz W))) k
      rw [nI_clamp (by omega), hpc k hlt]
      refine pk_le (en_a st (w_ord W) I k (w_sz W)) 1 (fun h1 => ?_) (fun h1 => ?_)
      · rintro _ rfl _ rfl
        rw [show (0 : Int32) = nI 0 from rfl, nI_add, nI_1]
        have e : cN (fun j => decide (2 ≤ en_a st (w_ord W) I j (w_sz W))) k + 0 = cN (fun j => decide (2 ≤ en_a st (w_ord W) I j (w_sz W))) (k + 1) := by
          show _ = _ + _
          rw [if_neg (by simp only [decide_eq_true_eq]; omega)]
        rw [e]
        exact ih (k + 1) pieces (by omega) (by omega) hpc
      · rintro _ rfl _ rfl
        rw [show (1 : Int32) = nI 1 from rfl, nI_add, nI_add]
        have e : cN (fun j => decide (2 ≤ en_a st (w_ord W) I j (w_sz W))) k + 1 = cN (fun j => decide (2 ≤ en_a st (w_ord W) I j (w_sz W))) (k + 1) := by
          show _ = _ + _
          rw [if_pos (by simp only [decide_eq_true_eq]; omega)]
        rw [e]
        exact ih (k + 1) pieces (by omega) (by omega) hpc
  have mid : ∀ (m k : Nat) (pieces : Nat → Int32), k ≤ w_sz W → w_sz W - k ≤ m → (∀ j, j < w_sz W → pieces j = nI (en_a st (w_ord W) I j k)) → wp_MO_intoMany_L27 t_thrown t_room t_registers t_bits (nI I) t_first t_isFresh t_isRoom (nI (w_sz W)) t_parts t_nodes t_classes 16384 f_t_next 4096 f_t_state 4096 f_t_number 4096 f_t_pieces post (m + 1) pieces (nI 0) (nI k) := by
    have fin : ∀ (m : Nat) (pieces : Nat → Int32), (∀ j, j < w_sz W → pieces j = nI (en_a st (w_ord W) I j (w_sz W))) → wp_MO_intoMany_L27 t_thrown t_room t_registers t_bits (nI I) t_first t_isFresh t_isRoom (nI (w_sz W)) t_parts t_nodes t_classes 16384 f_t_next 4096 f_t_state 4096 f_t_number 4096 f_t_pieces post (m + 1) pieces (nI 0) (nI (w_sz W)) := by
      intro m pieces hpc
      unfold wp_MO_intoMany_L27
      exact pk_le (w_sz W) (w_sz W) (fun _ => ⟨w_sz W + 1, last (w_sz W) 0 pieces (by omega) (by omega) hpc⟩) (fun h => absurd h (by omega))
    intro m
    induction m with
    | zero =>
      intro k pieces hk hm hpc
      have e : k = w_sz W := by omega
      subst e
      exact fin 0 pieces hpc
    | succ m ih =>
      intro k pieces hk hm hpc
      rcases Nat.lt_or_ge k (w_sz W) with hlt | hge
      · have row : ∀ (n i : Nat) (pieces : Nat → Int32), i ≤ I → I - i ≤ n → (∀ j, j < w_sz W → pieces j = nI (en st (w_ord W) I k i j)) → wp_MO_intoMany_L37 t_thrown t_room t_registers t_bits (nI I) t_first t_isFresh t_isRoom (nI (w_sz W)) t_parts t_nodes t_classes 16384 f_t_next 4096 f_t_state 4096 f_t_number 4096 f_t_pieces (wp_MO_intoMany_L27 t_thrown t_room t_registers t_bits (nI I) t_first t_isFresh t_isRoom (nI (w_sz W)) t_parts t_nodes t_classes 16384 f_t_next 4096 f_t_state 4096 f_t_number 4096 f_t_pieces post (m + 1)) post (n + 1) pieces (nI 0) (nI k) (nI i) := by
          have fi : ∀ (n : Nat) (pieces : Nat → Int32), (∀ j, j < w_sz W → pieces j = nI (en st (w_ord W) I k I j)) → wp_MO_intoMany_L37 t_thrown t_room t_registers t_bits (nI I) t_first t_isFresh t_isRoom (nI (w_sz W)) t_parts t_nodes t_classes 16384 f_t_next 4096 f_t_state 4096 f_t_number 4096 f_t_pieces (wp_MO_intoMany_L27 t_thrown t_room t_registers t_bits (nI I) t_first t_isFresh t_isRoom (nI (w_sz W)) t_parts t_nodes t_classes 16384 f_t_next 4096 f_t_state 4096 f_t_number 4096 f_t_pieces post (m + 1)) post (n + 1) pieces (nI 0) (nI k) (nI I) := by
            intro n pieces hpc
            unfold wp_MO_intoMany_L37
            refine pk_le I I (fun _ => ?_) (fun h => absurd h (by omega))
            rintro _ rfl
            rw [nI_1]
            exact ih (k + 1) pieces (by omega) (by omega) hpc
          intro n
          induction n with
          | zero =>
            intro i pieces hi hn hpc
            have e : i = I := by omega
            subst e
            exact fi 0 pieces hpc
          | succ n ihn =>
            intro i pieces hi hn hpc
            rcases Nat.lt_or_ge i I with hil | hig
            · obtain ⟨j0, hj0, en0, eo0⟩ := wm_to hw hok hlt hil
              have ho := (hw.2.2.1 k hlt).1
              have hs1 := hst _ i ho hil
              have hnum : f_t_number (st (w_ord W k) i) = nI j0 := by rw [hr.2 _ (by omega), en0, w_enc1]
              unfold wp_MO_intoMany_L37
              refine pk_le I i (fun h => absurd h (by omega)) (fun _ => ?_)
              rw [show (4 : Int32) = nI 4 from rfl, nI_clamp (show k < 2 ^ 31 by omega), (hr.1 k hlt).1, pk_mul, nI_add, nI_clamp (show 4 * w_ord W k + i < 2 ^ 31 by omega), hnx _ i ho hil, nI_clamp (show st (w_ord W k) i < 2 ^ 31 by omega), hnum, nI_clamp (show j0 < 2 ^ 31 by omega)]
              refine ⟨pk_in k 4096 (by omega), pk_in (4 * w_ord W k + i) 16384 (by omega), pk_in (st (w_ord W k) i) 4096 (by omega), pk_in j0 4096 (by omega), ?_⟩
              rintro _ rfl
              refine ⟨pk_in j0 4096 (by omega), ?_⟩
              rintro _ rfl _ rfl
              rw [nI_1]
              refine ihn (i + 1) _ (by omega) (by omega) (fun j hj => ?_)
              have e2 : en st (w_ord W) I k (i + 1) j = en st (w_ord W) I k i j + (if st (w_ord W k) i = w_ord W j then 1 else 0) := by
                unfold en
                show _ + (_ + _) = _
                omega
              rw [e2]
              by_cases e : j = j0
              · subst e
                rw [pk_us, hpc j hj, if_pos eo0.symm, show (1 : Int32) = nI 1 from rfl, nI_add]
              · rw [pk_un e, hpc j hj, if_neg (fun z => e (wk_inj hw hj hj0 (by rw [eo0, z])))]
                rfl
            · have e : i = I := by omega
              subst e
              exact fi (n + 1) pieces hpc
        unfold wp_MO_intoMany_L27
        refine pk_le (w_sz W) k (fun h => absurd h (by omega)) (fun _ => ⟨I + 1, row I 0 pieces (by omega) (by omega) (fun j hj => ?_)⟩)
        rw [hpc j hj]; rfl
      · have e : k = w_sz W := by omega
        subst e
        exact fin (m + 1) pieces hpc
  have fst : ∀ (m k : Nat) (pieces : Nat → Int32), k ≤ w_sz W → w_sz W - k ≤ m → (∀ j, j < k → pieces j = nI 0) → wp_MO_intoMany_L4 t_thrown t_room t_registers t_bits (nI I) t_first t_isFresh t_isRoom (nI (w_sz W)) t_parts t_nodes t_classes 16384 f_t_next 4096 f_t_state 4096 f_t_number 4096 f_t_pieces post (m + 1) pieces (nI 0) (nI k) := by
    intro m
    induction m with
    | zero =>
      intro k pieces hk hm hpc
      have e : k = w_sz W := by omega
      subst e
      unfold wp_MO_intoMany_L4
      exact pk_le (w_sz W) (w_sz W) (fun _ => ⟨w_sz W + 1, mid (w_sz W) 0 pieces (by omega) (by omega) hpc⟩) (fun h => absurd h (by omega))
    | succ m ih =>
      intro k pieces hk hm hpc
      unfold wp_MO_intoMany_L4
      refine pk_le (w_sz W) k (fun hge => ?_) (fun hlt => ⟨pk_in k 4096 (by omega), ?_⟩)
      · have e : k = w_sz W := by omega
        subst e
        exact ⟨w_sz W + 1, mid (w_sz W) 0 pieces (by omega) (by omega) hpc⟩
      · rintro _ rfl _ rfl
        rw [nI_1, nI_clamp (by omega)]
        refine ih (k + 1) _ (by omega) (by omega) (fun j hj => ?_)
        by_cases e : j = k
        · subst e; rw [pk_us]; rfl
        · rw [pk_un e]; exact hpc j (by omega)
  exact ⟨w_sz W + 1, fst (w_sz W) 0 _ (by omega) (by omega) (fun j hj => absurd hj (by omega))⟩
theorem s_MO_stays {t_thrown : Int32} {t_room : Int32} {t_registers : Int32} {t_bits : Int32} {t_first : Int32} {t_isFresh : Int32} {t_isRoom : Int32} {t_parts : Int32} {t_nodes : Int32} {t_classes : Int32} {f_t_next : Nat → Int32} {f_t_state : Nat → Int32} {S I room : Nat} {st : Nat → Nat → Nat} {W : wk_T} {fro by' depth number : Nat → Int32} {post : Int32 → Prop} (hI : I ≤ 4) (hS : S ≤ 4096) (hst : ∀ s i, s < S → i < I → st s i < S) (hnx : ∀ s i, s < S → i < I → f_t_next (4 * s + i) = nI (st s i)) (hw : wk_inv S I st room (w_sz W) 0 W) (hr : wm_rep W f_t_state fro by' depth number)
    (hp : post (wr_n I st (w_ord W) (w_sz W))) : wp_MO_stays t_thrown t_room t_registers t_bits (nI I) t_first t_isFresh t_isRoom (nI (w_sz W)) t_parts t_nodes t_classes 16384 f_t_next 4096 f_t_state post := by
  have hle := wk_le hw
  unfold wp_MO_stays
  have key : ∀ (m k : Nat), k ≤ w_sz W → w_sz W - k ≤ m → wp_MO_stays_L4 t_thrown t_room t_registers t_bits (nI I) t_first t_isFresh t_isRoom (nI (w_sz W)) t_parts t_nodes t_classes 16384 f_t_next 4096 f_t_state post (m + 1) (wr_n I st (w_ord W) k) (nI k) := by
    intro m
    induction m with
    | zero =>
      intro k hk hm
      have e : k = w_sz W := by omega
      subst e
      unfold wp_MO_stays_L4
      exact pk_le (w_sz W) (w_sz W) (fun _ => hp) (fun h => absurd h (by omega))
    | succ m ih =>
      intro k hk hm
      unfold wp_MO_stays_L4
      refine pk_le (w_sz W) k (fun hge => ?_) (fun hlt => ?_)
      · have e : k = w_sz W := by omega
        subst e
        exact hp
      have ho := (hw.2.2.1 k hlt).1
      have row : ∀ (n i : Nat), i ≤ I → I - i ≤ n → wp_MO_stays_L17 t_thrown t_room t_registers t_bits (nI I) t_first t_isFresh t_isRoom (nI (w_sz W)) t_parts t_nodes t_classes 16384 f_t_next 4096 f_t_state (wp_MO_stays_L4 t_thrown t_room t_registers t_bits (nI I) t_first t_isFresh t_isRoom (nI (w_sz W)) t_parts t_nodes t_classes 16384 f_t_next 4096 f_t_state post (m + 1)) post (n + 1) (wr_n I st (w_ord W) k) (nI k) (if rs_b st (w_ord W) k i = true then 1 else 0) (nI i) := by
        have fi : ∀ n, wp_MO_stays_L17 t_thrown t_room t_registers t_bits (nI I) t_first t_isFresh t_isRoom (nI (w_sz W)) t_parts t_nodes t_classes 16384 f_t_next 4096 f_t_state (wp_MO_stays_L4 t_thrown t_room t_registers t_bits (nI I) t_first t_isFresh t_isRoom (nI (w_sz W)) t_parts t_nodes t_classes 16384 f_t_next 4096 f_t_state post (m + 1)) post (n + 1) (wr_n I st (w_ord W) k) (nI k) (if rs_b st (w_ord W) k I = true then 1 else 0) (nI I) := by
          intro n
          unfold wp_MO_stays_L17
          refine pk_le I I (fun _ => ?_) (fun h => absurd h (by omega))
          have e2 : wr_n I st (w_ord W) (k + 1) = nI (cN (fun K => rs_b st (w_ord W) K I) k + (if rs_b st (w_ord W) k I = true then 1 else 0)) := rfl
          have e1 : wr_n I st (w_ord W) k = nI (cN (fun K => rs_b st (w_ord W) K I) k) := rfl
          have nx := ih (k + 1) (by omega) (by omega)
          rw [e2] at nx
          rw [e1]
          cases hb : rs_b st (w_ord W) k I with
          | true =>
            rw [hb] at nx
            rw [if_pos rfl]
            refine br_f (by decide) ?_
            rintro _ rfl _ rfl
            rw [show (1 : Int32) = nI 1 from rfl, nI_add, nI_add]
            exact nx
          | false =>
            rw [hb] at nx
            rw [if_neg (by decide)]
            refine br_t rfl ?_
            rintro _ rfl _ rfl
            rw [show (0 : Int32) = nI 0 from rfl, nI_add, nI_1]
            exact nx
        intro n
        induction n with
        | zero =>
          intro i hi hn
          have e : i = I := by omega
          subst e
          exact fi 0
        | succ n ihn =>
          intro i hi hn
          rcases Nat.lt_or_ge i I with hil | hig
          · have nx := ihn (i + 1) (by omega) (by omega)
            have eb : rs_b st (w_ord W) k (i + 1) = (rs_b st (w_ord W) k i && decide (st (w_ord W k) i = w_ord W k)) := rfl
            have hs1 := hst _ i ho hil
            rw [eb] at nx
            unfold wp_MO_stays_L17
            refine pk_le I i (fun h => absurd h (by omega)) (fun _ => ?_)
            cases hb : rs_b st (w_ord W) k i with
            | false =>
              rw [hb] at nx
              rw [if_neg (by decide)]
              refine br_t rfl ?_
              rintro _ rfl
              rw [nI_1]
              exact nx
            | true =>
              rw [hb] at nx
              rw [if_pos rfl]
              refine br_f (by decide) ?_
              rw [show (4 : Int32) = nI 4 from rfl, nI_clamp (show k < 2 ^ 31 by omega), (hr.1 k hlt).1, pk_mul, nI_add, nI_clamp (show 4 * w_ord W k + i < 2 ^ 31 by omega), hnx _ i ho hil]
              refine ⟨pk_in k 4096 (by omega), pk_in (4 * w_ord W k + i) 16384 (by omega), pk_in k 4096 (by omega), ?_⟩
              by_cases e : st (w_ord W k) i = w_ord W k
              · refine ⟨fun z => absurd (by rw [e]) z, fun _ => ?_⟩
                rintro _ rfl
                rw [nI_1]
                rw [show (true && decide (st (w_ord W k) i = w_ord W k)) = true by rw [decide_eq_true e]; rfl, if_pos rfl] at nx
                exact nx
              · refine ⟨fun _ => ?_, fun z => absurd ((nI_eq (by omega) (by omega)).mp z) e⟩
                rintro _ rfl
                rw [nI_1]
                rw [show (true && decide (st (w_ord W k) i = w_ord W k)) = false by rw [decide_eq_false e]; rfl, if_neg (by decide)] at nx
                exact nx
          · have e : i = I := by omega
            subst e
            exact fi (n + 1)
      exact ⟨I + 1, row I 0 (by omega) (by omega)⟩
  exact ⟨w_sz W + 1, key (w_sz W) 0 (by omega) (by omega)⟩

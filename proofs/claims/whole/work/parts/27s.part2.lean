def pr_lk (ch O : Nat → Nat) (m c : Nat) (x : Int32) : Prop := (x = -1 ∧ ∀ p, p < m → ch (O p) ≠ c) ∨ ∃ q, q < m ∧ x = nI q ∧ ch (O q) = c ∧ ∀ p, q < p → p < m → ch (O p) ≠ c
theorem pr_lk_cong {ch O O' : Nat → Nat} {m c : Nat} {x : Int32} (h : pr_lk ch O m c x) (e : ∀ p, p < m → O' p = O p) : pr_lk ch O' m c x := by
  rcases h with ⟨h1, h2⟩ | ⟨q, h1, h2, h3, h4⟩
  · exact Or.inl ⟨h1, fun p hp => by rw [e p hp]; exact h2 p hp⟩
  · exact Or.inr ⟨q, h1, h2, by rw [e q h1]; exact h3, fun p hp hm => by rw [e p hm]; exact h4 p hp hm⟩
def pr_J (sm : Nat → Nat → Prop) (ch P : Nat → Nat) (parts s n : Nat) (O Q : Nat → Nat) (newPart one pieces chain behind : Nat → Int32) : Prop :=
  n ≤ s ∧ (∀ p, p < n → O p < s ∧ Q (O p) = p ∧ one p = nI (O p)) ∧ (∀ t, t < s → Q t < n ∧ sm (O (Q t)) t ∧ newPart t = nI (Q t)) ∧ (∀ p p', p < n → p' < n → sm (O p) (O p') → p = p') ∧ (∀ c, c < 4099 → pr_lk ch O n c (chain c)) ∧ (∀ p, p < n → pr_lk ch O p (ch (O p)) (behind p)) ∧ ∀ c, c < parts → pieces c = nI (cN (fun p => decide (P (O p) = c)) n)
theorem pr_J_old {sm : Nat → Nat → Prop} {ch P : Nat → Nat} {parts s n p : Nat} {O Q : Nat → Nat} {newPart one pieces chain behind : Nat → Int32} (h : pr_J sm ch P parts s n O Q newPart one pieces chain behind) (hp : p < n) (hs : sm (O p) s) : pr_J sm ch P parts (s + 1) n O (va_up Q s p) (upd newPart s (nI p)) one pieces chain behind := by
  obtain ⟨h1, h2, h3, h4, h5, h6, h7⟩ := h
  refine ⟨by omega, fun q hq => ?_, fun t ht => ?_, h4, h5, h6, h7⟩
  · have a := h2 q hq
    rw [q_un (by omega)]
    exact ⟨by omega, a.2⟩
  · by_cases e : t = s
    · subst e; rw [q_us, pk_us]; exact ⟨hp, hs, rfl⟩
    · rw [q_un e, pk_un e]; exact h3 t (by omega)
theorem pr_J_new {sm : Nat → Nat → Prop} {ch P : Nat → Nat} {parts s n : Nat} {O Q : Nat → Nat} {newPart one pieces chain behind : Nat → Int32} (hrefl : ∀ s, sm s s) (hsym : ∀ s t, sm s t → sm t s) (h : pr_J sm ch P parts s n O Q newPart one pieces chain behind) (hn : ∀ p, p < n → ¬ sm (O p) s) (hc : ch s < 4099) (hP : P s < parts) :
    pr_J sm ch P parts (s + 1) (n + 1) (va_up O n s) (va_up Q s n) (upd newPart s (nI n)) (upd one n (nI s)) (upd pieces (P s) (pieces (P s) + 1)) (upd chain (ch s) (nI n)) (upd behind n (chain (ch s))) := by
  obtain ⟨h1, h2, h3, h4, h5, h6, h7⟩ := h
  have eO : ∀ p, p < n → va_up O n s p = O p := fun p hp => q_un (by omega)
  refine ⟨by omega, fun q hq => ?_, fun t ht => ?_, fun p p' hp hp' hs => ?_, fun c hc' => ?_, fun p hp => ?_, fun c hc' => ?_⟩
  · by_cases e : q = n
    · subst e; rw [q_us, q_us, pk_us]; exact ⟨by omega, rfl, rfl⟩
    · have a := h2 q (by omega)
      rw [q_un e, pk_un e, q_un (by omega)]
      exact ⟨by omega, a.2⟩
  · by_cases e : t = s
    · subst e; rw [q_us, q_us, pk_us]; exact ⟨by omega, hrefl _, rfl⟩
    · have a := h3 t (by omega)
      rw [q_un e, pk_un e, eO _ a.1]; exact ⟨by omega, a.2⟩
  · by_cases e : p = n
    · by_cases e' : p' = n
      · omega
      · subst e
        rw [q_us, q_un e'] at hs
        exact absurd (hsym _ _ hs) (hn p' (by omega))
    · by_cases e' : p' = n
      · subst e'
        rw [q_us, q_un e] at hs
        exact absurd hs (hn p (by omega))
      · rw [q_un e, q_un e'] at hs
        exact h4 p p' (by omega) (by omega) hs
  · by_cases e : c = ch s
    · subst e
      rw [pk_us]
      exact Or.inr ⟨n, by omega, rfl, by rw [q_us], fun p h1 h2 => absurd h2 (by omega)⟩
    · rw [pk_un e]
      rcases h5 c hc' with ⟨z1, z2⟩ | ⟨q, z1, z2, z3, z4⟩
      · refine Or.inl ⟨z1, fun p hp => ?_⟩
        by_cases e2 : p = n
        · subst e2; rw [q_us]; exact Ne.symm e
        · rw [q_un e2]; exact z2 p (by omega)
      · refine Or.inr ⟨q, by omega, z2, by rw [eO q z1]; exact z3, fun p hp hm => ?_⟩
        by_cases e2 : p = n
        · subst e2; rw [q_us]; exact Ne.symm e
        · rw [q_un e2]; exact z4 p hp (by omega)
  · by_cases e : p = n
    · subst e
      rw [pk_us, q_us]
      exact pr_lk_cong (h5 _ hc) (fun q hq => eO q hq)
    · rw [pk_un e, q_un e]
      exact pr_lk_cong (h6 p (by omega)) (fun q hq => eO q (by omega))
  · show _ = nI (cN _ n + _)
    have ec : cN (fun p => decide (P (va_up O n s p) = c)) n = cN (fun p => decide (P (O p) = c)) n := cN_cong (fun p hp => by show decide _ = decide _; rw [eO p hp])
    rw [ec]
    show _ = nI (_ + if decide (P (va_up O n s n) = c) = true then 1 else 0)
    rw [q_us]
    by_cases e : c = P s
    · subst e
      rw [pk_us, h7 _ hP, nI_1, if_pos (by simp)]
    · rw [pk_un e, h7 c hc', if_neg (by simpa using Ne.symm e), Nat.add_zero]
theorem s_MO_partRound {t_thrown : Int32} {t_room : Int32} {t_registers : Int32} {t_bits : Int32} {t_first : Int32} {t_isFresh : Int32} {t_isRoom : Int32} {t_walked : Int32} {t_nodes : Int32} {t_classes : Int32} {f_t_next : Nat → Int32} {f_t_gives : Nat → Int32} {f_t_part : Nat → Int32} {f_t_newPart : Nat → Int32} {f_t_one : Nat → Int32} {f_t_pieces : Nat → Int32} {f_t_chain : Nat → Int32} {f_t_behind : Nat → Int32} {S I r parts : Nat} {st out : Nat → Nat → Nat} {P : Nat → Nat} {post : Int32 → (Nat → Int32) → (Nat → Int32) → (Nat → Int32) → (Nat → Int32) → (Nat → Int32) → Prop} (h : pr_in S I st out P f_t_next f_t_gives f_t_part) (hr : r < 2 ^ 20) (hpt : parts ≤ 4096) (hPp : ∀ s, s < S → P s < parts)
    (hp : ∀ (n : Nat) (O Q : Nat → Nat) (newPart one pieces chain behind : Nat → Int32), pr_J (pr_sm I st out P r) (pr_ch I st out P r) P parts S n O Q newPart one pieces chain behind → post (nI n) newPart one pieces chain behind) :
    wp_MO_partRound t_thrown t_room t_registers t_bits (nI I) t_first t_isFresh t_isRoom t_walked (nI parts) t_nodes t_classes 16384 f_t_next 16384 f_t_gives 4096 f_t_part 4096 f_t_newPart 4096 f_t_one 4096 f_t_pieces 4099 f_t_chain 4096 f_t_behind (nI S) (nI r) post := by
  have hI := h.1
  have hS := h.2.1
  unfold wp_MO_partRound
  have rows : ∀ (m s n : Nat) (O Q : Nat → Nat) (newPart one pieces chain behind : Nat → Int32), s ≤ S → S - s ≤ m → pr_J (pr_sm I st out P r) (pr_ch I st out P r) P parts s n O Q newPart one pieces chain behind →
      wp_MO_partRound_L50 t_thrown t_room t_registers t_bits (nI I) t_first t_isFresh t_isRoom t_walked (nI parts) t_nodes t_classes 16384 f_t_next 16384 f_t_gives 4096 f_t_part 4096 f_t_newPart 4096 f_t_one 4096 f_t_pieces 4099 f_t_chain 4096 f_t_behind (nI S) (nI r) post (m + 1) newPart one pieces chain behind (nI n) (nI s) := by
    intro m
    induction m with
    | zero =>
      intro s n O Q newPart one pieces chain behind hs hm hJ
      have e : s = S := by omega
      subst e
      unfold wp_MO_partRound_L50
      exact pk_le s s (fun _ => hp n O Q newPart one pieces chain behind hJ) (fun h => absurd h (by omega))
    | succ m ih =>
      intro s n O Q newPart one pieces chain behind hs hm hJ
      unfold wp_MO_partRound_L50
      refine pk_le S s (fun hh => ?_) (fun hlt => ?_)
      · have e : s = S := by omega
        subst e
        exact hp n O Q newPart one pieces chain behind hJ
      refine s_MO_chainOf h hr hlt ?_
      have hcl := pr_ch_lt I st out P r s
      refine ⟨pk_in _ 4099 hcl, ?_⟩
      rintro _ rfl
      rw [nI_clamp (by omega)]
      have hns := hJ.1
      -- the search
      have search : ∀ (k q : Nat) (x : Int32), q ≤ k → q ≤ n → pr_lk (pr_ch I st out P r) O q (pr_ch I st out P r s) x → (∀ p, q ≤ p → p < n → ¬ pr_sm I st out P r (O p) s) →
          wp_MO_partRound_L74 t_thrown t_room t_registers t_bits (nI I) t_first t_isFresh t_isRoom t_walked (nI parts) t_nodes t_classes 16384 f_t_next 16384 f_t_gives 4096 f_t_part 4096 f_t_newPart 4096 f_t_one 4096 f_t_pieces 4099 f_t_chain 4096 f_t_behind (nI S) (nI r) (wp_MO_partRound_L50 t_thrown t_room t_registers t_bits (nI I) t_first t_isFresh t_isRoom t_walked (nI parts) t_nodes t_classes 16384 f_t_next 16384 f_t_gives 4096 f_t_part 4096 f_t_newPart 4096 f_t_one 4096 f_t_pieces 4099 f_t_chain 4096 f_t_behind (nI S) (nI r) post (m + 1)) post (k + 1) newPart one pieces chain behind (nI n) (nI s) (nI (pr_ch I st out P r s)) x := by
        intro k
        induction k with
        | zero =>
          intro q x hq hqn hl hno
          rcases hl with ⟨hx, hl⟩ | ⟨y, hy, _⟩
          · subst hx
            unfold wp_MO_partRound_L74
            refine br_t (by decide) ?_
            unfold wp_MO_partRound_J108
            refine br_f (by decide) ⟨pk_in n 4096 (by omega), ?_⟩
            rintro _ rfl
            refine ⟨pk_in _ 4099 hcl, ?_⟩
            rintro _ rfl
            refine ⟨pk_in n 4096 (by omega), ?_⟩
            rintro _ rfl
            refine ⟨pk_in _ 4099 hcl, ?_⟩
            rintro _ rfl
            have hPs := h.2.2.2 s hlt
            have hPp' := hPp s hlt
            refine ⟨pk_in s 4096 (by omega), ?_⟩
            rw [nI_clamp (show s < 2 ^ 31 by omega), hPs.2, nI_clamp (show P s < 2 ^ 31 by omega), nI_clamp (show n < 2 ^ 31 by omega), nI_clamp (show pr_ch I st out P r s < 2 ^ 31 by omega)]
            refine ⟨pk_in _ 4096 hPs.1, ?_⟩
            rintro _ rfl
            refine ⟨pk_in _ 4096 hPs.1, ?_⟩
            rintro _ rfl _ rfl
            unfold wp_MO_partRound_J167
            refine ⟨pk_in s 4096 (by omega), ?_⟩
            rintro _ rfl _ rfl
            rw [nI_clamp (show s < 2 ^ 31 by omega), nI_1, nI_1]
            exact ih (s + 1) (n + 1) _ _ _ _ _ _ _ (by omega) (by omega) (pr_J_new (fun s => ⟨rfl, fun _ _ => rfl⟩) (fun s t z => ⟨z.1.symm, fun i hi => (z.2 i hi).symm⟩) hJ (fun p hp => hno p (by omega) hp) hcl hPp')
          · omega
        | succ k ihk =>
          intro q x hq hqn hl hno
          rcases hl with ⟨hx, hl⟩ | ⟨y, hy, hx, hch, hbt⟩
          · subst hx
            unfold wp_MO_partRound_L74
            refine br_t (by decide) ?_
            unfold wp_MO_partRound_J108
            have hnone : ∀ p, p < n → ¬ pr_sm I st out P r (O p) s := fun p hp hsm => by
              rcases Nat.lt_or_ge p q with z | z
              · exact hl p z (pr_ch_eq hsm)
              · exact hno p z hp hsm
            refine br_f (by decide) ⟨pk_in n 4096 (by omega), ?_⟩
            rintro _ rfl
            refine ⟨pk_in _ 4099 hcl, ?_⟩
            rintro _ rfl
            refine ⟨pk_in n 4096 (by omega), ?_⟩
            rintro _ rfl
            refine ⟨pk_in _ 4099 hcl, ?_⟩
            rintro _ rfl
            have hPs := h.2.2.2 s hlt
            have hPp' := hPp s hlt
            refine ⟨pk_in s 4096 (by omega), ?_⟩
            rw [nI_clamp (show s < 2 ^ 31 by omega), hPs.2, nI_clamp (show P s < 2 ^ 31 by omega), nI_clamp (show n < 2 ^ 31 by omega), nI_clamp (show pr_ch I st out P r s < 2 ^ 31 by omega)]
            refine ⟨pk_in _ 4096 hPs.1, ?_⟩
            rintro _ rfl
            refine ⟨pk_in _ 4096 hPs.1, ?_⟩
            rintro _ rfl _ rfl
            unfold wp_MO_partRound_J167
            refine ⟨pk_in s 4096 (by omega), ?_⟩
            rintro _ rfl _ rfl
            rw [nI_clamp (show s < 2 ^ 31 by omega), nI_1, nI_1]
            exact ih (s + 1) (n + 1) _ _ _ _ _ _ _ (by omega) (by omega) (pr_J_new (fun s => ⟨rfl, fun _ _ => rfl⟩) (fun s t z => ⟨z.1.symm, fun i hi => (z.2 i hi).symm⟩) hJ hnone hcl hPp')
          · subst hx
            unfold wp_MO_partRound_L74
            refine br_f (nI_pos (by omega)) ⟨pk_in y 4096 (by omega), ?_⟩
            have hO := hJ.2.1 y (by omega)
            rw [nI_clamp (show y < 2 ^ 31 by omega), hO.2.2]
            refine s_MO_together h hr (by omega) hlt (fun hsm => ?_) (fun hsm => ?_)
            · refine ⟨fun _ => ?_, fun z => absurd z (by decide)⟩
              unfold wp_MO_partRound_J108
              refine br_t (nI_pos' (by omega)) ?_
              unfold wp_MO_partRound_J167
              refine ⟨pk_in s 4096 (by omega), ?_⟩
              rintro _ rfl _ rfl
              rw [nI_clamp (show s < 2 ^ 31 by omega), nI_1]
              exact ih (s + 1) n O _ _ _ _ _ _ (by omega) (by omega) (pr_J_old hJ (by omega) hsm)
            · refine ⟨fun z => absurd rfl z, fun _ => ⟨pk_in y 4096 (by omega), ?_⟩⟩
              rintro _ rfl
              have hb := hJ.2.2.2.2.2.1 y (by omega)
              rw [hch] at hb
              refine ihk y _ (by omega) (by omega) hb (fun p hp hpn hs2 => ?_)
              by_cases e : p = y
              · subst e; exact hsm hs2
              · rcases Nat.lt_or_ge p q with z | z
                · exact hbt p (by omega) z (pr_ch_eq hs2)
                · exact hno p z hpn hs2
      exact ⟨n + 1, search n n _ (Nat.le_refl _) (Nat.le_refl _) (hJ.2.2.2.2.1 _ hcl) (fun p h1 h2 => absurd h1 (by omega))⟩
  have zeros : ∀ (m c : Nat) (newPart one pieces chain behind : Nat → Int32), c ≤ parts → parts - c ≤ m → (∀ x, x < c → pieces x = 0) → (∀ x, x < 4099 → chain x = -1) →
      wp_MO_partRound_L24 t_thrown t_room t_registers t_bits (nI I) t_first t_isFresh t_isRoom t_walked (nI parts) t_nodes t_classes 16384 f_t_next 16384 f_t_gives 4096 f_t_part 4096 f_t_newPart 4096 f_t_one 4096 f_t_pieces 4099 f_t_chain 4096 f_t_behind (nI S) (nI r) post (m + 1) newPart one pieces chain behind (nI c) := by
    have fin : ∀ (m : Nat) (newPart one pieces chain behind : Nat → Int32), (∀ x, x < parts → pieces x = 0) → (∀ x, x < 4099 → chain x = -1) →
        wp_MO_partRound_L24 t_thrown t_room t_registers t_bits (nI I) t_first t_isFresh t_isRoom t_walked (nI parts) t_nodes t_classes 16384 f_t_next 16384 f_t_gives 4096 f_t_part 4096 f_t_newPart 4096 f_t_one 4096 f_t_pieces 4099 f_t_chain 4096 f_t_behind (nI S) (nI r) post (m + 1) newPart one pieces chain behind (nI parts) := by
      intro m newPart one pieces chain behind h1 h2
      unfold wp_MO_partRound_L24
      refine pk_le parts parts (fun _ => ?_) (fun h => absurd h (by omega))
      refine ⟨S + 1, rows S 0 0 (fun _ => 0) (fun _ => 0) _ _ _ _ _ (by omega) (by omega) ⟨Nat.le_refl _, fun p hp => absurd hp (by omega), fun p hp => absurd hp (by omega), fun p _ hp => absurd hp (by omega), fun c hc => Or.inl ⟨h2 c hc, fun p hp => absurd hp (by omega)⟩, fun p hp => absurd hp (by omega), fun c hc => by rw [h1 c hc]; rfl⟩⟩
    intro m
    induction m with
    | zero =>
      intro c newPart one pieces chain behind hc hm h1 h2
      have e : c = parts := by omega
      subst e
      exact fin 0 newPart one pieces chain behind h1 h2
    | succ m ih =>
      intro c newPart one pieces chain behind hc hm h1 h2
      rcases Nat.lt_or_ge c parts with hlt | hge
      · unfold wp_MO_partRound_L24
        refine pk_le parts c (fun h => absurd h (by omega)) (fun _ => ⟨pk_in c 4096 (by omega), ?_⟩)
        rintro _ rfl _ rfl
        rw [nI_1, nI_clamp (by omega)]
        refine ih (c + 1) newPart one _ chain behind (by omega) (by omega) (fun x hx => ?_) h2
        by_cases e : x = c
        · subst e; exact pk_us
        · rw [pk_un e]; exact h1 x (by omega)
      · have e : c = parts := by omega
        subst e
        exact fin (m + 1) newPart one pieces chain behind h1 h2
  have chains : ∀ (m c : Nat) (newPart one pieces chain behind : Nat → Int32), c ≤ 4099 → 4099 - c ≤ m → (∀ x, x < c → chain x = -1) →
      wp_MO_partRound_L2 t_thrown t_room t_registers t_bits (nI I) t_first t_isFresh t_isRoom t_walked (nI parts) t_nodes t_classes 16384 f_t_next 16384 f_t_gives 4096 f_t_part 4096 f_t_newPart 4096 f_t_one 4096 f_t_pieces 4099 f_t_chain 4096 f_t_behind (nI S) (nI r) post (m + 1) newPart one pieces chain behind (nI c) := by
    intro m
    induction m with
    | zero =>
      intro c newPart one pieces chain behind hc hm h1
      have e : c = 4099 := by omega
      subst e
      unfold wp_MO_partRound_L2
      exact pk_le 4099 4099 (fun _ => ⟨parts + 1, zeros parts 0 newPart one pieces chain behind (by omega) (by omega) (fun x hx => absurd hx (by omega)) h1⟩) (fun h => absurd h (by omega))
    | succ m ih =>
      intro c newPart one pieces chain behind hc hm h1
      unfold wp_MO_partRound_L2
      refine pk_le 4099 c (fun hh => ?_) (fun hlt => ⟨pk_in c 4099 hlt, ?_⟩)
      · exact ⟨parts + 1, zeros parts 0 newPart one pieces chain behind (by omega) (by omega) (fun x hx => absurd hx (by omega)) (fun x hx => h1 x (by omega))⟩
      · rintro _ rfl _ rfl
        rw [nI_1, nI_clamp (by omega)]
        refine ih (c + 1) newPart one pieces _ behind (by omega) (by omega) (fun x hx => ?_)
        by_cases e : x = c
        · subst e; exact pk_us
        · rw [pk_un e]; exact h1 x (by omega)
  exact ⟨4100, chains 4099 0 _ _ _ _ _ (by omega) (by omega) (fun x hx => absurd hx (by omega))⟩

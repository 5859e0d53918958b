theorem q_bv {n : Nat} (h : n < 2 ^ 32) : (nI n).toBitVec.toNat = n := by
  show (BitVec.ofNat 32 n).toNat = n
  rw [BitVec.toNat_ofNat]; exact Nat.mod_eq_of_lt h
theorem q_mod {h d M : Nat} (h1 : h < M) (h2 : d < M) : (h + d) % M = if h + d < M then h + d else h + d - M := by
  split
  · rename_i z; exact Nat.mod_eq_of_lt z
  · rename_i z
    rw [Nat.mod_eq_sub_mod (by omega)]
    exact Nat.mod_eq_of_lt (by omega)
theorem q_modi {h d d' M : Nat} (h1 : h < M) (h2 : d < M) (h3 : d' < M) (e : (h + d) % M = (h + d') % M) : d = d' := by
  rw [q_mod h1 h2, q_mod h1 h3] at e
  split at e <;> split at e <;> omega
theorem s_GR_chooseSlots {t_groups : Int32} {t_stands : Int32} {t_lastSlot : Int32} {sz b : Nat} {post : Int32 → Prop} (hs : sz ≤ 2 ^ b) (hb : b ≤ 12) (hp : ∀ e, e ≤ b → sz ≤ 2 ^ e → post (nI (2 ^ (e + 1) - 1))) : wp_GR_chooseSlots t_groups t_stands t_lastSlot (nI sz) post := by
  have h12 := q_p2 hb
  unfold wp_GR_chooseSlots
  have key : ∀ (m e : Nat) (l : Int32), e ≤ b → b - e ≤ m → wp_GR_chooseSlots_L4 t_groups t_stands t_lastSlot (nI sz) post (m + 1) l (nI (2 ^ (e + 1))) (nI e) := by
    intro m
    induction m with
    | zero =>
      intro e l he hm
      have e1 : e = b := by omega
      subst e1
      have hpw : (2 : Nat) ^ (e + 1) = 2 * 2 ^ e := by rw [Nat.pow_succ]; omega
      have hp0 := Nat.two_pow_pos e
      have fin : ∀ y1 : Int32, y1 = nI (2 ^ (e + 1)) - (1 : Int32) → post y1 := by
        rintro _ rfl
        rw [show (1 : Int32) = nI 1 from rfl, pk_sub (by omega)]
        exact hp e (Nat.le_refl _) hs
      unfold wp_GR_chooseSlots_L4
      refine pk_le 12 e (fun _ => fin) (fun _ => ?_)
      rw [show (2 : Int32) = nI 2 from rfl, pk_mul]
      exact pk_le (2 * sz) (2 ^ (e + 1)) (fun _ => fin) (fun h => absurd h (by omega))
    | succ m ih =>
      intro e l he hm
      have h12e := q_p2 (B := e) (by omega)
      have hpw : (2 : Nat) ^ (e + 1) = 2 * 2 ^ e := by rw [Nat.pow_succ]; omega
      have hp0 := Nat.two_pow_pos e
      have fin : sz ≤ 2 ^ e → ∀ y1 : Int32, y1 = nI (2 ^ (e + 1)) - (1 : Int32) → post y1 := by
        rintro hz _ rfl
        rw [show (1 : Int32) = nI 1 from rfl, pk_sub (by omega)]
        exact hp e he hz
      unfold wp_GR_chooseSlots_L4
      refine pk_le 12 e (fun hh => fin ?_) (fun _ => ?_)
      · have e1 : e = b := by omega
        rw [e1]; exact hs
      rw [show (2 : Int32) = nI 2 from rfl, pk_mul, pk_mul]
      refine pk_le (2 * sz) (2 ^ (e + 1)) (fun h => fin (by omega)) (fun h => ?_)
      rintro _ rfl _ rfl
      have hlt : 2 ^ e < 2 ^ b := by omega
      have hlt2 : e < b := (Nat.pow_lt_pow_iff_right (by omega)).mp hlt
      rw [nI_1, show 2 * 2 ^ (e + 1) = 2 ^ (e + 1 + 1) by rw [Nat.pow_succ]; omega]
      exact ih (e + 1) l (by omega) (by omega)
  exact ⟨b + 1, key b 0 _ (by omega) (by omega)⟩
/-- the first slot of a key -/
def gs_h (M : Nat) (key : Int64) : Nat := (((((key * ((-7046029254386353131) : Int64)).toUInt64 >>> ((40 : Int32).toInt64.toUInt64 &&& Int64.toUInt64 63)).toInt64).toInt32) &&& nI (M - 1)).toNatClampNeg
theorem gs_h_ok {M e : Nat} (eM : M = 2 ^ (e + 1)) (he : e ≤ 12) (key : Int64) : gs_h M key < M ∧ ((((key * ((-7046029254386353131) : Int64)).toUInt64 >>> ((40 : Int32).toInt64.toUInt64 &&& Int64.toUInt64 63)).toInt64).toInt32) &&& nI (M - 1) = nI (gs_h M key) := by
  have h1 : (2 : Nat) ^ (e + 1) ≤ 2 ^ 13 := Nat.pow_le_pow_right (by omega) (by omega)
  obtain ⟨j, hj, ej⟩ := pk_andE ((((key * ((-7046029254386353131) : Int64)).toUInt64 >>> ((40 : Int32).toInt64.toUInt64 &&& Int64.toUInt64 63)).toInt64).toInt32) (m := nI (M - 1)) (e + 1) (by rw [q_bv (by omega), eM])
  unfold gs_h
  rw [ej, nI_clamp (by omega)]
  exact ⟨by omega, rfl⟩
def gs_inv (M k C : Nat) (keys : Nat → Int64) (lo : Nat → Nat) (sl : Nat → Int32) (pos : Nat → Nat) : Prop :=
  (∀ p, p < M → sl p = -1 ∨ ∃ c, c < C ∧ sl p = nI c ∧ pos c = p) ∧
  ∀ c, c < C → lo c < k ∧ pos c < M ∧ sl (pos c) = nI c ∧ ∃ d, d < M ∧ pos c = (gs_h M (keys (lo c)) + d) % M ∧ ∀ d', d' < d → sl ((gs_h M (keys (lo c)) + d') % M) ≠ -1
theorem s_GR_slotOf {t_groups : Int32} {t_stands : Int32} {f_t_lowest : Nat → Int32} {f_t_keys : Nat → Int64} {f_t_slots : Nat → Int32} {M k C n ns e : Nat} {key : Int64} {lo pos : Nat → Nat} {post : Int32 → Prop} (eM : M = 2 ^ (e + 1)) (he : e ≤ 12) (hMs : M ≤ ns) (hns : ns < 2 ^ 28) (hn : n < 2 ^ 28) (hk : k ≤ n) (hCn : C ≤ n) (hC : C + 1 < M) (hlo : ∀ c, c < C → f_t_lowest c = nI (lo c)) (h : gs_inv M k C f_t_keys lo f_t_slots pos)
    (hp1 : ∀ c p, c < C → p < M → f_t_slots p = nI c → f_t_keys (lo c) = key → post (nI p))
    (hp0 : ∀ p d, p < M → f_t_slots p = -1 → (∀ c, c < C → f_t_keys (lo c) ≠ key) → d < M → p = (gs_h M key + d) % M → (∀ d', d' < d → f_t_slots ((gs_h M key + d') % M) ≠ -1) → post (nI p)) :
    wp_GR_slotOf t_groups t_stands (nI (M - 1)) n f_t_lowest n f_t_keys ns f_t_slots key post := by
  obtain ⟨hh, eh⟩ := gs_h_ok eM he key
  obtain ⟨h0, eh0⟩ : ∃ h0, gs_h M key = h0 := ⟨_, rfl⟩
  rw [eh0] at hh eh hp0
  have hM0 : 0 < M := by omega
  unfold wp_GR_slotOf
  rw [eh]
  rintro _ rfl
  have loop : ∀ (m c : Nat), c ≤ M - 1 → M - 1 - c ≤ m → (∀ d', d' < c → ∃ g, g < C ∧ f_t_slots ((h0 + d') % M) = nI g ∧ f_t_keys (lo g) ≠ key) → wp_GR_slotOf_L18 t_groups t_stands (nI (M - 1)) n f_t_lowest n f_t_keys ns f_t_slots key post (m + 1) (nI ((h0 + c) % M)) (nI c) := by
    have full : ∀ c, c = M - 1 → (∀ d', d' < c → ∃ g, g < C ∧ f_t_slots ((h0 + d') % M) = nI g ∧ f_t_keys (lo g) ≠ key) → False := by
      intro c ec hd
      have := q_pg c C (fun d' => (f_t_slots ((h0 + d') % M)).toNatClampNeg) (fun d' hd' => by
        obtain ⟨g, g1, g2, _⟩ := hd d' hd'
        show (f_t_slots ((h0 + d') % M)).toNatClampNeg < C
        rw [g2, nI_clamp (by omega)]; exact g1) (fun d1 d2 h1 h2 e12 => by
        obtain ⟨g, g1, g2, _⟩ := hd d1 h1
        obtain ⟨g', g1', g2', _⟩ := hd d2 h2
        have e12 : (f_t_slots ((h0 + d1) % M)).toNatClampNeg = (f_t_slots ((h0 + d2) % M)).toNatClampNeg := e12
        rw [g2, g2', nI_clamp (by omega), nI_clamp (by omega)] at e12
        subst e12
        refine q_modi hh (by omega) (by omega) ?_
        have z : ∀ p, p < M → f_t_slots p = nI g → p = pos g := fun p hp ep => by
          rcases h.1 p hp with y | ⟨c, c1, c2, c3⟩
          · rw [ep] at y; exact absurd y (q_m1 (by omega))
          · rw [ep] at c2
            rw [(nI_eq (by omega) (by omega)).mp c2]; exact c3.symm
        rw [z _ (Nat.mod_lt _ hM0) g2, z _ (Nat.mod_lt _ hM0) g2'])
      omega
    intro m
    induction m with
    | zero => intro c hc hm hd; exact (full c (by omega) hd).elim
    | succ m ih =>
      intro c hc hm hd
      have hpM : (h0 + c) % M < M := Nat.mod_lt _ hM0
      have hi : vp_in (nI ((h0 + c) % M)) ns := pk_in ((h0 + c) % M) ns (by omega)
      unfold wp_GR_slotOf_L18
      refine pk_le (M - 1) c (fun hge => (full c (by omega) hd).elim) (fun hlt => ⟨hi, ?_⟩)
      rw [nI_clamp (by omega)]
      rcases h.1 _ hpM with z | ⟨g, g1, g2, g3⟩
      · refine br_t z (hp0 _ c hpM z (fun c' hc' ek => ?_) (by omega) rfl (fun d' hd' => ?_))
        · obtain ⟨y1, y2, y3, d, y4, y5, y6⟩ := h.2 c' hc'
          rw [ek, eh0] at y5 y6
          rcases Nat.lt_trichotomy d c with u | u | u
          · obtain ⟨g, g1, g2, g3⟩ := hd d u
            rw [← y5, y3] at g2
            have := (nI_eq (by omega) (by omega)).mp g2
            subst this
            exact g3 ek
          · subst u
            rw [← y5, y3] at z
            exact absurd z (q_m1 (by omega))
          · exact y6 c u z
        · obtain ⟨g, g1, g2, g3⟩ := hd d' hd'
          rw [g2]; exact q_m1 (by omega)
      · have hg := h.2 g g1
        refine br_f (by rw [g2]; exact q_m1 (by omega)) ⟨hi, ?_⟩
        rw [g2, nI_clamp (show g < 2 ^ 31 by omega), hlo g g1, nI_clamp (show lo g < 2 ^ 31 by omega)]
        refine ⟨pk_in g n (by omega), pk_in (lo g) n (by omega), ?_⟩
        rw [lg_cmp_eq]
        by_cases ek : f_t_keys (lo g) = key
        · exact ⟨fun y => absurd ek y, fun _ => hp1 g _ g1 hpM g2 ek⟩
        · refine ⟨fun _ => ?_, fun y => absurd y ek⟩
          rintro _ rfl _ rfl
          rw [nI_1, nI_1, pk_andN (by omega) (e + 1) (by rw [q_bv (by omega), eM]), ← eM, Nat.mod_add_mod]
          refine ih (c + 1) (by omega) (by omega) (fun d' hd' => ?_)
          by_cases ed : d' = c
          · subst ed; exact ⟨g, g1, g2, ek⟩
          · exact hd d' (by omega)
  have l0 := loop (M - 1) 0 (by omega) (by omega) (fun d' hd' => absurd hd' (by omega))
  rw [show (h0 + 0) % M = h0 from Nat.mod_eq_of_lt hh] at l0
  exact ⟨M - 1 + 1, l0⟩
theorem s_GR_numberByKeys {t_groups : Int32} {t_stands : Int32} {f_t_groupOf : Nat → Int32} {f_t_lowest : Nat → Int32} {f_t_keys : Nat → Int64} {f_t_slots : Nat → Int32} {M sz n ns e : Nat} {post : Int32 → (Nat → Int32) → (Nat → Int32) → (Nat → Int32) → Prop} (eM : M = 2 ^ (e + 1)) (he : e ≤ 12) (hMs : M ≤ ns) (hns : ns < 2 ^ 28) (hn : n < 2 ^ 28) (hsz : sz ≤ n) (hs2 : sz ≤ 2 ^ e)
    (hp : ∀ (C : Nat) (cl lo : Nat → Nat) (groupOf lowest slots : Nat → Int32), gc_ok (fun j k => f_t_keys j = f_t_keys k) sz C cl lo → (∀ k, k < sz → groupOf k = nI (cl k)) → (∀ c, c < C → lowest c = nI (lo c)) → post (nI C) groupOf lowest slots) :
    wp_GR_numberByKeys t_groups t_stands (nI (M - 1)) n f_t_groupOf n f_t_lowest n f_t_keys ns f_t_slots (nI sz) post := by
  have hpw : (2 : Nat) ^ (e + 1) = 2 * 2 ^ e := by rw [Nat.pow_succ]; omega
  have hpos := Nat.two_pow_pos e
  unfold wp_GR_numberByKeys
  have rows : ∀ (m k C : Nat) (cl lo pos : Nat → Nat) (groupOf lowest slots : Nat → Int32), k ≤ sz → sz - k ≤ m → gc_ok (fun j k => f_t_keys j = f_t_keys k) k C cl lo → (∀ j, j < k → groupOf j = nI (cl j)) → (∀ c, c < C → lowest c = nI (lo c)) → gs_inv M k C f_t_keys lo slots pos →
      wp_GR_numberByKeys_L30 t_groups t_stands (nI (M - 1)) n f_t_groupOf n f_t_lowest n f_t_keys ns f_t_slots (nI sz) post (m + 1) (nI C) groupOf lowest slots (nI k) := by
    intro m
    induction m with
    | zero =>
      intro k C cl lo pos groupOf lowest slots hk hm hg h1 h2 h3
      have ek : k = sz := by omega
      subst ek
      unfold wp_GR_numberByKeys_L30
      exact pk_le k k (fun _ => hp C cl lo _ _ _ hg h1 h2) (fun h => absurd h (by omega))
    | succ m ih =>
      intro k C cl lo pos groupOf lowest slots hk hm hg h1 h2 h3
      unfold wp_GR_numberByKeys_L30
      refine pk_le sz k (fun hh => ?_) (fun hlt => ⟨pk_in k n (by omega), ?_⟩)
      · have ek : k = sz := by omega
        subst ek
        exact hp C cl lo _ _ _ hg h1 h2
      have hCk : C ≤ k := by rw [hg.1]; exact cN_le _ _
      rw [nI_clamp (show k < 2 ^ 31 by omega)]
      have put : ∀ (c C' p : Nat) (lo' pos' : Nat → Nat) (lowest' slots' : Nat → Int32), p < M → slots' p = nI c → (∀ cl', (∀ j, j < k → cl' j = cl j) → cl' k = c → gc_ok (fun j k => f_t_keys j = f_t_keys k) (k + 1) C' cl' lo') → (∀ c, c < C' → lowest' c = nI (lo' c)) → gs_inv M (k + 1) C' f_t_keys lo' slots' pos' →
          wp_GR_numberByKeys_J86 t_groups t_stands (nI (M - 1)) n f_t_groupOf n f_t_lowest n f_t_keys ns f_t_slots (nI sz) (wp_GR_numberByKeys_L30 t_groups t_stands (nI (M - 1)) n f_t_groupOf n f_t_lowest n f_t_keys ns f_t_slots (nI sz) post (m + 1)) post (nI C') groupOf lowest' slots' (nI k) (nI p) := by
        intro c C' p lo' pos' lowest' slots' hpM ep hg' h2' h3'
        unfold wp_GR_numberByKeys_J86
        refine ⟨pk_in p ns (by omega), ?_⟩
        rw [nI_clamp (show p < 2 ^ 31 by omega), ep]
        rintro _ rfl
        refine ⟨pk_in k n (by omega), ?_⟩
        rintro _ rfl _ rfl
        rw [nI_1, nI_clamp (show k < 2 ^ 31 by omega)]
        obtain ⟨cl', e1, e2⟩ := q_app cl k c
        refine ih (k + 1) C' cl' lo' pos' _ _ _ (by omega) (by omega) (hg' cl' e1 e2) (fun j hj => ?_) h2' h3'
        by_cases ej : j = k
        · subst ej; rw [pk_us, e2]
        · rw [pk_un ej, e1 j (by omega)]; exact h1 j (by omega)
      refine s_GR_slotOf (k := k) (C := C) (lo := lo) (pos := pos) eM he hMs hns hn (by omega) (by omega) (by omega) h2 h3 (fun c p hc hpM ep ek => ?_) (fun p d hpM ep hno hd epd hne => ?_)
      · refine ⟨pk_in p ns (by omega), ?_⟩
        rw [nI_clamp (show p < 2 ^ 31 by omega)]
        refine ⟨fun _ => ?_, fun z => absurd (ep.symm.trans z) (q_m1 (by omega))⟩
        exact put c C p lo pos lowest slots hpM ep (fun cl' e1 e2 => gc_old hg hc ek e1 e2) h2 ⟨h3.1, fun c' hc' => by
          have z := h3.2 c' hc'
          exact ⟨by omega, z.2⟩⟩
      · refine ⟨pk_in p ns (by omega), ?_⟩
        rw [nI_clamp (show p < 2 ^ 31 by omega)]
        refine ⟨fun z => absurd ep z, fun _ => ⟨pk_in p ns (by omega), ?_⟩⟩
        rintro _ rfl
        refine ⟨pk_in C n (by omega), ?_⟩
        rintro _ rfl _ rfl
        rw [nI_clamp (show C < 2 ^ 31 by omega), show (1 : Int32) = nI 1 from rfl, nI_add]
        obtain ⟨lo', l1, l2⟩ := q_app lo C k
        obtain ⟨pos', p1, p2⟩ := q_app pos C p
        have hnz : ∀ q, slots q ≠ -1 → upd slots p (nI C) q ≠ -1 := fun q hq => by
          by_cases eq : q = p
          · subst eq; rw [pk_us]; exact q_m1 (by omega)
          · rw [pk_un eq]; exact hq
        refine put C (C + 1) p lo' pos' _ _ hpM pk_us (fun cl' e1 e2 => gc_new (fun a b c h1 h2 => h1.trans h2) hg hno rfl e1 e2 l1 l2) (fun c hc => ?_) ⟨fun q hq => ?_, fun c hc => ?_⟩
        · by_cases ec : c = C
          · subst ec; rw [pk_us, l2]
          · rw [pk_un ec, l1 c (by omega)]; exact h2 c (by omega)
        · by_cases eq : q = p
          · subst eq
            exact Or.inr ⟨C, by omega, pk_us, p2⟩
          · rw [pk_un eq]
            rcases h3.1 q hq with z | ⟨c, c1, c2, c3⟩
            · exact Or.inl z
            · exact Or.inr ⟨c, by omega, c2, by rw [p1 c c1]; exact c3⟩
        · by_cases ec : c = C
          · subst ec
            rw [l2, p2]
            exact ⟨by omega, hpM, pk_us, d, hd, epd, fun d' hd' => hnz _ (hne d' hd')⟩
          · have hc' : c < C := by omega
            obtain ⟨y1, y2, y3, d2, y4, y5, y6⟩ := h3.2 c hc'
            rw [l1 c hc', p1 c hc']
            refine ⟨by omega, y2, ?_, d2, y4, y5, fun d' hd' => hnz _ (y6 d' hd')⟩
            rw [pk_un (fun z => ?_)]
            · exact y3
            · rw [z, ep] at y3; exact absurd y3 (q_m1' (by omega))
  have fill : ∀ (m p : Nat) (g0 : Int32) (groupOf lowest slots : Nat → Int32), p ≤ M → M - p ≤ m → (∀ q, q < p → slots q = -1) → wp_GR_numberByKeys_L2 t_groups t_stands (nI (M - 1)) n f_t_groupOf n f_t_lowest n f_t_keys ns f_t_slots (nI sz) post (m + 1) g0 groupOf lowest slots (nI p) := by
    have fin : ∀ (groupOf lowest slots : Nat → Int32), (∀ q, q < M → slots q = -1) → ∃ nn : Nat, wp_GR_numberByKeys_L30 t_groups t_stands (nI (M - 1)) n f_t_groupOf n f_t_lowest n f_t_keys ns f_t_slots (nI sz) post nn 0 groupOf lowest slots 0 := fun groupOf lowest slots hsl =>
      ⟨sz + 1, rows sz 0 0 (fun _ => 0) (fun _ => 0) (fun _ => 0) groupOf lowest slots (by omega) (by omega) (gc_0 _ _ _) (fun j hj => absurd hj (by omega)) (fun j hj => absurd hj (by omega)) ⟨fun q hq => Or.inl (hsl q hq), fun c hc => absurd hc (by omega)⟩⟩
    intro m
    induction m with
    | zero =>
      intro p g0 groupOf lowest slots hpM hm hsl
      have ep : p = M := by omega
      subst ep
      unfold wp_GR_numberByKeys_L2
      exact pk_lt (p - 1) p (fun _ => fin _ _ _ hsl) (fun h => absurd h (by omega))
    | succ m ih =>
      intro p g0 groupOf lowest slots hpM hm hsl
      unfold wp_GR_numberByKeys_L2
      refine pk_lt (M - 1) p (fun hh => ?_) (fun hlt => ⟨pk_in p ns (by omega), ?_⟩)
      · have ep : p = M := by omega
        subst ep
        exact fin _ _ _ hsl
      · rintro _ rfl _ rfl
        rw [nI_1, nI_clamp (show p < 2 ^ 31 by omega)]
        refine ih (p + 1) g0 groupOf lowest _ (by omega) (by omega) (fun q hq => ?_)
        by_cases eq : q = p
        · subst eq; rw [pk_us]
        · rw [pk_un eq]; exact hsl q (by omega)
  exact ⟨M + 1, fill M 0 _ _ _ _ (by omega) (by omega) (fun q hq => absurd hq (by omega))⟩

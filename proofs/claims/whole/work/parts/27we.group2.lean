def gk (b c0 : Nat) (v : Nat → Nat) : Nat → Nat
  | 0 => c0
  | i + 1 => gk b c0 v i * b + v i
theorem gk_lt {b c0 X : Nat} {v : Nat → Nat} (h0 : c0 < X) : ∀ {i : Nat}, (∀ x, x < i → v x < b) → gk b c0 v i < X * b ^ i := by
  intro i
  induction i with
  | zero => intro _; rw [Nat.pow_zero, Nat.mul_one]; exact h0
  | succ i ih =>
    intro h
    have a := ih (fun x hx => h x (by omega))
    have c := h i (by omega)
    show gk b c0 v i * b + v i < X * b ^ (i + 1)
    have d : (gk b c0 v i + 1) * b ≤ X * b ^ i * b := Nat.mul_le_mul_right b a
    rw [Nat.add_mul, Nat.one_mul] at d
    rw [Nat.pow_succ, ← Nat.mul_assoc]
    omega
theorem gk_eq {b c0 c1 : Nat} {v w : Nat → Nat} : ∀ {i : Nat}, (∀ x, x < i → v x < b ∧ w x < b) → (gk b c0 v i = gk b c1 w i ↔ c0 = c1 ∧ ∀ x, x < i → v x = w x) := by
  intro i
  induction i with
  | zero => intro _; exact ⟨fun h => ⟨h, fun x hx => absurd hx (by omega)⟩, fun h => h.1⟩
  | succ i ih =>
    intro h
    have ih' := ih (fun x hx => h x (by omega))
    obtain ⟨a, c⟩ := h i (by omega)
    show gk b c0 v i * b + v i = gk b c1 w i * b + w i ↔ _
    constructor
    · intro e
      have e2 : gk b c0 v i = gk b c1 w i ∧ v i = w i := by
        rcases Nat.lt_trichotomy (gk b c0 v i) (gk b c1 w i) with z | z | z
        · have d : (gk b c0 v i + 1) * b ≤ gk b c1 w i * b := Nat.mul_le_mul_right b z
          rw [Nat.add_mul, Nat.one_mul] at d
          omega
        · rw [z] at e; exact ⟨z, by omega⟩
        · have d : (gk b c1 w i + 1) * b ≤ gk b c0 v i * b := Nat.mul_le_mul_right b z
          rw [Nat.add_mul, Nat.one_mul] at d
          omega
      have y := ih'.mp e2.1
      refine ⟨y.1, fun x hx => ?_⟩
      by_cases ex : x = i
      · subst ex; exact e2.2
      · exact y.2 x (by omega)
    · rintro ⟨h1, h2⟩
      rw [ih'.mpr ⟨h1, fun x hx => h2 x (by omega)⟩, h2 i (by omega)]
/-- which number goes with which relation -/
theorem gc_eq {eq : Nat → Nat → Prop} {sz C : Nat} {cl lo : Nat → Nat} (hs : ∀ a b, eq a b → eq b a) (htr : ∀ a b c, eq a b → eq b c → eq a c) (h : gc_ok eq sz C cl lo) {j k : Nat} (hj : j < sz) (hk : k < sz) : cl j = cl k ↔ eq j k := by
  obtain ⟨f, b1, b2, b3, b4⟩ := h.2.1 j hj
  obtain ⟨g, d1, d2, d3, d4⟩ := h.2.1 k hk
  constructor
  · intro e
    rw [b4, d4] at e
    have := cN_inj b2 d2 e
    subst this
    exact htr _ _ _ (hs _ _ b3) d3
  · intro e
    have z := htr _ _ _ (htr _ _ _ b3 e) (hs _ _ d3)
    have : f = g := by
      rcases Nat.lt_trichotomy f g with y | y | y
      · exact absurd z (gc_fi_t.mp d2 f y)
      · exact y
      · exact absurd (hs _ _ z) (gc_fi_t.mp b2 g y)
    rw [b4, d4, this]
theorem gc_lc {eq : Nat → Nat → Prop} {sz C c : Nat} {cl lo : Nat → Nat} (h : gc_ok eq sz C cl lo) (hc : c < C) : lo c < sz ∧ cl (lo c) = c := by
  obtain ⟨a1, a2, a3⟩ := h.2.2 c hc
  obtain ⟨f, b1, b2, b3, b4⟩ := h.2.1 (lo c) a1
  have : f = lo c := by
    rcases Nat.lt_or_ge f (lo c) with z | z
    · exact absurd b3 (gc_fi_t.mp a2 f z)
    · omega
  rw [this] at b4
  exact ⟨a1, by rw [b4, a3]⟩
theorem gc_Cle {eq : Nat → Nat → Prop} {sz C : Nat} {cl lo : Nat → Nat} (h : gc_ok eq sz C cl lo) : C ≤ sz := by rw [h.1]; exact cN_le _ _
/-- the number of the walked state behind one -/
def wt (st : Nat → Nat → Nat) (W : wk_T) (k i : Nat) : Nat := w_num W (st (w_ord W k) i) - 1
theorem wt_ok {S I room : Nat} {st : Nat → Nat → Nat} {W : wk_T} (h : wk_inv S I st room (w_sz W) 0 W) (hok : w_ok W = true) {k i : Nat} (hk : k < w_sz W) (hi : i < I) : wt st W k i < w_sz W ∧ w_num W (st (w_ord W k) i) = wt st W k i + 1 ∧ w_ord W (wt st W k i) = st (w_ord W k) i := by
  obtain ⟨j, j1, j2, j3⟩ := wm_to h hok hk hi
  have e : wt st W k i = j := by unfold wt; rw [j2]; rfl
  rw [e]; exact ⟨j1, j2, j3⟩
theorem wt_E {S I room : Nat} {st out : Nat → Nat → Nat} {W : wk_T} (h : wk_inv S I st room (w_sz W) 0 W) (hok : w_ok W = true) : ∀ (r j k : Nat), j < w_sz W → k < w_sz W → (pm_E I (wt st W) (fun k i => out (w_ord W k) i) r j k ↔ pm_E I st out r (w_ord W j) (w_ord W k)) := by
  intro r
  induction r with
  | zero => intro j k _ _; exact Iff.rfl
  | succ r ih =>
    intro j k hj hk
    cases r with
    | zero => exact Iff.rfl
    | succ r =>
      show (pm_E I (wt st W) (fun k i => out (w_ord W k) i) (r + 1) j k ∧ ∀ i, i < I → pm_E I (wt st W) (fun k i => out (w_ord W k) i) (r + 1) (wt st W j i) (wt st W k i)) ↔ (pm_E I st out (r + 1) (w_ord W j) (w_ord W k) ∧ ∀ i, i < I → pm_E I st out (r + 1) (st (w_ord W j) i) (st (w_ord W k) i))
      have z : ∀ i, i < I → (pm_E I (wt st W) (fun k i => out (w_ord W k) i) (r + 1) (wt st W j i) (wt st W k i) ↔ pm_E I st out (r + 1) (st (w_ord W j) i) (st (w_ord W k) i)) := fun i hi => by
        have a := wt_ok h hok hj hi
        have b := wt_ok h hok hk hi
        rw [ih _ _ a.1 b.1, a.2.2, b.2.2]
      rw [ih j k hj hk]
      exact ⟨fun y => ⟨y.1, fun i hi => (z i hi).mp (y.2 i hi)⟩, fun y => ⟨y.1, fun i hi => (z i hi).mpr (y.2 i hi)⟩⟩
def gr_R (I : Nat) (st out : Nat → Nat → Nat) (W : wk_T) (groups : Int32) (groupOf lowest : Nat → Int32) : Prop :=
  ∃ (C : Nat) (cl lo : Nat → Nat), gc_ok (fun j k => ∀ r, pm_E I st out r (w_ord W j) (w_ord W k)) (w_sz W) C cl lo ∧ groups = nI C ∧ (∀ k, k < w_sz W → groupOf k = nI (cl k)) ∧ ∀ c, c < C → lowest c = nI (lo c)
/-- when a round parts none, none ever will -/
theorem gr_stop {S I room q C Cb : Nat} {st out : Nat → Nat → Nat} {W : wk_T} {cl lo clb lob : Nat → Nat} (h : wk_inv S I st room (w_sz W) 0 W) (hok : w_ok W = true) (hq : 0 < q) (h1 : gc_ok (fun j k => pm_E I st out (q + 1) (w_ord W j) (w_ord W k)) (w_sz W) C cl lo) (h2 : gc_ok (fun j k => pm_E I st out q (w_ord W j) (w_ord W k)) (w_sz W) Cb clb lob) (hle : C ≤ Cb) :
    gc_ok (fun j k => ∀ r, pm_E I st out r (w_ord W j) (w_ord W k)) (w_sz W) C cl lo := by
  have e1 : ∀ j k, j < w_sz W → k < w_sz W → (cl j = cl k ↔ pm_E I st out (q + 1) (w_ord W j) (w_ord W k)) := fun j k hj hk => gc_eq (eq := fun j k => pm_E I st out (q + 1) (w_ord W j) (w_ord W k)) (fun a b => pm_E_symm) (fun a b c => pm_E_trans) h1 hj hk
  have e2 : ∀ j k, j < w_sz W → k < w_sz W → (clb j = clb k ↔ pm_E I st out q (w_ord W j) (w_ord W k)) := fun j k hj hk => gc_eq (eq := fun j k => pm_E I st out q (w_ord W j) (w_ord W k)) (fun a b => pm_E_symm) (fun a b c => pm_E_trans) h2 hj hk
  have same := pt_same (S := w_sz W) (n := C) (parts := Cb) (P := clb) (Q := cl) (fun c hc => ⟨lob c, gc_lc h2 hc⟩) (fun s hs => gc_clt h1 hs) (fun s hs => gc_clt h2 hs) (fun s t hs ht e => (e2 s t hs ht).mpr (pm_E_mono ((e1 s t hs ht).mp e))) hle
  have stab := pm_E_stable (I := I) (S := w_sz W) (r := q) (st := wt st W) (out := fun k i => out (w_ord W k) i) (fun s i hs hi => (wt_ok h hok hs hi).1) hq (fun s t hs ht e => (wt_E h hok _ s t hs ht).mpr ((e1 s t hs ht).mp (same s t hs ht ((e2 s t hs ht).mpr ((wt_E h hok _ s t hs ht).mp e)))))
  refine gc_cong (fun j k hj hk => ⟨fun e r => ?_, fun e => e (q + 1)⟩) h1
  have eq : pm_E I st out q (w_ord W j) (w_ord W k) := pm_E_mono e
  rcases Nat.lt_or_ge r q with z | z
  · exact pm_E_le (by omega) eq
  · have := (wt_E (out := out) h hok _ j k hj hk).mp (stab (r - q) j k hj hk ((wt_E h hok _ j k hj hk).mpr eq))
    rw [show q + (r - q) = r by omega] at this
    exact this
theorem s_GR_outputKey {a0_registers : Int32} {a0_bits : Int32} {a0_inputs : Int32} {a0_transfers : Int32} {n_a0_shifts : Nat} {f_a0_shifts : Nat → Int32} {n_a0_masks : Nat} {f_a0_masks : Nat → Int32} {n_a0_rules : Nat} {f_a0_rules : Nat → Option Nat} {vTr_a0_rules_4 : Nat → Int32} {fTg_a0_rules_4 : Nat → Nat → Int32} {fOp_a0_rules_4 : Nat → Nat → Int32} {fLf_a0_rules_4 : Nat → Nat → Int32} {fRt_a0_rules_4 : Nat → Nat → Int32} {nMv_a0_rules_4 : Nat → Nat} {fMv_a0_rules_4 : Nat → Nat → Int32} {S I s : Nat} {st out : Nat → Nat → Nat} {MV : (Nat → Nat → Int32) → Prop} {post : Int64 → (Nat → Nat → Int32) → Prop} (hM : ms_ok a0_registers a0_bits a0_inputs a0_transfers n_a0_shifts f_a0_shifts n_a0_masks f_a0_masks n_a0_rules f_a0_rules vTr_a0_rules_4 fTg_a0_rules_4 fOp_a0_rules_4 fLf_a0_rules_4 fRt_a0_rules_4 nMv_a0_rules_4 S I st out MV) (hg : MV fMv_a0_rules_4) (hs : s < S) (hp : ∀ g, MV g → post (lN (gk 16 0 (out s) I)) g) : wp_GR_outputKey a0_registers a0_bits a0_inputs a0_transfers n_a0_shifts f_a0_shifts n_a0_masks f_a0_masks n_a0_rules f_a0_rules vTr_a0_rules_4 fTg_a0_rules_4 fOp_a0_rules_4 fLf_a0_rules_4 fRt_a0_rules_4 nMv_a0_rules_4 fMv_a0_rules_4 (nI s) post := by
  obtain ⟨hi0, hI, hb0, hS0, hS1, hst, hN, hG⟩ := hM
  subst hi0
  unfold wp_GR_outputKey
  have key : ∀ (m i : Nat) (g : Nat → Nat → Int32), i ≤ I → I - i ≤ m → MV g → wp_GR_outputKey_L5 a0_registers a0_bits (nI I) a0_transfers n_a0_shifts f_a0_shifts n_a0_masks f_a0_masks n_a0_rules f_a0_rules vTr_a0_rules_4 fTg_a0_rules_4 fOp_a0_rules_4 fLf_a0_rules_4 fRt_a0_rules_4 nMv_a0_rules_4 fMv_a0_rules_4 (nI s) post (m + 1) g (lN (gk 16 0 (out s) i)) (nI i) := by
    intro m
    induction m with
    | zero =>
      intro i g hi hm hg
      have e : i = I := by omega
      subst e
      unfold wp_GR_outputKey_L5
      exact pk_le i i (fun _ => hp g hg) (fun h => absurd h (by omega))
    | succ m ih =>
      intro i g hi hm hg
      unfold wp_GR_outputKey_L5
      refine pk_le I i (fun h => ?_) (fun hlt => hG _ _ _ _ hg hs hlt (fun g1 hg1 => ?_))
      · have e : i = I := by omega
        subst e
        exact hp g hg
      · have ho := (hst s i hs hlt).2
        rintro _ rfl _ rfl
        rw [nI_1, nI_l (by omega), show (16 : Int64) = lN 16 from rfl, lN_mul, lN_add]
        exact ih (i + 1) g1 (by omega) (by omega) hg1
  exact ⟨I + 1, key I 0 _ (by omega) (by omega) hg⟩
theorem s_GR_nextKey {t_groups : Int32} {t_stands : Int32} {t_lastSlot : Int32} {f_t_groupOf : Nat → Int32} {a1_registers : Int32} {a1_bits : Int32} {a1_inputs : Int32} {a1_transfers : Int32} {n_a1_shifts : Nat} {f_a1_shifts : Nat → Int32} {n_a1_masks : Nat} {f_a1_masks : Nat → Int32} {n_a1_rules : Nat} {f_a1_rules : Nat → Option Nat} {vTr_a1_rules_4 : Nat → Int32} {fTg_a1_rules_4 : Nat → Nat → Int32} {fOp_a1_rules_4 : Nat → Nat → Int32} {fLf_a1_rules_4 : Nat → Nat → Int32} {fRt_a1_rules_4 : Nat → Nat → Int32} {nMv_a1_rules_4 : Nat → Nat} {fMv_a1_rules_4 : Nat → Nat → Int32} {a2_size : Int32} {a2_stands : Int32} {a2_fits : Int32} {a2_joined : Int32} {a2_resting : Int32} {f_a2_order : Nat → Int32} {f_a2_numberOf : Nat → Int32} {S I k n nw room : Nat} {W : wk_T} {cl : Nat → Nat} {st out : Nat → Nat → Nat} {MV : (Nat → Nat → Int32) → Prop} {back : Nat → Int32} {post : Int64 → (Nat → Nat → Int32) → Prop} (hM : ms_ok a1_registers a1_bits a1_inputs a1_transfers n_a1_shifts f_a1_shifts n_a1_masks f_a1_masks n_a1_rules f_a1_rules vTr_a1_rules_4 fTg_a1_rules_4 fOp_a1_rules_4 fLf_a1_rules_4 fRt_a1_rules_4 nMv_a1_rules_4 S I st out MV) (hg : MV fMv_a1_rules_4) (hw : wk_inv S I st room (w_sz W) 0 W) (hok : w_ok W = true) (hr : wa_rep S W back f_a2_order f_a2_numberOf) (hS : S ≤ nw) (hnw : nw < 2 ^ 28) (hn : n < 2 ^ 28) (hsn : w_sz W ≤ n) (hk : k < w_sz W) (hcl : ∀ j, j < w_sz W → cl j < 4096 ∧ f_t_groupOf j = nI (cl j))
    (hp : ∀ g, MV g → post (lN (gk 4096 (cl k) (fun x => cl (wt st W k x)) I)) g) : wp_GR_nextKey t_groups t_stands t_lastSlot n f_t_groupOf a1_registers a1_bits a1_inputs a1_transfers n_a1_shifts f_a1_shifts n_a1_masks f_a1_masks n_a1_rules f_a1_rules vTr_a1_rules_4 fTg_a1_rules_4 fOp_a1_rules_4 fLf_a1_rules_4 fRt_a1_rules_4 nMv_a1_rules_4 fMv_a1_rules_4 a2_size a2_stands a2_fits a2_joined a2_resting nw f_a2_order nw f_a2_numberOf (nI k) post := by
  obtain ⟨hi0, hI, hb0, hS0, hS1, hst, hN, hG⟩ := hM
  subst hi0
  have hle := wk_le hw
  have hok1 := (hw.2.2.1 k hk).1
  unfold wp_GR_nextKey
  refine ⟨pk_in k n (by omega), ?_⟩
  rw [nI_clamp (show k < 2 ^ 31 by omega), (hcl k hk).2, nI_l (by have := (hcl k hk).1; omega)]
  rintro _ rfl
  have key : ∀ (m i : Nat) (g : Nat → Nat → Int32), i ≤ I → I - i ≤ m → MV g → wp_GR_nextKey_L12 t_groups t_stands t_lastSlot n f_t_groupOf a1_registers a1_bits (nI I) a1_transfers n_a1_shifts f_a1_shifts n_a1_masks f_a1_masks n_a1_rules f_a1_rules vTr_a1_rules_4 fTg_a1_rules_4 fOp_a1_rules_4 fLf_a1_rules_4 fRt_a1_rules_4 nMv_a1_rules_4 fMv_a1_rules_4 a2_size a2_stands a2_fits a2_joined a2_resting nw f_a2_order nw f_a2_numberOf (nI k) post (m + 1) g (lN (gk 4096 (cl k) (fun x => cl (wt st W k x)) i)) (nI i) := by
    intro m
    induction m with
    | zero =>
      intro i g hi hm hg
      have e : i = I := by omega
      subst e
      unfold wp_GR_nextKey_L12
      exact pk_le i i (fun _ => hp g hg) (fun h => absurd h (by omega))
    | succ m ih =>
      intro i g hi hm hg
      unfold wp_GR_nextKey_L12
      refine pk_le I i (fun h => ?_) (fun hlt => ⟨pk_in k nw (by omega), ?_⟩)
      · have e : i = I := by omega
        subst e
        exact hp g hg
      · rw [nI_clamp (show k < 2 ^ 31 by omega), hr.2.1 k hk]
        refine hN _ _ _ _ hg hok1 hlt (fun g1 hg1 => ?_)
        have a := wt_ok hw hok hk hlt
        have hs1 := (hst _ i hok1 hlt).1
        have hc := hcl _ a.1
        refine ⟨pk_in (st (w_ord W k) i) nw (by omega), ?_⟩
        rw [nI_clamp (show st (w_ord W k) i < 2 ^ 31 by omega), hr.2.2 _ hs1, a.2.1, w_enc1]
        rintro _ rfl
        refine ⟨pk_in (wt st W k i) n (by omega), ?_⟩
        rw [nI_clamp (show wt st W k i < 2 ^ 31 by omega), hc.2, nI_l (by omega), show (4096 : Int64) = lN 4096 from rfl, lN_mul, lN_add]
        rintro _ rfl _ rfl
        rw [nI_1]
        exact ih (i + 1) g1 (by omega) (by omega) hg1
  exact ⟨I + 1, key I 0 _ (by omega) (by omega) hg⟩
theorem q_pw {b I X : Nat} (hI : I ≤ 4) (hb : 0 < b) (h : X * b ^ 4 ≤ 2 ^ 62) : X * b ^ I ≤ 2 ^ 62 := Nat.le_trans (Nat.mul_le_mul_left X (Nat.pow_le_pow_right hb hI)) h
theorem s_GR_run {mc : Nat} {ms : Nat} {t_groups : Int32} {t_stands : Int32} {t_lastSlot : Int32} {f_t_groupOf : Nat → Int32} {f_t_lowest : Nat → Int32} {f_t_keys : Nat → Int64} {f_t_slots : Nat → Int32} {a1_registers : Int32} {a1_bits : Int32} {a1_inputs : Int32} {a1_transfers : Int32} {n_a1_shifts : Nat} {f_a1_shifts : Nat → Int32} {n_a1_masks : Nat} {f_a1_masks : Nat → Int32} {n_a1_rules : Nat} {f_a1_rules : Nat → Option Nat} {vTr_a1_rules_4 : Nat → Int32} {fTg_a1_rules_4 : Nat → Nat → Int32} {fOp_a1_rules_4 : Nat → Nat → Int32} {fLf_a1_rules_4 : Nat → Nat → Int32} {fRt_a1_rules_4 : Nat → Nat → Int32} {nMv_a1_rules_4 : Nat → Nat} {fMv_a1_rules_4 : Nat → Nat → Int32} {a2_stands : Int32} {a2_fits : Int32} {a2_joined : Int32} {a2_resting : Int32} {f_a2_order : Nat → Int32} {f_a2_numberOf : Nat → Int32} {a_t_groupOf : Nat} {a_t_lowest : Nat} {a_t_keys : Nat} {a_t_slots : Nat} {S I room ng nw b : Nat} {W : wk_T} {st out : Nat → Nat → Nat} {MV : (Nat → Nat → Int32) → Prop} {back : Nat → Int32} {post : Int32 → Int32 → Int32 → Nat → Nat → (Nat → Int32) → Nat → Nat → (Nat → Int32) → Nat → Nat → (Nat → Int64) → Nat → Nat → (Nat → Int32) → (Nat → Nat → Int32) → Prop} (hM : ms_ok a1_registers a1_bits a1_inputs a1_transfers n_a1_shifts f_a1_shifts n_a1_masks f_a1_masks n_a1_rules f_a1_rules vTr_a1_rules_4 fTg_a1_rules_4 fOp_a1_rules_4 fLf_a1_rules_4 fRt_a1_rules_4 nMv_a1_rules_4 S I st out MV) (hg : MV fMv_a1_rules_4) (hw : wk_inv S I st room (w_sz W) 0 W) (hok : w_ok W = true) (hr : wa_rep S W back f_a2_order f_a2_numberOf) (hS : S ≤ nw) (hnb : nw = 2 ^ b) (hb : b ≤ 12) (hng : ng < 2 ^ 20) (hbud : ng < nw → 4 ≤ mc ∧ 5 * nw ≤ ms) (hs : ¬ t_stands = 0 → gr_R I st out W t_groups f_t_groupOf f_t_lowest ∧ nw ≤ ng)
    (hp : ∀ (groups sd last : Int32) (groupOf lowest : Nat → Int32) (keys : Nat → Int64) (slots : Nat → Int32) (g : Nat → Nat → Int32) (w1 w2 w3 w4 n : Nat), sd ≠ 0 → gr_R I st out W groups groupOf lowest → MV g → nw ≤ n → (n = ng ∨ ng < nw ∧ n = nw) → post groups sd last w1 n groupOf w2 n lowest w3 n keys w4 (2 * n) slots g) :
    wp_GR_run mc ms t_groups t_stands t_lastSlot ng f_t_groupOf ng f_t_lowest ng f_t_keys (2 * ng) f_t_slots a1_registers a1_bits a1_inputs a1_transfers n_a1_shifts f_a1_shifts n_a1_masks f_a1_masks n_a1_rules f_a1_rules vTr_a1_rules_4 fTg_a1_rules_4 fOp_a1_rules_4 fLf_a1_rules_4 fRt_a1_rules_4 nMv_a1_rules_4 fMv_a1_rules_4 (nI (w_sz W)) a2_stands a2_fits a2_joined a2_resting nw f_a2_order nw f_a2_numberOf a_t_groupOf a_t_lowest a_t_keys a_t_slots post := by
  have hM' := id hM
  obtain ⟨hi0, hI, hb0, hS0, hS1, hst, hN, hG⟩ := hM'
  subst hi0
  have h12 := q_p2 hb
  have hle := wk_le hw
  have hsz0 := hw.1
  unfold wp_GR_run
  refine ⟨fun _ => ?_, fun h => hp _ _ _ _ _ _ _ _ _ _ _ _ ng h (hs h).1 hg (hs h).2 (Or.inl rfl)⟩
  have after : ∀ (kc ks n w1 w2 w3 w4 : Nat) (groupOf lowest : Nat → Int32) (keys : Nat → Int64) (slots : Nat → Int32), nw ≤ n → (n = ng ∨ ng < nw ∧ n = nw) → wp_GR_chooseSlots t_groups 1 t_lastSlot (nI (w_sz W)) (fun l => ∃ nn : Nat, wp_GR_run_L32 mc ms t_groups t_stands t_lastSlot ng f_t_groupOf ng f_t_lowest ng f_t_keys (2 * ng) f_t_slots a1_registers a1_bits (nI I) a1_transfers n_a1_shifts f_a1_shifts n_a1_masks f_a1_masks n_a1_rules f_a1_rules vTr_a1_rules_4 fTg_a1_rules_4 fOp_a1_rules_4 fLf_a1_rules_4 fRt_a1_rules_4 nMv_a1_rules_4 fMv_a1_rules_4 (nI (w_sz W)) a2_stands a2_fits a2_joined a2_resting nw f_a2_order nw f_a2_numberOf a_t_groupOf a_t_lowest a_t_keys a_t_slots post nn kc ks t_groups 1 l w1 n groupOf w2 n lowest w3 n keys w4 (2 * n) slots fMv_a1_rules_4 0) := by
    intro kc ks n w1 w2 w3 w4 groupOf0 lowest0 keys0 slots0 hnn hn'
    have hn20 : n < 2 ^ 21 := by omega
    refine s_GR_chooseSlots (sz := w_sz W) (b := b) (by omega) hb (fun e he hse => ?_)
    have heb : (2 : Nat) ^ e ≤ 2 ^ b := Nat.pow_le_pow_right (by omega) he
    obtain ⟨M, eM⟩ : ∃ M, M = 2 ^ (e + 1) := ⟨_, rfl⟩
    have hpw : (2 : Nat) ^ (e + 1) = 2 * 2 ^ e := by rw [Nat.pow_succ]; omega
    have hMn : M ≤ 2 * n := by omega
    rw [← eM]
    have r75 : ∀ (m q C Cb : Nat) (cl lo : Nat → Nat) (groupOf lowest slots : Nat → Int32) (keys : Nat → Int64) (g : Nat → Nat → Int32), q ≤ w_sz W → w_sz W - q ≤ m → gc_ok (fun j k => pm_E I st out (q + 1) (w_ord W j) (w_ord W k)) (w_sz W) C cl lo → (∀ k, k < w_sz W → groupOf k = nI (cl k)) → (∀ c, c < C → lowest c = nI (lo c)) → ((q = 0 ∧ Cb = 0) ∨ (0 < q ∧ q ≤ Cb ∧ ∃ clb lob, gc_ok (fun j k => pm_E I st out q (w_ord W j) (w_ord W k)) (w_sz W) Cb clb lob)) → MV g →
        wp_GR_run_L75 mc ms t_groups t_stands t_lastSlot ng f_t_groupOf ng f_t_lowest ng f_t_keys (2 * ng) f_t_slots a1_registers a1_bits (nI I) a1_transfers n_a1_shifts f_a1_shifts n_a1_masks f_a1_masks n_a1_rules f_a1_rules vTr_a1_rules_4 fTg_a1_rules_4 fOp_a1_rules_4 fLf_a1_rules_4 fRt_a1_rules_4 nMv_a1_rules_4 fMv_a1_rules_4 (nI (w_sz W)) a2_stands a2_fits a2_joined a2_resting nw f_a2_order nw f_a2_numberOf a_t_groupOf a_t_lowest a_t_keys a_t_slots post (m + 1) kc ks (nI C) 1 (nI (M - 1)) w1 n groupOf w2 n lowest w3 n keys w4 (2 * n) slots g (nI Cb) (nI q) := by
      have stop : ∀ (q C Cb : Nat) (cl lo : Nat → Nat) (groupOf lowest slots : Nat → Int32) (keys : Nat → Int64) (g : Nat → Nat → Int32), gc_ok (fun j k => pm_E I st out (q + 1) (w_ord W j) (w_ord W k)) (w_sz W) C cl lo → (∀ k, k < w_sz W → groupOf k = nI (cl k)) → (∀ c, c < C → lowest c = nI (lo c)) → ((q = 0 ∧ Cb = 0) ∨ (0 < q ∧ q ≤ Cb ∧ ∃ clb lob, gc_ok (fun j k => pm_E I st out q (w_ord W j) (w_ord W k)) (w_sz W) Cb clb lob)) → MV g → (C ≤ Cb ∨ w_sz W ≤ q) → post (nI C) 1 (nI (M - 1)) w1 n groupOf w2 n lowest w3 n keys w4 (2 * n) slots g := by
        intro q C Cb cl lo groupOf lowest slots keys g h1 h2 h3 h4 h5 h6
        have hC0 : 0 < C := Nat.lt_of_le_of_lt (Nat.zero_le _) (gc_clt h1 (k := 0) hsz0)
        have hCle := gc_Cle h1
        rcases h4 with ⟨y1, y2⟩ | ⟨y1, y2, clb, lob, y3⟩
        · omega
        · exact hp _ _ _ _ _ _ _ _ _ _ _ _ n (by decide) ⟨C, cl, lo, gr_stop hw hok y1 h1 y3 (by omega), rfl, h2, h3⟩ h5 hnn hn'
      intro m
      induction m with
      | zero =>
        intro q C Cb cl lo groupOf lowest slots keys g hq hm h1 h2 h3 h4 h5
        have eq : q = w_sz W := by omega
        unfold wp_GR_run_L75
        exact pk_le (w_sz W) q (fun _ => stop q C Cb cl lo _ _ _ _ _ h1 h2 h3 h4 h5 (Or.inr (by omega))) (fun h => absurd h (by omega))
      | succ m ih =>
        intro q C Cb cl lo groupOf lowest slots keys g hq hm h1 h2 h3 h4 h5
        have hCle := gc_Cle h1
        have hCb : Cb ≤ w_sz W := by
          rcases h4 with ⟨y1, y2⟩ | ⟨y1, y2, clb, lob, y3⟩
          · omega
          · exact gc_Cle y3
        unfold wp_GR_run_L75
        refine pk_le (w_sz W) q (fun hh => stop q C Cb cl lo _ _ _ _ _ h1 h2 h3 h4 h5 (Or.inr (by omega))) (fun hlt => ?_)
        refine pk_le C Cb (fun hh => stop q C Cb cl lo _ _ _ _ _ h1 h2 h3 h4 h5 (Or.inl hh)) (fun hgt => ?_)
        have hcl : ∀ j, j < w_sz W → cl j < 4096 ∧ groupOf j = nI (cl j) := fun j hj => ⟨by have := gc_clt h1 hj; omega, h2 j hj⟩
        have hE : ∀ j k, j < w_sz W → k < w_sz W → (cl j = cl k ↔ pm_E I st out (q + 1) (w_ord W j) (w_ord W k)) := fun j k hj hk => gc_eq (eq := fun j k => pm_E I st out (q + 1) (w_ord W j) (w_ord W k)) (fun a b => pm_E_symm) (fun a b c => pm_E_trans) h1 hj hk
        have r100 : ∀ (m' k : Nat) (keys : Nat → Int64) (g : Nat → Nat → Int32), k ≤ w_sz W → w_sz W - k ≤ m' → (∀ j, j < k → keys j = lN (gk 4096 (cl j) (fun x => cl (wt st W j x)) I)) → MV g →
            wp_GR_run_L100 mc ms t_groups t_stands t_lastSlot ng f_t_groupOf ng f_t_lowest ng f_t_keys (2 * ng) f_t_slots a1_registers a1_bits (nI I) a1_transfers n_a1_shifts f_a1_shifts n_a1_masks f_a1_masks n_a1_rules f_a1_rules vTr_a1_rules_4 fTg_a1_rules_4 fOp_a1_rules_4 fLf_a1_rules_4 fRt_a1_rules_4 nMv_a1_rules_4 fMv_a1_rules_4 (nI (w_sz W)) a2_stands a2_fits a2_joined a2_resting nw f_a2_order nw f_a2_numberOf a_t_groupOf a_t_lowest a_t_keys a_t_slots (wp_GR_run_L75 mc ms t_groups t_stands t_lastSlot ng f_t_groupOf ng f_t_lowest ng f_t_keys (2 * ng) f_t_slots a1_registers a1_bits (nI I) a1_transfers n_a1_shifts f_a1_shifts n_a1_masks f_a1_masks n_a1_rules f_a1_rules vTr_a1_rules_4 fTg_a1_rules_4 fOp_a1_rules_4 fLf_a1_rules_4 fRt_a1_rules_4 nMv_a1_rules_4 fMv_a1_rules_4 (nI (w_sz W)) a2_stands a2_fits a2_joined a2_resting nw f_a2_order nw f_a2_numberOf a_t_groupOf a_t_lowest a_t_keys a_t_slots post (m + 1)) post (m' + 1) kc ks (nI C) 1 (nI (M - 1)) w1 n groupOf w2 n lowest w3 n keys w4 (2 * n) slots g (nI C) (nI q) (nI k) := by
          have fin : ∀ (m' : Nat) (keys : Nat → Int64) (g : Nat → Nat → Int32), (∀ j, j < w_sz W → keys j = lN (gk 4096 (cl j) (fun x => cl (wt st W j x)) I)) → MV g →
              wp_GR_run_L100 mc ms t_groups t_stands t_lastSlot ng f_t_groupOf ng f_t_lowest ng f_t_keys (2 * ng) f_t_slots a1_registers a1_bits (nI I) a1_transfers n_a1_shifts f_a1_shifts n_a1_masks f_a1_masks n_a1_rules f_a1_rules vTr_a1_rules_4 fTg_a1_rules_4 fOp_a1_rules_4 fLf_a1_rules_4 fRt_a1_rules_4 nMv_a1_rules_4 fMv_a1_rules_4 (nI (w_sz W)) a2_stands a2_fits a2_joined a2_resting nw f_a2_order nw f_a2_numberOf a_t_groupOf a_t_lowest a_t_keys a_t_slots (wp_GR_run_L75 mc ms t_groups t_stands t_lastSlot ng f_t_groupOf ng f_t_lowest ng f_t_keys (2 * ng) f_t_slots a1_registers a1_bits (nI I) a1_transfers n_a1_shifts f_a1_shifts n_a1_masks f_a1_masks n_a1_rules f_a1_rules vTr_a1_rules_4 fTg_a1_rules_4 fOp_a1_rules_4 fLf_a1_rules_4 fRt_a1_rules_4 nMv_a1_rules_4 fMv_a1_rules_4 (nI (w_sz W)) a2_stands a2_fits a2_joined a2_resting nw f_a2_order nw f_a2_numberOf a_t_groupOf a_t_lowest a_t_keys a_t_slots post (m + 1)) post (m' + 1) kc ks (nI C) 1 (nI (M - 1)) w1 n groupOf w2 n lowest w3 n keys w4 (2 * n) slots g (nI C) (nI q) (nI (w_sz W)) := by
            intro m' keys g hk hg
            unfold wp_GR_run_L100
            refine pk_le (w_sz W) (w_sz W) (fun _ => ?_) (fun h => absurd h (by omega))
            refine s_GR_numberByKeys (sz := w_sz W) eM (by omega) hMn (by omega) (by omega) (by omega) hse (fun C' cl' lo' groupOf' lowest' slots' g1 g2 g3 => ?_)
            rintro _ rfl
            rw [nI_1]
            refine ih (q + 1) C' C cl' lo' groupOf' lowest' slots' keys g (by omega) (by omega) (gc_cong (fun j k hj hk' => ?_) g1) g2 g3 (Or.inr ⟨by omega, by omega, cl, lo, h1⟩) hg
            show keys j = keys k ↔ pm_E I st out (q + 1 + 1) (w_ord W j) (w_ord W k)
            have b1 : ∀ j, j < w_sz W → gk 4096 (cl j) (fun x => cl (wt st W j x)) I < 2 ^ 63 := fun j hj => Nat.lt_of_lt_of_le (gk_lt (X := 4096) (hcl j hj).1 (fun x hx => (hcl _ (wt_ok hw hok hj hx).1).1)) (Nat.le_trans (q_pw (b := 4096) hI (by omega) (by decide)) (by decide))
            rw [hk j hj, hk k hk', pk_lEQ (b1 j hj) (b1 k hk'), gk_eq (fun x hx => ⟨(hcl _ (wt_ok hw hok hj hx).1).1, (hcl _ (wt_ok hw hok hk' hx).1).1⟩), hE j k hj hk']
            show _ ↔ pm_E I st out (q + 1) (w_ord W j) (w_ord W k) ∧ ∀ i, i < I → pm_E I st out (q + 1) (st (w_ord W j) i) (st (w_ord W k) i)
            have z : ∀ x, x < I → (cl (wt st W j x) = cl (wt st W k x) ↔ pm_E I st out (q + 1) (st (w_ord W j) x) (st (w_ord W k) x)) := fun x hx => by
              have a := wt_ok hw hok hj hx
              have b := wt_ok hw hok hk' hx
              rw [hE _ _ a.1 b.1, a.2.2, b.2.2]
            exact ⟨fun y => ⟨y.1, fun i hi => (z i hi).mp (y.2 i hi)⟩, fun y => ⟨y.1, fun i hi => (z i hi).mpr (y.2 i hi)⟩⟩
          intro m'
          induction m' with
          | zero =>
            intro k keys g hk hm' hkeys hg
            have e : k = w_sz W := by omega
            rw [e] at hkeys ⊢
            exact fin 0 keys g hkeys hg
          | succ m' ih' =>
            intro k keys g hk hm' hkeys hg
            rcases Nat.lt_or_ge k (w_sz W) with hkl | hkg
            · unfold wp_GR_run_L100
              refine pk_le (w_sz W) k (fun h => absurd h (by omega)) (fun _ => ?_)
              refine s_GR_nextKey (cl := cl) hM hg hw hok hr hS (by omega) (by omega) (by omega) hkl hcl (fun g1 hg1 => ?_)
              refine ⟨pk_in k n (by omega), ?_⟩
              rintro _ rfl _ rfl
              rw [nI_1, nI_clamp (show k < 2 ^ 31 by omega)]
              refine ih' (k + 1) _ g1 (by omega) (by omega) (fun j hj => ?_) hg1
              by_cases ej : j = k
              · subst ej; rw [pk_uLs]
              · rw [pk_uLn ej]; exact hkeys j (by omega)
            · have e : k = w_sz W := by omega
              rw [e] at hkeys ⊢
              exact fin (m' + 1) keys g hkeys hg
        exact ⟨w_sz W + 1, r100 (w_sz W) 0 keys g (by omega) (by omega) (fun j hj => absurd hj (by omega)) h5⟩
    have r32 : ∀ (m k : Nat) (keys : Nat → Int64) (g : Nat → Nat → Int32), k ≤ w_sz W → w_sz W - k ≤ m → (∀ j, j < k → keys j = lN (gk 16 0 (out (w_ord W j)) I)) → MV g →
        wp_GR_run_L32 mc ms t_groups t_stands t_lastSlot ng f_t_groupOf ng f_t_lowest ng f_t_keys (2 * ng) f_t_slots a1_registers a1_bits (nI I) a1_transfers n_a1_shifts f_a1_shifts n_a1_masks f_a1_masks n_a1_rules f_a1_rules vTr_a1_rules_4 fTg_a1_rules_4 fOp_a1_rules_4 fLf_a1_rules_4 fRt_a1_rules_4 nMv_a1_rules_4 fMv_a1_rules_4 (nI (w_sz W)) a2_stands a2_fits a2_joined a2_resting nw f_a2_order nw f_a2_numberOf a_t_groupOf a_t_lowest a_t_keys a_t_slots post (m + 1) kc ks t_groups 1 (nI (M - 1)) w1 n groupOf0 w2 n lowest0 w3 n keys w4 (2 * n) slots0 g (nI k) := by
      have fin : ∀ (m : Nat) (keys : Nat → Int64) (g : Nat → Nat → Int32), (∀ j, j < w_sz W → keys j = lN (gk 16 0 (out (w_ord W j)) I)) → MV g →
          wp_GR_run_L32 mc ms t_groups t_stands t_lastSlot ng f_t_groupOf ng f_t_lowest ng f_t_keys (2 * ng) f_t_slots a1_registers a1_bits (nI I) a1_transfers n_a1_shifts f_a1_shifts n_a1_masks f_a1_masks n_a1_rules f_a1_rules vTr_a1_rules_4 fTg_a1_rules_4 fOp_a1_rules_4 fLf_a1_rules_4 fRt_a1_rules_4 nMv_a1_rules_4 fMv_a1_rules_4 (nI (w_sz W)) a2_stands a2_fits a2_joined a2_resting nw f_a2_order nw f_a2_numberOf a_t_groupOf a_t_lowest a_t_keys a_t_slots post (m + 1) kc ks t_groups 1 (nI (M - 1)) w1 n groupOf0 w2 n lowest0 w3 n keys w4 (2 * n) slots0 g (nI (w_sz W)) := by
        intro m keys g hk hg
        unfold wp_GR_run_L32
        refine pk_le (w_sz W) (w_sz W) (fun _ => ?_) (fun h => absurd h (by omega))
        refine s_GR_numberByKeys (sz := w_sz W) eM (by omega) hMn (by omega) (by omega) (by omega) hse (fun C' cl' lo' groupOf' lowest' slots' g1 g2 g3 => ?_)
        refine ⟨w_sz W + 1, r75 (w_sz W) 0 C' 0 cl' lo' groupOf' lowest' slots' keys g (by omega) (by omega) (gc_cong (fun j k hj hk' => ?_) g1) g2 g3 (Or.inl ⟨rfl, rfl⟩) hg⟩
        show keys j = keys k ↔ ∀ i, i < I → out (w_ord W j) i = out (w_ord W k) i
        have ho : ∀ j x, j < w_sz W → x < I → out (w_ord W j) x < 16 := fun j x hj hx => (hst _ x (hw.2.2.1 j hj).1 hx).2
        have b1 : ∀ j, j < w_sz W → gk 16 0 (out (w_ord W j)) I < 2 ^ 63 := fun j hj => Nat.lt_of_lt_of_le (gk_lt (X := 1) (by omega) (fun x hx => ho j x hj hx)) (Nat.le_trans (q_pw (b := 16) hI (by omega) (by decide)) (by decide))
        rw [hk j hj, hk k hk', pk_lEQ (b1 j hj) (b1 k hk'), gk_eq (fun x hx => ⟨ho j x hj hx, ho k x hk' hx⟩)]
        exact ⟨fun y => y.2, fun y => ⟨rfl, y⟩⟩
      intro m
      induction m with
      | zero =>
        intro k keys g hk hm hkeys hg
        have e : k = w_sz W := by omega
        rw [e] at hkeys ⊢
        exact fin 0 keys g hkeys hg
      | succ m ih =>
        intro k keys g hk hm hkeys hg
        rcases Nat.lt_or_ge k (w_sz W) with hkl | hkg
        · unfold wp_GR_run_L32
          refine pk_le (w_sz W) k (fun h => absurd h (by omega)) (fun _ => ⟨pk_in k nw (by omega), ?_⟩)
          rw [nI_clamp (show k < 2 ^ 31 by omega), hr.2.1 k hkl]
          refine s_GR_outputKey hM hg (hw.2.2.1 k hkl).1 (fun g1 hg1 => ?_)
          refine ⟨pk_in k n (by omega), ?_⟩
          rintro _ rfl _ rfl
          rw [nI_1]
          refine ih (k + 1) _ g1 (by omega) (by omega) (fun j hj => ?_) hg1
          by_cases ej : j = k
          · subst ej; rw [pk_uLs]
          · rw [pk_uLn ej]; exact hkeys j (by omega)
        · have e : k = w_sz W := by omega
          rw [e] at hkeys ⊢
          exact fin (m + 1) keys g hkeys hg
    exact ⟨w_sz W + 1, r32 (w_sz W) 0 keys0 _ (by omega) (by omega) (fun j hj => absurd hj (by omega)) hg⟩
  by_cases hlt : ng < nw
  · obtain ⟨b1, b2⟩ := hbud hlt
    refine ⟨4, 5 * nw, by omega, by omega, ?_⟩
    unfold wp_GR_makeRows
    rw [show (2 : Int32) = nI 2 from rfl, pk_mul, nI_clamp (show nw < 2 ^ 31 by omega), nI_clamp (show 2 * nw < 2 ^ 31 by omega)]
    refine pk_le nw ng (fun h => absurd h (by omega)) (fun _ => ?_)
    exact ⟨nI_pos (by omega), by omega, by omega, by omega, fun q1 => ⟨nI_pos (by omega), by omega, by omega, by omega, fun q2 => ⟨nI_pos (by omega), by omega, by omega, by omega, fun q3 => ⟨nI_pos (by omega), by omega, by omega, by omega, fun q4 => after _ _ nw _ _ _ _ _ _ _ _ (Nat.le_refl _) (Or.inr ⟨hlt, rfl⟩)⟩⟩⟩⟩
  · refine ⟨0, 0, by omega, by omega, ?_⟩
    unfold wp_GR_makeRows
    refine pk_le nw ng (fun h => ?_) (fun h => absurd h (by omega))
    exact after _ _ ng _ _ _ _ _ _ _ _ (by omega) (Or.inl rfl)

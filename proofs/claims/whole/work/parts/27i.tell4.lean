theorem s_TE_run_J24 {mc : Nat} {ms : Nat} {t_stands : Int32} {t_apart : Int32} {t_left : Int32} {t_right : Int32} {t_size : Int32} {n_t_words_back : Nat} {f_t_words_back : Nat → Int32} {n_t_lefts : Nat} {f_t_lefts : Nat → Int32} {n_t_rights : Nat} {f_t_rights : Nat → Int32} {n_t_joinedTo : Nat} {f_t_joinedTo : Nat → Int32} {a1_registers : Int32} {a1_bits : Int32} {a1_inputs : Int32} {a1_transfers : Int32} {n_a1_shifts : Nat} {f_a1_shifts : Nat → Int32} {n_a1_masks : Nat} {f_a1_masks : Nat → Int32} {n_a1_rules : Nat} {f_a1_rules : Nat → Option Nat} {vTr_a1_rules_4 : Nat → Int32} {fTg_a1_rules_4 : Nat → Nat → Int32} {fOp_a1_rules_4 : Nat → Nat → Int32} {fLf_a1_rules_4 : Nat → Nat → Int32} {fRt_a1_rules_4 : Nat → Nat → Int32} {nMv_a1_rules_4 : Nat → Nat} {fMv_a1_rules_4 : Nat → Nat → Int32} {a_t_words_back : Nat} {a_t_lefts : Nat} {a_t_rights : Nat} {a_t_joinedTo : Nat} {t_stands_24 : Int32} {t_apart_24 : Int32} {t_left_24 : Int32} {t_right_24 : Int32} {t_size_24 : Int32} {a_t_words_back_24 : Nat} {f_t_words_back_24 : Nat → Int32} {a_t_lefts_24 : Nat} {f_t_lefts_24 : Nat → Int32} {a_t_rights_24 : Nat} {f_t_rights_24 : Nat → Int32} {a_t_joinedTo_24 : Nat} {f_t_joinedTo_24 : Nat → Int32} {n0 S I a b : Nat} {st out : Nat → Nat → Nat} {MV : (Nat → Nat → Int32) → Prop} {g0 : Nat → Nat → Int32} {post : Int32 → Int32 → Int32 → Int32 → Int32 → Nat → Nat → (Nat → Int32) → Nat → Nat → (Nat → Int32) → Nat → Nat → (Nat → Int32) → Nat → Nat → (Nat → Int32) → (Nat → Nat → Int32) → Prop} (hM : ms_ok a1_registers a1_bits a1_inputs a1_transfers n_a1_shifts f_a1_shifts n_a1_masks f_a1_masks n_a1_rules f_a1_rules vTr_a1_rules_4 fTg_a1_rules_4 fOp_a1_rules_4 fLf_a1_rules_4 fRt_a1_rules_4 nMv_a1_rules_4 S I st out MV) (hn : n0 < 2 ^ 28) (hg : MV g0) (ha : a < S) (hb : b < S) (hbud : n0 < S → 4 ≤ mc ∧ 4 * S ≤ ms)
    (hp : ∀ (apart size : Int32) (back lefts rights f : Nat → Int32) (g : Nat → Nat → Int32) (w1 w2 w3 w4 n : Nat), te_R S I st out a b apart size back → MV g → S ≤ n → (n = n0 ∨ n0 < S ∧ n = S) → post 1 apart (nI a) (nI b) size w1 n back w2 n lefts w3 n rights w4 n f g) :
    wp_TE_run_J24 mc ms t_stands t_apart t_left t_right t_size n_t_words_back f_t_words_back n_t_lefts f_t_lefts n_t_rights f_t_rights n_t_joinedTo f_t_joinedTo a1_registers a1_bits a1_inputs a1_transfers n_a1_shifts f_a1_shifts n_a1_masks f_a1_masks n_a1_rules f_a1_rules vTr_a1_rules_4 fTg_a1_rules_4 fOp_a1_rules_4 fLf_a1_rules_4 fRt_a1_rules_4 nMv_a1_rules_4 fMv_a1_rules_4 a_t_words_back a_t_lefts a_t_rights a_t_joinedTo (nI a) (nI b) post 0 0 t_stands_24 t_apart_24 t_left_24 t_right_24 t_size_24 a_t_words_back_24 n0 f_t_words_back_24 a_t_lefts_24 n0 f_t_lefts_24 a_t_rights_24 n0 f_t_rights_24 a_t_joinedTo_24 n0 f_t_joinedTo_24 g0 := by
  have hM' := id hM
  obtain ⟨hi0, hI, hb0, hS0, hS1, hst, hN, hG⟩ := hM'
  unfold wp_TE_run_J24 wp_MA_states
  rw [hb0]
  refine ⟨mc, ms, by omega, by omega, ?_⟩
  have key : ∀ (w1 w2 w3 w4 n : Nat) (back lefts rights f : Nat → Int32), S ≤ n → (n = n0 ∨ n0 < S ∧ n = S) → ∃ m : Nat, wp_TE_run_L44 mc ms t_stands t_apart t_left t_right t_size n_t_words_back f_t_words_back n_t_lefts f_t_lefts n_t_rights f_t_rights n_t_joinedTo f_t_joinedTo a1_registers a1_bits a1_inputs a1_transfers n_a1_shifts f_a1_shifts n_a1_masks f_a1_masks n_a1_rules f_a1_rules vTr_a1_rules_4 fTg_a1_rules_4 fOp_a1_rules_4 fLf_a1_rules_4 fRt_a1_rules_4 nMv_a1_rules_4 fMv_a1_rules_4 a_t_words_back a_t_lefts a_t_rights a_t_joinedTo (nI a) (nI b) post m (0 + mc) (0 + ms) 1 t_apart_24 t_left_24 t_right_24 t_size_24 w1 n back w2 n lefts w3 n rights w4 n f g0 (nI S) 0 := by
    intro w1 w2 w3 w4 n back lefts rights f hSn hnn
    have hn2 : n < 2 ^ 28 := by omega
    have loop : ∀ (m i : Nat) (f : Nat → Int32), i ≤ S → S - i ≤ m → (∀ x, x < i → f x = nI x) → wp_TE_run_L44 mc ms t_stands t_apart t_left t_right t_size n_t_words_back f_t_words_back n_t_lefts f_t_lefts n_t_rights f_t_rights n_t_joinedTo f_t_joinedTo a1_registers a1_bits a1_inputs a1_transfers n_a1_shifts f_a1_shifts n_a1_masks f_a1_masks n_a1_rules f_a1_rules vTr_a1_rules_4 fTg_a1_rules_4 fOp_a1_rules_4 fLf_a1_rules_4 fRt_a1_rules_4 nMv_a1_rules_4 fMv_a1_rules_4 a_t_words_back a_t_lefts a_t_rights a_t_joinedTo (nI a) (nI b) post (m + 1) (0 + mc) (0 + ms) 1 t_apart_24 t_left_24 t_right_24 t_size_24 w1 n back w2 n lefts w3 n rights w4 n f g0 (nI S) (nI i) := by
      intro m
      induction m with
      | zero =>
        intro i f hi hm hf
        have e : i = S := by omega
        subst e
        unfold wp_TE_run_L44
        refine pk_le i i (fun _ => ?_) (fun h => absurd h (by omega))
        have hu := uf_init i (fun x => x) (fun x _ => rfl)
        refine s_TE_join (sz := 0) hu hf hSn (by omega) hn2 ha hb (fun _ => by omega) (fun ec f' F' hu' hF' => ?_) (fun ec f' F' rk' hu' hF' => ?_)
        · refine br_t rfl ⟨1, ?_⟩
          have ec : a = b := ec
          subst ec
          have fin := hp 0 (nI 0) back lefts rights f' g0 w1 w2 w3 w4 n (Or.inr ⟨rfl, fun r => pm_E_refl I st out r a⟩) hg hSn hnn
          unfold wp_TE_run_L106
          exact pk_le i 0 (fun _ => fin) (fun _ => pk_le 0 0 (fun _ => fin) (fun h => absurd h (by omega)))
        · refine br_f (by decide) ?_
          unfold wp_TR_start
          refine ⟨pk_in 0 n (by omega), ?_⟩
          rintro _ rfl
          refine ⟨i + 2, ?_⟩
          have hA0 : te_A i st a b 0 (fun _ => []) f (fun x => x) := ⟨⟨_, _, hu, hf⟩, fun g _ x _ => rfl, fun x hx => ⟨hx, rfl⟩, fun _ => 0, fun j hj => absurd hj (by omega), fun j _ hj => absurd hj (by omega)⟩
          have hA := te_A_join (wd' := fun _ => []) hA0 ha hb ec hu' hF' (fun _ _ => rfl) rfl rfl
          refine s_TE_run_L106 hM hSn hn2 (fun apart size back lefts rights f g hR hg => hp apart size back lefts rights f g w1 w2 w3 w4 n hR hg hSn hnn) i 0 1 (fun _ => []) _ _ _ f' _ g0 hA ?_ hg (by omega)
          refine ⟨fun j hj => Or.inl ⟨rfl, ?_⟩, by omega, rfl, fun j hj x hx => by simp at hx, fun j hj => ?_, fun j j' h1 h2 => absurd h2 (by omega), fun j hj => by simp [pm_app], fun j x hj hx h => absurd h (by omega)⟩
          · have : j = 0 := by omega
            subst this; exact pk_us
          · have : j = 0 := by omega
            subst this
            rw [pk_us, pk_us]; exact ⟨ha, hb, rfl, rfl⟩
      | succ m ih =>
        intro i f hi hm hf
        rcases Nat.lt_or_ge i S with hlt | hge
        · unfold wp_TE_run_L44
          refine pk_le S i (fun h => absurd h (by omega)) (fun _ => ⟨pk_in i n (by omega), ?_⟩)
          rintro _ rfl _ rfl
          rw [nI_1, nI_clamp (by omega)]
          refine ih (i + 1) _ (by omega) (by omega) (fun x hx => ?_)
          by_cases e : x = i
          · subst e; exact pk_us
          · rw [pk_un e]; exact hf x (by omega)
        · have e : i = S := by omega
          subst e
          unfold wp_TE_run_L44
          refine pk_le i i (fun _ => ?_) (fun h => absurd h (by omega))
          have hu := uf_init i (fun x => x) (fun x _ => rfl)
          refine s_TE_join (sz := 0) hu hf hSn (by omega) hn2 ha hb (fun _ => by omega) (fun ec f' F' hu' hF' => ?_) (fun ec f' F' rk' hu' hF' => ?_)
          · refine br_t rfl ⟨1, ?_⟩
            have ec : a = b := ec
            subst ec
            have fin := hp 0 (nI 0) back lefts rights f' g0 w1 w2 w3 w4 n (Or.inr ⟨rfl, fun r => pm_E_refl I st out r a⟩) hg hSn hnn
            unfold wp_TE_run_L106
            exact pk_le i 0 (fun _ => fin) (fun _ => pk_le 0 0 (fun _ => fin) (fun h => absurd h (by omega)))
          · refine br_f (by decide) ?_
            unfold wp_TR_start
            refine ⟨pk_in 0 n (by omega), ?_⟩
            rintro _ rfl
            refine ⟨i + 2, ?_⟩
            have hA0 : te_A i st a b 0 (fun _ => []) f (fun x => x) := ⟨⟨_, _, hu, hf⟩, fun g _ x _ => rfl, fun x hx => ⟨hx, rfl⟩, fun _ => 0, fun j hj => absurd hj (by omega), fun j _ hj => absurd hj (by omega)⟩
            have hA := te_A_join (wd' := fun _ => []) hA0 ha hb ec hu' hF' (fun _ _ => rfl) rfl rfl
            refine s_TE_run_L106 hM hSn hn2 (fun apart size back lefts rights f g hR hg => hp apart size back lefts rights f g w1 w2 w3 w4 n hR hg hSn hnn) i 0 1 (fun _ => []) _ _ _ f' _ g0 hA ?_ hg (by omega)
            refine ⟨fun j hj => Or.inl ⟨rfl, ?_⟩, by omega, rfl, fun j hj x hx => by simp at hx, fun j hj => ?_, fun j j' h1 h2 => absurd h2 (by omega), fun j hj => by simp [pm_app], fun j x hj hx h => absurd h (by omega)⟩
            · have : j = 0 := by omega
              subst this; exact pk_us
            · have : j = 0 := by omega
              subst this
              rw [pk_us, pk_us]; exact ⟨ha, hb, rfl, rfl⟩
    exact ⟨S + 1, loop S 0 f (by omega) (by omega) (fun x hx => absurd hx (by omega))⟩
  unfold wp_TE_makeRows
  refine pk_le S n0 (fun h => key _ _ _ _ n0 _ _ _ _ h (Or.inl rfl)) (fun h => ?_)
  obtain ⟨b1, b2⟩ := hbud h
  rw [nI_clamp (by omega)]
  refine ⟨nI_pos (by omega), by omega, by omega, by omega, fun q1 => ⟨nI_pos (by omega), by omega, by omega, by omega, fun q2 => ⟨nI_pos (by omega), by omega, by omega, by omega, fun q3 => ⟨1, S, by omega, by omega, ?_⟩⟩⟩⟩
  unfold wp_TR_makeRows
  rw [nI_clamp (by omega)]
  exact ⟨nI_pos (by omega), by omega, by omega, by omega, fun q4 => key _ _ _ _ S _ _ _ _ (Nat.le_refl _) (Or.inr ⟨h, rfl⟩)⟩
theorem s_TE_run {mc : Nat} {ms : Nat} {t_stands : Int32} {t_apart : Int32} {t_left : Int32} {t_right : Int32} {t_size : Int32} {f_t_words_back : Nat → Int32} {f_t_lefts : Nat → Int32} {f_t_rights : Nat → Int32} {f_t_joinedTo : Nat → Int32} {a1_registers : Int32} {a1_bits : Int32} {a1_inputs : Int32} {a1_transfers : Int32} {n_a1_shifts : Nat} {f_a1_shifts : Nat → Int32} {n_a1_masks : Nat} {f_a1_masks : Nat → Int32} {n_a1_rules : Nat} {f_a1_rules : Nat → Option Nat} {vTr_a1_rules_4 : Nat → Int32} {fTg_a1_rules_4 : Nat → Nat → Int32} {fOp_a1_rules_4 : Nat → Nat → Int32} {fLf_a1_rules_4 : Nat → Nat → Int32} {fRt_a1_rules_4 : Nat → Nat → Int32} {nMv_a1_rules_4 : Nat → Nat} {fMv_a1_rules_4 : Nat → Nat → Int32} {a_t_words_back : Nat} {a_t_lefts : Nat} {a_t_rights : Nat} {a_t_joinedTo : Nat} {n0 S I a b : Nat} {st out : Nat → Nat → Nat} {MV : (Nat → Nat → Int32) → Prop} {post : Int32 → Int32 → Int32 → Int32 → Int32 → Nat → Nat → (Nat → Int32) → Nat → Nat → (Nat → Int32) → Nat → Nat → (Nat → Int32) → Nat → Nat → (Nat → Int32) → (Nat → Nat → Int32) → Prop} (hM : ms_ok a1_registers a1_bits a1_inputs a1_transfers n_a1_shifts f_a1_shifts n_a1_masks f_a1_masks n_a1_rules f_a1_rules vTr_a1_rules_4 fTg_a1_rules_4 fOp_a1_rules_4 fLf_a1_rules_4 fRt_a1_rules_4 nMv_a1_rules_4 S I st out MV) (hn : n0 < 2 ^ 28) (hg : MV fMv_a1_rules_4) (ha : a < S) (hb : b < S) (hbud : n0 < S → 4 ≤ mc ∧ 4 * S ≤ ms)
    (hs : ¬ t_stands = 0 → t_left = nI a → t_right = nI b → te_R S I st out a b t_apart t_size f_t_words_back ∧ S ≤ n0)
    (hp : ∀ (sd apart size : Int32) (back lefts rights f : Nat → Int32) (g : Nat → Nat → Int32) (w1 w2 w3 w4 n : Nat), sd ≠ 0 → te_R S I st out a b apart size back → MV g → S ≤ n → (n = n0 ∨ n0 < S ∧ n = S) → post sd apart (nI a) (nI b) size w1 n back w2 n lefts w3 n rights w4 n f g) :
    wp_TE_run mc ms t_stands t_apart t_left t_right t_size n0 f_t_words_back n0 f_t_lefts n0 f_t_rights n0 f_t_joinedTo a1_registers a1_bits a1_inputs a1_transfers n_a1_shifts f_a1_shifts n_a1_masks f_a1_masks n_a1_rules f_a1_rules vTr_a1_rules_4 fTg_a1_rules_4 fOp_a1_rules_4 fLf_a1_rules_4 fRt_a1_rules_4 nMv_a1_rules_4 fMv_a1_rules_4 a_t_words_back a_t_lefts a_t_rights a_t_joinedTo (nI a) (nI b) post := by
  unfold wp_TE_run
  have hJ := fun (a2 : Int32) (a3 : Int32) (e2 : a2 = nI a) (e3 : a3 = nI b) => s_TE_run_J24 (mc := mc) (ms := ms) (t_stands := t_stands) (t_apart := t_apart) (t_left := t_left) (t_right := t_right) (t_size := t_size) (n_t_words_back := n0) (f_t_words_back := f_t_words_back) (n_t_lefts := n0) (f_t_lefts := f_t_lefts) (n_t_rights := n0) (f_t_rights := f_t_rights) (n_t_joinedTo := n0) (f_t_joinedTo := f_t_joinedTo) (fMv_a1_rules_4 := fMv_a1_rules_4) (a_t_words_back := a_t_words_back) (a_t_lefts := a_t_lefts) (a_t_rights := a_t_rights) (a_t_joinedTo := a_t_joinedTo) (t_stands_24 := t_stands) (t_apart_24 := t_apart) (t_left_24 := t_left) (t_right_24 := t_right) (t_size_24 := t_size) (a_t_words_back_24 := a_t_words_back) (f_t_words_back_24 := f_t_words_back) (a_t_lefts_24 := a_t_lefts) (f_t_lefts_24 := f_t_lefts) (a_t_rights_24 := a_t_rights) (f_t_rights_24 := f_t_rights) (a_t_joinedTo_24 := a_t_joinedTo) (f_t_joinedTo_24 := f_t_joinedTo) (post := post) hM hn hg ha hb hbud (fun apart size back lefts rights f g w1 w2 w3 w4 n => hp 1 apart size back lefts rights f g w1 w2 w3 w4 n (by decide))
  have hJ := hJ _ _ rfl rfl
  refine ⟨fun _ => hJ, fun h => ⟨fun _ => hJ, fun h2 => ⟨fun _ => hJ, fun h3 => ?_⟩⟩⟩
  obtain ⟨z1, z2⟩ := hs h h2 h3
  rw [h2, h3]
  exact hp t_stands t_apart t_size f_t_words_back f_t_lefts f_t_rights f_t_joinedTo fMv_a1_rules_4 _ _ _ _ n0 h z1 hg z2 (Or.inl rfl)

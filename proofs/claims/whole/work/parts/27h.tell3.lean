theorem q_app {α : Type} (w : Nat → α) (n : Nat) (x : α) : ∃ w' : Nat → α, (∀ q, q < n → w' q = w q) ∧ w' n = x := ⟨fun q => if q = n then x else w q, fun q hq => if_neg (by omega), if_pos rfl⟩
theorem s_TR_lead {n k i p : Nat} {f : Nat → Int32} {post : (Nat → Int32) → Prop} (hp : p < n) (hn : n < 2 ^ 28) (h : post (upd f p (nI (4 * k + i)))) : wp_TR_lead n f (nI k) (nI i) (nI p) post := by
  unfold wp_TR_lead
  rintro _ rfl
  refine ⟨pk_in p n hp, ?_⟩
  rintro _ rfl
  rw [nI_clamp (by omega), show (4 : Int32) = nI 4 from rfl, pk_mul, nI_add, Nat.mul_comm]; exact h
theorem s_TE_goOn_L18 {t_stands : Int32} {t_apart : Int32} {t_left : Int32} {t_right : Int32} {t_size : Int32} {f_t_words_back : Nat → Int32} {f_t_lefts : Nat → Int32} {f_t_rights : Nat → Int32} {f_t_joinedTo : Nat → Int32} {a1_registers : Int32} {a1_bits : Int32} {a1_inputs : Int32} {a1_transfers : Int32} {n_a1_shifts : Nat} {f_a1_shifts : Nat → Int32} {n_a1_masks : Nat} {f_a1_masks : Nat → Int32} {n_a1_rules : Nat} {f_a1_rules : Nat → Option Nat} {vTr_a1_rules_4 : Nat → Int32} {fTg_a1_rules_4 : Nat → Nat → Int32} {fOp_a1_rules_4 : Nat → Nat → Int32} {fLf_a1_rules_4 : Nat → Nat → Int32} {fRt_a1_rules_4 : Nat → Nat → Int32} {nMv_a1_rules_4 : Nat → Nat} {fMv_a1_rules_4 : Nat → Nat → Int32} {n S I k a b : Nat} {st out : Nat → Nat → Nat} {MV : (Nat → Nat → Int32) → Prop} {post : Int32 → Int32 → (Nat → Int32) → (Nat → Int32) → (Nat → Int32) → (Nat → Int32) → (Nat → Nat → Int32) → Prop} (hM : ms_ok a1_registers a1_bits a1_inputs a1_transfers n_a1_shifts f_a1_shifts n_a1_masks f_a1_masks n_a1_rules f_a1_rules vTr_a1_rules_4 fTg_a1_rules_4 fOp_a1_rules_4 fLf_a1_rules_4 fRt_a1_rules_4 nMv_a1_rules_4 S I st out MV) (hS : S ≤ n) (hn : n < 2 ^ 28)
    (hp1 : ∀ (size : Nat) (wd : Nat → List Nat) (back lefts rights f : Nat → Int32) (c : Nat → Nat) (g : Nat → Nat → Int32), te_A S st a b size wd f c → te_B S I st out a b k I size wd back lefts rights → MV g → post 0 (nI size) back lefts rights f g)
    (hp2 : ∀ (size : Nat) (wd : Nat → List Nat) (back lefts rights f : Nat → Int32) (g : Nat → Nat → Int32), tr_ok (size + 1) back wd → size < S → pm_Min I st out 0 (wd size) a b → MV g → post 1 (nI size) back lefts rights f g) :
    ∀ (m i size : Nat) (wd : Nat → List Nat) (back lefts rights f : Nat → Int32) (c : Nat → Nat) (g : Nat → Nat → Int32), te_A S st a b size wd f c → te_B S I st out a b k i size wd back lefts rights → MV g → i ≤ I → I - i ≤ m → wp_TE_goOn_L18 t_stands t_apart t_left t_right t_size n f_t_words_back n f_t_lefts n f_t_rights n f_t_joinedTo a1_registers a1_bits a1_inputs a1_transfers n_a1_shifts f_a1_shifts n_a1_masks f_a1_masks n_a1_rules f_a1_rules vTr_a1_rules_4 fTg_a1_rules_4 fOp_a1_rules_4 fLf_a1_rules_4 fRt_a1_rules_4 nMv_a1_rules_4 fMv_a1_rules_4 (nI k) post (m + 1) 0 (nI size) back lefts rights f g (nI (pm_go st (wd k) a)) (nI (pm_go st (wd k) b)) (nI i) := by
  obtain ⟨hi0, hI, hb0, hS0, hS1, hst, hN, hG⟩ := hM
  subst hi0
  intro m
  induction m with
  | zero =>
    intro i size wd back lefts rights f c g hA hB hg hi hm
    unfold wp_TE_goOn_L18
    refine pk_le I i (fun _ => ?_) (fun h => absurd h (by omega))
    have e : i = I := by omega
    subst e
    exact hp1 size wd back lefts rights f c g hA hB hg
  | succ m ih =>
    intro i size wd back lefts rights f c g hA hB hg hi hm
    have hsz := te_lt hS0 hA
    have hkk := hB.2.1
    have hL := hB.2.2.2.2.1 k hkk
    unfold wp_TE_goOn_L18
    refine pk_le I i (fun _ => ?_) (fun h => ?_)
    · have e : i = I := by omega
      subst e
      exact hp1 size wd back lefts rights f c g hA hB hg
    refine hG _ _ _ _ hg hL.1 h (fun g1 hg1 => ?_)
    refine hG _ _ _ _ hg1 hL.2.1 h (fun g2 hg2 => ?_)
    have o1 := (hst _ i hL.1 h).2
    have o2 := (hst _ i hL.2.1 h).2
    refine pk_eq _ _ (fun e => ?_) (fun e => ?_) rfl rfl (by omega) (by omega)
    · refine hN _ _ _ _ hg2 hL.1 h (fun g3 hg3 => ?_)
      refine hN _ _ _ _ hg3 hL.2.1 h (fun g4 hg4 => ?_)
      have s1 := (hst _ i hL.1 h).1
      have s2 := (hst _ i hL.2.1 h).1
      have hst' : ∀ s i, s < S → i < I → st s i < S := fun s i hs hi => (hst s i hs hi).1
      obtain ⟨F, rk, hu, hF⟩ := hA.1
      refine s_TE_join hu hF hS (by omega) hn s1 s2 (fun _ => by omega) (fun ec f' F' hu' hF' => ?_) (fun ec f' F' rk' hu' hF' => ?_)
      · refine br_t rfl ?_
        rintro _ rfl
        rw [nI_1]
        exact ih (i + 1) size wd back lefts rights f' c g4 (te_A_same hA hu' hF') (te_B_skip hst' hA hB h e ec) hg4 (by omega) (by omega)
      · refine br_f (by decide) ?_
        refine s_TR_lead (by omega) hn ?_
        rintro _ rfl
        rw [nI_1]
        obtain ⟨wd', hw, hwn⟩ := q_app wd size (wd k ++ [i])
        have hwk := hw k hkk
        have z := ih (i + 1) (size + 1) wd' (upd back size (nI (4 * k + i))) (upd lefts size (nI (st (pm_go st (wd k) a) i))) (upd rights size (nI (st (pm_go st (wd k) b) i))) f' _ g4 (te_A_join hA s1 s2 ec hu' hF' hw (by rw [hwn, pm_go_snoc]) (by rw [hwn, pm_go_snoc])) (te_B_add hst' hI hB h e hw hwn) hg4 (by omega) (by omega)
        rw [hwk] at z
        exact z
    · refine s_TR_lead (by omega) hn ?_
      obtain ⟨wd', hw, hwn⟩ := q_app wd size (wd k ++ [i])
      refine hp2 size wd' (upd back size (nI (4 * k + i))) lefts rights f g2 (fun j hj => ?_) hsz ?_ hg2
      · by_cases ej : j = size
        · subst ej
          exact Or.inr ⟨k, i, hkk, by omega, pk_us, by rw [hw k hkk]; exact hwn⟩
        · rw [pk_un ej, hw j (by omega)]
          rcases hB.1 j (by omega) with z | ⟨p, x, z1, z2, z3, z4⟩
          · exact Or.inl z
          · exact Or.inr ⟨p, x, z1, z2, z3, by rw [hw p (by omega)]; exact z4⟩
      · rw [hwn]
        exact te_found (wd' := wd) hI hB h e
/-- what a run of Telling left: apart and the word, or alike -/
def te_R (S I : Nat) (st out : Nat → Nat → Nat) (a b : Nat) (apart size : Int32) (back : Nat → Int32) : Prop :=
  (apart = 1 ∧ ∃ (sz : Nat) (wd : Nat → List Nat), size = nI sz ∧ sz < S ∧ tr_ok (sz + 1) back wd ∧ pm_Min I st out 0 (wd sz) a b) ∨ (apart = 0 ∧ ∀ r, pm_E I st out r a b)
theorem s_TE_run_L106 {mc : Nat} {ms : Nat} {t_stands : Int32} {t_apart : Int32} {t_left : Int32} {t_right : Int32} {t_size : Int32} {n_t_words_back : Nat} {f_t_words_back : Nat → Int32} {n_t_lefts : Nat} {f_t_lefts : Nat → Int32} {n_t_rights : Nat} {f_t_rights : Nat → Int32} {n_t_joinedTo : Nat} {f_t_joinedTo : Nat → Int32} {a1_registers : Int32} {a1_bits : Int32} {a1_inputs : Int32} {a1_transfers : Int32} {n_a1_shifts : Nat} {f_a1_shifts : Nat → Int32} {n_a1_masks : Nat} {f_a1_masks : Nat → Int32} {n_a1_rules : Nat} {f_a1_rules : Nat → Option Nat} {vTr_a1_rules_4 : Nat → Int32} {fTg_a1_rules_4 : Nat → Nat → Int32} {fOp_a1_rules_4 : Nat → Nat → Int32} {fLf_a1_rules_4 : Nat → Nat → Int32} {fRt_a1_rules_4 : Nat → Nat → Int32} {nMv_a1_rules_4 : Nat → Nat} {fMv_a1_rules_4 : Nat → Nat → Int32} {a_t_words_back : Nat} {a_t_lefts : Nat} {a_t_rights : Nat} {a_t_joinedTo : Nat} {n S I a b : Nat} {a2 a3 : Int32} {st out : Nat → Nat → Nat} {MV : (Nat → Nat → Int32) → Prop} {post : Int32 → Int32 → Int32 → Int32 → Int32 → Nat → Nat → (Nat → Int32) → Nat → Nat → (Nat → Int32) → Nat → Nat → (Nat → Int32) → Nat → Nat → (Nat → Int32) → (Nat → Nat → Int32) → Prop} (hM : ms_ok a1_registers a1_bits a1_inputs a1_transfers n_a1_shifts f_a1_shifts n_a1_masks f_a1_masks n_a1_rules f_a1_rules vTr_a1_rules_4 fTg_a1_rules_4 fOp_a1_rules_4 fLf_a1_rules_4 fRt_a1_rules_4 nMv_a1_rules_4 S I st out MV) (hS : S ≤ n) (hn : n < 2 ^ 28) {sd l r : Int32} {kc ks w1 w2 w3 w4 : Nat}
    (hp : ∀ (apart size : Int32) (back lefts rights f : Nat → Int32) (g : Nat → Nat → Int32), te_R S I st out a b apart size back → MV g → post sd apart l r size w1 n back w2 n lefts w3 n rights w4 n f g) :
    ∀ (m k size : Nat) (wd : Nat → List Nat) (back lefts rights f : Nat → Int32) (c : Nat → Nat) (g : Nat → Nat → Int32), te_A S st a b size wd f c → te_B S I st out a b k 0 size wd back lefts rights → MV g → S - k ≤ m → wp_TE_run_L106 mc ms t_stands t_apart t_left t_right t_size n_t_words_back f_t_words_back n_t_lefts f_t_lefts n_t_rights f_t_rights n_t_joinedTo f_t_joinedTo a1_registers a1_bits a1_inputs a1_transfers n_a1_shifts f_a1_shifts n_a1_masks f_a1_masks n_a1_rules f_a1_rules vTr_a1_rules_4 fTg_a1_rules_4 fOp_a1_rules_4 fLf_a1_rules_4 fRt_a1_rules_4 nMv_a1_rules_4 fMv_a1_rules_4 a_t_words_back a_t_lefts a_t_rights a_t_joinedTo a2 a3 post (m + 2) kc ks sd 0 l r (nI size) w1 n back w2 n lefts w3 n rights w4 n f g (nI S) (nI k) := by
  have hM' := id hM
  obtain ⟨hi0, hI, hb0, hS0, hS1, hst, hN, hG⟩ := hM'
  intro m
  induction m with
  | zero =>
    intro k size wd back lefts rights f c g hA hB hg hm
    have := te_lt hS0 hA
    have := hB.2.1
    omega
  | succ m ih =>
    intro k size wd back lefts rights f c g hA hB hg hm
    have hsz := te_lt hS0 hA
    have hkk := hB.2.1
    have hL := hB.2.2.2.2.1 k hkk
    unfold wp_TE_run_L106
    refine pk_le S k (fun h => absurd h (by omega)) (fun _ => ?_)
    refine pk_le size k (fun h => absurd h (by omega)) (fun _ => ?_)
    refine ⟨fun h => absurd rfl h, fun _ => ?_⟩
    unfold wp_TE_goOn
    refine ⟨pk_in k n (by omega), ?_⟩
    rintro _ rfl
    refine ⟨pk_in k n (by omega), ?_⟩
    rintro _ rfl
    rw [nI_clamp (by omega), hL.2.2.1, hL.2.2.2]
    refine ⟨I + 1, ?_⟩
    refine s_TE_goOn_L18 hM hS hn (fun size' wd' back' lefts' rights' f' c' g' hA' hB' hg' => ?_) (fun size' wd' back' lefts' rights' f' g' ht hs' hmin hg' => ?_) I 0 size wd back lefts rights f c g hA hB hg (by omega) (by omega)
    · rintro _ rfl
      rw [nI_1]
      have hsz' := te_lt hS0 hA'
      by_cases hk : k + 1 < size'
      · exact ih (k + 1) size' wd' back' lefts' rights' f' c' g' hA' (te_B_next hI hB' hk) hg' (by omega)
      · unfold wp_TE_run_L106
        have fin := hp 0 (nI size') back' lefts' rights' f' g' (Or.inr ⟨rfl, te_alike hB' (by omega)⟩) hg'
        refine pk_le S (k + 1) (fun _ => fin) (fun _ => ?_)
        exact pk_le size' (k + 1) (fun _ => fin) (fun h => absurd h (by omega))
    · rintro _ rfl
      rw [nI_1]
      unfold wp_TE_run_L106
      have fin := hp 1 (nI size') back' lefts' rights' f' g' (Or.inl ⟨rfl, size', wd', rfl, hs', ht, hmin⟩) hg'
      refine pk_le S (k + 1) (fun _ => fin) (fun _ => ?_)
      refine pk_le size' (k + 1) (fun _ => fin) (fun h => ?_)
      exact ⟨fun _ => fin, fun h => absurd h (by decide)⟩

theorem s_MO_partAll_L92 {t_thrown : Int32} {t_room : Int32} {t_registers : Int32} {t_bits : Int32} {t_first : Int32} {t_isFresh : Int32} {t_isRoom : Int32} {t_walked : Int32} {t_parts : Int32} {t_nodes : Int32} {t_classes : Int32} {f_t_next : Nat → Int32} {f_t_gives : Nat → Int32} {f_t_part : Nat → Int32} {f_t_newPart : Nat → Int32} {f_t_node : Nat → Int32} {f_t_newNode : Nat → Int32} {f_t_parent : Nat → Int32} {f_t_born : Nat → Int32} {f_t_one : Nat → Int32} {f_t_pieces : Nat → Int32} {f_t_chain : Nat → Int32} {f_t_behind : Nat → Int32} {S I R parts nodes n : Nat} {st out : Nat → Nat → Nat} {P O Q : Nat → Nat} {N : Nat → Nat → Nat} {part node parent born newPart one pieces chain behind : Nat → Int32} {K62 : Int32 → Int32 → (Nat → Int32) → (Nat → Int32) → (Nat → Int32) → (Nat → Int32) → (Nat → Int32) → (Nat → Int32) → (Nat → Int32) → (Nat → Int32) → (Nat → Int32) → (Nat → Int32) → Int32 → Int32 → Int32 → Prop} {post : Int32 → Int32 → (Nat → Int32) → (Nat → Int32) → (Nat → Int32) → (Nat → Int32) → (Nat → Int32) → (Nat → Int32) → (Nat → Int32) → (Nat → Int32) → (Nat → Int32) → (Nat → Int32) → Prop} {x2 : Int32} (hS : S ≤ 4096) (hR : R < 2 ^ 20) (hst : ∀ s i, s < S → i < I → st s i < S) (hA : pt_A S I st out R parts nodes P N part node parent born) (hJ : pr_J (pr_sm I st out P (R + 1)) (pr_ch I st out P (R + 1)) P parts S n O Q newPart one pieces chain behind) {t_parts0 : Int32} {newNode0 : Nat → Int32}
    (hp : ∀ (N' : Nat → Nat → Nat) (part' node' newNode' parent' born' : Nat → Int32), pt_A S I st out (R + 1) n (nodes + cN (pt_spl n P O) n) Q N' part' node' parent' born' → K62 (nI n) (nI (nodes + cN (pt_spl n P O) n)) part' newPart node' newNode' parent' born' one pieces chain behind (nI S) x2 (nI (R + 1 + 1))) :
    ∃ m : Nat, wp_MO_partAll_L92 t_thrown t_room t_registers t_bits (nI I) t_first t_isFresh t_isRoom t_walked t_parts t_nodes t_classes 16384 f_t_next 16384 f_t_gives 4096 f_t_part 4096 f_t_newPart 4096 f_t_node 4096 f_t_newNode 8192 f_t_parent 8192 f_t_born 4096 f_t_one 4096 f_t_pieces 4099 f_t_chain 4096 f_t_behind K62 post m t_parts0 (nI nodes) part newPart node newNode0 parent born one pieces chain behind (nI S) x2 (nI (R + 1)) (nI n) 0 := by
  obtain ⟨b1, b2, b3, fin⟩ := pt_step hst hA hJ
  have hA' := hA
  obtain ⟨h1, h2, h3, h4, h5, h6, h7, h8⟩ := hA'
  have hJ' := hJ
  obtain ⟨j1, j2, j3, j4, j5, j6, j7⟩ := hJ'
  have l224 : ∀ (m s : Nat) (part' node' newNode' parent' born' : Nat → Int32), s ≤ S → S - s ≤ m → (∀ t, t < s → part' t = nI (Q t)) → (∀ p, p < n → node' p = nI (pt_NN n nodes R P O N p)) → (∀ x, x < nodes → parent' x = parent x ∧ born' x = born x) → (∀ p, p < n → pt_spl n P O p = true → born' (pt_NN n nodes R P O N p) = nI (R + 1) ∧ parent' (pt_NN n nodes R P O N p) = nI (N R (O p))) →
      wp_MO_partAll_L224 t_thrown t_room t_registers t_bits (nI I) t_first t_isFresh t_isRoom t_walked t_parts t_nodes t_classes 16384 f_t_next 16384 f_t_gives 4096 f_t_part 4096 f_t_newPart 4096 f_t_node 4096 f_t_newNode 8192 f_t_parent 8192 f_t_born 4096 f_t_one 4096 f_t_pieces 4099 f_t_chain 4096 f_t_behind K62 post (m + 1) t_parts0 (nI (nodes + cN (pt_spl n P O) n)) part' newPart node' newNode' parent' born' one pieces chain behind (nI S) x2 (nI (R + 1)) (nI n) (nI s) := by
    intro m
    have fn : ∀ (m : Nat) (part' node' newNode' parent' born' : Nat → Int32), (∀ t, t < S → part' t = nI (Q t)) → (∀ p, p < n → node' p = nI (pt_NN n nodes R P O N p)) → (∀ x, x < nodes → parent' x = parent x ∧ born' x = born x) → (∀ p, p < n → pt_spl n P O p = true → born' (pt_NN n nodes R P O N p) = nI (R + 1) ∧ parent' (pt_NN n nodes R P O N p) = nI (N R (O p))) →
        wp_MO_partAll_L224 t_thrown t_room t_registers t_bits (nI I) t_first t_isFresh t_isRoom t_walked t_parts t_nodes t_classes 16384 f_t_next 16384 f_t_gives 4096 f_t_part 4096 f_t_newPart 4096 f_t_node 4096 f_t_newNode 8192 f_t_parent 8192 f_t_born 4096 f_t_one 4096 f_t_pieces 4099 f_t_chain 4096 f_t_behind K62 post (m + 1) t_parts0 (nI (nodes + cN (pt_spl n P O) n)) part' newPart node' newNode' parent' born' one pieces chain behind (nI S) x2 (nI (R + 1)) (nI n) (nI S) := by
      intro m part' node' newNode' parent' born' g1 g2 g3 g4
      obtain ⟨N', hN'⟩ := fin part' node' parent' born' g1 g2 g3 g4
      unfold wp_MO_partAll_L224
      refine pk_le S S (fun _ => ?_) (fun h => absurd h (by omega))
      rintro _ rfl
      rw [nI_1]
      exact hp N' part' node' newNode' parent' born' hN'
    induction m with
    | zero =>
      intro s part' node' newNode' parent' born' hs hm g1 g2 g3 g4
      have e : s = S := by omega
      subst e
      exact fn 0 part' node' newNode' parent' born' g1 g2 g3 g4
    | succ m ih =>
      intro s part' node' newNode' parent' born' hs hm g1 g2 g3 g4
      rcases Nat.lt_or_ge s S with hlt | hge
      · unfold wp_MO_partAll_L224
        refine pk_le S s (fun h => absurd h (by omega)) (fun _ => ⟨pk_in s 4096 (by omega), ?_⟩)
        rintro _ rfl
        refine ⟨pk_in s 4096 (by omega), ?_⟩
        rintro _ rfl _ rfl
        rw [nI_1, nI_clamp (by omega), (j3 s hlt).2.2]
        refine ih (s + 1) _ node' newNode' parent' born' (by omega) (by omega) (fun t ht => ?_) g2 g3 g4
        by_cases e : t = s
        · subst e; exact pk_us
        · rw [pk_un e]; exact g1 t (by omega)
      · have e : s = S := by omega
        subst e
        exact fn (m + 1) part' node' newNode' parent' born' g1 g2 g3 g4
  have l194 : ∀ (m p : Nat) (node' newNode' parent' born' : Nat → Int32), p ≤ n → n - p ≤ m → (∀ x, x < p → node' x = nI (pt_NN n nodes R P O N x)) → (∀ x, x < n → newNode' x = nI (pt_NN n nodes R P O N x)) → (∀ x, x < nodes → parent' x = parent x ∧ born' x = born x) → (∀ p, p < n → pt_spl n P O p = true → born' (pt_NN n nodes R P O N p) = nI (R + 1) ∧ parent' (pt_NN n nodes R P O N p) = nI (N R (O p))) →
      wp_MO_partAll_L194 t_thrown t_room t_registers t_bits (nI I) t_first t_isFresh t_isRoom t_walked t_parts t_nodes t_classes 16384 f_t_next 16384 f_t_gives 4096 f_t_part 4096 f_t_newPart 4096 f_t_node 4096 f_t_newNode 8192 f_t_parent 8192 f_t_born 4096 f_t_one 4096 f_t_pieces 4099 f_t_chain 4096 f_t_behind K62 post (m + 1) t_parts0 (nI (nodes + cN (pt_spl n P O) n)) part newPart node' newNode' parent' born' one pieces chain behind (nI S) x2 (nI (R + 1)) (nI n) (nI p) := by
    intro m
    induction m with
    | zero =>
      intro p node' newNode' parent' born' hs hm g1 g2 g3 g4
      have e : p = n := by omega
      subst e
      unfold wp_MO_partAll_L194
      refine pk_le p p (fun _ => ?_) (fun h => absurd h (by omega))
      exact ⟨S + 1, l224 S 0 part node' newNode' parent' born' (by omega) (by omega) (fun t ht => absurd ht (by omega)) g1 g3 g4⟩
    | succ m ih =>
      intro p node' newNode' parent' born' hs hm g1 g2 g3 g4
      unfold wp_MO_partAll_L194
      refine pk_le n p (fun hh => ?_) (fun hlt => ⟨pk_in p 4096 (by omega), ?_⟩)
      · exact ⟨S + 1, l224 S 0 part node' newNode' parent' born' (by omega) (by omega) (fun t ht => absurd ht (by omega)) (fun x hx => g1 x (by omega)) g3 g4⟩
      · rintro _ rfl
        refine ⟨pk_in p 4096 (by omega), ?_⟩
        rintro _ rfl _ rfl
        rw [nI_1, nI_clamp (by omega), g2 p hlt]
        refine ih (p + 1) _ newNode' parent' born' (by omega) (by omega) (fun t ht => ?_) g2 g3 g4
        by_cases e : t = p
        · subst e; exact pk_us
        · rw [pk_un e]; exact g1 t (by omega)
  have l92 : ∀ (m p : Nat) (newNode' parent' born' : Nat → Int32), p ≤ n → n - p ≤ m → (∀ x, x < p → newNode' x = nI (pt_NN n nodes R P O N x)) → (∀ x, x < nodes → parent' x = parent x ∧ born' x = born x) → (∀ x, x < p → pt_spl n P O x = true → born' (pt_NN n nodes R P O N x) = nI (R + 1) ∧ parent' (pt_NN n nodes R P O N x) = nI (N R (O x))) →
      wp_MO_partAll_L92 t_thrown t_room t_registers t_bits (nI I) t_first t_isFresh t_isRoom t_walked t_parts t_nodes t_classes 16384 f_t_next 16384 f_t_gives 4096 f_t_part 4096 f_t_newPart 4096 f_t_node 4096 f_t_newNode 8192 f_t_parent 8192 f_t_born 4096 f_t_one 4096 f_t_pieces 4099 f_t_chain 4096 f_t_behind K62 post (m + 1) t_parts0 (nI (nodes + cN (pt_spl n P O) p)) part newPart node newNode' parent' born' one pieces chain behind (nI S) x2 (nI (R + 1)) (nI n) (nI p) := by
    intro m
    induction m with
    | zero =>
      intro p newNode' parent' born' hs hm g2 g3 g4
      have e : p = n := by omega
      subst e
      unfold wp_MO_partAll_L92
      refine pk_le p p (fun _ => ?_) (fun h => absurd h (by omega))
      exact ⟨p + 1, l194 p 0 node newNode' parent' born' (by omega) (by omega) (fun t ht => absurd ht (by omega)) g2 g3 g4⟩
    | succ m ih =>
      intro p newNode' parent' born' hs hm g2 g3 g4
      unfold wp_MO_partAll_L92
      refine pk_le n p (fun hh => ?_) (fun hlt => ⟨pk_in p 4096 (by omega), ?_⟩)
      · have e : p = n := by omega
        subst e
        exact ⟨p + 1, l194 p 0 node newNode' parent' born' (by omega) (by omega) (fun t ht => absurd ht (by omega)) g2 g3 g4⟩
      · have a := j2 p hlt
        have b := h4 _ a.1
        have hmono := cN_mono (pt_spl n P O) (m := p) (n := n) (by omega)
        have hPl : P (O p) < 4096 := by omega
        rw [nI_clamp (by omega), a.2.2]
        refine ⟨pk_in (O p) 4096 (by omega), ?_⟩
        rw [nI_clamp (by omega), b.2.1]
        rintro _ rfl
        refine ⟨pk_in _ 4096 hPl, ?_⟩
        rw [nI_clamp (by omega), b.2.2]
        rintro _ rfl
        refine ⟨pk_in p 4096 (by omega), ?_⟩
        rintro _ rfl
        refine ⟨pk_in _ 4096 hPl, ?_⟩
        rw [j7 _ b.1]
        have hcl := cN_le (fun p' => decide (P (O p') = P (O p))) n
        refine pk_le (cN (fun p' => decide (P (O p') = P (O p))) n) 1 (fun hle => ?_) (fun hgt => ?_)
        · have sp : ¬ pt_spl n P O p = true := by unfold pt_spl; simp; omega
          have ec : cN (pt_spl n P O) (p + 1) = cN (pt_spl n P O) p := by show _ + _ = _; rw [if_neg sp]; rfl
          rintro _ rfl
          rw [nI_1]
          have z := ih (p + 1) (upd newNode' p (nI (N R (O p)))) parent' born' (by omega) (by omega) (fun x hx => ?_) g3 (fun x hx hsp => ?_)
          · rw [ec] at z; exact z
          · by_cases e : x = p
            · subst e; rw [pk_us]; unfold pt_NN; rw [if_neg sp]
            · rw [pk_un e]; exact g2 x (by omega)
          · by_cases e : x = p
            · subst e; exact absurd hsp sp
            · exact g4 x (by omega) hsp
        · have sp : pt_spl n P O p = true := by unfold pt_spl; exact decide_eq_true hgt
          have ec : cN (pt_spl n P O) (p + 1) = cN (pt_spl n P O) p + 1 := by show _ + _ = _; rw [if_pos sp]
          have em := cN_mono (pt_spl n P O) (m := p + 1) (n := n) (by omega)
          have eN : pt_NN n nodes R P O N p = nodes + cN (pt_spl n P O) p := if_pos sp
          refine ⟨pk_in p 4096 (by omega), ?_⟩
          rintro _ rfl
          refine ⟨pk_in _ 4096 hPl, ?_⟩
          rintro _ rfl
          refine ⟨pk_in (nodes + cN (pt_spl n P O) p) 8192 (by omega), ?_⟩
          rintro _ rfl
          refine ⟨pk_in (nodes + cN (pt_spl n P O) p) 8192 (by omega), ?_⟩
          rintro _ rfl _ rfl _ rfl
          rw [nI_1, nI_clamp (by omega), show (1 : Int32) = nI 1 from rfl, nI_add]
          have hlow : ∀ x, x < p → pt_NN n nodes R P O N x ≠ nodes + cN (pt_spl n P O) p := fun x hx => by
            unfold pt_NN
            by_cases sx : pt_spl n P O x = true
            · rw [if_pos sx]
              have c1 : cN (pt_spl n P O) (x + 1) = cN (pt_spl n P O) x + 1 := by show _ + _ = _; rw [if_pos sx]
              have c2 := cN_mono (pt_spl n P O) (m := x + 1) (n := p) hx
              omega
            · rw [if_neg sx]
              have := (h7 R _ (Nat.le_refl _) (j2 x (by omega)).1).1
              omega
          have z := ih (p + 1) (upd (upd newNode' p (nI (N R (O p)))) p (nI (nodes + cN (pt_spl n P O) p))) (upd parent' (nodes + cN (pt_spl n P O) p) (nI (N R (O p)))) (upd born' (nodes + cN (pt_spl n P O) p) (nI (R + 1))) (by omega) (by omega) (fun x hx => ?_) (fun x hx => ?_) (fun x hx hsp => ?_)
          · rw [ec, ← Nat.add_assoc] at z; exact z
          · by_cases e : x = p
            · subst e; rw [pk_us, eN]
            · rw [pk_un e, pk_un e]; exact g2 x (by omega)
          · rw [pk_un (by omega), pk_un (by omega)]; exact g3 x hx
          · by_cases e : x = p
            · subst e; rw [eN, pk_us, pk_us]; exact ⟨rfl, rfl⟩
            · rw [pk_un (hlow x (by omega)), pk_un (hlow x (by omega))]; exact g4 x (by omega) hsp
  exact ⟨n + 1, l92 n 0 newNode0 parent born (by omega) (by omega) (fun x hx => absurd hx (by omega)) (fun x hx => ⟨rfl, rfl⟩) (fun x hx => absurd hx (by omega))⟩
/-- what the parting left -/
def pt_R (S I : Nat) (st out : Nat → Nat → Nat) (part node parent born : Nat → Int32) : Prop :=
  ∃ (R parts nodes : Nat) (P : Nat → Nat) (N : Nat → Nat → Nat), R < 2 ^ 20 ∧ pt_A S I st out R parts nodes P N part node parent born ∧ ∀ s t, s < S → t < S → pm_E I st out R s t → ∀ k, pm_E I st out k s t
theorem s_MO_partAll {t_thrown : Int32} {t_room : Int32} {t_registers : Int32} {t_first : Int32} {t_isFresh : Int32} {t_isRoom : Int32} {t_walked : Int32} {t_parts : Int32} {t_nodes : Int32} {t_classes : Int32} {f_t_next : Nat → Int32} {f_t_gives : Nat → Int32} {f_t_part : Nat → Int32} {f_t_newPart : Nat → Int32} {f_t_node : Nat → Int32} {f_t_newNode : Nat → Int32} {f_t_parent : Nat → Int32} {f_t_born : Nat → Int32} {f_t_one : Nat → Int32} {f_t_pieces : Nat → Int32} {f_t_chain : Nat → Int32} {f_t_behind : Nat → Int32} {S I B : Nat} {st out : Nat → Nat → Nat} {post : Int32 → Int32 → (Nat → Int32) → (Nat → Int32) → (Nat → Int32) → (Nat → Int32) → (Nat → Int32) → (Nat → Int32) → (Nat → Int32) → (Nat → Int32) → (Nat → Int32) → (Nat → Int32) → Prop} (hI : I ≤ 4) (hB : B ≤ 12) (eS : S = 2 ^ B) (hin : ∀ s i, s < S → i < I → st s i < S ∧ out s i < 16 ∧ f_t_next (4 * s + i) = nI (st s i) ∧ f_t_gives (4 * s + i) = nI (out s i))
    (hp : ∀ (parts nodes : Int32) (part newPart node newNode parent born one pieces chain behind : Nat → Int32), pt_R S I st out part node parent born → post parts nodes part newPart node newNode parent born one pieces chain behind) :
    wp_MO_partAll t_thrown t_room t_registers (nI B) (nI I) t_first t_isFresh t_isRoom t_walked t_parts t_nodes t_classes 16384 f_t_next 16384 f_t_gives 4096 f_t_part 4096 f_t_newPart 4096 f_t_node 4096 f_t_newNode 8192 f_t_parent 8192 f_t_born 4096 f_t_one 4096 f_t_pieces 4099 f_t_chain 4096 f_t_behind post := by
  have hS : S ≤ 4096 := by rw [eS]; exact Nat.pow_le_pow_right (by omega) hB
  have hS0 : 0 < S := by rw [eS]; exact Nat.two_pow_pos B
  have hst : ∀ s i, s < S → i < I → st s i < S := fun s i hs hi => (hin s i hs hi).1
  unfold wp_MO_partAll
  rintro _ rfl
  rw [q_1sh hB, ← eS, show (0 : Int32).toNatClampNeg = 0 from rfl]
  refine ⟨pk_in 0 4096 (by omega), ?_⟩
  rintro _ rfl
  refine ⟨pk_in 0 8192 (by omega), ?_⟩
  rintro _ rfl
  refine ⟨pk_in 0 8192 (by omega), ?_⟩
  rintro _ rfl
  have rounds : ∀ (m R parts nodes : Nat) (P : Nat → Nat) (N : Nat → Nat → Nat) (part newPart node newNode parent born one pieces chain behind : Nat → Int32), pt_A S I st out R parts nodes P N part node parent born → R + 1 ≤ parts → 4096 - parts ≤ m →
      wp_MO_partAll_L62 t_thrown t_room t_registers (nI B) (nI I) t_first t_isFresh t_isRoom t_walked t_parts t_nodes t_classes 16384 f_t_next 16384 f_t_gives 4096 f_t_part 4096 f_t_newPart 4096 f_t_node 4096 f_t_newNode 8192 f_t_parent 8192 f_t_born 4096 f_t_one 4096 f_t_pieces 4099 f_t_chain 4096 f_t_behind post (m + 2) (nI parts) (nI nodes) part newPart node newNode parent born one pieces chain behind (nI S) 1 (nI (R + 1)) := by
    intro m
    induction m with
    | zero =>
      intro R parts nodes P N part newPart node newNode parent born one pieces chain behind hA hR hm
      have hA2 := hA.2.1
      unfold wp_MO_partAll_L62
      refine ⟨fun z => absurd z (by decide), fun _ => ?_⟩
      refine s_MO_partRound (P := P) ⟨hI, hS, hin, fun s hs => ⟨by have := (hA.2.2.2.1 s hs).1; omega, (hA.2.2.2.1 s hs).2.1⟩⟩ (by omega) (by omega) (fun s hs => (hA.2.2.2.1 s hs).1) (fun n O Q newPart one pieces chain behind hJ => ?_)
      have hb := pt_step hst hA hJ
      refine pk_le n parts (fun hle => ?_) (fun hgt => absurd hgt (by have := hb.2.2.1; omega))
      refine s_MO_partAll_L92 hS (by omega) hst hA hJ (fun N' part' node' newNode' parent' born' hA' => ?_)
      unfold wp_MO_partAll_L62
      refine br_t rfl (hp _ _ _ _ _ _ _ _ _ _ _ _ ⟨R + 1, _, _, Q, N', by omega, hA', pt_stable hst (fun s t hs ht e => ?_)⟩)
      have z := pt_same hA.2.2.2.2.1 (fun s hs => (hJ.2.2.1 s hs).1) (fun s hs => (hA.2.2.2.1 s hs).1) (fun s t hs ht e => ((pr_Q hJ hs ht).mp e).1) hle s t hs ht ((hA.2.2.2.2.2.1 s t hs ht).mpr e)
      exact (hA'.2.2.2.2.2.1 s t hs ht).mp z
    | succ m ih =>
      intro R parts nodes P N part newPart node newNode parent born one pieces chain behind hA hR hm
      have hA2 := hA.2.1
      unfold wp_MO_partAll_L62
      refine ⟨fun z => absurd z (by decide), fun _ => ?_⟩
      refine s_MO_partRound (P := P) ⟨hI, hS, hin, fun s hs => ⟨by have := (hA.2.2.2.1 s hs).1; omega, (hA.2.2.2.1 s hs).2.1⟩⟩ (by omega) (by omega) (fun s hs => (hA.2.2.2.1 s hs).1) (fun n O Q newPart one pieces chain behind hJ => ?_)
      have hb := pt_step hst hA hJ
      refine pk_le n parts (fun hle => ?_) (fun hgt => ?_)
      · refine s_MO_partAll_L92 hS (by omega) hst hA hJ (fun N' part' node' newNode' parent' born' hA' => ?_)
        unfold wp_MO_partAll_L62
        refine br_t rfl (hp _ _ _ _ _ _ _ _ _ _ _ _ ⟨R + 1, _, _, Q, N', by omega, hA', pt_stable hst (fun s t hs ht e => ?_)⟩)
        have z := pt_same hA.2.2.2.2.1 (fun s hs => (hJ.2.2.1 s hs).1) (fun s hs => (hA.2.2.2.1 s hs).1) (fun s t hs ht e => ((pr_Q hJ hs ht).mp e).1) hle s t hs ht ((hA.2.2.2.2.2.1 s t hs ht).mpr e)
        exact (hA'.2.2.2.2.2.1 s t hs ht).mp z
      · refine s_MO_partAll_L92 hS (by omega) hst hA hJ (fun N' part' node' newNode' parent' born' hA' => ?_)
        exact ih (R + 1) n _ Q N' part' newPart node' newNode' parent' born' one pieces chain behind hA' (by omega) (by omega)
  have start : ∀ (m s : Nat) (part newPart newNode one pieces chain behind node parent born : Nat → Int32), s ≤ S → S - s ≤ m → (∀ t, t < s → part t = 0) → node 0 = 0 → born 0 = 0 →
      wp_MO_partAll_L40 t_thrown t_room t_registers (nI B) (nI I) t_first t_isFresh t_isRoom t_walked t_parts t_nodes t_classes 16384 f_t_next 16384 f_t_gives 4096 f_t_part 4096 f_t_newPart 4096 f_t_node 4096 f_t_newNode 8192 f_t_parent 8192 f_t_born 4096 f_t_one 4096 f_t_pieces 4099 f_t_chain 4096 f_t_behind post (m + 1) 1 1 part newPart node newNode parent born one pieces chain behind (nI S) (nI s) := by
    have fn : ∀ (m : Nat) (part newPart newNode one pieces chain behind node parent born : Nat → Int32), (∀ t, t < S → part t = 0) → node 0 = 0 → born 0 = 0 → wp_MO_partAll_L40 t_thrown t_room t_registers (nI B) (nI I) t_first t_isFresh t_isRoom t_walked t_parts t_nodes t_classes 16384 f_t_next 16384 f_t_gives 4096 f_t_part 4096 f_t_newPart 4096 f_t_node 4096 f_t_newNode 8192 f_t_parent 8192 f_t_born 4096 f_t_one 4096 f_t_pieces 4099 f_t_chain 4096 f_t_behind post (m + 1) 1 1 part newPart node newNode parent born one pieces chain behind (nI S) (nI S) := by
      intro m part newPart newNode one pieces chain behind node parent born g n0 b0
      unfold wp_MO_partAll_L40
      refine pk_le S S (fun _ => ⟨4098, ?_⟩) (fun h => absurd h (by omega))
      refine rounds 4096 0 1 1 (fun _ => 0) (fun _ _ => 0) part newPart node newNode parent born one pieces chain behind ⟨by omega, by omega, by omega, fun s hs => ⟨Nat.one_pos, g s hs, n0⟩, fun c hc => ⟨0, hS0, (show 0 = c by omega)⟩, fun s t hs ht => ⟨fun _ => trivial, fun _ => rfl⟩, fun q s hq hs => ⟨Nat.one_pos, 0, Nat.zero_le _, b0, fun _ _ _ => rfl, fun z => absurd z (by omega), fun _ => rfl⟩, fun q s t hq hs ht => ⟨fun _ => ?_, fun _ => rfl⟩⟩ (by omega) (by omega)
      have : q = 0 := by omega
      subst this
      exact trivial
    intro m
    induction m with
    | zero =>
      intro s part newPart newNode one pieces chain behind node parent born hs hm g n0 b0
      have e : s = S := by omega
      subst e
      exact fn 0 part newPart newNode one pieces chain behind node parent born g n0 b0
    | succ m ih =>
      intro s part newPart newNode one pieces chain behind node parent born hs hm g n0 b0
      rcases Nat.lt_or_ge s S with hlt | hge
      · unfold wp_MO_partAll_L40
        refine pk_le S s (fun h => absurd h (by omega)) (fun _ => ⟨pk_in s 4096 (by omega), ?_⟩)
        rintro _ rfl _ rfl
        rw [nI_1, nI_clamp (by omega)]
        refine ih (s + 1) _ newPart newNode one pieces chain behind node parent born (by omega) (by omega) (fun t ht => ?_) n0 b0
        by_cases e : t = s
        · subst e; exact pk_us
        · rw [pk_un e]; exact g t (by omega)
      · have e : s = S := by omega
        subst e
        exact fn (m + 1) part newPart newNode one pieces chain behind node parent born g n0 b0
  exact ⟨S + 1, start S 0 _ _ _ _ _ _ _ _ _ _ (by omega) (by omega) (fun t ht => absurd ht (by omega)) pk_us pk_us⟩

theorem s_MO_parted {t_thrown : Int32} {t_room : Int32} {t_registers : Int32} {t_bits : Int32} {t_inputs : Int32} {t_first : Int32} {t_isFresh : Int32} {t_isRoom : Int32} {t_walked : Int32} {t_parts : Int32} {t_nodes : Int32} {t_classes : Int32} {f_t_part : Nat → Int32} {f_t_node : Nat → Int32} {f_t_parent : Nat → Int32} {f_t_born : Nat → Int32} {S I s t : Nat} {st out : Nat → Nat → Nat} {post : Int32 → Prop} (hS : S ≤ 4096) (h : pt_R S I st out f_t_part f_t_node f_t_parent f_t_born) (hs : s < S) (ht : t < S)
    (hp0 : (∀ k, pm_E I st out k s t) → post 0) (hp1 : ∀ d, d < 2 ^ 20 → pm_D I st out s t d → post (nI d)) : wp_MO_parted t_thrown t_room t_registers t_bits t_inputs t_first t_isFresh t_isRoom t_walked t_parts t_nodes t_classes 4096 f_t_part 4096 f_t_node 8192 f_t_parent 8192 f_t_born (nI s) (nI t) post := by
  obtain ⟨R, parts, nodes, P, N, hR, ⟨h1, h2, h3, h4, h5, h6, h7, h8⟩, hst⟩ := h
  have a := h4 s hs
  have b := h4 t ht
  unfold wp_MO_parted
  refine ⟨pk_in s 4096 (by omega), ?_⟩
  rw [nI_clamp (show s < 2 ^ 31 by omega), nI_clamp (show t < 2 ^ 31 by omega), a.2.1, b.2.1, nI_clamp (show P s < 2 ^ 31 by omega), nI_clamp (show P t < 2 ^ 31 by omega), a.2.2, b.2.2]
  refine ⟨pk_in (P s) 4096 (by omega), ?_⟩
  rintro _ rfl
  refine ⟨pk_in t 4096 (by omega), pk_in (P t) 4096 (by omega), ?_⟩
  rintro _ rfl
  have key : ∀ (m q1 q2 : Nat) (rd : Int32), q1 ≤ R → q2 ≤ R → q1 ≤ q2 + 1 → q2 ≤ q1 + 1 → ((rd = 0 ∧ q1 = R ∧ q2 = R) ∨ (∃ d, rd = nI d ∧ d < 2 ^ 20 ∧ ¬ pm_E I st out d s t ∧ d ≤ q1 + 1 ∧ d ≤ q2 + 1 ∧ (d = q1 + 1 ∨ d = q2 + 1))) → q1 + q2 ≤ m →
      wp_MO_parted_L28 t_thrown t_room t_registers t_bits t_inputs t_first t_isFresh t_isRoom t_walked t_parts t_nodes t_classes 4096 f_t_part 4096 f_t_node 8192 f_t_parent 8192 f_t_born (nI s) (nI t) post (m + 1) (nI (N q1 s)) (nI (N q2 t)) rd := by
    -- what is there when both are one
    have fin : ∀ (q1 q2 : Nat) (rd : Int32), q1 ≤ R → q2 ≤ R → q1 ≤ q2 + 1 → q2 ≤ q1 + 1 → ((rd = 0 ∧ q1 = R ∧ q2 = R) ∨ (∃ d, rd = nI d ∧ d < 2 ^ 20 ∧ ¬ pm_E I st out d s t ∧ d ≤ q1 + 1 ∧ d ≤ q2 + 1 ∧ (d = q1 + 1 ∨ d = q2 + 1))) → N q1 s = N q2 t → post rd := by
      intro q1 q2 rd g1 g2 g3 g4 hrd e
      obtain ⟨c1, b1, d1, d2, d3, d4, d5⟩ := h7 q1 s g1 hs
      obtain ⟨c2, b2, e1, e2, e3, e4, e5⟩ := h7 q2 t g2 ht
      have eb : b1 = b2 := by
        rw [e, e2] at d2
        exact ((nI_eq (by omega) (by omega)).mp d2).symm
      subst eb
      have hE : ∀ q, q ≤ q1 → q ≤ q2 → pm_E I st out q s t := by
        have : pm_E I st out (min q1 q2) s t := by
          rcases Nat.le_total q1 q2 with z | z
          · rw [Nat.min_eq_left z]
            exact (h8 q1 s t g1 hs ht).mp (by rw [e]; exact (e3 q1 d1 z).symm)
          · rw [Nat.min_eq_right z]
            exact (h8 q2 s t g2 hs ht).mp (by rw [← e]; exact d3 q2 e1 z)
        intro q z1 z2
        exact pm_E_le (by omega) this
      rcases hrd with ⟨r1, r2, r3⟩ | ⟨d, r1, r2, r3, r4, r5, r6⟩
      · subst r1
        exact hp0 (hst s t hs ht (hE R (by omega) (by omega)))
      · subst r1
        refine hp1 d r2 ⟨?_, r3, hE _ (by omega) (by omega)⟩
        rcases Nat.eq_zero_or_pos d with z | z
        · subst z; exact absurd trivial r3
        · exact z
    intro m
    induction m with
    | zero =>
      intro q1 q2 rd g1 g2 g3 g4 hrd hm
      have e1 : q1 = 0 := by omega
      have e2 : q2 = 0 := by omega
      subst e1 e2
      have e : N 0 s = N 0 t := (h8 0 s t (by omega) hs ht).mpr trivial
      unfold wp_MO_parted_L28
      rw [e]
      exact br_t rfl (fin 0 0 rd g1 g2 g3 g4 hrd e)
    | succ m ih =>
      intro q1 q2 rd g1 g2 g3 g4 hrd hm
      obtain ⟨c1, b1, d1, d2, d3, d4, d5⟩ := h7 q1 s g1 hs
      obtain ⟨c2, b2, e1, e2, e3, e4, e5⟩ := h7 q2 t g2 ht
      have i1 : vp_in (nI (N q1 s)) 8192 := pk_in (N q1 s) 8192 (by omega)
      have i2 : vp_in (nI (N q2 t)) 8192 := pk_in (N q2 t) 8192 (by omega)
      unfold wp_MO_parted_L28
      refine pk_eq (N q1 s) (N q2 t) (fun e => fin q1 q2 rd g1 g2 g3 g4 hrd e) (fun hne => ⟨i1, i2, ?_⟩) rfl rfl (by omega) (by omega)
      rw [nI_clamp (show N q1 s < 2 ^ 31 by omega), nI_clamp (show N q2 t < 2 ^ 31 by omega), d2, e2]
      refine pk_lt b1 b2 (fun hlt => ⟨i2, ?_⟩) (fun hge => ⟨i1, ?_⟩)
      · rintro _ rfl
        refine ⟨i2, ?_⟩
        rw [e4 (by omega)]
        rintro _ rfl
        have hnE : ¬ pm_E I st out b2 s t := by
          rcases Nat.lt_or_ge q1 b2 with z | z
          · rcases hrd with ⟨r1, r2, r3⟩ | ⟨d, r1, r2, r3, r4, r5, r6⟩
            · omega
            · have : d = b2 := by omega
              rw [← this]; exact r3
          · intro hE
            apply hne
            rw [← d3 b2 (by omega) z, ← e3 b2 (Nat.le_refl _) e1]
            exact (h8 b2 s t (by omega) hs ht).mpr hE
        rcases Nat.lt_or_ge q1 b2 with z | z
        · exact ih q1 (b2 - 1) (nI b2) g1 (by omega) (by omega) (by omega) (Or.inr ⟨b2, rfl, by omega, hnE, by omega, by omega, by omega⟩) (by omega)
        · have := ih b2 (b2 - 1) (nI b2) (by omega) (by omega) (by omega) (by omega) (Or.inr ⟨b2, rfl, by omega, hnE, by omega, by omega, by omega⟩) (by omega)
          rw [d3 b2 (by omega) z] at this
          exact this
      · have hb0 : 0 < b1 := by
          rcases Nat.eq_zero_or_pos b1 with z | z
          · exact absurd (by rw [d5 z, e5 (by omega)]) hne
          · exact z
        rintro _ rfl
        refine ⟨i1, ?_⟩
        rw [d4 hb0]
        rintro _ rfl
        have hnE : ¬ pm_E I st out b1 s t := by
          rcases Nat.lt_or_ge q2 b1 with z | z
          · rcases hrd with ⟨r1, r2, r3⟩ | ⟨d, r1, r2, r3, r4, r5, r6⟩
            · omega
            · have : d = b1 := by omega
              rw [← this]; exact r3
          · intro hE
            apply hne
            rw [← d3 b1 (Nat.le_refl _) d1, ← e3 b1 (by omega) z]
            exact (h8 b1 s t (by omega) hs ht).mpr hE
        rcases Nat.lt_or_ge q2 b1 with z | z
        · exact ih (b1 - 1) q2 (nI b1) (by omega) g2 (by omega) (by omega) (Or.inr ⟨b1, rfl, by omega, hnE, by omega, by omega, by omega⟩) (by omega)
        · have := ih (b1 - 1) b1 (nI b1) (by omega) (by omega) (by omega) (by omega) (Or.inr ⟨b1, rfl, by omega, hnE, by omega, by omega, by omega⟩) (by omega)
          rw [e3 b1 (by omega) z] at this
          exact this
  exact ⟨R + R + 1, key (R + R) R R 0 (Nat.le_refl _) (Nat.le_refl _) (by omega) (by omega) (Or.inl ⟨rfl, rfl, rfl⟩) (Nat.le_refl _)⟩
theorem s_MO_firstOf {t_thrown : Int32} {t_room : Int32} {t_registers : Int32} {t_bits : Int32} {t_inputs : Int32} {t_first : Int32} {t_isFresh : Int32} {t_isRoom : Int32} {t_walked : Int32} {t_parts : Int32} {t_nodes : Int32} {t_classes : Int32} {f_t_next : Nat → Int32} {f_t_gives : Nat → Int32} {f_t_part : Nat → Int32} {f_t_node : Nat → Int32} {f_t_parent : Nat → Int32} {f_t_born : Nat → Int32} {S I s t c x : Nat} {w : List Nat} {st out : Nat → Nat → Nat} {post : Int32 → Prop} (hI : I ≤ 4) (hS : S ≤ 4096) (hin : ∀ s i, s < S → i < I → st s i < S ∧ out s i < 16 ∧ f_t_next (4 * s + i) = nI (st s i) ∧ f_t_gives (4 * s + i) = nI (out s i)) (h : pt_R S I st out f_t_part f_t_node f_t_parent f_t_born) (hs : s < S) (ht : t < S) (hw : w.length < 2 ^ 20)
    (hm : pm_Min I st out c (x :: w) s t) (hp : post (nI x)) : wp_MO_firstOf t_thrown t_room t_registers t_bits t_inputs t_first t_isFresh t_isRoom t_walked t_parts t_nodes t_classes 16384 f_t_next 16384 f_t_gives 4096 f_t_part 4096 f_t_node 8192 f_t_parent 8192 f_t_born (nI s) (nI t) (nI (w.length+1)) post := by
  have hx : x < I := hm.1.2 x (List.mem_cons_self ..)
  obtain ⟨k1, k2⟩ := pm_Min_head hI hm
  unfold wp_MO_firstOf
  have hl1 : ∀ {P : Prop}, (w = [] → P) → (nI (w.length + 1) = 1 → P) := fun f hl => f (by
    have : w.length + 1 = 1 := (nI_eq (b := 1) (by omega) (by omega)).mp hl
    exact List.length_eq_zero_iff.mp (by omega))
  have hl2 : ∀ {P : Prop}, (w ≠ [] → P) → (¬ nI (w.length + 1) = 1 → P) := fun f hl => f (fun z => hl (by rw [z]; rfl))
  have e1 : nI (w.length + 1) - (1 : Int32) = nI w.length := by rw [show (1 : Int32) = nI 1 from rfl, pk_sub (by omega)]; congr 1
  have fin : ∀ m, wp_MO_firstOf_L3 t_thrown t_room t_registers t_bits t_inputs t_first t_isFresh t_isRoom t_walked t_parts t_nodes t_classes 16384 f_t_next 16384 f_t_gives 4096 f_t_part 4096 f_t_node 8192 f_t_parent 8192 f_t_born (nI s) (nI t) (nI (w.length+1)) post (m + 1) (nI x) := by
    intro m
    have a := hin s x hs hx
    have b := hin t x ht hx
    unfold wp_MO_firstOf_L3
    rw [show (4 : Int32) = nI 4 from rfl, pk_mul, pk_mul, nI_add, nI_add, nI_clamp (by omega), nI_clamp (by omega), a.2.2.1, a.2.2.2, b.2.2.1, b.2.2.2]
    refine ⟨hl2 (fun hwn => ⟨pk_in (4 * s + x) 16384 (by omega), pk_in (4 * t + x) 16384 (by omega), ?_⟩), hl1 (fun hwn => ⟨pk_in (4 * s + x) 16384 (by omega), pk_in (4 * t + x) 16384 (by omega), ?_⟩)⟩
    · have hD := (k2 hwn).1
      rw [e1]
      refine s_MO_parted hS h a.1 b.1 (fun hall => absurd (hall _) hD.2.1) (fun d hd hD2 => ?_)
      rw [pm_D_uniq hD2 hD]
      exact br_t rfl hp
    · have hne := (k1 hwn).1
      exact ⟨fun _ => hp, fun z => absurd ((nI_eq (by omega) (by omega)).mp z) hne⟩
  have key : ∀ (m i : Nat), i ≤ x → x - i ≤ m → wp_MO_firstOf_L3 t_thrown t_room t_registers t_bits t_inputs t_first t_isFresh t_isRoom t_walked t_parts t_nodes t_classes 16384 f_t_next 16384 f_t_gives 4096 f_t_part 4096 f_t_node 8192 f_t_parent 8192 f_t_born (nI s) (nI t) (nI (w.length+1)) post (m + 1) (nI i) := by
    intro m
    induction m with
    | zero =>
      intro i hi hmm
      have e : i = x := by omega
      subst e
      exact fin 0
    | succ m ih =>
      intro i hi hmm
      rcases Nat.lt_or_ge i x with hlt | hge
      · have hiI : i < I := by omega
        have a := hin s i hs hiI
        have b := hin t i ht hiI
        unfold wp_MO_firstOf_L3
        rw [show (4 : Int32) = nI 4 from rfl, pk_mul, pk_mul, nI_add, nI_add, nI_clamp (by omega), nI_clamp (by omega), a.2.2.1, a.2.2.2, b.2.2.1, b.2.2.2]
        refine ⟨hl2 (fun hwn => ⟨pk_in (4 * s + i) 16384 (by omega), pk_in (4 * t + i) 16384 (by omega), ?_⟩), hl1 (fun hwn => ⟨pk_in (4 * s + i) 16384 (by omega), pk_in (4 * t + i) 16384 (by omega), ?_⟩)⟩
        · have hwl : 0 < w.length := List.length_pos_iff.mpr hwn
          have hD := (k2 hwn).2 i hlt
          rw [e1]
          have nx : ∀ y2 : Int32, y2 = nI i + 1 → (wp_MO_firstOf_L3 t_thrown t_room t_registers t_bits t_inputs t_first t_isFresh t_isRoom t_walked t_parts t_nodes t_classes 16384 f_t_next 16384 f_t_gives 4096 f_t_part 4096 f_t_node 8192 f_t_parent 8192 f_t_born (nI s) (nI t) (nI (w.length+1)) post (m + 1)) y2 := by
            rintro _ rfl
            rw [nI_1]
            exact ih (i + 1) (by omega) (by omega)
          refine s_MO_parted hS h a.1 b.1 (fun hall => ?_) (fun d hd hD2 => ?_)
          · exact br_f (fun z => absurd ((nI_eq (a := 0) (by omega) (by omega)).mp z) (by omega)) nx
          · refine br_f (fun z => hD ?_) nx
            rw [← (nI_eq (by omega) (by omega)).mp z]; exact hD2
        · have he := (k1 hwn).2 i hlt
          refine ⟨fun z => absurd (by rw [he]) z, fun _ => ?_⟩
          rintro _ rfl
          rw [nI_1]
          exact ih (i + 1) (by omega) (by omega)
      · have e : i = x := by omega
        subst e
        exact fin (m + 1)
  exact ⟨x + 1, key x 0 (by omega) (by omega)⟩

/-- is k the first of its kind -/
noncomputable def gc_fi (eq : Nat → Nat → Prop) (k : Nat) : Bool := @decide (∀ j, j < k → ¬ eq j k) (Classical.propDecidable _)
theorem gc_fi_t {eq : Nat → Nat → Prop} {k : Nat} : gc_fi eq k = true ↔ ∀ j, j < k → ¬ eq j k := by
  unfold gc_fi; exact @decide_eq_true_iff _ (Classical.propDecidable _)
/-- classes numbered by their firsts -/
def gc_ok (eq : Nat → Nat → Prop) (sz C : Nat) (cl lo : Nat → Nat) : Prop :=
  C = cN (gc_fi eq) sz ∧ (∀ k, k < sz → ∃ f, f ≤ k ∧ gc_fi eq f = true ∧ eq f k ∧ cl k = cN (gc_fi eq) f) ∧ ∀ c, c < C → lo c < sz ∧ gc_fi eq (lo c) = true ∧ cN (gc_fi eq) (lo c) = c
theorem cN_lt {p : Nat → Bool} {x y : Nat} (hx : p x = true) (h : x < y) : cN p x < cN p y := by
  have c1 : cN p (x + 1) = cN p x + 1 := by show _ + _ = _; rw [if_pos hx]
  have c2 := cN_mono p (m := x + 1) (n := y) h
  omega
theorem cN_inj {p : Nat → Bool} {x y : Nat} (hx : p x = true) (hy : p y = true) (h : cN p x = cN p y) : x = y := by
  rcases Nat.lt_trichotomy x y with z | z | z
  · have := cN_lt hx z; omega
  · exact z
  · have := cN_lt hy z; omega
theorem gc_0 (eq : Nat → Nat → Prop) (cl lo : Nat → Nat) : gc_ok eq 0 0 cl lo := ⟨rfl, fun k hk => absurd hk (by omega), fun c hc => absurd hc (by omega)⟩
theorem gc_clt {eq : Nat → Nat → Prop} {sz C : Nat} {cl lo : Nat → Nat} (h : gc_ok eq sz C cl lo) {k : Nat} (hk : k < sz) : cl k < C := by
  obtain ⟨f, h1, h2, h3, h4⟩ := h.2.1 k hk
  rw [h4, h.1]; exact cN_lt h2 (by omega)
theorem gc_lo {eq : Nat → Nat → Prop} {sz C : Nat} {cl lo : Nat → Nat} (h : gc_ok eq sz C cl lo) {k : Nat} (hk : k < sz) : lo (cl k) ≤ k ∧ eq (lo (cl k)) k := by
  have hc := gc_clt h hk
  obtain ⟨f, h1, h2, h3, h4⟩ := h.2.1 k hk
  obtain ⟨a1, a2, a3⟩ := h.2.2 _ hc
  have e : lo (cl k) = f := cN_inj a2 h2 (by rw [a3, h4])
  rw [e]; exact ⟨h1, h3⟩
theorem gc_old {eq : Nat → Nat → Prop} {k C c : Nat} {cl cl' lo : Nat → Nat} (h : gc_ok eq k C cl lo) (hc : c < C) (he : eq (lo c) k) (h1 : ∀ j, j < k → cl' j = cl j) (h2 : cl' k = c) : gc_ok eq (k + 1) C cl' lo := by
  obtain ⟨a1, a2, a3⟩ := h
  have b := a3 c hc
  have hf : ¬ gc_fi eq k = true := fun z => gc_fi_t.mp z _ b.1 he
  refine ⟨?_, fun j hj => ?_, fun d hd => ?_⟩
  · show C = cN _ k + _
    rw [if_neg hf]; exact a1
  · by_cases e : j = k
    · subst e; exact ⟨lo c, by omega, b.2.1, he, by rw [h2, b.2.2]⟩
    · rw [h1 j (by omega)]; exact a2 j (by omega)
  · have := a3 d hd
    exact ⟨by omega, this.2⟩
theorem gc_new {eq : Nat → Nat → Prop} {k C : Nat} {cl cl' lo lo' : Nat → Nat} (htr : ∀ a b c, eq a b → eq b c → eq a c) (h : gc_ok eq k C cl lo) (hn : ∀ c, c < C → ¬ eq (lo c) k) (hr : eq k k) (h1 : ∀ j, j < k → cl' j = cl j) (h2 : cl' k = C) (h3 : ∀ j, j < C → lo' j = lo j) (h4 : lo' C = k) : gc_ok eq (k + 1) (C + 1) cl' lo' := by
  have hf : gc_fi eq k = true := gc_fi_t.mpr (fun j hj he => by
    have z := gc_lo h hj
    exact hn _ (gc_clt h hj) (htr _ _ _ z.2 he))
  obtain ⟨a1, a2, a3⟩ := h
  refine ⟨?_, fun j hj => ?_, fun d hd => ?_⟩
  · show C + 1 = cN _ k + _
    rw [if_pos hf, ← a1]
  · by_cases e : j = k
    · subst e; exact ⟨j, Nat.le_refl _, hf, hr, by rw [h2, a1]⟩
    · rw [h1 j (by omega)]; exact a2 j (by omega)
  · by_cases e : d = C
    · subst e; rw [h4]; exact ⟨by omega, hf, a1.symm⟩
    · rw [h3 d (by omega)]
      have := a3 d (by omega)
      exact ⟨by omega, this.2⟩
theorem gc_cong {eq eq' : Nat → Nat → Prop} {sz C : Nat} {cl lo : Nat → Nat} (he : ∀ j k, j < sz → k < sz → (eq j k ↔ eq' j k)) (h : gc_ok eq sz C cl lo) : gc_ok eq' sz C cl lo := by
  have hf : ∀ k, k < sz → gc_fi eq k = gc_fi eq' k := fun k hk => by
    have z : gc_fi eq k = true ↔ gc_fi eq' k = true := by
      rw [gc_fi_t, gc_fi_t]
      exact ⟨fun z j hj e => z j hj ((he j k (by omega) hk).mpr e), fun z j hj e => z j hj ((he j k (by omega) hk).mp e)⟩
    cases h1 : gc_fi eq k <;> cases h2 : gc_fi eq' k <;> simp_all
  obtain ⟨a1, a2, a3⟩ := h
  have hc : ∀ n, n ≤ sz → cN (gc_fi eq) n = cN (gc_fi eq') n := fun n hn => cN_cong (fun j hj => hf j (by omega))
  refine ⟨by rw [a1]; exact hc _ (Nat.le_refl _), fun k hk => ?_, fun c hc' => ?_⟩
  · obtain ⟨f, b1, b2, b3, b4⟩ := a2 k hk
    exact ⟨f, b1, by rw [← hf f (by omega)]; exact b2, (he f k (by omega) hk).mp b3, by rw [b4]; exact hc f (by omega)⟩
  · obtain ⟨b1, b2, b3⟩ := a3 c hc'
    exact ⟨b1, by rw [← hf _ b1]; exact b2, by rw [← hc _ (by omega)]; exact b3⟩
theorem gc_uniq {eq : Nat → Nat → Prop} {sz C C' : Nat} {cl lo cl' lo' : Nat → Nat} (hs : ∀ a b, eq a b → eq b a) (htr : ∀ a b c, eq a b → eq b c → eq a c) (h : gc_ok eq sz C cl lo) (h' : gc_ok eq sz C' cl' lo') : C = C' ∧ (∀ k, k < sz → cl k = cl' k) ∧ ∀ c, c < C → lo c = lo' c := by
  have e : C = C' := by rw [h.1, h'.1]
  refine ⟨e, fun k hk => ?_, fun c hc => ?_⟩
  · obtain ⟨f, b1, b2, b3, b4⟩ := h.2.1 k hk
    obtain ⟨g, d1, d2, d3, d4⟩ := h'.2.1 k hk
    have : f = g := by
      have z := htr _ _ _ b3 (hs _ _ d3)
      rcases Nat.lt_trichotomy f g with y | y | y
      · exact absurd z (gc_fi_t.mp d2 f y)
      · exact y
      · exact absurd (hs _ _ z) (gc_fi_t.mp b2 g y)
    rw [b4, d4, this]
  · have a := h.2.2 c hc
    have b := h'.2.2 c (by omega)
    exact cN_inj a.2.1 b.2.1 (by rw [a.2.2, b.2.2])
/-- the reference's classes -/
def fc_rep (eq : Nat → Nat → Prop) (ord : Nat → Nat) (sz : Nat) (classes : Int32) (classOf classState : Nat → Int32) : Prop :=
  ∃ (C : Nat) (cl lo : Nat → Nat), gc_ok eq sz C cl lo ∧ classes = nI C ∧ (∀ k, k < sz → classOf k = nI (cl k)) ∧ ∀ c, c < C → classState c = nI (ord (lo c))
theorem s_MO_findClasses {t_thrown : Int32} {t_room : Int32} {t_registers : Int32} {t_bits : Int32} {t_inputs : Int32} {t_first : Int32} {t_isFresh : Int32} {t_isRoom : Int32} {t_parts : Int32} {t_nodes : Int32} {t_classes : Int32} {f_t_state : Nat → Int32} {f_t_part : Nat → Int32} {f_t_classOf : Nat → Int32} {f_t_classState : Nat → Int32} {S sz : Nat} {ord P : Nat → Nat} {post : Int32 → (Nat → Int32) → (Nat → Int32) → Prop} (hS : S ≤ 4096) (hsz : sz ≤ S) (ho : ∀ k, k < sz → ord k < S ∧ f_t_state k = nI (ord k)) (hP : ∀ s, s < S → P s < 4096 ∧ f_t_part s = nI (P s))
    (hp : ∀ (classes : Int32) (classOf classState : Nat → Int32), fc_rep (fun j k => P (ord j) = P (ord k)) ord sz classes classOf classState → post classes classOf classState) :
    wp_MO_findClasses t_thrown t_room t_registers t_bits t_inputs t_first t_isFresh t_isRoom (nI sz) t_parts t_nodes t_classes 4096 f_t_state 4096 f_t_part 4096 f_t_classOf 4096 f_t_classState post := by
  unfold wp_MO_findClasses
  have rows : ∀ (m k C : Nat) (cl lo : Nat → Nat) (classOf classState : Nat → Int32), k ≤ sz → sz - k ≤ m → gc_ok (fun j k => P (ord j) = P (ord k)) k C cl lo → (∀ j, j < k → classOf j = nI (cl j)) → (∀ c, c < C → classState c = nI (ord (lo c))) →
      wp_MO_findClasses_L7 t_thrown t_room t_registers t_bits t_inputs t_first t_isFresh t_isRoom (nI sz) t_parts t_nodes t_classes 4096 f_t_state 4096 f_t_part 4096 f_t_classOf 4096 f_t_classState post (m + 1) (nI C) classOf classState (nI k) := by
    intro m
    induction m with
    | zero =>
      intro k C cl lo classOf classState hk hm hg h1 h2
      have e : k = sz := by omega
      subst e
      unfold wp_MO_findClasses_L7
      exact pk_le k k (fun _ => hp _ _ _ ⟨C, cl, lo, hg, rfl, h1, h2⟩) (fun h => absurd h (by omega))
    | succ m ih =>
      intro k C cl lo classOf classState hk hm hg h1 h2
      unfold wp_MO_findClasses_L7
      refine pk_le sz k (fun hh => ?_) (fun hlt => ?_)
      · have e : k = sz := by omega
        subst e
        exact hp _ _ _ ⟨C, cl, lo, hg, rfl, h1, h2⟩
      have hCk : C ≤ k := by rw [hg.1]; exact cN_le _ _
      have hok := ho k hlt
      have hPk := hP _ hok.1
      have put : ∀ (c C' : Nat) (lo' : Nat → Nat) (classState' : Nat → Int32), (∀ cl', (∀ j, j < k → cl' j = cl j) → cl' k = c → gc_ok (fun j k => P (ord j) = P (ord k)) (k + 1) C' cl' lo') → (∀ c, c < C' → classState' c = nI (ord (lo' c))) → wp_MO_findClasses_J86 t_thrown t_room t_registers t_bits t_inputs t_first t_isFresh t_isRoom (nI sz) t_parts t_nodes t_classes 4096 f_t_state 4096 f_t_part 4096 f_t_classOf 4096 f_t_classState (wp_MO_findClasses_L7 t_thrown t_room t_registers t_bits t_inputs t_first t_isFresh t_isRoom (nI sz) t_parts t_nodes t_classes 4096 f_t_state 4096 f_t_part 4096 f_t_classOf 4096 f_t_classState post (m + 1)) post (nI C') classOf classState' (nI k) (nI c) := by
        intro c C' lo' classState' hg' h2'
        unfold wp_MO_findClasses_J86
        refine ⟨pk_in k 4096 (by omega), ?_⟩
        rintro _ rfl _ rfl
        rw [nI_1, nI_clamp (by omega)]
        obtain ⟨cl', e1, e2⟩ := q_app cl k c
        refine ih (k + 1) C' cl' lo' _ _ (by omega) (by omega) (hg' cl' e1 e2) (fun j hj => ?_) h2'
        by_cases e : j = k
        · subst e; rw [pk_us, e2]
        · rw [pk_un e, e1 j (by omega)]; exact h1 j (by omega)
      have search : ∀ (n c : Nat), c ≤ C → C - c ≤ n → (∀ d, d < c → ¬ P (ord (lo d)) = P (ord k)) →
          wp_MO_findClasses_L17 t_thrown t_room t_registers t_bits t_inputs t_first t_isFresh t_isRoom (nI sz) t_parts t_nodes t_classes 4096 f_t_state 4096 f_t_part 4096 f_t_classOf 4096 f_t_classState (wp_MO_findClasses_L7 t_thrown t_room t_registers t_bits t_inputs t_first t_isFresh t_isRoom (nI sz) t_parts t_nodes t_classes 4096 f_t_state 4096 f_t_part 4096 f_t_classOf 4096 f_t_classState post (m + 1)) post (n + 1) (nI C) classOf classState (nI k) (nI c) := by
        have new : ∀ n, (∀ d, d < C → ¬ P (ord (lo d)) = P (ord k)) → wp_MO_findClasses_L17 t_thrown t_room t_registers t_bits t_inputs t_first t_isFresh t_isRoom (nI sz) t_parts t_nodes t_classes 4096 f_t_state 4096 f_t_part 4096 f_t_classOf 4096 f_t_classState (wp_MO_findClasses_L7 t_thrown t_room t_registers t_bits t_inputs t_first t_isFresh t_isRoom (nI sz) t_parts t_nodes t_classes 4096 f_t_state 4096 f_t_part 4096 f_t_classOf 4096 f_t_classState post (m + 1)) post (n + 1) (nI C) classOf classState (nI k) (nI C) := by
          intro n hno
          unfold wp_MO_findClasses_L17
          refine pk_le C C (fun _ => ?_) (fun h => absurd h (by omega))
          unfold wp_MO_findClasses_J56
          refine ⟨fun z => absurd rfl z, fun _ => ⟨pk_in k 4096 (by omega), ?_⟩⟩
          rintro _ rfl
          refine ⟨pk_in C 4096 (by omega), ?_⟩
          rintro _ rfl _ rfl
          rw [nI_clamp (show k < 2 ^ 31 by omega), nI_clamp (show C < 2 ^ 31 by omega), hok.2, show (1 : Int32) = nI 1 from rfl, nI_add]
          obtain ⟨lo', l1, l2⟩ := q_app lo C k
          refine put C (C + 1) lo' _ (fun cl' e1 e2 => gc_new (fun a b c h1 h2 => h1.trans h2) hg hno rfl e1 e2 l1 l2) (fun c hc => ?_)
          by_cases e : c = C
          · subst e; rw [pk_us, l2]
          · rw [pk_un e, l1 c (by omega)]; exact h2 c (by omega)
        intro n
        induction n with
        | zero =>
          intro c hc hn hno
          have e : c = C := by omega
          subst e
          exact new 0 hno
        | succ n ihn =>
          intro c hc hn hno
          rcases Nat.lt_or_ge c C with hcl | hge
          · have hl := (hg.2.2 c hcl).1
            have hoc := ho (lo c) (by omega)
            have hPc := hP _ hoc.1
            unfold wp_MO_findClasses_L17
            refine pk_le C c (fun h => absurd h (by omega)) (fun _ => ⟨pk_in c 4096 (by omega), ?_⟩)
            rw [nI_clamp (show c < 2 ^ 31 by omega), nI_clamp (show k < 2 ^ 31 by omega), h2 c hcl, hok.2]
            refine ⟨pk_in (ord (lo c)) 4096 (by omega), pk_in k 4096 (by omega), pk_in (ord k) 4096 (by omega), ?_⟩
            rw [nI_clamp (by omega), nI_clamp (by omega), hPc.2, hPk.2]
            refine pk_eq (P (ord (lo c))) (P (ord k)) (fun e => ?_) (fun e => ?_)
            · unfold wp_MO_findClasses_J56
              refine ⟨fun _ => ?_, fun z => absurd ((nI_eq (by omega) (by omega)).mp z) (by omega)⟩
              exact put c C lo classState (fun cl' e1 e2 => gc_old hg hcl e e1 e2) h2
            · rintro _ rfl
              rw [nI_1]
              refine ihn (c + 1) (by omega) (by omega) (fun d hd => ?_)
              by_cases e2 : d = c
              · subst e2; exact e
              · exact hno d (by omega)
          · have e : c = C := by omega
            subst e
            exact new (n + 1) hno
      exact ⟨C + 1, search C 0 (by omega) (by omega) (fun d hd => absurd hd (by omega))⟩
  exact ⟨sz + 1, rows sz 0 0 (fun _ => 0) (fun _ => 0) _ _ (by omega) (by omega) (gc_0 _ _ _) (fun j hj => absurd hj (by omega)) (fun j hj => absurd hj (by omega))⟩

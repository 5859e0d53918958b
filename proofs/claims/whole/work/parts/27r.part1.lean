section PR
variable (I : Nat) (st out : Nat → Nat → Nat) (P : Nat → Nat) (r : Nat)
/-- by what a round parts -/
def pr_kv (s i : Nat) : Nat := if r = 1 then out s i else P (st s i)
def pr_sm (s t : Nat) : Prop := P s = P t ∧ ∀ i, i < I → pr_kv st out P r s i = pr_kv st out P r t i
def pr_cv (s : Nat) : Nat → Nat
  | 0 => P s
  | i + 1 => (pr_cv s i * 61 + pr_kv st out P r s i) % 4099
def pr_ch (s : Nat) : Nat := pr_cv st out P r s I % 4099
end PR
theorem pr_cv_eq {st out : Nat → Nat → Nat} {P : Nat → Nat} {r s t : Nat} : ∀ {i : Nat}, P s = P t → (∀ x, x < i → pr_kv st out P r s x = pr_kv st out P r t x) → pr_cv st out P r s i = pr_cv st out P r t i := by
  intro i
  induction i with
  | zero => intro h _; exact h
  | succ i ih => intro h1 h2; unfold pr_cv; rw [ih h1 (fun x hx => h2 x (by omega)), h2 i (by omega)]
theorem pr_ch_eq {I : Nat} {st out : Nat → Nat → Nat} {P : Nat → Nat} {r s t : Nat} (h : pr_sm I st out P r s t) : pr_ch I st out P r s = pr_ch I st out P r t := by
  unfold pr_ch; rw [pr_cv_eq h.1 h.2]
theorem pr_ch_lt (I : Nat) (st out : Nat → Nat → Nat) (P : Nat → Nat) (r s : Nat) : pr_ch I st out P r s < 4099 := Nat.mod_lt _ (by omega)
def pr_in (S I : Nat) (st out : Nat → Nat → Nat) (P : Nat → Nat) (fn fg fp : Nat → Int32) : Prop :=
  I ≤ 4 ∧ S ≤ 4096 ∧ (∀ s i, s < S → i < I → st s i < S ∧ out s i < 16 ∧ fn (4 * s + i) = nI (st s i) ∧ fg (4 * s + i) = nI (out s i)) ∧ ∀ s, s < S → P s < 4096 ∧ fp s = nI (P s)
theorem s_MO_together {t_thrown : Int32} {t_room : Int32} {t_registers : Int32} {t_bits : Int32} {t_first : Int32} {t_isFresh : Int32} {t_isRoom : Int32} {t_walked : Int32} {t_parts : Int32} {t_nodes : Int32} {t_classes : Int32} {f_t_next : Nat → Int32} {f_t_gives : Nat → Int32} {f_t_part : Nat → Int32} {S I r a b : Nat} {st out : Nat → Nat → Nat} {P : Nat → Nat} {post : Int32 → Prop} (h : pr_in S I st out P f_t_next f_t_gives f_t_part) (hr : r < 2 ^ 20) (ha : a < S) (hb : b < S) (hp1 : pr_sm I st out P r a b → post 1) (hp0 : ¬ pr_sm I st out P r a b → post 0) :
    wp_MO_together t_thrown t_room t_registers t_bits (nI I) t_first t_isFresh t_isRoom t_walked t_parts t_nodes t_classes 16384 f_t_next 16384 f_t_gives 4096 f_t_part (nI a) (nI b) (nI r) post := by
  obtain ⟨hI, hS, h1, h2⟩ := h
  unfold wp_MO_together
  have key0 : ∀ m i, ¬ pr_sm I st out P r a b → wp_MO_together_L25 t_thrown t_room t_registers t_bits (nI I) t_first t_isFresh t_isRoom t_walked t_parts t_nodes t_classes 16384 f_t_next 16384 f_t_gives 4096 f_t_part (nI a) (nI b) (nI r) post (m + 1) 0 (nI i) := by
    intro m i hn
    unfold wp_MO_together_L25
    exact br_c (fun _ => ⟨rfl, hp0 hn⟩) (fun _ => br_t rfl ⟨rfl, hp0 hn⟩)
  have key1 : ∀ m i, i ≤ I → I - i ≤ m → P a = P b → (∀ x, x < i → pr_kv st out P r a x = pr_kv st out P r b x) → wp_MO_together_L25 t_thrown t_room t_registers t_bits (nI I) t_first t_isFresh t_isRoom t_walked t_parts t_nodes t_classes 16384 f_t_next 16384 f_t_gives 4096 f_t_part (nI a) (nI b) (nI r) post (m + 2) 1 (nI i) := by
    intro m
    induction m with
    | zero =>
      intro i hi hm hP hx
      have e : i = I := by omega
      subst e
      unfold wp_MO_together_L25
      exact pk_le i i (fun _ => ⟨rfl, hp1 ⟨hP, hx⟩⟩) (fun h => absurd h (by omega))
    | succ m ih =>
      intro i hi hm hP hx
      unfold wp_MO_together_L25
      refine pk_le I i (fun hh => ⟨rfl, hp1 ⟨hP, fun x hxi => hx x (by omega)⟩⟩) (fun hlt => ?_)
      refine ⟨fun z => absurd z (by decide), fun _ => ?_⟩
      have a1 := h1 a i ha hlt
      have a2 := h1 b i hb hlt
      have a3 := h2 _ a1.1
      have a4 := h2 _ a2.1
      have step : ∀ x y : Nat, x < 2 ^ 31 → y < 2 ^ 31 → pr_kv st out P r a i = x → pr_kv st out P r b i = y →
          (¬ nI x = nI y → (∀ y1 : Int32, y1 = nI i + 1 → (wp_MO_together_L25 t_thrown t_room t_registers t_bits (nI I) t_first t_isFresh t_isRoom t_walked t_parts t_nodes t_classes 16384 f_t_next 16384 f_t_gives 4096 f_t_part (nI a) (nI b) (nI r) post (m + 2)) 0 y1)) ∧ (nI x = nI y → (∀ y1 : Int32, y1 = nI i + 1 → (wp_MO_together_L25 t_thrown t_room t_registers t_bits (nI I) t_first t_isFresh t_isRoom t_walked t_parts t_nodes t_classes 16384 f_t_next 16384 f_t_gives 4096 f_t_part (nI a) (nI b) (nI r) post (m + 2)) 1 y1)) := by
        intro x y hx' hy' ex ey
        refine ⟨fun hne => ?_, fun heq => ?_⟩
        · rintro _ rfl
          rw [nI_1]
          exact key0 (m + 1) (i + 1) (fun z => hne (by rw [← ex, ← ey, z.2 i hlt]))
        · rintro _ rfl
          rw [nI_1]
          refine ih (i + 1) (by omega) (by omega) hP (fun v hv => ?_)
          by_cases e : v = i
          · subst e; rw [ex, ey]; exact (nI_eq hx' hy').mp heq
          · exact hx v (by omega)
      rw [show (4 : Int32) = nI 4 from rfl, pk_mul, nI_add, pk_mul, nI_add]
      rw [nI_clamp (by omega), nI_clamp (by omega), a1.2.2.1, a1.2.2.2, a2.2.2.1, a2.2.2.2, nI_clamp (by omega), nI_clamp (by omega), a3.2, a4.2]
      refine ⟨fun hr1 => ⟨pk_in (4 * a + i) 16384 (by omega), pk_in _ 4096 (Nat.lt_of_lt_of_le a1.1 hS), pk_in (4 * b + i) 16384 (by omega), pk_in _ 4096 (Nat.lt_of_lt_of_le a2.1 hS), ?_⟩, fun hr1 => ⟨pk_in (4 * a + i) 16384 (by omega), pk_in (4 * b + i) 16384 (by omega), ?_⟩⟩
      · have hr' : r ≠ 1 := fun z => hr1 (by rw [z]; rfl)
        exact step _ _ (by omega) (by omega) (if_neg hr') (if_neg hr')
      · have hr' : r = 1 := (nI_eq (b := 1) (by omega) (by omega)).mp hr1
        exact step _ _ (by omega) (by omega) (if_pos hr') (if_pos hr')
  have a3 := h2 a ha
  have a4 := h2 b hb
  refine ⟨pk_in a 4096 (by omega), pk_in b 4096 (by omega), ?_⟩
  rw [nI_clamp (by omega), nI_clamp (by omega), a3.2, a4.2]
  refine ⟨fun hne => ⟨1, key0 0 0 (fun z => hne (by rw [z.1]))⟩, fun heq => ⟨I + 2, key1 I 0 (by omega) (by omega) ((nI_eq (by omega) (by omega)).mp heq) (fun x hx => absurd hx (by omega))⟩⟩
theorem s_MO_chainOf {t_thrown : Int32} {t_room : Int32} {t_registers : Int32} {t_bits : Int32} {t_first : Int32} {t_isFresh : Int32} {t_isRoom : Int32} {t_walked : Int32} {t_parts : Int32} {t_nodes : Int32} {t_classes : Int32} {f_t_next : Nat → Int32} {f_t_gives : Nat → Int32} {f_t_part : Nat → Int32} {S I r a : Nat} {st out : Nat → Nat → Nat} {P : Nat → Nat} {post : Int32 → Prop} (h : pr_in S I st out P f_t_next f_t_gives f_t_part) (hr : r < 2 ^ 20) (ha : a < S) (hp : post (nI (pr_ch I st out P r a))) :
    wp_MO_chainOf t_thrown t_room t_registers t_bits (nI I) t_first t_isFresh t_isRoom t_walked t_parts t_nodes t_classes 16384 f_t_next 16384 f_t_gives 4096 f_t_part (nI a) (nI r) post := by
  obtain ⟨hI, hS, h1, h2⟩ := h
  unfold wp_MO_chainOf
  have a3 := h2 a ha
  have hv : ∀ i, pr_cv st out P r a i < 4099 := fun i => by
    cases i with
    | zero => exact Nat.lt_trans a3.1 (by omega)
    | succ i => exact Nat.mod_lt _ (by omega)
  have key : ∀ m i, i ≤ I → I - i ≤ m → wp_MO_chainOf_L10 t_thrown t_room t_registers t_bits (nI I) t_first t_isFresh t_isRoom t_walked t_parts t_nodes t_classes 16384 f_t_next 16384 f_t_gives 4096 f_t_part (nI a) (nI r) post (m + 1) (nI (pr_cv st out P r a i)) (nI i) := by
    have fin : ∀ m, wp_MO_chainOf_L10 t_thrown t_room t_registers t_bits (nI I) t_first t_isFresh t_isRoom t_walked t_parts t_nodes t_classes 16384 f_t_next 16384 f_t_gives 4096 f_t_part (nI a) (nI r) post (m + 1) (nI (pr_cv st out P r a I)) (nI I) := by
      intro m
      have hvI := hv I
      unfold wp_MO_chainOf_L10
      refine pk_le I I (fun _ => ?_) (fun h => absurd h (by omega))
      rw [show (4099 : Int32) = nI 4099 from rfl, pk_rem (by omega) (by omega) (by omega)]
      exact hp
    intro m
    induction m with
    | zero =>
      intro i hi hm
      have e : i = I := by omega
      subst e
      exact fin 0
    | succ m ih =>
      intro i hi hm
      rcases Nat.lt_or_ge i I with hlt | hge
      · have a1 := h1 a i ha hlt
        have a4 := h2 _ a1.1
        have hvi := hv i
        unfold wp_MO_chainOf_L10
        refine pk_le I i (fun h => absurd h (by omega)) (fun _ => ?_)
        rw [show (4 : Int32) = nI 4 from rfl, pk_mul, nI_add, nI_clamp (by omega), a1.2.2.1, a1.2.2.2, nI_clamp (by omega), a4.2]
        have step : ∀ x : Nat, x < 4096 → pr_kv st out P r a i = x → ∀ y2 : Int32, y2 = ((nI (pr_cv st out P r a i) * (61 : Int32)) + nI x) - ((nI (pr_cv st out P r a i) * (61 : Int32)) + nI x) / (4099 : Int32) * (4099 : Int32) → (∀ y3 : Int32, y3 = nI i + 1 → (wp_MO_chainOf_L10 t_thrown t_room t_registers t_bits (nI I) t_first t_isFresh t_isRoom t_walked t_parts t_nodes t_classes 16384 f_t_next 16384 f_t_gives 4096 f_t_part (nI a) (nI r) post (m + 1)) y2 y3) := by
          intro x hx ex
          rintro _ rfl _ rfl
          rw [show (61 : Int32) = nI 61 from rfl, pk_mul, nI_add, show (4099 : Int32) = nI 4099 from rfl, pk_rem (by omega) (by omega) (by omega), nI_1]
          have z := ih (i + 1) (by omega) (by omega)
          unfold pr_cv at z
          rw [ex] at z
          exact z
        refine ⟨fun hr1 => ⟨pk_in (4 * a + i) 16384 (by omega), pk_in _ 4096 (Nat.lt_of_lt_of_le a1.1 hS), ?_⟩, fun hr1 => ⟨pk_in (4 * a + i) 16384 (by omega), ?_⟩⟩
        · have hr' : r ≠ 1 := fun z => hr1 (by rw [z]; rfl)
          exact step _ a4.1 (if_neg hr')
        · have hr' : r = 1 := (nI_eq (b := 1) (by omega) (by omega)).mp hr1
          exact step _ (by omega) (if_pos hr')
      · have e : i = I := by omega
        subst e
        exact fin (m + 1)
  refine ⟨pk_in a 4096 (by omega), ?_⟩
  rintro _ rfl
  rw [nI_clamp (by omega), a3.2]
  exact ⟨I + 1, key I 0 (by omega) (by omega)⟩

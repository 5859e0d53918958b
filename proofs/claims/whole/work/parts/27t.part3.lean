def q_sm (f : Nat → Nat) : Nat → Nat
  | 0 => 0
  | n + 1 => q_sm f n + f n
theorem q_sm_add (f g : Nat → Nat) : ∀ n, q_sm (fun c => f c + g c) n = q_sm f n + q_sm g n := by
  intro n
  induction n with
  | zero => rfl
  | succ n ih => unfold q_sm; rw [ih]; omega
theorem q_sm_cong {f g : Nat → Nat} : ∀ {n : Nat}, (∀ c, c < n → f c = g c) → q_sm f n = q_sm g n := by
  intro n
  induction n with
  | zero => intro _; rfl
  | succ n ih => intro h; unfold q_sm; rw [ih (fun c hc => h c (by omega)), h n (by omega)]
theorem q_sm_le {f g : Nat → Nat} : ∀ {n : Nat}, (∀ c, c < n → f c ≤ g c) → q_sm f n ≤ q_sm g n := by
  intro n
  induction n with
  | zero => intro _; exact Nat.le_refl _
  | succ n ih => intro h; unfold q_sm; have := ih (fun c hc => h c (by omega)); have := h n (by omega); omega
theorem q_sm_zero : ∀ {n : Nat}, q_sm (fun _ => 0) n = 0 := by
  intro n
  induction n with
  | zero => rfl
  | succ n ih => unfold q_sm; rw [ih]
theorem q_sm_const (k : Nat) : ∀ {n : Nat}, q_sm (fun _ => k) n = n * k := by
  intro n
  induction n with
  | zero => unfold q_sm; omega
  | succ n ih => unfold q_sm; rw [ih, Nat.succ_mul]
theorem q_sm_ind {a v : Nat} : ∀ {n : Nat}, a < n → q_sm (fun c => if a = c then v else 0) n = v := by
  intro n
  induction n with
  | zero => intro h; omega
  | succ n ih =>
    intro h
    unfold q_sm
    by_cases e : a = n
    · subst e
      rw [q_sm_cong (g := fun _ => 0) (fun c hc => if_neg (by omega)), q_sm_zero, if_pos rfl]; omega
    · rw [ih (by omega), if_neg e]; rfl
theorem q_sm_cnt {F : Nat → Nat} {parts : Nat} (D : Nat → Bool) : ∀ {m : Nat}, (∀ p, p < m → F p < parts) → q_sm (fun c => if D c = true then cN (fun p => decide (F p = c)) m else 0) parts = cN (fun p => D (F p)) m := by
  intro m
  induction m with
  | zero =>
    intro _
    rw [q_sm_cong (g := fun _ => 0) (fun c hc => by show (if D c = true then 0 else 0) = 0; split <;> rfl), q_sm_zero]; rfl
  | succ m ih =>
    intro h
    have e : q_sm (fun c => if D c = true then cN (fun p => decide (F p = c)) (m + 1) else 0) parts = q_sm (fun c => (if D c = true then cN (fun p => decide (F p = c)) m else 0) + (if F m = c then (if D (F m) = true then 1 else 0) else 0)) parts := by
      refine q_sm_cong (fun c hc => ?_)
      show (if D c = true then cN (fun p => decide (F p = c)) m + (if decide (F m = c) = true then 1 else 0) else 0) = _
      by_cases e1 : F m = c
      · subst e1
        by_cases e2 : D (F m) = true
        · rw [if_pos e2, if_pos (by simp), if_pos e2, if_pos rfl, if_pos e2]
        · rw [if_neg e2, if_neg e2, if_pos rfl, if_neg e2]
      · by_cases e2 : D c = true
        · rw [if_pos e2, if_neg (by simpa using e1), if_pos e2, if_neg e1]
        · rw [if_neg e2, if_neg e2, if_neg e1]
    rw [e, q_sm_add, ih (fun p hp => h p (by omega)), q_sm_ind (h m (by omega))]
    rfl
/-- new nodes are not too many -/
theorem q_split {F : Nat → Nat} {parts n : Nat} (h : ∀ p, p < n → F p < parts) (h1 : ∀ c, c < parts → 0 < cN (fun p => decide (F p = c)) n) :
    cN (fun p => decide (1 < cN (fun p' => decide (F p' = F p)) n)) n + parts * 2 ≤ n * 2 := by
  have a := q_sm_cnt (fun c => decide (1 < cN (fun p => decide (F p = c)) n)) h
  have b := q_sm_cnt (fun _ => true) h
  have b2 : cN (fun _ => true) n = n := by
    clear a b h1
    induction n with
    | zero => rfl
    | succ n ih => unfold cN; rw [ih (fun p hp => h p (by omega)), if_pos rfl]
  rw [b2] at b
  rw [← a]
  have c := q_sm_add (fun c => if decide (1 < cN (fun p => decide (F p = c)) n) = true then cN (fun p => decide (F p = c)) n else 0) (fun _ => 2) parts
  rw [q_sm_const] at c
  have d := q_sm_add (fun c => cN (fun p => decide (F p = c)) n) (fun c => cN (fun p => decide (F p = c)) n) parts
  have b3 : q_sm (fun c => cN (fun p => decide (F p = c)) n) parts = n := by
    refine Eq.trans ?_ b; exact q_sm_cong (fun c hc => by show _ = (if true = true then _ else _); rw [if_pos rfl])
  rw [b3] at d
  have e := q_sm_le (f := fun c => (if decide (1 < cN (fun p => decide (F p = c)) n) = true then cN (fun p => decide (F p = c)) n else 0) + 2) (g := fun c => cN (fun p => decide (F p = c)) n + cN (fun p => decide (F p = c)) n) (n := parts) (fun c hc => by
    have z := h1 c hc
    show (if decide (1 < cN (fun p => decide (F p = c)) n) = true then cN (fun p => decide (F p = c)) n else 0) + 2 ≤ _
    by_cases y : 1 < cN (fun p => decide (F p = c)) n
    · rw [if_pos (by simpa using y)]; omega
    · rw [if_neg (by simpa using y)]; omega)
  omega
theorem cN_pos {p : Nat → Bool} {j : Nat} (h : p j = true) : ∀ {n : Nat}, j < n → 0 < cN p n := by
  intro n
  induction n with
  | zero => intro h; omega
  | succ n ih =>
    intro hj
    unfold cN
    by_cases e : j = n
    · subst e; rw [if_pos h]; omega
    · have := ih (by omega); omega
theorem cN_mono (p : Nat → Bool) {m : Nat} : ∀ {n : Nat}, m ≤ n → cN p m ≤ cN p n := by
  intro n
  induction n with
  | zero => intro h; have : m = 0 := by omega
            subst this; exact Nat.le_refl _
  | succ n ih =>
    intro h
    by_cases e : m = n + 1
    · subst e; exact Nat.le_refl _
    · have z := ih (by omega)
      have y : cN p (n + 1) = cN p n + (if p n = true then 1 else 0) := rfl
      omega
theorem cN_two {p : Nat → Bool} {i j n : Nat} (hi : p i = true) (hj : p j = true) (hij : i < j) (hjn : j < n) : 1 < cN p n := by
  have a := cN_pos hi (n := j) hij
  have b := cN_mono p (m := j + 1) (n := n) (by omega)
  have c : cN p (j + 1) = cN p j + 1 := by show cN p j + _ = _; rw [if_pos hj]
  omega
/-- one more round that gives no more classes parts nothing -/
theorem pt_same {S n parts : Nat} {P Q : Nat → Nat} (h1 : ∀ c, c < parts → ∃ s, s < S ∧ P s = c) (hQ : ∀ s, s < S → Q s < n) (hP : ∀ s, s < S → P s < parts) (hr : ∀ s t, s < S → t < S → Q s = Q t → P s = P t) (hle : n ≤ parts) : ∀ s t, s < S → t < S → P s = P t → Q s = Q t := by
  intro s t hs ht e
  refine Classical.byContradiction (fun hne => ?_)
  obtain ⟨f, hf⟩ : ∃ f : Nat → Nat, ∀ c, c < parts → f c < S ∧ P (f c) = c := ⟨fun c => if h : c < parts then Classical.choose (h1 c h) else 0, fun c hc => by
    show (if h : c < parts then Classical.choose (h1 c h) else 0) < S ∧ P (if h : c < parts then Classical.choose (h1 c h) else 0) = c
    rw [dif_pos hc]; exact Classical.choose_spec (h1 c hc)⟩
  obtain ⟨y, hy, hyP, hyn⟩ : ∃ y, y < S ∧ P y = P s ∧ Q y ≠ Q (f (P s)) := by
    by_cases z : Q s = Q (f (P s))
    · exact ⟨t, ht, e.symm, fun z2 => hne (by rw [z, z2])⟩
    · exact ⟨s, hs, rfl, z⟩
  have hPs := hP s hs
  have key := q_pg (parts + 1) n (fun c => if c < parts then Q (f c) else Q y) (fun c hc => by
    show (if c < parts then Q (f c) else Q y) < n
    split
    · exact hQ _ (hf c (by assumption)).1
    · exact hQ _ hy) (fun c d hc hd e2 => by
    have e2 : (if c < parts then Q (f c) else Q y) = (if d < parts then Q (f d) else Q y) := e2
    have k2 : ∀ c, c < parts → Q (f c) ≠ Q y := fun c hc z => by
      have a := hf c hc
      have b := hr _ _ a.1 hy z
      rw [a.2, hyP] at b
      subst b
      exact hyn z.symm
    split at e2 <;> split at e2
    · have a := hf c (by assumption); have b := hf d (by assumption)
      have := hr _ _ a.1 b.1 e2
      rw [a.2, b.2] at this; exact this
    · exact absurd e2 (k2 c (by assumption))
    · exact absurd e2.symm (k2 d (by assumption))
    · omega)
  omega

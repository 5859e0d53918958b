theorem q_us {α : Type} {f : Nat → α} {k : Nat} {v : α} : va_up f k v k = v := if_pos rfl
theorem q_un {α : Type} {f : Nat → α} {k j : Nat} {v : α} (h : j ≠ k) : va_up f k v j = f j := if_neg h
/-! the walk by breadth: how many, which states, each state's number plus one (0: none), each one's word, whether they fit -/
abbrev wk_T : Type := Nat × (Nat → Nat) × (Nat → Nat) × (Nat → List Nat) × Bool
abbrev w_sz (W : wk_T) : Nat := W.1
abbrev w_ord (W : wk_T) : Nat → Nat := W.2.1
abbrev w_num (W : wk_T) : Nat → Nat := W.2.2.1
abbrev w_wd (W : wk_T) : Nat → List Nat := W.2.2.2.1
abbrev w_ok (W : wk_T) : Bool := W.2.2.2.2
def bf_come (t k i : Nat) (W : wk_T) : wk_T := (w_sz W + 1, va_up (w_ord W) (w_sz W) t, va_up (w_num W) t (w_sz W + 1), va_up (w_wd W) (w_sz W) (w_wd W k ++ [i]), true)
def bf_in (st : Nat → Nat → Nat) (room k i : Nat) (W : wk_T) : wk_T :=
  if w_ok W = true then (if w_num W (st (w_ord W k) i) = 0 then (if room ≤ w_sz W then (w_sz W, w_ord W, w_num W, w_wd W, false) else bf_come (st (w_ord W k) i) k i W) else W) else W
def bf_row (st : Nat → Nat → Nat) (room k : Nat) (W : wk_T) : Nat → wk_T
  | 0 => W
  | i + 1 => bf_in st room k i (bf_row st room k W i)
def bf (st : Nat → Nat → Nat) (I room first : Nat) : Nat → wk_T
  | 0 => (1, fun _ => first, va_up (fun _ => 0) first 1, fun _ => [], true)
  | k + 1 => if k < w_sz (bf st I room first k) then bf_row st room k (bf st I room first k) I else bf st I room first k
theorem bf_row_stop {st : Nat → Nat → Nat} {room k : Nat} {W : wk_T} {i : Nat} (h : w_ok (bf_row st room k W i) = false) : ∀ m, bf_row st room k W (i + m) = bf_row st room k W i := by
  intro m
  induction m with
  | zero => rfl
  | succ m ih =>
    show bf_in st room k (i + m) (bf_row st room k W (i + m)) = _
    rw [ih]
    unfold bf_in
    rw [if_neg (by rw [h]; simp)]
theorem bf_stop {st : Nat → Nat → Nat} {I room first k : Nat} (h : w_sz (bf st I room first k) ≤ k ∨ w_ok (bf st I room first k) = false) : ∀ m, bf st I room first (k + m) = bf st I room first k := by
  intro m
  induction m with
  | zero => rfl
  | succ m ih =>
    show (if k + m < w_sz (bf st I room first (k + m)) then bf_row st room (k + m) (bf st I room first (k + m)) I else bf st I room first (k + m)) = _
    rw [ih]
    split
    · rcases h with h | h
      · omega
      · have z := bf_row_stop (st := st) (room := room) (k := k + m) (W := bf st I room first k) (i := 0) h I
        rw [Nat.zero_add] at z
        exact z
    · rfl
def wk_inv (S I : Nat) (st : Nat → Nat → Nat) (room k i : Nat) (W : wk_T) : Prop :=
  0 < w_sz W ∧ w_sz W ≤ room ∧ (∀ j, j < w_sz W → w_ord W j < S ∧ w_num W (w_ord W j) = j + 1) ∧ (∀ t, w_num W t = 0 ∨ ∃ j, j < w_sz W ∧ w_num W t = j + 1 ∧ w_ord W j = t) ∧ w_wd W 0 = [] ∧ (∀ j, j < w_sz W → 0 < j → ∃ p x, p < j ∧ x < I ∧ w_wd W j = w_wd W p ++ [x]) ∧
  (w_ok W = true → ∀ K x, K < w_sz W → x < I → (K < k ∨ K = k ∧ x < i) → w_num W (st (w_ord W K) x) ≠ 0)
theorem wk_inj {S I : Nat} {st : Nat → Nat → Nat} {room k i : Nat} {W : wk_T} (h : wk_inv S I st room k i W) {j j' : Nat} (hj : j < w_sz W) (hj' : j' < w_sz W) (e : w_ord W j = w_ord W j') : j = j' := by
  have a := (h.2.2.1 j hj).2; have b := (h.2.2.1 j' hj').2
  rw [e, b] at a; omega
theorem wk_le {S I : Nat} {st : Nat → Nat → Nat} {room k i : Nat} {W : wk_T} (h : wk_inv S I st room k i W) : w_sz W ≤ S :=
  q_pg _ _ (w_ord W) (fun j hj => (h.2.2.1 j hj).1) (fun _ _ hj hj' e => wk_inj h hj hj' e)
theorem wk_init {S I : Nat} {st : Nat → Nat → Nat} {room first : Nat} (hf : first < S) (hr : 0 < room) : wk_inv S I st room 0 0 (bf st I room first 0) := by
  refine ⟨Nat.one_pos, hr, fun j hj => ?_, fun t => ?_, rfl, fun j hj hj0 => ?_, fun _ K x hK hx h => absurd h (by omega)⟩
  · have : j = 0 := by have : j < 1 := hj; omega
    subst this
    exact ⟨hf, q_us (f := fun _ => 0) (k := first) (v := 1)⟩
  · show va_up (fun _ => 0) first 1 t = 0 ∨ ∃ j, j < 1 ∧ va_up (fun _ => 0) first 1 t = j + 1 ∧ first = t
    by_cases e : t = first
    · subst e; exact Or.inr ⟨0, Nat.one_pos, q_us, rfl⟩
    · exact Or.inl (q_un e)
  · have : j < 1 := hj
    omega
theorem wk_come {S I : Nat} {st : Nat → Nat → Nat} {room k i : Nat} {W : wk_T} (h : wk_inv S I st room k i W) (hk : k < w_sz W) (hi : i < I) (hok : w_ok W = true) (hst : st (w_ord W k) i < S) (h0 : w_num W (st (w_ord W k) i) = 0) (hr : w_sz W < room) : wk_inv S I st room k (i + 1) (bf_come (st (w_ord W k) i) k i W) := by
  obtain ⟨h1, h2, h3, h4, h5, h6, h7⟩ := h
  have hne : ∀ j, j < w_sz W → w_ord W j ≠ st (w_ord W k) i := fun j hj e => by
    have := (h3 j hj).2; rw [e, h0] at this; omega
  refine ⟨Nat.succ_pos _, hr, fun j hj => ?_, fun t => ?_, ?_, fun j hj hj0 => ?_, fun _ K x hK hx hp => ?_⟩
  · show va_up (w_ord W) (w_sz W) (st (w_ord W k) i) j < S ∧ va_up (w_num W) (st (w_ord W k) i) (w_sz W + 1) (va_up (w_ord W) (w_sz W) (st (w_ord W k) i) j) = j + 1
    by_cases e : j = w_sz W
    · subst e; rw [q_us, q_us]; exact ⟨hst, rfl⟩
    · have hj' : j < w_sz W := by have : j < w_sz W + 1 := hj; omega
      rw [q_un e, q_un (hne j hj')]; exact h3 j hj'
  · show va_up (w_num W) (st (w_ord W k) i) (w_sz W + 1) t = 0 ∨ ∃ j, j < w_sz W + 1 ∧ va_up (w_num W) (st (w_ord W k) i) (w_sz W + 1) t = j + 1 ∧ va_up (w_ord W) (w_sz W) (st (w_ord W k) i) j = t
    by_cases e : t = st (w_ord W k) i
    · rw [e]; exact Or.inr ⟨w_sz W, by omega, q_us, q_us⟩
    · rw [q_un e]
      rcases h4 t with z | ⟨j, z1, z2, z3⟩
      · exact Or.inl z
      · exact Or.inr ⟨j, by omega, z2, by rw [q_un (by omega)]; exact z3⟩
  · show va_up (w_wd W) (w_sz W) (w_wd W k ++ [i]) 0 = []
    rw [q_un (by omega)]; exact h5
  · show ∃ p x, p < j ∧ x < I ∧ va_up (w_wd W) (w_sz W) (w_wd W k ++ [i]) j = va_up (w_wd W) (w_sz W) (w_wd W k ++ [i]) p ++ [x]
    by_cases e : j = w_sz W
    · subst e; exact ⟨k, i, hk, hi, by rw [q_us, q_un (by omega)]⟩
    · have hj' : j < w_sz W := by have : j < w_sz W + 1 := hj; omega
      obtain ⟨p, x, a, b, c⟩ := h6 j hj' hj0
      exact ⟨p, x, a, b, by rw [q_un e, q_un (by omega)]; exact c⟩
  · show va_up (w_num W) (st (w_ord W k) i) (w_sz W + 1) (st (va_up (w_ord W) (w_sz W) (st (w_ord W k) i) K) x) ≠ 0
    rw [q_un (f := w_ord W) (k := w_sz W) (j := K) (by omega)]
    by_cases e : st (w_ord W K) x = st (w_ord W k) i
    · rw [e, q_us]; exact Nat.succ_ne_zero _
    · rw [q_un e]
      refine h7 hok K x (by omega) hx ?_
      rcases hp with z | ⟨z1, z2⟩
      · exact Or.inl z
      · subst z1
        by_cases e2 : x = i
        · subst e2; exact absurd rfl e
        · exact Or.inr ⟨rfl, by omega⟩
theorem wk_stay {S I : Nat} {st : Nat → Nat → Nat} {room k i : Nat} {W : wk_T} (h : wk_inv S I st room k i W) (h0 : w_num W (st (w_ord W k) i) ≠ 0) : wk_inv S I st room k (i + 1) W := by
  obtain ⟨h1, h2, h3, h4, h5, h6, h7⟩ := h
  refine ⟨h1, h2, h3, h4, h5, h6, fun hok K x hK hx hp => ?_⟩
  by_cases e : K = k ∧ x = i
  · obtain ⟨rfl, rfl⟩ := e; exact h0
  · exact h7 hok K x hK hx (by omega)
theorem wk_next {S I : Nat} {st : Nat → Nat → Nat} {room k : Nat} {W : wk_T} (h : wk_inv S I st room k I W) : wk_inv S I st room (k + 1) 0 W := by
  obtain ⟨h1, h2, h3, h4, h5, h6, h7⟩ := h
  exact ⟨h1, h2, h3, h4, h5, h6, fun hok K x hK hx hp => h7 hok K x hK hx (by omega)⟩
theorem wk_off {S I : Nat} {st : Nat → Nat → Nat} {room k i k' i' : Nat} {W W' : wk_T} (h : wk_inv S I st room k i W) (e : W' = (w_sz W, w_ord W, w_num W, w_wd W, false)) : wk_inv S I st room k' i' W' := by
  obtain ⟨h1, h2, h3, h4, h5, h6, h7⟩ := h
  subst e
  exact ⟨h1, h2, h3, h4, h5, h6, fun hok => by simp at hok⟩
/-- a state's number as the rows hold it -/
def w_enc (n : Nat) : Int32 := if n = 0 then -1 else nI (n - 1)
theorem w_enc0 : w_enc 0 = -1 := rfl
theorem w_enc1 (n : Nat) : w_enc (n + 1) = nI n := by unfold w_enc; rw [if_neg (Nat.succ_ne_zero _)]; rfl
/-- what the rows hold of the walk -/
def wa_rep (S : Nat) (W : wk_T) (back order numberOf : Nat → Int32) : Prop :=
  tr_ok (w_sz W) back (w_wd W) ∧ (∀ j, j < w_sz W → order j = nI (w_ord W j)) ∧ ∀ t, t < S → numberOf t = w_enc (w_num W t)
/-- what the rows of the reference hold of the walk -/
def wm_rep (W : wk_T) (state fro by' depth number : Nat → Int32) : Prop :=
  (∀ j, j < w_sz W → state j = nI (w_ord W j) ∧ depth j = nI (w_wd W j).length ∧ (w_wd W j = [] ∨ ∃ p x, p < j ∧ x < 4 ∧ fro j = nI p ∧ by' j = nI x ∧ w_wd W j = w_wd W p ++ [x])) ∧ ∀ t, t < 4096 → number t = w_enc (w_num W t)

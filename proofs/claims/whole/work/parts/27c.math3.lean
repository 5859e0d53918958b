/-! PURE 3: joined sets (a forest f on S states with path halving) -/
/-- c: the root of each; rk: grows along f, at most m -/
def uf_ok (S m : Nat) (f : Nat → Nat) (c rk : Nat → Nat) : Prop :=
  (∀ x, x < S → f x < S) ∧ (∀ x, x < S → c x < S) ∧ (∀ x, x < S → c (f x) = c x) ∧ (∀ x, x < S → f (c x) = c x) ∧ (∀ x, x < S → f x = x → c x = x) ∧ (∀ x, x < S → f x ≠ x → rk x < rk (f x)) ∧ (∀ x, x < S → rk x ≤ m)
theorem uf_init (S : Nat) (f : Nat → Nat) (h : ∀ x, x < S → f x = x) : uf_ok S 0 f (fun x => x) (fun _ => 0) :=
  ⟨fun x hx => by rw [h x hx]; exact hx, fun x hx => hx, fun x hx => h x hx, fun x hx => h x hx, fun _ _ _ => rfl, fun x hx hn => absurd (h x hx) hn, fun _ _ => Nat.le_refl _⟩
theorem uf_half {S m : Nat} {f f' c rk : Nat → Nat} (h : uf_ok S m f c rk) {a : Nat} (ha : a < S) (h1 : f' a = f (f a)) (h2 : ∀ x, x ≠ a → f' x = f x) : uf_ok S m f' c rk := by
  obtain ⟨q1, q2, q3, q4, q5, q6, q7⟩ := h
  have hfa := q1 a ha
  have key : ∀ x, f' x = f x ∨ (x = a ∧ f' x = f (f x)) := fun x => by
    rcases Nat.decEq x a with hx | hx
    · exact Or.inl (h2 x hx)
    · subst hx; exact Or.inr ⟨rfl, h1⟩
  refine ⟨fun x hx => ?_, q2, fun x hx => ?_, fun x hx => ?_, fun x hx hn => ?_, fun x hx hn => ?_, q7⟩
  · rcases key x with e | ⟨rfl, e⟩
    · rw [e]; exact q1 x hx
    · rw [e]; exact q1 _ hfa
  · rcases key x with e | ⟨rfl, e⟩
    · rw [e]; exact q3 x hx
    · rw [e, q3 _ hfa, q3 _ hx]
  · rcases key (c x) with e | ⟨e0, e⟩
    · rw [e]; exact q4 x hx
    · rw [e, q4 x hx, q4 x hx]
  · rcases key x with e | ⟨rfl, e⟩
    · rw [e] at hn; exact q5 x hx hn
    · rw [e] at hn
      rcases Nat.decEq (f x) x with hz | hz
      · have r1 := q6 x hx hz
        rcases Nat.decEq (f (f x)) (f x) with hy | hy
        · have r2 := q6 (f x) hfa hy
          rw [hn] at r2
          omega
        · rw [hy] at hn; exact absurd hn hz
      · exact q5 x hx hz
  · rcases key x with e | ⟨rfl, e⟩
    · rw [e] at hn ⊢; exact q6 x hx hn
    · rw [e] at hn ⊢
      rcases Nat.decEq (f x) x with hz | hz
      · have r1 := q6 x hx hz
        rcases Nat.decEq (f (f x)) (f x) with hy | hy
        · exact Nat.lt_trans r1 (q6 (f x) hfa hy)
        · rw [hy]; exact r1
      · rw [hz, hz] at hn; exact absurd rfl hn
/-- two roots are joined -/
theorem uf_join {S m : Nat} {f f' c rk : Nat → Nat} (h : uf_ok S m f c rk) {r q : Nat} (hr : r < S) (hq : q < S) (er : f r = r) (eq : f q = q) (hne : r ≠ q) (h1 : f' r = q) (h2 : ∀ x, x ≠ r → f' x = f x) :
    uf_ok S (m + 1) f' (fun x => if c x = r then q else c x) (fun x => if x = q then (if rk r < rk q then rk q else rk r + 1) else rk x) := by
  obtain ⟨q1, q2, q3, q4, q5, q6, q7⟩ := h
  have cr : c r = r := q5 r hr er
  have cq : c q = q := q5 q hq eq
  have key : ∀ x, (x ≠ r ∧ f' x = f x) ∨ (x = r ∧ f' x = q) := fun x => by
    rcases Nat.decEq x r with hx | hx
    · exact Or.inl ⟨hx, h2 x hx⟩
    · subst hx; exact Or.inr ⟨rfl, h1⟩
  have hqr : q ≠ r := fun e => hne e.symm
  refine ⟨fun x hx => ?_, fun x hx => ?_, fun x hx => ?_, fun x hx => ?_, fun x hx hn => ?_, fun x hx hn => ?_, fun x hx => ?_⟩
  · rcases key x with ⟨_, e⟩ | ⟨_, e⟩
    · rw [e]; exact q1 x hx
    · rw [e]; exact hq
  · show (if c x = r then q else c x) < S
    split
    · exact hq
    · exact q2 x hx
  · show (if c (f' x) = r then q else c (f' x)) = (if c x = r then q else c x)
    rcases key x with ⟨_, e⟩ | ⟨rfl, e⟩
    · rw [e, q3 x hx]
    · rw [e, cq, cr, if_neg hqr, if_pos rfl]
  · show f' (if c x = r then q else c x) = (if c x = r then q else c x)
    by_cases hc : c x = r
    · rw [if_pos hc, h2 q hqr, eq]
    · rw [if_neg hc, h2 _ hc]; exact q4 x hx
  · show (if c x = r then q else c x) = x
    rcases key x with ⟨hxr, e⟩ | ⟨rfl, e⟩
    · rw [e] at hn
      rw [q5 x hx hn, if_neg hxr]
    · rw [e] at hn; exact absurd hn hqr
  · show (if x = q then (if rk r < rk q then rk q else rk r + 1) else rk x) < (if f' x = q then (if rk r < rk q then rk q else rk r + 1) else rk (f' x))
    rcases key x with ⟨hxr, e⟩ | ⟨rfl, e⟩
    · rw [e] at hn ⊢
      have hxq : x ≠ q := fun z => by subst z; exact hn eq
      rw [if_neg hxq]
      have z := q6 x hx hn
      by_cases hf : f x = q
      · rw [if_pos hf]; rw [hf] at z; split <;> omega
      · rw [if_neg hf]; exact z
    · rw [e, if_pos rfl, if_neg hne]; split <;> omega
  · show (if x = q then (if rk r < rk q then rk q else rk r + 1) else rk x) ≤ m + 1
    have z1 := q7 x hx
    have z2 := q7 r hr
    have z3 := q7 q hq
    split
    · split <;> omega
    · omega
/-- what is constant on the kept pairs is constant on the sets -/
def uf_cl (S size : Nat) (L R c : Nat → Nat) : Prop := ∀ g : Nat → Nat, (∀ j, j < size → g (L j) = g (R j)) → ∀ x, x < S → g (c x) = g x
theorem uf_cl_join {S size a b r q : Nat} {L R L' R' c : Nat → Nat} (h : uf_cl S size L R c) (ha : a < S) (hb : b < S) (er : c a = r) (eq : c b = q) (hL : ∀ j, j < size → L' j = L j) (hR : ∀ j, j < size → R' j = R j) (hLn : L' size = a) (hRn : R' size = b) :
    uf_cl S (size + 1) L' R' (fun x => if c x = r then q else c x) := by
  intro g hg x hx
  have hg' : ∀ j, j < size → g (L j) = g (R j) := fun j hj => by rw [← hL j hj, ← hR j hj]; exact hg j (by omega)
  have e1 := h g hg' a ha
  have e2 := h g hg' b hb
  have e3 : g a = g b := by have z := hg size (by omega); rwa [hLn, hRn] at z
  show g (if c x = r then q else c x) = g x
  by_cases hc : c x = r
  · rw [if_pos hc, ← h g hg' x hx, hc, ← eq, e2, ← e3, ← e1, er]
  · rw [if_neg hc]; exact h g hg' x hx

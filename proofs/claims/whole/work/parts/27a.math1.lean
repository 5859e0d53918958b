/-! PURE 1: machines: alike by rounds, words -/
section PM
variable (I : Nat) (st out : Nat → Nat → Nat)
/-- alike as far as r rounds tell -/
def pm_E : Nat → Nat → Nat → Prop
  | 0, _, _ => True
  | 1, s, t => ∀ i, i < I → out s i = out t i
  | r + 2, s, t => pm_E (r + 1) s t ∧ ∀ i, i < I → pm_E (r + 1) (st s i) (st t i)
/-- what a word's last letter gives -/
def pm_v : List Nat → Nat → Nat
  | [], _ => 0
  | [i], s => out s i
  | i :: j :: w, s => pm_v (j :: w) (st s i)
/-- where a word leads -/
def pm_go : List Nat → Nat → Nat
  | [], s => s
  | i :: w, s => pm_go w (st s i)
end PM
theorem pm_E_mono {I : Nat} {st out : Nat → Nat → Nat} {r s t : Nat} (h : pm_E I st out (r + 1) s t) : pm_E I st out r s t := by
  cases r with
  | zero => trivial
  | succ r => exact h.1
theorem pm_E_le {I : Nat} {st out : Nat → Nat → Nat} {s t : Nat} : ∀ {r q : Nat}, q ≤ r → pm_E I st out r s t → pm_E I st out q s t := by
  intro r
  induction r with
  | zero => intro q hq h; cases (Nat.le_zero.mp hq); exact h
  | succ r ih =>
    intro q hq h
    rcases Nat.lt_or_ge q (r + 1) with z | z
    · exact ih (by omega) (pm_E_mono h)
    · rw [show q = r + 1 by omega]; exact h
theorem pm_E_refl (I : Nat) (st out : Nat → Nat → Nat) : ∀ (r s : Nat), pm_E I st out r s s := by
  intro r
  induction r with
  | zero => intro s; trivial
  | succ r ih =>
    intro s
    cases r with
    | zero => intro i _; rfl
    | succ r => exact ⟨ih s, fun i _ => ih _⟩
theorem pm_E_symm {I : Nat} {st out : Nat → Nat → Nat} : ∀ {r s t : Nat}, pm_E I st out r s t → pm_E I st out r t s := by
  intro r
  induction r with
  | zero => intro s t h; trivial
  | succ r ih =>
    intro s t h
    cases r with
    | zero => intro i hi; exact (h i hi).symm
    | succ r => exact ⟨ih h.1, fun i hi => ih (h.2 i hi)⟩
theorem pm_E_trans {I : Nat} {st out : Nat → Nat → Nat} : ∀ {r s t u : Nat}, pm_E I st out r s t → pm_E I st out r t u → pm_E I st out r s u := by
  intro r
  induction r with
  | zero => intro s t u _ _; trivial
  | succ r ih =>
    intro s t u h1 h2
    cases r with
    | zero => intro i hi; exact (h1 i hi).trans (h2 i hi)
    | succ r => exact ⟨ih h1.1 h2.1, fun i hi => ih (h1.2 i hi) (h2.2 i hi)⟩
/-- rounds and words say the same -/
theorem pm_E_words {I : Nat} {st out : Nat → Nat → Nat} : ∀ {r s t : Nat}, pm_E I st out r s t ↔ ∀ w : List Nat, w ≠ [] → w.length ≤ r → (∀ i ∈ w, i < I) → pm_v st out w s = pm_v st out w t := by
  intro r
  induction r with
  | zero =>
    intro s t
    refine ⟨fun _ w h1 h2 => ?_, fun _ => trivial⟩
    cases w with
    | nil => exact absurd rfl h1
    | cons i w => simp at h2
  | succ r ih =>
    intro s t
    constructor
    · intro h w h1 h2 h3
      cases w with
      | nil => exact absurd rfl h1
      | cons i w =>
        have hi : i < I := h3 i (List.mem_cons_self ..)
        cases w with
        | nil =>
          have h9 : pm_E I st out 1 s t := pm_E_le (by omega) h
          exact h9 i hi
        | cons j w =>
          cases r with
          | zero => simp at h2
          | succ r => exact (ih.mp (h.2 i hi)) (j :: w) (by simp) (by simp at h2 ⊢; omega) (fun k hk => h3 k (List.mem_cons_of_mem _ hk))
    · intro h
      cases r with
      | zero => intro i hi; exact h [i] (by simp) (by simp) (by simpa using hi)
      | succ r =>
        refine ⟨ih.mpr (fun w h1 h2 h3 => h w h1 (by omega) h3), fun i hi => ih.mpr (fun w h1 h2 h3 => ?_)⟩
        cases w with
        | nil => exact absurd rfl h1
        | cons j w => exact h (i :: j :: w) (by simp) (by simp at h2 ⊢; omega) (fun k hk => by
            rcases List.mem_cons.mp hk with rfl | hk
            · exact hi
            · exact h3 k hk)
/-- once a round parts nothing more, none does -/
theorem pm_E_stable {I S r : Nat} {st out : Nat → Nat → Nat} (hst : ∀ s i, s < S → i < I → st s i < S) (hr : 0 < r) (h : ∀ s t, s < S → t < S → pm_E I st out r s t → pm_E I st out (r + 1) s t) :
    ∀ k s t, s < S → t < S → pm_E I st out r s t → pm_E I st out (r + k) s t := by
  intro k
  induction k with
  | zero => intro s t _ _ e; exact e
  | succ k ih =>
    intro s t hs ht e
    have e1 := ih s t hs ht e
    have e2 := h s t hs ht e
    obtain ⟨q, rfl⟩ : ∃ q, r = q + 1 := ⟨r - 1, by omega⟩
    show pm_E I st out (q + 1 + k + 1) s t
    rw [show q + 1 + k + 1 = (q + k) + 2 by omega]
    rw [show q + 1 + k = q + k + 1 by omega] at e1
    refine ⟨e1, fun i hi => ?_⟩
    have e3 := ih (st s i) (st t i) (hst s i hs hi) (hst t i ht hi) (e2.2 i hi)
    rw [show q + 1 + k = q + k + 1 by omega] at e3
    exact e3

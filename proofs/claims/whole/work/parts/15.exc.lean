/-! OWN KIT, part 4: methods that throw -/
/-- nothing old has changed -/
theorem kx_keep {s t : State} {k n : Nat} (h : s.sameButNew t [] k n) {a : Nat} {cell : Cell} (hc : s.heap[a]? = some cell) : t.heap[a]? = some cell := by
  obtain ⟨c', h1, h2, -, h4⟩ := h.2.2.2.2.2 a cell hc
  have hs : c'.slots = cell.slots := Array.ext_getElem? (fun i => h4 i (by simp))
  rw [h1, h2, hs]
theorem kx_keepB {s t : State} {k n : Nat} (h : s.sameButNew t [] k n) {q : Nat} (hq : q < s.heap.size) : t.heap[q]? = s.heap[q]? := by
  rw [kx_keep h (Array.getElem?_eq_getElem hq), Array.getElem?_eq_getElem hq]
/-- the start of the law, as far as a throw asks for it: everything that was there is there as it was, the tables are warmer -/
def kx_S (s0 U : State) : Prop := s0.WarmedH U.vm ∧ s0.heap.size ≤ U.heap.size ∧ ∀ q : Nat, q < s0.heap.size → U.heap[q]? = s0.heap[q]?
def kx_ok : Cond → Bool
  | .castable .. => true
  | .declares _ => true
  | .laysStatic .. => true
  | .isRef (.static ..) => true
  | w => goodWord w
theorem kx_heap {u U : State} (hv : u.vm = U.vm) (hH : ∀ q : Nat, q < u.heap.size → U.heap[q]? = u.heap[q]?) {a : Nat} {cell : Cell} (h : u.heap[a]? = some cell) : U.heap[a]? = some cell := by
  rw [hH a (Array.getElem?_eq_some_iff.mp h).1]; exact h
theorem kx_lays {C n d : String} {a a' : Array Value} {u U : State} (hv : u.vm = U.vm) (hH : ∀ q : Nat, q < u.heap.size → U.heap[q]? = u.heap[q]?) (h : (Cond.laysStatic C n d).before a u = true) : (Cond.laysStatic C n d).before a' U = true := by
  obtain ⟨c, k, i, f, b, cell, h1, h2, h3, h4, h5, h6, h7, h8, h9⟩ := Cond.laysStatic_spec h
  have h5' := kx_heap hv hH h5
  have h2' : U.fieldFound? C n d = some (c, k, i, f) := by
    have : U.fieldFound? C n d = u.fieldFound? C n d := by unfold State.fieldFound?; rw [hv]
    rw [this]; exact h2
  rw [hv] at h1
  simp [Cond.before, Cond.holds, Cond.value, h1, h2', h4, h5', h3, h6, h7, h8, h9]
theorem kx_evS {C n d : String} {a a' : Array Value} {u U : State} {v : Value} (hv : u.vm = U.vm) (hH : ∀ q : Nat, q < u.heap.size → U.heap[q]? = u.heap[q]?) (h : (Term.static C n d).eval a u none [] u = some v) : (Term.static C n d).eval a' U none [] U = some v := by
  have hn : ∀ b, U.fieldNamed? C n d b = u.fieldNamed? C n d b := by intro b; unfold State.fieldNamed? State.fieldFound?; rw [hv]
  simp only [Term.eval] at h ⊢
  rw [hn]
  cases hf : u.fieldNamed? C n d true with
  | none => simp [hf] at h
  | some x =>
    simp only [hf, Option.bind_eq_bind, Option.bind_some] at h ⊢
    cases hs : x.2.1.statics with
    | none => simp [hs] at h
    | some b =>
      simp only [hs, Option.bind_some] at h ⊢
      cases hc : u.heap[b]? with
      | none => simp [hc] at h
      | some cell =>
        rw [kx_heap hv hH hc]
        rw [hc] at h
        exact h
theorem kx_isRef {C n d : String} {a a' : Array Value} {u U : State} (hv : u.vm = U.vm) (hH : ∀ q : Nat, q < u.heap.size → U.heap[q]? = u.heap[q]?) (h : (Cond.isRef (.static C n d)).before a u = true) : (Cond.isRef (.static C n d)).before a' U = true := by
  cases hf : (Term.static C n d).eval a u none [] u with
  | none => simp [Cond.before, Cond.holds, Cond.value, hf] at h
  | some v =>
    have h1 := kx_evS (a' := a') hv hH hf
    simp only [Cond.before, Cond.holds, Cond.value, hf] at h
    simp only [Cond.before, Cond.holds, Cond.value, h1]
    exact h
theorem kx_move {w : Cond} {s0 U : State} {a0 a' : Array Value} (hS : kx_S s0 U) (hw : kx_ok w = true) (h : w.before a0 s0 = true) : w.before a' U = true := by
  have hg : goodWord w = true → w.before a' U = true := fun hg => word_at hS.1 (good_of_word hg) h
  have hk : ∀ c : Cond, c.keeps = true → c.before a0 s0 = true → c.before a0 (s0.setVm U.vm) = true := fun c hk h => Cond.holds_shifted (State.Shifted.of_warmed hS.1) c [] hk h
  cases w with
  | castable C T => exact va_Nw.use rfl (va_Nw.warmC hS.1 (va_Nw.of rfl h))
  | declares x => exact va_Nw.use rfl (va_Nw.warmD hS.1 (va_Nw.of rfl h))
  | laysStatic C n d => exact kx_lays (u := s0.setVm U.vm) (U := U) rfl hS.2.2 (hk _ rfl h)
  | isRef t =>
    cases t with
    | static C n d => exact kx_isRef (u := s0.setVm U.vm) (U := U) rfl hS.2.2 (hk _ rfl h)
    | _ => exact hg hw
  | _ => exact hg hw


theorem q_m1 {k : Nat} (h : k < 2 ^ 31) : ¬ nI k = (-1 : Int32) := fun e => by
  have := congrArg Int32.toInt e
  rw [nI_toInt h] at this
  have z : (-1 : Int32).toInt = -1 := by decide
  omega
theorem q_m1' {k : Nat} (h : k < 2 ^ 31) : ¬ (-1 : Int32) = nI k := fun e => q_m1 h e.symm
/-- the letter at place i of a word, or NONE -/
def q_pl (w : List Nat) (i : Nat) : Int32 := match w[i]? with
  | some x => nI x
  | none => -1
theorem q_pl_none {w : List Nat} {i : Nat} (h : w.length ≤ i) : q_pl w i = -1 := by
  unfold q_pl; rw [List.getElem?_eq_none h]
theorem q_pl_last {w : List Nat} {x : Nat} : q_pl (w ++ [x]) w.length = nI x := by
  unfold q_pl; rw [List.getElem?_append_right (Nat.le_refl _)]; simp
theorem q_pl_app {w : List Nat} {x i : Nat} (h : i < w.length) : q_pl (w ++ [x]) i = q_pl w i := by
  unfold q_pl; rw [List.getElem?_append_left h]
theorem q_sub2 {a b : Nat} (ha : a < 2 ^ 30) (hb : b < 2 ^ 31) : (nI a - 1 - nI b).toInt = (a : Int) - 1 - b := by
  have h1 : (nI a - 1).toInt = (a : Int) - 1 := by
    rw [Int32.toInt_sub, nI_toInt (by omega)]
    show Int.bmod ((a : Int) - 1) (2 ^ 32) = _
    rw [Int.bmod_def]; split <;> omega
  rw [Int32.toInt_sub, h1, nI_toInt hb]
  rw [Int.bmod_def]; split <;> omega
theorem q_ext {x y : Int32} (h : x.toInt = y.toInt) : x = y := Int32.toInt_inj.mp h
theorem q_pg : ∀ (n m : Nat) (f : Nat → Nat), (∀ i, i < n → f i < m) → (∀ i j, i < n → j < n → f i = f j → i = j) → n ≤ m := by
  intro n
  induction n with
  | zero => intro m f _ _; exact Nat.zero_le _
  | succ n ih =>
    intro m f h1 h2
    have hm : 0 < m := Nat.lt_of_le_of_lt (Nat.zero_le _) (h1 0 (by omega))
    have key := ih (m - 1) (fun i => if f i < f n then f i else f i - 1) (fun i hi => by
      have a := h1 i (by omega); have b := h1 n (by omega)
      have c : f i ≠ f n := fun e => by have := h2 i n (by omega) (by omega) e; omega
      show (if f i < f n then f i else f i - 1) < m - 1
      split <;> omega) (fun i j hi hj e => by
      have c : f i ≠ f n := fun e => by have := h2 i n (by omega) (by omega) e; omega
      have d : f j ≠ f n := fun e => by have := h2 j n (by omega) (by omega) e; omega
      apply h2 i j (by omega) (by omega)
      have e : (if f i < f n then f i else f i - 1) = (if f j < f n then f j else f j - 1) := e
      split at e <;> split at e <;> omega)
    omega

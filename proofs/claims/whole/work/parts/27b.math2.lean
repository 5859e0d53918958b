/-! PURE 2: words as numbers, shortest and first -/
def pm_app : Nat → List Nat → Nat
  | c, [] => c
  | c, i :: w => pm_app (4 * c + i + 1) w
theorem pm_app_snoc : ∀ (w : List Nat) (c i : Nat), pm_app c (w ++ [i]) = 4 * pm_app c w + i + 1 := by
  intro w
  induction w with
  | nil => intro c i; rfl
  | cons j w ih => intro c i; exact ih _ _
theorem pm_app_ge : ∀ (w : List Nat) (c : Nat), c ≤ pm_app c w := by
  intro w
  induction w with
  | nil => intro c; exact Nat.le_refl _
  | cons j w ih => intro c; exact Nat.le_trans (by omega) (ih _)
theorem pm_app_gt {w : List Nat} (h : w ≠ []) (c : Nat) : c < pm_app c w := by
  cases w with
  | nil => exact absurd rfl h
  | cons j w => exact Nat.lt_of_lt_of_le (by omega) (pm_app_ge w _)
theorem pm_app_mono : ∀ (w : List Nat) {c d : Nat}, c ≤ d → pm_app c w ≤ pm_app d w := by
  intro w
  induction w with
  | nil => intro c d h; exact h
  | cons j w ih => intro c d h; exact ih (by omega)
theorem pm_app_lo : ∀ (w : List Nat) (c : Nat), (3 * c + 1) * 4 ^ w.length ≤ 3 * pm_app c w + 1 := by
  intro w
  induction w with
  | nil => intro c; simp [pm_app]
  | cons j w ih =>
    intro c
    have h := ih (4 * c + j + 1)
    have e : (3 * c + 1) * 4 ^ (j :: w).length = (12 * c + 4) * 4 ^ w.length := by
      rw [List.length_cons, Nat.pow_succ, show 12 * c + 4 = (3 * c + 1) * 4 by omega, Nat.mul_assoc, Nat.mul_comm 4]
    rw [e]
    exact Nat.le_trans (Nat.mul_le_mul_right _ (by omega)) h
theorem pm_app_hi : ∀ (w : List Nat) (c : Nat), (∀ i ∈ w, i < 4) → 3 * pm_app c w + 4 ≤ (3 * c + 4) * 4 ^ w.length := by
  intro w
  induction w with
  | nil => intro c _; simp [pm_app]
  | cons j w ih =>
    intro c hw
    have hj := hw j (List.mem_cons_self ..)
    have h := ih (4 * c + j + 1) (fun i hi => hw i (List.mem_cons_of_mem _ hi))
    have e : (3 * c + 4) * 4 ^ (j :: w).length = (12 * c + 16) * 4 ^ w.length := by
      rw [List.length_cons, Nat.pow_succ, show 12 * c + 16 = (3 * c + 4) * 4 by omega, Nat.mul_assoc, Nat.mul_comm 4]
    rw [e]
    exact Nat.le_trans h (Nat.mul_le_mul_right _ (by omega))
theorem pm_app_len {u v : List Nat} {c : Nat} (hu : ∀ i ∈ u, i < 4) (h : u.length < v.length) : pm_app c u < pm_app c v := by
  have h1 := pm_app_hi u c hu
  have h2 := pm_app_lo v c
  have h3 : (3 * c + 1) * 4 ^ (u.length + 1) ≤ (3 * c + 1) * 4 ^ v.length := Nat.mul_le_mul_left _ (Nat.pow_le_pow_right (by omega) h)
  have e : (3 * c + 1) * 4 ^ (u.length + 1) = (12 * c + 4) * 4 ^ u.length := by
    rw [Nat.pow_succ, show 12 * c + 4 = (3 * c + 1) * 4 by omega, Nat.mul_assoc, Nat.mul_comm 4]
  have h4 : (3 * c + 4) * 4 ^ u.length ≤ (12 * c + 4) * 4 ^ u.length := Nat.mul_le_mul_right _ (by omega)
  omega
theorem pm_app_lex {u v : List Nat} {c d : Nat} (hu : ∀ i ∈ u, i < 4) (h : u.length = v.length) (hc : c < d) : pm_app c u < pm_app d v := by
  have h1 := pm_app_hi u c hu
  have h2 := pm_app_lo v d
  rw [h] at h1
  have h3 : (3 * c + 4) * 4 ^ v.length ≤ (3 * d + 1) * 4 ^ v.length := Nat.mul_le_mul_right _ (by omega)
  omega
section PMw
variable {I : Nat} {st out : Nat → Nat → Nat}
def pm_ok (I : Nat) (w : List Nat) : Prop := w ≠ [] ∧ ∀ i ∈ w, i < I
def pm_Min (I : Nat) (st out : Nat → Nat → Nat) (c : Nat) (w : List Nat) (s t : Nat) : Prop :=
  pm_ok I w ∧ pm_v st out w s ≠ pm_v st out w t ∧ ∀ v, pm_ok I v → pm_v st out v s ≠ pm_v st out v t → pm_app c w ≤ pm_app c v
/-- n is the length of a shortest word that tells s and t apart -/
def pm_D (I : Nat) (st out : Nat → Nat → Nat) (s t n : Nat) : Prop := 0 < n ∧ ¬ pm_E I st out n s t ∧ pm_E I st out (n - 1) s t
theorem pm_D_uniq {s t n m : Nat} (h1 : pm_D I st out s t n) (h2 : pm_D I st out s t m) : n = m := by
  obtain ⟨a1, a2, a3⟩ := h1
  obtain ⟨b1, b2, b3⟩ := h2
  rcases Nat.lt_trichotomy n m with h | h | h
  · exact absurd (pm_E_le (show n ≤ m - 1 by omega) b3) a2
  · exact h
  · exact absurd (pm_E_le (show m ≤ n - 1 by omega) a3) b2
theorem pm_Min_D (hI : I ≤ 4) {c s t : Nat} {w : List Nat} (h : pm_Min I st out c w s t) : pm_D I st out s t w.length := by
  obtain ⟨⟨h0, h1⟩, h2, h3⟩ := h
  have hl : 0 < w.length := List.length_pos_iff.mpr h0
  refine ⟨hl, fun e => h2 (pm_E_words.mp e w h0 (Nat.le_refl _) h1), pm_E_words.mpr (fun v v0 v1 v2 => ?_)⟩
  rcases Nat.decEq (pm_v st out v s) (pm_v st out v t) with hd | hd
  · have z := h3 v ⟨v0, v2⟩ hd
    have z2 := pm_app_len (c := c) (u := v) (v := w) (fun i hi => Nat.lt_of_lt_of_le (v2 i hi) hI) (by omega)
    omega
  · exact hd
theorem pm_v_cons {i : Nat} {w : List Nat} (hw : w ≠ []) (s : Nat) : pm_v st out (i :: w) s = pm_v st out w (st s i) := by
  cases w with
  | nil => exact absurd rfl hw
  | cons j w => rfl
theorem pm_Min_tail {c i s t : Nat} {w : List Nat} (hw : w ≠ []) (h : pm_Min I st out c (i :: w) s t) : pm_Min I st out (4 * c + i + 1) w (st s i) (st t i) := by
  obtain ⟨⟨h0, h1⟩, h2, h3⟩ := h
  refine ⟨⟨hw, fun k hk => h1 k (List.mem_cons_of_mem _ hk)⟩, by rwa [pm_v_cons hw, pm_v_cons hw] at h2, fun v hv hd => ?_⟩
  exact h3 (i :: v) ⟨by simp, fun k hk => by
    rcases List.mem_cons.mp hk with rfl | hk
    · exact h1 k (List.mem_cons_self ..)
    · exact hv.2 k hk⟩ (by rw [pm_v_cons hv.1, pm_v_cons hv.1]; exact hd)
theorem pm_D_word {s t n : Nat} (h : pm_D I st out s t n) : ∃ w, pm_ok I w ∧ w.length = n ∧ pm_v st out w s ≠ pm_v st out w t := by
  obtain ⟨h0, h1, h2⟩ := h
  refine Classical.byContradiction (fun hn => h1 (pm_E_words.mpr (fun w w0 w1 w2 => ?_)))
  rcases Nat.lt_or_ge w.length n with hl | hl
  · exact pm_E_words.mp h2 w w0 (by omega) w2
  · rcases Nat.decEq (pm_v st out w s) (pm_v st out w t) with hd | hd
    · exact absurd ⟨w, ⟨w0, w2⟩, by omega, hd⟩ hn
    · exact hd
/-- the first letter is the first that serves -/
theorem pm_Min_head (hI : I ≤ 4) {c i s t : Nat} {w : List Nat} (h : pm_Min I st out c (i :: w) s t) :
    (w = [] → out s i ≠ out t i ∧ ∀ k, k < i → out s k = out t k) ∧ (w ≠ [] → pm_D I st out (st s i) (st t i) w.length ∧ ∀ k, k < i → ¬ pm_D I st out (st s k) (st t k) w.length) := by
  have hi : i < I := h.1.2 i (List.mem_cons_self ..)
  constructor
  · intro hw
    subst hw
    refine ⟨h.2.1, fun k hk => ?_⟩
    rcases Nat.decEq (out s k) (out t k) with hd | hd
    · have z := h.2.2 [k] ⟨by simp, by simp; omega⟩ hd
      simp only [pm_app] at z
      omega
    · exact hd
  · intro hw
    refine ⟨pm_Min_D hI (pm_Min_tail hw h), fun k hk hd => ?_⟩
    obtain ⟨v, v1, v2, v3⟩ := pm_D_word hd
    have z := h.2.2 (k :: v) ⟨by simp, fun j hj => by
      rcases List.mem_cons.mp hj with rfl | hj
      · omega
      · exact v1.2 j hj⟩ (by rw [pm_v_cons v1.1, pm_v_cons v1.1]; exact v3)
    have z2 : pm_app (4 * c + k + 1) v < pm_app (4 * c + i + 1) w := pm_app_lex (fun j hj => Nat.lt_of_lt_of_le (v1.2 j hj) hI) v2 (by omega)
    simp only [pm_app] at z
    omega
/-- pairs kept by breadth; T: no word below the bound C tells a kept pair apart -/
theorem pm_T {L R : Nat → Nat} {wd : Nat → List Nat} {size C : Nat}
    (hp : ∀ j i, j < size → i < I → 4 * pm_app 0 (wd j) + i + 1 < C → out (L j) i = out (R j) i ∧ ∃ m, m ≤ size ∧ (∀ q, q < m → pm_app 0 (wd q) ≤ 4 * pm_app 0 (wd j) + i + 1) ∧ ∀ g : Nat → Nat, (∀ q, q < m → g (L q) = g (R q)) → g (st (L j) i) = g (st (R j) i)) :
    ∀ (v : List Nat) (j : Nat), j < size → pm_ok I v → pm_app (pm_app 0 (wd j)) v < C → pm_v st out v (L j) = pm_v st out v (R j) := by
  intro v
  induction v with
  | nil => intro j _ h _; exact absurd rfl h.1
  | cons i v ih =>
    intro j hj hv hC
    have hi : i < I := hv.2 i (List.mem_cons_self ..)
    have hC' : pm_app (4 * pm_app 0 (wd j) + i + 1) v < C := hC
    have hlt : 4 * pm_app 0 (wd j) + i + 1 < C := Nat.lt_of_le_of_lt (pm_app_ge v _) hC'
    obtain ⟨h1, m, h2, h3, h4⟩ := hp j i hj hi hlt
    cases v with
    | nil => exact h1
    | cons k v =>
      show pm_v st out (k :: v) (st (L j) i) = pm_v st out (k :: v) (st (R j) i)
      refine h4 (pm_v st out (k :: v)) (fun q hq => ih q (by omega) ⟨by simp, fun x hx => hv.2 x (List.mem_cons_of_mem _ hx)⟩ (Nat.lt_of_le_of_lt (pm_app_mono _ (h3 q hq)) hC'))
theorem pm_v_snoc : ∀ (w : List Nat) (i s : Nat), pm_v st out (w ++ [i]) s = out (pm_go st w s) i := by
  intro w
  induction w with
  | nil => intro i s; rfl
  | cons j w ih =>
    intro i s
    rw [List.cons_append, pm_v_cons (by simp)]
    exact ih i (st s j)
theorem pm_go_snoc : ∀ (w : List Nat) (i s : Nat), pm_go st (w ++ [i]) s = st (pm_go st w s) i := by
  intro w
  induction w with
  | nil => intro i s; rfl
  | cons j w ih => intro i s; exact ih i (st s j)
/-- found: the word is the shortest one, of these the first -/
theorem pm_found (hI : I ≤ 4) {L R : Nat → Nat} {wd : Nat → List Nat} {size k i a b : Nat} (hk : k < size) (hi : i < I) (h0 : wd 0 = []) (hw : ∀ j, j < size → ∀ x ∈ wd j, x < I) (hL : ∀ j, j < size → L j = pm_go st (wd j) a) (hR : ∀ j, j < size → R j = pm_go st (wd j) b)
    (hp : ∀ j x, j < size → x < I → 4 * pm_app 0 (wd j) + x + 1 < 4 * pm_app 0 (wd k) + i + 1 → out (L j) x = out (R j) x ∧ ∃ m, m ≤ size ∧ (∀ q, q < m → pm_app 0 (wd q) ≤ 4 * pm_app 0 (wd j) + x + 1) ∧ ∀ g : Nat → Nat, (∀ q, q < m → g (L q) = g (R q)) → g (st (L j) x) = g (st (R j) x))
    (hd : out (L k) i ≠ out (R k) i) : pm_Min I st out 0 (wd k ++ [i]) a b := by
  refine ⟨⟨by simp, fun x hx => ?_⟩, ?_, fun v hv hd2 => ?_⟩
  · rcases List.mem_append.mp hx with h | h
    · exact hw k hk x h
    · simp only [List.mem_singleton] at h; omega
  · rw [pm_v_snoc, pm_v_snoc, ← hL k hk, ← hR k hk]; exact hd
  · rcases Nat.lt_or_ge (pm_app 0 v) (pm_app 0 (wd k ++ [i])) with h | h
    · rw [pm_app_snoc] at h
      have z := pm_T hp v 0 (by omega) hv (by rw [h0]; exact h)
      rw [hL 0 (by omega), hR 0 (by omega), h0] at z
      exact absurd z hd2
    · exact h
/-- not found: alike -/
theorem pm_alike {L R : Nat → Nat} {size a b : Nat} (hs : 0 < size) (hL : L 0 = a) (hR : R 0 = b)
    (hp : ∀ j x, j < size → x < I → out (L j) x = out (R j) x ∧ ∀ g : Nat → Nat, (∀ q, q < size → g (L q) = g (R q)) → g (st (L j) x) = g (st (R j) x)) : ∀ r, pm_E I st out r a b := by
  have key : ∀ (v : List Nat) (j : Nat), j < size → pm_ok I v → pm_v st out v (L j) = pm_v st out v (R j) := by
    intro v
    induction v with
    | nil => intro j _ h; exact absurd rfl h.1
    | cons i v ih =>
      intro j hj hv
      obtain ⟨h1, h2⟩ := hp j i hj (hv.2 i (List.mem_cons_self ..))
      cases v with
      | nil => exact h1
      | cons k v =>
        show pm_v st out (k :: v) (st (L j) i) = pm_v st out (k :: v) (st (R j) i)
        exact h2 _ (fun q hq => ih q hq ⟨by simp, fun x hx => hv.2 x (List.mem_cons_of_mem _ hx)⟩)
  intro r
  refine pm_E_words.mpr (fun w w0 _ w2 => ?_)
  have z := key w 0 hs ⟨w0, w2⟩
  rw [hL, hR] at z
  exact z
end PMw

def pt_T (N : Nat → Nat → Nat) (parent born : Nat → Int32) (q s : Nat) : Prop := ∃ b, b ≤ q ∧ born (N q s) = nI b ∧ (∀ q', b ≤ q' → q' ≤ q → N q' s = N q s) ∧ (0 < b → parent (N q s) = nI (N (b - 1) s)) ∧ (b = 0 → N q s = 0)
def pt_A (S I : Nat) (st out : Nat → Nat → Nat) (R parts nodes : Nat) (P : Nat → Nat) (N : Nat → Nat → Nat) (part node parent born : Nat → Int32) : Prop :=
  1 ≤ parts ∧ parts ≤ S ∧ nodes + 1 ≤ 2 * parts ∧ (∀ s, s < S → P s < parts ∧ part s = nI (P s) ∧ node (P s) = nI (N R s)) ∧ (∀ c, c < parts → ∃ s, s < S ∧ P s = c) ∧ (∀ s t, s < S → t < S → (P s = P t ↔ pm_E I st out R s t)) ∧ (∀ q s, q ≤ R → s < S → N q s < nodes ∧ pt_T N parent born q s) ∧ ∀ q s t, q ≤ R → s < S → t < S → (N q s = N q t ↔ pm_E I st out q s t)
theorem pr_sm_E {S I R s t : Nat} {st out : Nat → Nat → Nat} {P : Nat → Nat} (hst : ∀ s i, s < S → i < I → st s i < S) (h : ∀ s t, s < S → t < S → (P s = P t ↔ pm_E I st out R s t)) (hs : s < S) (ht : t < S) : pr_sm I st out P (R + 1) s t ↔ pm_E I st out (R + 1) s t := by
  unfold pr_sm pr_kv
  rw [h s t hs ht]
  cases R with
  | zero =>
    show (True ∧ ∀ i, i < I → (if 0 + 1 = 1 then out s i else P (st s i)) = (if 0 + 1 = 1 then out t i else P (st t i))) ↔ ∀ i, i < I → out s i = out t i
    refine ⟨fun z i hi => ?_, fun z => ⟨trivial, fun i hi => ?_⟩⟩
    · have := z.2 i hi
      rwa [if_pos rfl, if_pos rfl] at this
    · rw [if_pos rfl, if_pos rfl]; exact z i hi
  | succ R =>
    show (pm_E I st out (R + 1) s t ∧ ∀ i, i < I → (if R + 1 + 1 = 1 then out s i else P (st s i)) = (if R + 1 + 1 = 1 then out t i else P (st t i))) ↔ (pm_E I st out (R + 1) s t ∧ ∀ i, i < I → pm_E I st out (R + 1) (st s i) (st t i))
    refine ⟨fun z => ⟨z.1, fun i hi => ?_⟩, fun z => ⟨z.1, fun i hi => ?_⟩⟩
    · have := z.2 i hi
      rw [if_neg (by omega), if_neg (by omega)] at this
      exact (h _ _ (hst s i hs hi) (hst t i ht hi)).mp this
    · rw [if_neg (by omega), if_neg (by omega)]
      exact (h _ _ (hst s i hs hi) (hst t i ht hi)).mpr (z.2 i hi)
theorem pr_Q {I r parts S n : Nat} {st out : Nat → Nat → Nat} {ch P O Q : Nat → Nat} {newPart one pieces chain behind : Nat → Int32} (h : pr_J (pr_sm I st out P r) ch P parts S n O Q newPart one pieces chain behind) {s t : Nat} (hs : s < S) (ht : t < S) : Q s = Q t ↔ pr_sm I st out P r s t := by
  obtain ⟨h1, h2, h3, h4, h5, h6, h7⟩ := h
  have a := h3 s hs; have b := h3 t ht
  have sym : ∀ {s t}, pr_sm I st out P r s t → pr_sm I st out P r t s := fun z => ⟨z.1.symm, fun i hi => (z.2 i hi).symm⟩
  have tr : ∀ {s t u}, pr_sm I st out P r s t → pr_sm I st out P r t u → pr_sm I st out P r s u := fun z y => ⟨z.1.trans y.1, fun i hi => (z.2 i hi).trans (y.2 i hi)⟩
  refine ⟨fun e => ?_, fun z => h4 _ _ a.1 b.1 (tr a.2.1 (tr z (sym b.2.1)))⟩
  rw [e] at a
  exact tr (sym a.2.1) b.2.1
section PTS
variable {S I : Nat} {st out : Nat → Nat → Nat} {R parts nodes n : Nat} {P O Q : Nat → Nat} {N : Nat → Nat → Nat}
def pt_spl (n : Nat) (P O : Nat → Nat) (p : Nat) : Bool := decide (1 < cN (fun p' => decide (P (O p') = P (O p))) n)
def pt_NN (n nodes R : Nat) (P O : Nat → Nat) (N : Nat → Nat → Nat) (p : Nat) : Nat := if pt_spl n P O p = true then nodes + cN (pt_spl n P O) p else N R (O p)
theorem pt_step {part node parent born newPart one pieces chain behind : Nat → Int32} (hst : ∀ s i, s < S → i < I → st s i < S) (hA : pt_A S I st out R parts nodes P N part node parent born) (hJ : pr_J (pr_sm I st out P (R + 1)) (pr_ch I st out P (R + 1)) P parts S n O Q newPart one pieces chain behind) :
    nodes + cN (pt_spl n P O) n + 1 ≤ 2 * n ∧ parts ≤ n ∧ n ≤ S ∧
    ∀ (part' node' parent' born' : Nat → Int32), (∀ s, s < S → part' s = nI (Q s)) → (∀ p, p < n → node' p = nI (pt_NN n nodes R P O N p)) → (∀ x, x < nodes → parent' x = parent x ∧ born' x = born x) → (∀ p, p < n → pt_spl n P O p = true → born' (pt_NN n nodes R P O N p) = nI (R + 1) ∧ parent' (pt_NN n nodes R P O N p) = nI (N R (O p))) →
      ∃ N', pt_A S I st out (R + 1) n (nodes + cN (pt_spl n P O) n) Q N' part' node' parent' born' := by
  obtain ⟨h1, h2, h3, h4, h5, h6, h7, h8⟩ := hA
  have hQ := fun {s t} (hs : s < S) (ht : t < S) => (pr_Q hJ hs ht).trans (pr_sm_E hst h6 hs ht)
  obtain ⟨j1, j2, j3, j4, j5, j6, j7⟩ := hJ
  have hF : ∀ p, p < n → P (O p) < parts := fun p hp => (h4 _ (j2 p hp).1).1
  have hc1 : ∀ c, c < parts → 0 < cN (fun p => decide (P (O p) = c)) n := fun c hc => by
    obtain ⟨s, hs, e⟩ := h5 c hc
    have a := j3 s hs
    exact cN_pos (j := Q s) (decide_eq_true (by rw [a.2.1.1]; exact e)) a.1
  have hsp := q_split hF hc1
  have hsp : cN (pt_spl n P O) n + parts * 2 ≤ n * 2 := hsp
  have hpn : parts ≤ n := by omega
  have hn1 : 1 ≤ n := by omega
  refine ⟨by omega, hpn, j1, fun part' node' parent' born' g1 g2 g3 g4 => ⟨fun q s => if q = R + 1 then pt_NN n nodes R P O N (Q s) else N q s, hn1, j1, by omega, fun s hs => ?_, fun c hc => ⟨O c, (j2 c hc).1, (j2 c hc).2.1⟩, fun s t hs ht => hQ hs ht, fun q s hq hs => ?_, fun q s t hq hs ht => ?_⟩⟩
  · refine ⟨(j3 s hs).1, g1 s hs, ?_⟩
    show node' (Q s) = nI (if R + 1 = R + 1 then _ else _)
    rw [if_pos rfl]; exact g2 _ (j3 s hs).1
  · by_cases e : q = R + 1
    · subst e
      show (if R + 1 = R + 1 then pt_NN n nodes R P O N (Q s) else N (R + 1) s) < _ ∧ _
      have a := j3 s hs
      have b := j2 _ a.1
      rw [if_pos rfl]
      by_cases sp : pt_spl n P O (Q s) = true
      · have eN : pt_NN n nodes R P O N (Q s) = nodes + cN (pt_spl n P O) (Q s) := if_pos sp
        have c1 : cN (pt_spl n P O) (Q s + 1) = cN (pt_spl n P O) (Q s) + 1 := by show _ + _ = _; rw [if_pos sp]
        have c2 := cN_mono (pt_spl n P O) (m := Q s + 1) (n := n) a.1
        refine ⟨by rw [eN]; omega, R + 1, Nat.le_refl _, ?_, fun q' z1 z2 => ?_, fun _ => ?_, fun z => absurd z (by omega)⟩
        · show born' (if R + 1 = R + 1 then _ else _) = _
          rw [if_pos rfl]; exact (g4 _ a.1 sp).1
        · have : q' = R + 1 := by omega
          subst this; rfl
        · show parent' (if R + 1 = R + 1 then _ else _) = nI (if R + 1 - 1 = R + 1 then _ else N (R + 1 - 1) s)
          rw [if_pos rfl, if_neg (by omega), (g4 _ a.1 sp).2, show R + 1 - 1 = R by omega]
          congr 1
          exact (h8 R _ _ (Nat.le_refl _) b.1 hs).mpr ((h6 _ _ b.1 hs).mp a.2.1.1)
      · have eN : pt_NN n nodes R P O N (Q s) = N R s := by
          unfold pt_NN
          rw [if_neg sp]
          exact (h8 R _ _ (Nat.le_refl _) b.1 hs).mpr ((h6 _ _ b.1 hs).mp a.2.1.1)
        obtain ⟨c1, b', d1, d2, d3, d4, d5⟩ := h7 R s (Nat.le_refl _) hs
        refine ⟨by rw [eN]; omega, b', by omega, ?_, fun q' z1 z2 => ?_, fun z => ?_, fun z => ?_⟩
        · show born' (if R + 1 = R + 1 then _ else _) = _
          rw [if_pos rfl, eN, (g3 _ c1).2]; exact d2
        · show (if q' = R + 1 then _ else N q' s) = (if R + 1 = R + 1 then _ else _)
          rw [if_pos rfl]
          by_cases e2 : q' = R + 1
          · rw [if_pos e2]
          · rw [if_neg e2, eN]; exact d3 q' z1 (by omega)
        · show parent' (if R + 1 = R + 1 then _ else _) = nI (if b' - 1 = R + 1 then _ else N (b' - 1) s)
          rw [if_pos rfl, if_neg (by omega), eN, (g3 _ c1).1]; exact d4 z
        · show (if R + 1 = R + 1 then _ else _) = 0
          rw [if_pos rfl, eN]; exact d5 z
    · obtain ⟨c1, b', d1, d2, d3, d4, d5⟩ := h7 q s (by omega) hs
      show (if q = R + 1 then _ else N q s) < _ ∧ _
      rw [if_neg e]
      refine ⟨by omega, b', d1, ?_, fun q' z1 z2 => ?_, fun z => ?_, fun z => ?_⟩
      · show born' (if q = R + 1 then _ else _) = _
        rw [if_neg e, (g3 _ c1).2]; exact d2
      · show (if q' = R + 1 then _ else N q' s) = (if q = R + 1 then _ else N q s)
        rw [if_neg (by omega), if_neg e]; exact d3 q' z1 z2
      · show parent' (if q = R + 1 then _ else _) = nI (if b' - 1 = R + 1 then _ else N (b' - 1) s)
        rw [if_neg e, if_neg (by omega), (g3 _ c1).1]; exact d4 z
      · show (if q = R + 1 then _ else N q s) = 0
        rw [if_neg e]; exact d5 z
  · by_cases e : q = R + 1
    · subst e
      show (if R + 1 = R + 1 then _ else _) = (if R + 1 = R + 1 then _ else _) ↔ _
      rw [if_pos rfl, if_pos rfl, ← hQ hs ht]
      refine ⟨fun z => Classical.byContradiction (fun hne => ?_), fun z => by rw [z]⟩
      have a := j3 s hs; have b := j2 _ a.1
      have a' := j3 t ht; have b' := j2 _ a'.1
      unfold pt_NN at z
      by_cases sp : pt_spl n P O (Q s) = true
      · by_cases sp' : pt_spl n P O (Q t) = true
        · rw [if_pos sp, if_pos sp'] at z
          have key : ∀ {x y}, pt_spl n P O x = true → x < y → cN (pt_spl n P O) x < cN (pt_spl n P O) y := fun {x y} hx hxy => by
            have c1 : cN (pt_spl n P O) (x + 1) = cN (pt_spl n P O) x + 1 := by show _ + _ = _; rw [if_pos hx]
            have c2 := cN_mono (pt_spl n P O) (m := x + 1) (n := y) hxy
            omega
          rcases Nat.lt_trichotomy (Q s) (Q t) with y | y | y
          · have := key sp y; omega
          · exact hne y
          · have := key sp' y; omega
        · rw [if_pos sp, if_neg sp'] at z
          have := (h7 R _ (Nat.le_refl _) b'.1).1; omega
      · by_cases sp' : pt_spl n P O (Q t) = true
        · rw [if_neg sp, if_pos sp'] at z
          have := (h7 R _ (Nat.le_refl _) b.1).1; omega
        · rw [if_neg sp, if_neg sp'] at z
          have y := (h6 _ _ b.1 b'.1).mpr ((h8 R _ _ (Nat.le_refl _) b.1 b'.1).mp z)
          apply sp
          unfold pt_spl
          apply decide_eq_true
          rcases Nat.lt_trichotomy (Q s) (Q t) with w | w | w
          · exact cN_two (i := Q s) (j := Q t) (decide_eq_true rfl) (decide_eq_true y.symm) w a'.1
          · exact absurd w hne
          · exact cN_two (i := Q t) (j := Q s) (decide_eq_true y.symm) (decide_eq_true rfl) w a.1
    · show (if q = R + 1 then _ else N q s) = (if q = R + 1 then _ else N q t) ↔ _
      rw [if_neg e, if_neg e]
      exact h8 q s t (by omega) hs ht
/-- no more classes: no more is ever told apart -/
theorem pt_stable (hst : ∀ s i, s < S → i < I → st s i < S) (h : ∀ s t, s < S → t < S → pm_E I st out R s t → pm_E I st out (R + 1) s t) : ∀ s t, s < S → t < S → pm_E I st out (R + 1) s t → ∀ k, pm_E I st out k s t := by
  have h2 : ∀ s t, s < S → t < S → pm_E I st out (R + 1) s t → pm_E I st out (R + 1 + 1) s t := fun s t hs ht e => by
    refine ⟨e, fun i hi => h _ _ (hst s i hs hi) (hst t i ht hi) ?_⟩
    cases R with
    | zero => trivial
    | succ R => exact e.2 i hi
  intro s t hs ht e k
  rcases Nat.lt_or_ge k (R + 1) with z | z
  · exact pm_E_le (by omega) e
  · have := pm_E_stable hst (by omega) h2 (k - (R + 1)) s t hs ht e
    rwa [show R + 1 + (k - (R + 1)) = k by omega] at this
end PTS

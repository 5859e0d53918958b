section TEJ
variable {S I : Nat} {st out : Nat → Nat → Nat} {a b : Nat}
/-- the pair j was gone on from by input x -/
def te_PR (st out : Nat → Nat → Nat) (a b : Nat) (wd : Nat → List Nat) (size j x : Nat) : Prop :=
  out (pm_go st (wd j) a) x = out (pm_go st (wd j) b) x ∧ ∃ m, m ≤ size ∧ (∀ q, q < m → pm_app 0 (wd q) ≤ 4 * pm_app 0 (wd j) + x + 1) ∧ ∀ g : Nat → Nat, (∀ q, q < m → g (pm_go st (wd q) a) = g (pm_go st (wd q) b)) → g (st (pm_go st (wd j) a) x) = g (st (pm_go st (wd j) b) x)
def te_A (S : Nat) (st : Nat → Nat → Nat) (a b size : Nat) (wd : Nat → List Nat) (f : Nat → Int32) (c : Nat → Nat) : Prop :=
  (∃ F rk, uf_ok S size F c rk ∧ ∀ x, x < S → f x = nI (F x)) ∧ uf_cl S size (fun j => pm_go st (wd j) a) (fun j => pm_go st (wd j) b) c ∧ (∀ x, x < S → c x < S ∧ c (c x) = c x) ∧ ∃ nr : Nat → Nat, (∀ j, j < size → nr j < S ∧ c (nr j) ≠ nr j) ∧ ∀ j j', j < size → j' < size → nr j = nr j' → j = j'
def te_B (S I : Nat) (st out : Nat → Nat → Nat) (a b k i size : Nat) (wd : Nat → List Nat) (back lefts rights : Nat → Int32) : Prop :=
  tr_ok size back wd ∧ k < size ∧ wd 0 = [] ∧ (∀ j, j < size → ∀ x ∈ wd j, x < I) ∧ (∀ j, j < size → pm_go st (wd j) a < S ∧ pm_go st (wd j) b < S ∧ lefts j = nI (pm_go st (wd j) a) ∧ rights j = nI (pm_go st (wd j) b)) ∧ (∀ j j', j < j' → j' < size → pm_app 0 (wd j) < pm_app 0 (wd j')) ∧ (∀ j, j < size → pm_app 0 (wd j) < 4 * pm_app 0 (wd k) + i + 1) ∧ ∀ j x, j < size → x < I → (j < k ∨ j = k ∧ x < i) → te_PR st out a b wd size j x
theorem te_lt {size : Nat} {wd : Nat → List Nat} {f : Nat → Int32} {c : Nat → Nat} (hS : 0 < S) (h : te_A S st a b size wd f c) : size < S := by
  obtain ⟨_, _, h3, nr, h4, h5⟩ := h
  have z := q_pg (size + 1) S (fun j => if j < size then nr j else c 0) (fun i hi => by
    show (if i < size then nr i else c 0) < S
    split
    · exact (h4 i (by assumption)).1
    · exact (h3 0 hS).1) (fun i j hi hj e => by
    have e : (if i < size then nr i else c 0) = (if j < size then nr j else c 0) := e
    have key : ∀ j, j < size → nr j ≠ c 0 := fun j hj e => (h4 j hj).2 (by rw [e]; exact (h3 0 hS).2)
    split at e <;> split at e
    · exact h5 i j (by assumption) (by assumption) e
    · exact absurd e (key i (by assumption))
    · exact absurd e.symm (key j (by assumption))
    · omega)
  omega
theorem te_A_same {size : Nat} {wd : Nat → List Nat} {f f' : Nat → Int32} {F' c rk : Nat → Nat} (h : te_A S st a b size wd f c) (h1 : uf_ok S size F' c rk) (h2 : ∀ x, x < S → f' x = nI (F' x)) : te_A S st a b size wd f' c :=
  ⟨⟨F', rk, h1, h2⟩, h.2⟩
theorem te_A_join {size : Nat} {wd wd' : Nat → List Nat} {f f' : Nat → Int32} {F' c rk' : Nat → Nat} {u v : Nat} (h : te_A S st a b size wd f c) (hu : u < S) (hv : v < S) (hne : c u ≠ c v) (h1 : uf_ok S (size + 1) F' (fun x => if c x = c u then c v else c x) rk') (h2 : ∀ x, x < S → f' x = nI (F' x)) (hw : ∀ j, j < size → wd' j = wd j) (hwu : pm_go st (wd' size) a = u) (hwv : pm_go st (wd' size) b = v) :
    te_A S st a b (size + 1) wd' f' (fun x => if c x = c u then c v else c x) := by
  obtain ⟨_, g2, g3, nr, g4, g5⟩ := h
  refine ⟨⟨F', rk', h1, h2⟩, uf_cl_join g2 hu hv rfl rfl (fun j hj => by rw [hw j hj]) (fun j hj => by rw [hw j hj]) hwu hwv, fun x hx => ?_, fun j => if j = size then c u else nr j, fun j hj => ?_, fun j j' hj hj' e => ?_⟩
  · have a1 := g3 x hx; have a2 := g3 v hv
    have a3 : c (c v) ≠ c u := by rw [a2.2]; exact Ne.symm hne
    by_cases e : c x = c u
    · simp only [if_pos e, if_neg a3]; exact ⟨a2.1, a2.2⟩
    · have a4 : c (c x) ≠ c u := by rw [a1.2]; exact e
      simp only [if_neg e, if_neg a4]; exact a1
  · by_cases e : j = size
    · have a1 := g3 u hu
      simp only [if_pos e, if_pos a1.2]; exact ⟨a1.1, Ne.symm hne⟩
    · have a1 := g4 j (by omega)
      simp only [if_neg e]
      refine ⟨a1.1, ?_⟩
      by_cases e2 : c (nr j) = c u
      · simp only [if_pos e2]
        intro e3
        apply a1.2
        rw [← e3]; exact (g3 v hv).2
      · simp only [if_neg e2]; exact a1.2
  · have key : ∀ j, j < size → nr j ≠ c u := fun j hj e => (g4 j hj).2 (by rw [e]; exact (g3 u hu).2)
    have e : (if j = size then c u else nr j) = (if j' = size then c u else nr j') := e
    split at e <;> split at e
    · omega
    · exact absurd e.symm (key j' (by omega))
    · exact absurd e (key j (by omega))
    · exact g5 j j' (by omega) (by omega) e
theorem te_PR_mono {wd wd' : Nat → List Nat} {size size' j x : Nat} (hs : size ≤ size') (hw : ∀ q, q < size → wd' q = wd q) (hj : j < size) (h : te_PR st out a b wd size j x) : te_PR st out a b wd' size' j x := by
  obtain ⟨h1, m, h2, h3, h4⟩ := h
  unfold te_PR
  rw [hw j hj]
  refine ⟨h1, m, by omega, fun q hq => by rw [hw q (by omega)]; exact h3 q hq, fun g hg => h4 g (fun q hq => ?_)⟩
  have z := hg q hq
  rwa [hw q (by omega)] at z
theorem te_B_skip {k i size : Nat} {wd : Nat → List Nat} {back lefts rights : Nat → Int32} {f : Nat → Int32} {c : Nat → Nat} (hst : ∀ s i, s < S → i < I → st s i < S) (hA : te_A S st a b size wd f c) (h : te_B S I st out a b k i size wd back lefts rights) (hi : i < I) (ho : out (pm_go st (wd k) a) i = out (pm_go st (wd k) b) i) (hc : c (st (pm_go st (wd k) a) i) = c (st (pm_go st (wd k) b) i)) :
    te_B S I st out a b k (i + 1) size wd back lefts rights := by
  obtain ⟨h1, h2, h3, h4, h5, h6, h7, h8⟩ := h
  refine ⟨h1, h2, h3, h4, h5, h6, fun j hj => Nat.lt_succ_of_lt (h7 j hj), fun j x hj hx hjx => ?_⟩
  by_cases e : j = k ∧ x = i
  · obtain ⟨rfl, rfl⟩ := e
    refine ⟨ho, size, Nat.le_refl _, fun q hq => Nat.le_of_lt (h7 q hq), fun g hg => ?_⟩
    have z := hA.2.1 g hg
    rw [← z _ (hst _ _ (h5 j hj).1 hi), ← z _ (hst _ _ (h5 j hj).2.1 hi), hc]
  · exact h8 j x hj hx (by omega)
theorem te_B_add {k i size : Nat} {wd wd' : Nat → List Nat} {back lefts rights : Nat → Int32} (hst : ∀ s i, s < S → i < I → st s i < S) (hI : I ≤ 4) (h : te_B S I st out a b k i size wd back lefts rights) (hi : i < I) (ho : out (pm_go st (wd k) a) i = out (pm_go st (wd k) b) i) (hw : ∀ q, q < size → wd' q = wd q) (hwn : wd' size = wd k ++ [i]) :
    te_B S I st out a b k (i + 1) (size + 1) wd' (upd back size (nI (4 * k + i))) (upd lefts size (nI (st (pm_go st (wd k) a) i))) (upd rights size (nI (st (pm_go st (wd k) b) i))) := by
  obtain ⟨h1, h2, h3, h4, h5, h6, h7, h8⟩ := h
  have en : pm_app 0 (wd' size) = 4 * pm_app 0 (wd k) + i + 1 := by rw [hwn, pm_app_snoc]
  refine ⟨fun j hj => ?_, by omega, by rw [hw 0 (by omega)]; exact h3, fun j hj x hx => ?_, fun j hj => ?_, fun j j' hjj hj' => ?_, fun j hj => ?_, fun j x hj hx hjx => ?_⟩
  · by_cases e : j = size
    · subst e
      exact Or.inr ⟨k, i, h2, by omega, pk_us, by rw [hw k h2]; exact hwn⟩
    · rw [pk_un e, hw j (by omega)]
      rcases h1 j (by omega) with z | ⟨p, x, z1, z2, z3, z4⟩
      · exact Or.inl z
      · exact Or.inr ⟨p, x, z1, z2, z3, by rw [hw p (by omega)]; exact z4⟩
  · by_cases e : j = size
    · subst e
      rw [hwn] at hx
      rcases List.mem_append.mp hx with z | z
      · exact h4 k h2 x z
      · simp only [List.mem_singleton] at z; omega
    · rw [hw j (by omega)] at hx; exact h4 j (by omega) x hx
  · by_cases e : j = size
    · subst e
      rw [hwn, pm_go_snoc, pm_go_snoc, pk_us, pk_us]
      exact ⟨hst _ _ (h5 k h2).1 hi, hst _ _ (h5 k h2).2.1 hi, rfl, rfl⟩
    · rw [pk_un e, pk_un e, hw j (by omega)]; exact h5 j (by omega)
  · by_cases e : j' = size
    · subst e
      rw [en, hw j hjj]; exact h7 j hjj
    · rw [hw j (by omega), hw j' (by omega)]; exact h6 j j' hjj (by omega)
  · rw [hw k h2]
    by_cases e : j = size
    · subst e; omega
    · rw [hw j (by omega)]; have := h7 j (by omega); omega
  · by_cases e2 : j = size
    · omega
    by_cases e : j = k ∧ x = i
    · obtain ⟨rfl, rfl⟩ := e
      unfold te_PR
      rw [hw j h2]
      refine ⟨ho, size + 1, Nat.le_refl _, fun q hq => ?_, fun g hg => ?_⟩
      · by_cases e3 : q = size
        · subst e3; omega
        · rw [hw q (by omega)]; exact Nat.le_of_lt (h7 q (by omega))
      · have z := hg size (by omega)
        rwa [hwn, pm_go_snoc, pm_go_snoc] at z
    · exact te_PR_mono (Nat.le_succ _) hw (by omega) (h8 j x (by omega) hx (by omega))
theorem te_B_next {k size : Nat} {wd : Nat → List Nat} {back lefts rights : Nat → Int32} (hI : I ≤ 4) (h : te_B S I st out a b k I size wd back lefts rights) (hk : k + 1 < size) : te_B S I st out a b (k + 1) 0 size wd back lefts rights := by
  obtain ⟨h1, h2, h3, h4, h5, h6, h7, h8⟩ := h
  refine ⟨h1, hk, h3, h4, h5, h6, fun j hj => ?_, fun j x hj hx hjx => h8 j x hj hx (by omega)⟩
  have z := h6 k (k + 1) (by omega) hk
  have z2 := h7 j hj
  omega
theorem te_found {k i size : Nat} {wd wd' : Nat → List Nat} {back lefts rights : Nat → Int32} (hI : I ≤ 4) (h : te_B S I st out a b k i size wd back lefts rights) (hi : i < I) (ho : out (pm_go st (wd k) a) i ≠ out (pm_go st (wd k) b) i) : pm_Min I st out 0 (wd k ++ [i]) a b := by
  obtain ⟨h1, h2, h3, h4, h5, h6, h7, h8⟩ := h
  refine pm_found hI (L := fun j => pm_go st (wd j) a) (R := fun j => pm_go st (wd j) b) h2 hi h3 h4 (fun j hj => rfl) (fun j hj => rfl) (fun j x hj hx hlt => ?_) ho
  refine h8 j x hj hx ?_
  rcases Nat.lt_trichotomy j k with z | z | z
  · exact Or.inl z
  · subst z; exact Or.inr ⟨rfl, by omega⟩
  · have := h6 k j z hj; omega
theorem te_alike {k size : Nat} {wd : Nat → List Nat} {back lefts rights : Nat → Int32} (h : te_B S I st out a b k I size wd back lefts rights) (hk : size ≤ k + 1) : ∀ r, pm_E I st out r a b := by
  obtain ⟨h1, h2, h3, h4, h5, h6, h7, h8⟩ := h
  refine pm_alike (L := fun j => pm_go st (wd j) a) (R := fun j => pm_go st (wd j) b) (size := size) (by omega) (by show pm_go st (wd 0) a = a; rw [h3]; rfl) (by show pm_go st (wd 0) b = b; rw [h3]; rfl) (fun j x hj hx => ?_)
  obtain ⟨z1, m, z2, z3, z4⟩ := h8 j x hj hx (by omega)
  exact ⟨z1, fun g hg => z4 g (fun q hq => hg q (by omega))⟩
end TEJ

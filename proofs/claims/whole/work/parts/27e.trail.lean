theorem s_AR_fill {n : Nat} {f : Nat → Int32} {v : Int32} {post : (Nat → Int32) → Prop} (hn : n < 2 ^ 31) (hp : ∀ g : Nat → Int32, (∀ j, j < n → g j = v) → post g) : wp_AR_fill n f v post := by
  unfold wp_AR_fill
  rintro y rfl
  refine ⟨n + 1, ?_⟩
  have key : ∀ (k i : Nat) (g : Nat → Int32), i ≤ n → n - i ≤ k → (∀ j, j < i → g j = v) → wp_AR_fill_L5 n f v post (k + 1) g (nI i) (nI n) := by
    intro k
    induction k with
    | zero =>
      intro i g hi hk hg
      unfold wp_AR_fill_L5
      refine pk_le n i (fun _ => hp g (fun j hj => hg j (by omega))) (fun h => absurd h (by omega))
    | succ k ih =>
      intro i g hi hk hg
      unfold wp_AR_fill_L5
      refine pk_le n i (fun _ => hp g (fun j hj => hg j (by omega))) (fun h => ⟨pk_in i n h, ?_⟩)
      rintro g' rfl _ rfl
      rw [nI_1, nI_clamp (by omega)]
      refine ih (i + 1) _ (by omega) (by omega) (fun j hj => ?_)
      by_cases hji : j = i
      · subst hji; exact pk_us
      · rw [pk_un hji]; exact hg j (by omega)
  exact key n 0 f (by omega) (by omega) (fun j hj => absurd hj (by omega))
/-- words as a tree -/
def tr_ok (sz : Nat) (f : Nat → Int32) (wd : Nat → List Nat) : Prop :=
  ∀ j, j < sz → (wd j = [] ∧ f j = -1) ∨ ∃ p i, p < j ∧ i < 4 ∧ f j = nI (4 * p + i) ∧ wd j = wd p ++ [i]
theorem tr_len {sz : Nat} {f : Nat → Int32} {wd : Nat → List Nat} (h : tr_ok sz f wd) : ∀ j, j < sz → (wd j).length ≤ j := by
  intro j
  induction j using Nat.strongRecOn with
  | _ j ih =>
    intro hj
    rcases h j hj with ⟨e, _⟩ | ⟨p, i, hp, _, _, e⟩
    · rw [e]; exact Nat.zero_le _
    · rw [e, List.length_append]; have := ih p hp (by omega); simp only [List.length_singleton]; omega
theorem s_TR_length {n sz j : Nat} {f : Nat → Int32} {wd : Nat → List Nat} {post : Int32 → Prop} (h : tr_ok sz f wd) (hs : sz ≤ n) (hn : n < 2 ^ 28) (hj : j < sz) (hp : post (nI (wd j).length)) : wp_TR_length n f (nI j) post := by
  unfold wp_TR_length
  have hlj := tr_len h j hj
  have key : ∀ (k at' l : Nat), at' < sz → l + (wd at').length = (wd j).length → (wd at').length ≤ k → wp_TR_length_L4 n f (nI j) post (k + 1) (nI at') (nI l) := by
    intro k
    induction k with
    | zero =>
      intro a l ha hl hk
      have hw : wd a = [] := List.length_eq_zero_iff.mp (by omega)
      have el : l = (wd j).length := by rw [hw] at hl; simpa using hl
      unfold wp_TR_length_L4
      refine pk_le n l (fun _ => el ▸ hp) (fun hh => ⟨pk_in a n (by omega), ?_⟩)
      rw [nI_clamp (by omega)]
      rcases h a ha with ⟨_, e⟩ | ⟨p, i, _, _, _, e⟩
      · rw [e]; exact br_t rfl (el ▸ hp)
      · rw [hw] at e; exact absurd e (by simp)
    | succ k ih =>
      intro a l ha hl hk
      have hla := tr_len h a ha
      unfold wp_TR_length_L4
      refine pk_le n l (fun hh => absurd hh (by omega)) (fun hh => ⟨pk_in a n (by omega), ?_⟩)
      rw [nI_clamp (by omega)]
      rcases h a ha with ⟨e0, e⟩ | ⟨p, i, hpa, hi, e, e2⟩
      · rw [e]
        refine br_t rfl ?_
        rw [e0] at hl
        have el : l = (wd j).length := by simpa using hl
        exact el ▸ hp
      · rw [e]
        refine br_f (q_m1 (by omega)) ⟨pk_in a n (by omega), ?_⟩
        rintro _ rfl _ rfl
        rw [show (4 : Int32) = nI 4 from rfl, pk_div (by omega) (by omega) (by omega), nI_1, show (4 * p + i) / 4 = p by omega]
        rw [e2] at hl hk
        simp only [List.length_append, List.length_singleton] at hl hk
        exact ih p (l + 1) (by omega) (by omega) (by omega)
  exact ⟨_, key _ j 0 hj (by omega) (Nat.le_refl _)⟩
theorem s_TR_letter {n sz j i : Nat} {f : Nat → Int32} {wd : Nat → List Nat} {post : Int32 → Prop} (h : tr_ok sz f wd) (hs : sz ≤ n) (hn : n < 2 ^ 28) (hj : j < sz) (hi : i < 2 ^ 31) (hp : post (q_pl (wd j) i)) : wp_TR_letter n f (nI j) (nI i) post := by
  unfold wp_TR_letter
  have hlj := tr_len h j hj
  refine s_TR_length h hs hn hj ?_
  rintro _ rfl
  by_cases hil : i < (wd j).length
  · have e : nI (wd j).length - 1 - nI i = nI ((wd j).length - 1 - i) := by
      apply q_ext; rw [q_sub2 (by omega) hi, nI_toInt (by omega)]; omega
    rw [e]
    refine br_t (nI_pos' (by omega)) ?_
    have key : ∀ (k a c : Nat), a < sz → c ≤ (wd j).length - 1 - i → (wd a).length + c = (wd j).length → q_pl (wd a) i = q_pl (wd j) i → (wd j).length - 1 - i - c ≤ k → wp_TR_letter_L22 n f (nI j) (nI i) post (k + 1) (nI ((wd j).length - 1 - i)) (nI a) (nI c) := by
      intro k
      induction k with
      | zero =>
        intro a c ha hc hl hq hk
        unfold wp_TR_letter_L22
        have ec : c = (wd j).length - 1 - i := by omega
        refine pk_le ((wd j).length - 1 - i) c (fun _ => ⟨pk_in a n (by omega), ?_⟩) (fun hh => absurd hh (by omega))
        rw [nI_clamp (by omega)]
        rcases h a ha with ⟨e0, _⟩ | ⟨p, x, hpa, hx, e, e2⟩
        · rw [e0] at hl; simp at hl; omega
        · rw [e, show (4 : Int32) = nI 4 from rfl, pk_rem (by omega) (by omega) (by omega), show (4 * p + x) % 4 = x by omega]
          have hw : (wd p).length = i := by rw [e2] at hl; simp at hl; omega
          rw [e2, ← hw, q_pl_last] at hq
          rw [hq, hw]; exact hp
      | succ k ih =>
        intro a c ha hc hl hq hk
        have hla := tr_len h a ha
        unfold wp_TR_letter_L22
        refine pk_le ((wd j).length - 1 - i) c (fun hh => ⟨pk_in a n (by omega), ?_⟩) (fun hh => ⟨pk_in a n (by omega), ?_⟩)
        · rw [nI_clamp (by omega)]
          rcases h a ha with ⟨e0, _⟩ | ⟨p, x, hpa, hx, e, e2⟩
          · rw [e0] at hl; simp at hl; omega
          · rw [e, show (4 : Int32) = nI 4 from rfl, pk_rem (by omega) (by omega) (by omega), show (4 * p + x) % 4 = x by omega]
            have hw : (wd p).length = i := by rw [e2] at hl; simp at hl; omega
            rw [e2, ← hw, q_pl_last] at hq
            rw [hq, hw]; exact hp
        · rw [nI_clamp (by omega)]
          rcases h a ha with ⟨e0, _⟩ | ⟨p, x, hpa, hx, e, e2⟩
          · rw [e0] at hl; simp at hl; omega
          · rw [e]
            rintro _ rfl _ rfl
            rw [show (4 : Int32) = nI 4 from rfl, pk_div (by omega) (by omega) (by omega), nI_1, show (4 * p + x) / 4 = p by omega]
            have hl2 : (wd p).length + 1 = (wd a).length := by rw [e2]; simp
            refine ih p (c + 1) (by omega) (by omega) (by omega) ?_ (by omega)
            rw [e2, q_pl_app (by omega)] at hq; exact hq
    exact ⟨_, key _ j 0 hj (by omega) (by omega) rfl (Nat.le_refl _)⟩
  · have e : ¬ (0 : Int32) ≤ nI (wd j).length - 1 - nI i := by
      rw [Int32.le_iff_toInt_le, q_sub2 (by omega) hi]
      have z : (0 : Int32).toInt = 0 := by decide
      omega
    refine br_f e ?_
    rw [q_pl_none (by omega)] at hp; exact hp

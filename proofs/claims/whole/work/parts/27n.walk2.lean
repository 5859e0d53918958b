/-- how many below n are so -/
def cN (p : Nat → Bool) : Nat → Nat
  | 0 => 0
  | n + 1 => cN p n + (if p n = true then 1 else 0)
theorem cN_le (p : Nat → Bool) : ∀ n, cN p n ≤ n := by
  intro n
  induction n with
  | zero => exact Nat.le_refl _
  | succ n ih => unfold cN; split <;> omega
theorem cN_cong {p q : Nat → Bool} : ∀ {n : Nat}, (∀ j, j < n → p j = q j) → cN p n = cN q n := by
  intro n
  induction n with
  | zero => intro _; rfl
  | succ n ih => intro h; unfold cN; rw [ih (fun j hj => h j (by omega)), h n (by omega)]
theorem cN_one {p q : Nat → Bool} {j0 : Nat} (hp : p j0 = false) (hq : q j0 = true) (ho : ∀ j, j ≠ j0 → p j = q j) : ∀ {n : Nat}, j0 < n → cN q n = cN p n + 1 := by
  intro n
  induction n with
  | zero => intro h; omega
  | succ n ih =>
    intro h
    unfold cN
    by_cases e : j0 = n
    · subst e
      rw [hp, hq, cN_cong (p := p) (q := q) (fun j hj => ho j (by omega))]
      simp
    · rw [ih (by omega), ho n (by omega)]; omega
/-- how often the state numbered K leads to the one numbered j -/
def en_r (st : Nat → Nat → Nat) (ord : Nat → Nat) (K j : Nat) : Nat → Nat
  | 0 => 0
  | i + 1 => en_r st ord K j i + (if st (ord K) i = ord j then 1 else 0)
def en_a (st : Nat → Nat → Nat) (ord : Nat → Nat) (I j : Nat) : Nat → Nat
  | 0 => 0
  | K + 1 => en_a st ord I j K + en_r st ord K j I
def en (st : Nat → Nat → Nat) (ord : Nat → Nat) (I k i j : Nat) : Nat := en_a st ord I j k + en_r st ord k j i
theorem en_r_le (st : Nat → Nat → Nat) (ord : Nat → Nat) (K j : Nat) : ∀ i, en_r st ord K j i ≤ i := by
  intro i
  induction i with
  | zero => exact Nat.le_refl _
  | succ i ih => unfold en_r; split <;> omega
theorem en_a_le (st : Nat → Nat → Nat) (ord : Nat → Nat) (I j : Nat) : ∀ K, en_a st ord I j K ≤ K * I := by
  intro K
  induction K with
  | zero => exact Nat.zero_le _
  | succ K ih => unfold en_a; have := en_r_le st ord K j I; rw [Nat.succ_mul]; omega
theorem en_r_cong {st : Nat → Nat → Nat} {ord ord' : Nat → Nat} {K j : Nat} (h1 : ord' K = ord K) (h2 : ord' j = ord j) : ∀ i, en_r st ord' K j i = en_r st ord K j i := by
  intro i
  induction i with
  | zero => rfl
  | succ i ih => unfold en_r; rw [ih, h1, h2]
theorem en_a_cong {st : Nat → Nat → Nat} {ord ord' : Nat → Nat} {I j : Nat} (h2 : ord' j = ord j) : ∀ {K : Nat}, (∀ K', K' < K → ord' K' = ord K') → en_a st ord' I j K = en_a st ord I j K := by
  intro K
  induction K with
  | zero => intro _; rfl
  | succ K ih => intro h; unfold en_a; rw [ih (fun K' hK => h K' (by omega)), en_r_cong (h K (by omega)) h2]
theorem en_r_zero {st : Nat → Nat → Nat} {ord : Nat → Nat} {K j : Nat} : ∀ {i : Nat}, (∀ x, x < i → st (ord K) x ≠ ord j) → en_r st ord K j i = 0 := by
  intro i
  induction i with
  | zero => intro _; rfl
  | succ i ih => intro h; unfold en_r; rw [ih (fun x hx => h x (by omega)), if_neg (h i (by omega))]
theorem en_a_zero {st : Nat → Nat → Nat} {ord : Nat → Nat} {I j : Nat} : ∀ {K : Nat}, (∀ K' x, K' < K → x < I → st (ord K') x ≠ ord j) → en_a st ord I j K = 0 := by
  intro K
  induction K with
  | zero => intro _; rfl
  | succ K ih => intro h; unfold en_a; rw [ih (fun K' x hK hx => h K' x (by omega) hx), en_r_zero (fun x hx => h K x (by omega) hx)]
/-- does the state numbered K stay by the first i inputs -/
def rs_b (st : Nat → Nat → Nat) (ord : Nat → Nat) (K : Nat) : Nat → Bool
  | 0 => true
  | i + 1 => rs_b st ord K i && decide (st (ord K) i = ord K)
theorem rs_cong {st : Nat → Nat → Nat} {ord ord' : Nat → Nat} {K : Nat} (h : ord' K = ord K) : ∀ i, rs_b st ord' K i = rs_b st ord K i := by
  intro i
  induction i with
  | zero => rfl
  | succ i ih => unfold rs_b; rw [ih, h]
def wc_inv (I : Nat) (st : Nat → Nat → Nat) (ord : Nat → Nat) (sz k i : Nat) (entered : Nat → Int32) (joined : Int32) : Prop :=
  (∀ j, j < sz → entered j = nI (en st ord I k i j)) ∧ joined = nI (cN (fun j => decide (2 ≤ en st ord I k i j)) sz)
theorem wc_enter {S I : Nat} {st : Nat → Nat → Nat} {room k i j0 : Nat} {W : wk_T} {entered : Nat → Int32} {joined : Int32} {n : Nat} {t1 t2 t3 t5 : Int32} {post : Int32 → (Nat → Int32) → Prop} (hI : I ≤ 4) (hS : S ≤ 4096) (hn : n < 2 ^ 28) (hSn : S ≤ n) (hw : wk_inv S I st room k (i + 1) W) (hk : k < w_sz W) (hi : i < I) (h : wc_inv I st (w_ord W) (w_sz W) k i entered joined) (hj : j0 < w_sz W) (e : w_ord W j0 = st (w_ord W k) i)
    (hp : ∀ entered' joined', wc_inv I st (w_ord W) (w_sz W) k (i + 1) entered' joined' → post joined' entered') : wp_WA_enter t1 t2 t3 joined t5 n entered (nI j0) post := by
  have hle := wk_le hw
  have hb : ∀ j, en st (w_ord W) I k i j < 2 ^ 20 := fun j => by
    have a := en_r_le st (w_ord W) k j i; have b := en_a_le st (w_ord W) I j k
    have c : k * I ≤ 4096 * 4 := Nat.mul_le_mul (by omega) hI
    unfold en; omega
  have hne : ∀ j, j < w_sz W → j ≠ j0 → en st (w_ord W) I k (i + 1) j = en st (w_ord W) I k i j := fun j hj' hjj => by
    unfold en
    show _ + (en_r st (w_ord W) k j i + _) = _
    rw [if_neg (fun z => hjj (wk_inj hw hj' hj (by rw [← z, e]))), Nat.add_zero]
  have heq : en st (w_ord W) I k (i + 1) j0 = en st (w_ord W) I k i j0 + 1 := by
    unfold en
    show _ + (en_r st (w_ord W) k j0 i + _) = _
    rw [if_pos e.symm, Nat.add_assoc]
  obtain ⟨h1, h2⟩ := h
  have hb0 := hb j0
  unfold wp_WA_enter
  refine ⟨pk_in j0 n (by omega), ?_⟩
  rintro _ rfl
  refine ⟨pk_in j0 n (by omega), ?_⟩
  rintro _ rfl
  refine ⟨pk_in j0 n (by omega), ?_⟩
  rw [nI_clamp (by omega), pk_us, h1 j0 hj, show (1 : Int32) = nI 1 from rfl, nI_add]
  have hent : ∀ j, j < w_sz W → upd entered j0 (nI (en st (w_ord W) I k i j0 + 1)) j = nI (en st (w_ord W) I k (i + 1) j) := fun j hj' => by
    by_cases ej : j = j0
    · subst ej; rw [pk_us, heq]
    · rw [pk_un ej, h1 j hj', hne j hj' ej]
  by_cases e2 : en st (w_ord W) I k i j0 + 1 = 2
  · refine ⟨fun z => absurd (by rw [e2]; rfl) z, fun _ => ?_⟩
    rintro _ rfl
    refine hp _ _ ⟨hent, ?_⟩
    rw [h2, nI_add]
    congr 1
    -- count with j0 newly in
    have key := cN_one (p := fun j => if j < w_sz W then decide (2 ≤ en st (w_ord W) I k i j) else false) (q := fun j => if j < w_sz W then decide (2 ≤ en st (w_ord W) I k (i + 1) j) else false) (j0 := j0)
      (by show (if j0 < w_sz W then decide (2 ≤ en st (w_ord W) I k i j0) else false) = false; rw [if_pos hj]; exact decide_eq_false (by omega))
      (by show (if j0 < w_sz W then decide (2 ≤ en st (w_ord W) I k (i + 1) j0) else false) = true; rw [if_pos hj]; exact decide_eq_true (by omega))
      (fun j hjj => by
        show (if j < w_sz W then decide (2 ≤ en st (w_ord W) I k i j) else false) = (if j < w_sz W then decide (2 ≤ en st (w_ord W) I k (i + 1) j) else false)
        split
        · rw [hne j (by assumption) hjj]
        · rfl) (n := w_sz W) hj
    rw [cN_cong (p := fun j => decide (2 ≤ en st (w_ord W) I k (i + 1) j)) (q := fun j => if j < w_sz W then decide (2 ≤ en st (w_ord W) I k (i + 1) j) else false) (fun j hj' => by show _ = (if j < w_sz W then _ else _); rw [if_pos hj']), key, cN_cong (p := fun j => decide (2 ≤ en st (w_ord W) I k i j)) (q := fun j => if j < w_sz W then decide (2 ≤ en st (w_ord W) I k i j) else false) (fun j hj' => by show _ = (if j < w_sz W then _ else _); rw [if_pos hj'])]
  · have hne2 : ¬ nI (en st (w_ord W) I k i j0 + 1) = 2 := fun z => e2 ((nI_eq (b := 2) (by omega) (by omega)).mp z)
    refine ⟨fun _ => ?_, fun z => absurd z hne2⟩
    refine hp _ _ ⟨hent, ?_⟩
    rw [h2]
    congr 1
    refine cN_cong (fun j hj' => ?_)
    show decide (2 ≤ en st (w_ord W) I k i j) = decide (2 ≤ en st (w_ord W) I k (i + 1) j)
    by_cases ej : j = j0
    · subst ej
      rw [heq]
      by_cases h3 : 2 ≤ en st (w_ord W) I k i j
      · rw [decide_eq_true h3, decide_eq_true (by omega)]
      · rw [decide_eq_false h3, decide_eq_false (by omega)]
    · rw [hne j hj' ej]
theorem wc_come {S I : Nat} {st : Nat → Nat → Nat} {room k i : Nat} {W : wk_T} {entered : Nat → Int32} {joined : Int32} (hw : wk_inv S I st room k i W) (hk : k < w_sz W) (hi : i < I) (hok : w_ok W = true) (h0 : w_num W (st (w_ord W k) i) = 0) (h : wc_inv I st (w_ord W) (w_sz W) k i entered joined) : wc_inv I st (w_ord (bf_come (st (w_ord W k) i) k i W)) (w_sz W + 1) k i (upd entered (w_sz W) 0) joined := by
  have hc : ∀ j, j < w_sz W → w_ord (bf_come (st (w_ord W k) i) k i W) j = w_ord W j := fun j hj => q_un (by omega)
  have he : ∀ j, j < w_sz W → en st (w_ord (bf_come (st (w_ord W k) i) k i W)) I k i j = en st (w_ord W) I k i j := fun j hj => by
    unfold en
    rw [en_a_cong (hc j hj) (fun K hK => hc K (by omega)), en_r_cong (hc k hk) (hc j hj)]
  have hnew : w_ord (bf_come (st (w_ord W k) i) k i W) (w_sz W) = st (w_ord W k) i := q_us
  have hz : en st (w_ord (bf_come (st (w_ord W k) i) k i W)) I k i (w_sz W) = 0 := by
    unfold en
    rw [en_a_zero (fun K x hK hx e => ?_), en_r_zero (fun x hx e => ?_)]
    · rw [hnew, hc k hk] at e
      exact hw.2.2.2.2.2.2 hok k x hk (by omega) (Or.inr ⟨rfl, hx⟩) (by rw [e]; exact h0)
    · rw [hnew, hc K (by omega)] at e
      exact hw.2.2.2.2.2.2 hok K x (by omega) hx (Or.inl hK) (by rw [e]; exact h0)
  refine ⟨fun j hj => ?_, ?_⟩
  · by_cases e : j = w_sz W
    · subst e; rw [pk_us, hz]; rfl
    · rw [pk_un e, he j (by omega)]; exact h.1 j (by omega)
  · rw [h.2]
    show _ = nI (cN _ (w_sz W) + _)
    rw [if_neg (show ¬ decide (2 ≤ en st (w_ord (bf_come (st (w_ord W k) i) k i W)) I k i (w_sz W)) = true by rw [hz]; simp), Nat.add_zero]
    congr 1
    exact cN_cong (fun j hj => by show decide _ = decide _; rw [he j hj])

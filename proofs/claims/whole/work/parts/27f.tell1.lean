/-- a machine as its two answers: what follows is said of these alone -/
def ms_ok (t_registers : Int32) (t_bits : Int32) (t_inputs : Int32) (t_transfers : Int32) (n_t_shifts : Nat) (f_t_shifts : Nat → Int32) (n_t_masks : Nat) (f_t_masks : Nat → Int32) (n_t_rules : Nat) (f_t_rules : Nat → Option Nat) (vTr_t_rules_4 : Nat → Int32) (fTg_t_rules_4 : Nat → Nat → Int32) (fOp_t_rules_4 : Nat → Nat → Int32) (fLf_t_rules_4 : Nat → Nat → Int32) (fRt_t_rules_4 : Nat → Nat → Int32) (nMv_t_rules_4 : Nat → Nat) (S I : Nat) (st out : Nat → Nat → Nat) (MV : (Nat → Nat → Int32) → Prop) : Prop :=
  t_inputs = nI I ∧ I ≤ 4 ∧ (1 : Int32) <<< (t_bits &&& 31) = nI S ∧ 0 < S ∧ S ≤ 4096 ∧ (∀ s i, s < S → i < I → st s i < S ∧ out s i < 16) ∧
  (∀ (g : Nat → Nat → Int32) (s i : Nat) (post : Int32 → (Nat → Nat → Int32) → Prop), MV g → s < S → i < I → (∀ g', MV g' → post (nI (st s i)) g') → wp_MA4_next t_registers t_bits t_inputs t_transfers n_t_shifts f_t_shifts n_t_masks f_t_masks n_t_rules f_t_rules vTr_t_rules_4 fTg_t_rules_4 fOp_t_rules_4 fLf_t_rules_4 fRt_t_rules_4 nMv_t_rules_4 g (nI s) (nI i) post) ∧
  (∀ (g : Nat → Nat → Int32) (s i : Nat) (post : Int32 → (Nat → Nat → Int32) → Prop), MV g → s < S → i < I → (∀ g', MV g' → post (nI (out s i)) g') → wp_MA4_given t_registers t_bits t_inputs t_transfers n_t_shifts f_t_shifts n_t_masks f_t_masks n_t_rules f_t_rules vTr_t_rules_4 fTg_t_rules_4 fOp_t_rules_4 fLf_t_rules_4 fRt_t_rules_4 nMv_t_rules_4 g (nI s) (nI i) post)
theorem s_TE_rootOf {t_stands : Int32} {t_apart : Int32} {t_left : Int32} {t_right : Int32} {t_size : Int32} {n S m a : Nat} {f : Nat → Int32} {F c rk : Nat → Nat} {post : Int32 → (Nat → Int32) → Prop} (h : uf_ok S m F c rk) (hF : ∀ x, x < S → f x = nI (F x)) (hS : S ≤ n) (hm : m < n) (hn : n < 2 ^ 28) (ha : a < S)
    (hp : ∀ (f' : Nat → Int32) (F' : Nat → Nat), uf_ok S m F' c rk → (∀ x, x < S → f' x = nI (F' x)) → post (nI (c a)) f') : wp_TE_rootOf t_stands t_apart t_left t_right t_size n f (nI a) post := by
  unfold wp_TE_rootOf
  have key : ∀ (k x y : Nat) (g : Nat → Int32) (G : Nat → Nat), uf_ok S m G c rk → (∀ x, x < S → g x = nI (G x)) → x < S → c x = c a → y ≤ rk x → m - rk x ≤ k → wp_TE_rootOf_L4 t_stands t_apart t_left t_right t_size n f (nI a) post (k + 1) g (nI x) (nI y) := by
    intro k
    induction k with
    | zero =>
      intro x y g G hu hg hx hc hy hk
      have hrx := hu.2.2.2.2.2.2 x hx
      unfold wp_TE_rootOf_L4
      refine pk_le n y (fun hh => absurd hh (by omega)) (fun hh => ⟨pk_in x n (by omega), ?_⟩)
      rw [nI_clamp (by omega), hg x hx]
      have hgx := hu.1 x hx
      refine pk_eq (G x) x (fun e => ?_) (fun e => ?_)
      · have z := hu.2.2.2.2.1 x hx e
        have z2 := hp g G hu hg
        rw [← hc, z] at z2; exact z2
      · have z := hu.2.2.2.2.2.1 x hx e
        have z2 := hu.2.2.2.2.2.2 (G x) hgx
        omega
    | succ k ih =>
      intro x y g G hu hg hx hc hy hk
      have hrx := hu.2.2.2.2.2.2 x hx
      unfold wp_TE_rootOf_L4
      refine pk_le n y (fun hh => absurd hh (by omega)) (fun hh => ⟨pk_in x n (by omega), ?_⟩)
      rw [nI_clamp (by omega), hg x hx]
      have hgx := hu.1 x hx
      have hggx := hu.1 (G x) hgx
      refine pk_eq (G x) x (fun e => ?_) (fun e => ?_)
      · have z := hu.2.2.2.2.1 x hx e
        have z2 := hp g G hu hg
        rw [← hc, z] at z2; exact z2
      · have z := hu.2.2.2.2.2.1 x hx e
        have z2 : rk (G x) ≤ rk (G (G x)) := by
          by_cases e2 : G (G x) = G x
          · rw [e2]; exact Nat.le_refl _
          · exact Nat.le_of_lt (hu.2.2.2.2.2.1 _ hgx e2)
        refine ⟨pk_in x n (by omega), pk_in (G x) n (by omega), ?_⟩
        rintro _ rfl
        refine ⟨pk_in x n (by omega), ?_⟩
        rintro _ rfl
        refine ⟨pk_in x n (by omega), ?_⟩
        rintro _ rfl _ rfl
        rw [pk_us, nI_clamp (by omega), hg _ hgx, nI_1]
        refine ih (G (G x)) (y + 1) _ (fun v => if v = x then G (G x) else G v) (uf_half hu hx (if_pos rfl) (fun v hv => if_neg hv)) (fun v hv => ?_) hggx ?_ (by omega) (by omega)
        · by_cases hvx : v = x
          · subst hvx; rw [pk_us, if_pos rfl]
          · rw [pk_un hvx, if_neg hvx]; exact hg v hv
        · rw [hu.2.2.1 _ hgx, hu.2.2.1 _ hx]; exact hc
  exact ⟨_, key _ a 0 f F h hF ha rfl (Nat.zero_le _) (Nat.le_refl _)⟩
theorem s_TE_join {t_stands : Int32} {t_apart : Int32} {t_left : Int32} {t_right : Int32} {f_t_lefts : Nat → Int32} {f_t_rights : Nat → Int32} {n S m a b sz : Nat} {f : Nat → Int32} {F c rk : Nat → Nat} {post : Int32 → Int32 → (Nat → Int32) → (Nat → Int32) → (Nat → Int32) → Prop} (h : uf_ok S m F c rk) (hF : ∀ x, x < S → f x = nI (F x)) (hS : S ≤ n) (hm : m < n) (hn : n < 2 ^ 28) (ha : a < S) (hb : b < S) (hsz : c a ≠ c b → sz < n)
    (hp1 : c a = c b → ∀ (f' : Nat → Int32) (F' : Nat → Nat), uf_ok S m F' c rk → (∀ x, x < S → f' x = nI (F' x)) → post 0 (nI sz) f_t_lefts f_t_rights f')
    (hp2 : c a ≠ c b → ∀ (f' : Nat → Int32) (F' rk' : Nat → Nat), uf_ok S (m + 1) F' (fun x => if c x = c a then c b else c x) rk' → (∀ x, x < S → f' x = nI (F' x)) → post 1 (nI (sz + 1)) (upd f_t_lefts sz (nI a)) (upd f_t_rights sz (nI b)) f') : wp_TE_join t_stands t_apart t_left t_right (nI sz) n f_t_lefts n f_t_rights n f (nI a) (nI b) post := by
  unfold wp_TE_join
  refine s_TE_rootOf h hF hS hm hn ha (fun f1 F1 h1 hF1 => ?_)
  refine s_TE_rootOf h1 hF1 hS hm hn hb (fun f2 F2 h2 hF2 => ?_)
  have hca := h2.2.1 a ha
  have hcb := h2.2.1 b hb
  by_cases e : c a = c b
  · rw [e]
    exact ⟨fun z => absurd rfl z, fun _ => hp1 e f2 F2 h2 hF2⟩
  · have hne : ¬ nI (c a) = nI (c b) := fun z => e ((nI_eq (by omega) (by omega)).mp z)
    refine ⟨fun _ => ⟨pk_in (c a) n (by omega), ?_⟩, fun z => absurd z hne⟩
    rintro _ rfl
    have hs := hsz e
    refine ⟨pk_in sz n hs, ?_⟩
    rintro _ rfl
    refine ⟨pk_in sz n hs, ?_⟩
    rintro _ rfl _ rfl
    rw [nI_clamp (by omega), nI_clamp (by omega), show (1 : Int32) = nI 1 from rfl, nI_add]
    have key := uf_join (f' := fun v => if v = c a then c b else F2 v) h2 (r := c a) (q := c b) hca hcb (h2.2.2.2.1 a ha) (h2.2.2.2.1 b hb) e (if_pos rfl) (fun x hx => if_neg hx)
    refine hp2 e _ _ _ key (fun x hx => ?_)
    by_cases hv : x = c a
    · subst hv; rw [pk_us, if_pos rfl]
    · rw [pk_un hv, if_neg hv]; exact hF2 x hx

abbrev wl_TR_makeRows (cI cL cR : ClassId) (a_t : Nat) (a_t_back : Nat) (n_t_back : Nat) (f_t_back : Nat → Int32) : va_W := [(a_t, .inr (1, [.ref a_t_back])), (a_t_back, .inl (cI, n_t_back, .inl f_t_back))]
def wp_TR_makeRows (mc : Nat) (ms : Nat) (n_t_back : Nat) (f_t_back : Nat → Int32) (a1 : Int32) (post : Nat → Nat → (Nat → Int32) → Prop) : Prop :=
  ((¬ a1 < 0) ∧ a1.toNatClampNeg * 4 ≤ 536870912 ∧ 0 + 1 ≤ mc ∧ 0 + a1.toNatClampNeg ≤ ms ∧ (∀ q1 : Nat, post q1 a1.toNatClampNeg (fun _ => 0)))
abbrev rm_TR_makeRows (mc ms : Nat) : Room := { frames := 1, cells := mc, slots := ms, locals := 12 }
set_option maxHeartbeats 4000000 in
set_option maxRecDepth 100000 in
theorem c_TR_makeRows (l : Launch) (D : va_G) (cI cL cR : ClassId) (a_t : Nat) (a_t_back : Nat) (mc : Nat) (ms : Nat) (n_t_back : Nat) (f_t_back : Nat → Int32) (a1 : Int32) (sz : Nat) (post : Nat → Nat → (Nat → Int32) → Prop) (hw : wp_TR_makeRows mc ms n_t_back f_t_back a1 post) : ky_M ky_rV l y_TR_makeRows (.code y_TR_makeRows b_TR_makeRows 2 (none) :: wsG) (rm_TR_makeRows mc ms) D vwCl (ky_T cI cL cR) (wl_TR_makeRows cI cL cR a_t a_t_back n_t_back f_t_back) sz [.ref a_t, .int a1] (fun _ (u : Nat × Nat × (Nat → Int32)) => post u.1 u.2.1 u.2.2) (fun u => wl_TR_makeRows cI cL cR a_t u.1 u.2.1 u.2.2) := by
  refine ky_ofV (plainFor_of_name (by decide)) (Nat.le_of_ble_eq_true rfl) ?_
  intro p e s m args below meth c A Q ls hI hret
  obtain ⟨hx, hb, hml, hown, hin, hts, hK, hP, hD, hA, hS, hl⟩ := hI
  have hown : s.vm.findClass R_TR = some m.cls := hown
  have hl : lv_has ls 2 [(0, .ref a_t), (1, .int a1)] := hl
  obtain ⟨H, locs, eH, eL⟩ : ∃ (H : Heap) (locs : List Loc), H = s.heap ∧ locs = [] := ⟨_, _, rfl, rfl⟩
  rw [← eL] at hS ⊢
  have hS : va_S A s.heap H locs := by rw [eH]; exact hS
  have hP : va_P D vwCl (wl_TR_makeRows cI cL cR a_t a_t_back n_t_back f_t_back) H := by rw [eH]; exact hP
  suffices hgo : W p l e (rm_TR_makeRows mc ms) s m args below meth c H locs 0 0 Q (F0 m 0 ls []) by rw [eH] at hgo; exact hgo
  clear eH eL
  unfold wp_TR_makeRows at hw
  refine lv_aload_n hx hb d_TR_makeRows_0 rfl (lv_at hl 0 rfl) ?_
  refine lv_iload_n hx hb d_TR_makeRows_1 rfl (lv_at hl 1 rfl) ?_
  obtain ⟨h1, h2, h3, h4, hw⟩ := hw
  refine ky_newI (N' := a1.toNatClampNeg) hx hb (hts _ k_0) hK rfl hP hD hS hA h1 rfl h2 h3 h4 d_TR_makeRows_2 (fun q1 H hP hD hS => ?_)
  have hP : va_P D vwCl [(a_t, .inr (1, [.ref a_t_back])), (a_t_back, .inl (cI, n_t_back, .inl f_t_back)), (q1, .inl (cI, a1.toNatClampNeg, .inl (fun _ => 0)))] H := hP
  have hD : va_D A [(a_t, .inr (1, [.ref a_t_back])), (a_t_back, .inl (cI, n_t_back, .inl f_t_back)), (q1, .inl (cI, a1.toNatClampNeg, .inl (fun _ => 0)))] := hD
  have hw := hw q1
  refine pf_TR_9 (v := .ref q1) hx hb hts hown hK hP hD hS 0 rfl rfl rfl (Nat.le_of_ble_eq_true rfl) d_TR_makeRows_4 (fun H locs hP hD hS => ?_)
  have hP : va_P D vwCl (wl_TR_makeRows cI cL cR a_t q1 a1.toNatClampNeg (fun _ => 0)) H := hP.sub [0, 2] rfl
  have hD : va_D A (wl_TR_makeRows cI cL cR a_t q1 a1.toNatClampNeg (fun _ => 0)) := hD.sub [0, 2] (by decide) rfl
  exact hret (q1, a1.toNatClampNeg, (fun _ => 0)) H locs _ _ 7 ls d_TR_makeRows_7 hP hD hS hw (show (0 + 1) ≤ mc by omega) (show (0 + a1.toNatClampNeg) ≤ ms by omega)

abbrev wl_TR_start (cI cL cR : ClassId) (a_t : Nat) (a_t_back : Nat) (n_t_back : Nat) (f_t_back : Nat → Int32) : va_W := [(a_t, .inr (1, [.ref a_t_back])), (a_t_back, .inl (cI, n_t_back, .inl f_t_back))]
def wp_TR_start (n_t_back : Nat) (f_t_back : Nat → Int32) (a1 : Int32) (post : (Nat → Int32) → Prop) : Prop :=
  (vp_in a1 n_t_back ∧ (∀ f1 : Nat → Int32, f1 = (upd f_t_back a1.toNatClampNeg ((-1) : Int32)) → post f1))
abbrev rm_TR_start : Room := { frames := 1, cells := 0, slots := 0, locals := 12 }
set_option maxHeartbeats 4000000 in
set_option maxRecDepth 100000 in
theorem c_TR_start (l : Launch) (D : va_G) (cI cL cR : ClassId) (a_t : Nat) (a_t_back : Nat) (n_t_back : Nat) (f_t_back : Nat → Int32) (a1 : Int32) (sz : Nat) (post : (Nat → Int32) → Prop) (hw : wp_TR_start n_t_back f_t_back a1 post) : ky_M ky_rV l y_TR_start (.code y_TR_start b_TR_start 2 (none) :: wsG) rm_TR_start D vwCl (ky_T cI cL cR) (wl_TR_start cI cL cR a_t a_t_back n_t_back f_t_back) sz [.ref a_t, .int a1] (fun _ (u : (Nat → Int32)) => post u) (fun u => wl_TR_start cI cL cR a_t a_t_back n_t_back u) := by
  refine ky_ofV (plainFor_of_name (by decide)) (Nat.le_of_ble_eq_true rfl) ?_
  intro p e s m args below meth c A Q ls hI hret
  obtain ⟨hx, hb, hml, hown, hin, hts, hK, hP, hD, hA, hS, hl⟩ := hI
  have hown : s.vm.findClass R_TR = some m.cls := hown
  have hl : lv_has ls 2 [(0, .ref a_t), (1, .int a1)] := hl
  obtain ⟨H, locs, eH, eL⟩ : ∃ (H : Heap) (locs : List Loc), H = s.heap ∧ locs = [] := ⟨_, _, rfl, rfl⟩
  rw [← eL] at hS ⊢
  have hS : va_S A s.heap H locs := by rw [eH]; exact hS
  have hP : va_P D vwCl (wl_TR_start cI cL cR a_t a_t_back n_t_back f_t_back) H := by rw [eH]; exact hP
  suffices hgo : W p l e rm_TR_start s m args below meth c H locs 0 0 Q (F0 m 0 ls []) by rw [eH] at hgo; exact hgo
  clear eH eL
  unfold wp_TR_start at hw
  refine lv_aload_n hx hb d_TR_start_0 rfl (lv_at hl 0 rfl) ?_
  refine gf_TR_9 hx hb hts hown hK hP 0 rfl rfl d_TR_start_1 ?_
  refine lv_iload_n hx hb d_TR_start_4 rfl (lv_at hl 1 rfl) ?_
  refine lv_iconst (v := (-1)) hx hb d_TR_start_5 (by decide) ?_
  obtain ⟨h1, hw⟩ := hw
  refine va_iast hx hb hK hP hD hS 1 0 rfl rfl h1 d_TR_start_6 (fun H locs hP hD hS => ?_)
  have hP : va_P D vwCl (wl_TR_start cI cL cR a_t a_t_back n_t_back (upd f_t_back a1.toNatClampNeg ((-1) : Int32))) H := hP
  have hD : va_D A (wl_TR_start cI cL cR a_t a_t_back n_t_back (upd f_t_back a1.toNatClampNeg ((-1) : Int32))) := hD
  generalize ef1 : (upd f_t_back a1.toNatClampNeg ((-1) : Int32)) = f1 at hP hD
  have hw := hw f1 ef1.symm
  exact hret f1 H locs _ _ 7 ls d_TR_start_7 hP hD hS hw (Nat.le_refl 0) (Nat.le_refl 0)

abbrev wl_TR_lead (cI cL cR : ClassId) (a_t : Nat) (a_t_back : Nat) (n_t_back : Nat) (f_t_back : Nat → Int32) : va_W := [(a_t, .inr (1, [.ref a_t_back])), (a_t_back, .inl (cI, n_t_back, .inl f_t_back))]
def wp_TR_lead (n_t_back : Nat) (f_t_back : Nat → Int32) (a1 : Int32) (a2 : Int32) (a3 : Int32) (post : (Nat → Int32) → Prop) : Prop :=
  (∀ y1 : Int32, y1 = ((a1 * (4 : Int32)) + a2) → (vp_in a3 n_t_back ∧ (∀ f2 : Nat → Int32, f2 = (upd f_t_back a3.toNatClampNeg y1) → post f2)))
abbrev rm_TR_lead : Room := { frames := 1, cells := 0, slots := 0, locals := 12 }
set_option maxHeartbeats 4000000 in
set_option maxRecDepth 100000 in
theorem c_TR_lead (l : Launch) (D : va_G) (cI cL cR : ClassId) (a_t : Nat) (a_t_back : Nat) (n_t_back : Nat) (f_t_back : Nat → Int32) (a1 : Int32) (a2 : Int32) (a3 : Int32) (sz : Nat) (post : (Nat → Int32) → Prop) (hw : wp_TR_lead n_t_back f_t_back a1 a2 a3 post) : ky_M ky_rV l y_TR_lead (.code y_TR_lead b_TR_lead 4 (none) :: wsG) rm_TR_lead D vwCl (ky_T cI cL cR) (wl_TR_lead cI cL cR a_t a_t_back n_t_back f_t_back) sz [.ref a_t, .int a1, .int a2, .int a3] (fun _ (u : (Nat → Int32)) => post u) (fun u => wl_TR_lead cI cL cR a_t a_t_back n_t_back u) := by
  refine ky_ofV (plainFor_of_name (by decide)) (Nat.le_of_ble_eq_true rfl) ?_
  intro p e s m args below meth c A Q ls hI hret
  obtain ⟨hx, hb, hml, hown, hin, hts, hK, hP, hD, hA, hS, hl⟩ := hI
  have hown : s.vm.findClass R_TR = some m.cls := hown
  have hl : lv_has ls 4 [(0, .ref a_t), (1, .int a1), (2, .int a2), (3, .int a3)] := hl
  obtain ⟨H, locs, eH, eL⟩ : ∃ (H : Heap) (locs : List Loc), H = s.heap ∧ locs = [] := ⟨_, _, rfl, rfl⟩
  rw [← eL] at hS ⊢
  have hS : va_S A s.heap H locs := by rw [eH]; exact hS
  have hP : va_P D vwCl (wl_TR_lead cI cL cR a_t a_t_back n_t_back f_t_back) H := by rw [eH]; exact hP
  suffices hgo : W p l e rm_TR_lead s m args below meth c H locs 0 0 Q (F0 m 0 ls []) by rw [eH] at hgo; exact hgo
  clear eH eL
  unfold wp_TR_lead at hw
  refine lv_aload_n hx hb d_TR_lead_0 rfl (lv_at hl 0 rfl) ?_
  refine gf_TR_9 hx hb hts hown hK hP 0 rfl rfl d_TR_lead_1 ?_
  refine lv_iload_n hx hb d_TR_lead_4 rfl (lv_at hl 3 rfl) ?_
  refine lv_iload_n hx hb d_TR_lead_5 rfl (lv_at hl 1 rfl) ?_
  refine lv_iconst (v := 4) hx hb d_TR_lead_6 (by decide) ?_
  refine lv_imul hx hb d_TR_lead_7 ?_
  refine lv_iload_n hx hb d_TR_lead_8 rfl (lv_at hl 2 rfl) ?_
  refine lv_iadd hx hb d_TR_lead_9 ?_
  refine lv_topi (fun y1 ey1 => ?_)
  have hw := hw y1 ey1
  obtain ⟨h1, hw⟩ := hw
  refine va_iast hx hb hK hP hD hS 1 0 rfl rfl h1 d_TR_lead_10 (fun H locs hP hD hS => ?_)
  have hP : va_P D vwCl (wl_TR_lead cI cL cR a_t a_t_back n_t_back (upd f_t_back a3.toNatClampNeg y1)) H := hP
  have hD : va_D A (wl_TR_lead cI cL cR a_t a_t_back n_t_back (upd f_t_back a3.toNatClampNeg y1)) := hD
  generalize ef2 : (upd f_t_back a3.toNatClampNeg y1) = f2 at hP hD
  have hw := hw f2 ef2.symm
  exact hret f2 H locs _ _ 11 ls d_TR_lead_11 hP hD hS hw (Nat.le_refl 0) (Nat.le_refl 0)

abbrev wl_TR_length (cI cL cR : ClassId) (a_t : Nat) (a_t_back : Nat) (n_t_back : Nat) (f_t_back : Nat → Int32) : va_W := [(a_t, .inr (1, [.ref a_t_back])), (a_t_back, .inl (cI, n_t_back, .inl f_t_back))]
def wp_TR_length_L4 (n_t_back : Nat) (f_t_back : Nat → Int32) (a1 : Int32)  (post : Int32 → Prop) : Nat → Int32 → Int32 → Prop
  | 0, _, _ => False
  | n4 + 1, x2_4, x3_4 => (((nI n_t_back) ≤ x3_4 → post x3_4) ∧ (¬ (nI n_t_back) ≤ x3_4 → (vp_in x2_4 n_t_back ∧ (((f_t_back x2_4.toNatClampNeg) = (-1) → post x3_4) ∧ (¬ (f_t_back x2_4.toNatClampNeg) = (-1) → (vp_in x2_4 n_t_back ∧ (∀ y1 : Int32, y1 = ((f_t_back x2_4.toNatClampNeg) / (4 : Int32)) → (∀ y2 : Int32, y2 = x3_4 + 1 → (wp_TR_length_L4 n_t_back f_t_back a1 post n4) y1 y2))))))))
def wp_TR_length (n_t_back : Nat) (f_t_back : Nat → Int32) (a1 : Int32) (post : Int32 → Prop) : Prop :=
  ∃ n : Nat, wp_TR_length_L4 n_t_back f_t_back a1 post n a1 0
abbrev rm_TR_length : Room := { frames := 1, cells := 0, slots := 0, locals := 12 }
set_option maxHeartbeats 4000000 in
set_option maxRecDepth 100000 in
theorem c_TR_length (l : Launch) (D : va_G) (cI cL cR : ClassId) (a_t : Nat) (a_t_back : Nat) (n_t_back : Nat) (f_t_back : Nat → Int32) (a1 : Int32) (sz : Nat) (post : Int32 → Prop) (hw : wp_TR_length n_t_back f_t_back a1 post) : ky_M ky_rI l y_TR_length (.code y_TR_length b_TR_length 4 (some .int) :: wsG) rm_TR_length D vwCl (ky_T cI cL cR) (wl_TR_length cI cL cR a_t a_t_back n_t_back f_t_back) sz [.ref a_t, .int a1] (fun r (u : Unit) => post r) (fun u => wl_TR_length cI cL cR a_t a_t_back n_t_back f_t_back) := by
  refine ky_ofI (plainFor_of_name (by decide)) (Nat.le_of_ble_eq_true rfl) ?_
  intro p e s m args below meth c A Q ls hI hret
  obtain ⟨hx, hb, hml, hown, hin, hts, hK, hP, hD, hA, hS, hl⟩ := hI
  have hown : s.vm.findClass R_TR = some m.cls := hown
  have hl : lv_has ls 4 [(0, .ref a_t), (1, .int a1)] := hl
  obtain ⟨H, locs, eH, eL⟩ : ∃ (H : Heap) (locs : List Loc), H = s.heap ∧ locs = [] := ⟨_, _, rfl, rfl⟩
  rw [← eL] at hS ⊢
  have hS : va_S A s.heap H locs := by rw [eH]; exact hS
  have hP : va_P D vwCl (wl_TR_length cI cL cR a_t a_t_back n_t_back f_t_back) H := by rw [eH]; exact hP
  suffices hgo : W p l e rm_TR_length s m args below meth c H locs 0 0 Q (F0 m 0 ls []) by rw [eH] at hgo; exact hgo
  clear eH eL
  unfold wp_TR_length at hw
  refine lv_iload_n hx hb d_TR_length_0 rfl (lv_at hl 1 rfl) ?_
  refine lv_istore_n (lv' := [(2, .int a1), (0, .ref a_t), (1, .int a1)]) hx hb d_TR_length_1 rfl hl (by decide) rfl (fun ls hl => ?_)
  refine lv_iconst (v := 0) hx hb d_TR_length_2 (by decide) ?_
  refine lv_istore_n (lv' := [(3, .int 0), (2, .int a1), (0, .ref a_t), (1, .int a1)]) hx hb d_TR_length_3 rfl hl (by decide) rfl (fun ls hl => ?_)
  have hL4 : ∀ (n : Nat) (x2_4 : Int32) (x3_4 : Int32), wp_TR_length_L4 n_t_back f_t_back a1 post n x2_4 x3_4 → ∀ (H : Heap) (locs : List Loc) (ls : Array Slot), va_P D vwCl (wl_TR_length cI cL cR a_t a_t_back n_t_back f_t_back) H → va_D A (wl_TR_length cI cL cR a_t a_t_back n_t_back f_t_back) → va_S A s.heap H locs → lv_has ls 4 [(0, .ref a_t), (2, .int x2_4), (3, .int x3_4)] → W p l e rm_TR_length s m args below meth c H locs 0 0 Q (F0 m 4 ls []) := by
    intro n
    induction n with
    | zero => intro x2_4 x3_4 hw; rw [wp_TR_length_L4] at hw; exact hw.elim
    | succ n4 ih4 =>
      intro x2_4 x3_4 hw H locs ls hP hD hS hl
      rw [wp_TR_length_L4] at hw
      refine lv_iload_n hx hb d_TR_length_4 rfl (lv_at hl 2 rfl) ?_
      refine lv_aload_n hx hb d_TR_length_5 rfl (lv_at hl 0 rfl) ?_
      refine gf_TR_9 hx hb hts hown hK hP 0 rfl rfl d_TR_length_6 ?_
      refine va_alen (v := nI n_t_back) hx hb hK hP 1 0 rfl rfl rfl d_TR_length_9 ?_
      refine lv_icmp_ge (tgt := 38) hx hb d_TR_length_10 (by decide) (fun hc => ?_) (fun hc => ?_)
      · have hw := hw.1 hc
        refine lv_iload_n hx hb d_TR_length_38 rfl (lv_at hl 2 rfl) ?_
        exact hret x3_4 () H locs _ _ 39 ls d_TR_length_39 hP hD hS hw (Nat.le_refl 0) (Nat.le_refl 0)
      · have hw := hw.2 hc
        refine lv_aload_n hx hb d_TR_length_13 rfl (lv_at hl 0 rfl) ?_
        refine gf_TR_9 hx hb hts hown hK hP 0 rfl rfl d_TR_length_14 ?_
        refine lv_iload_n hx hb d_TR_length_17 rfl (lv_at hl 1 rfl) ?_
        obtain ⟨h1, hw⟩ := hw
        refine va_iald hx hb hK hP 1 0 rfl rfl h1 d_TR_length_18 ?_
        refine lv_iconst (v := (-1)) hx hb d_TR_length_19 (by decide) ?_
        refine lv_icmp_eq (tgt := 38) hx hb d_TR_length_20 (by decide) (fun hc => ?_) (fun hc => ?_)
        · have hw := hw.1 hc
          refine lv_iload_n hx hb d_TR_length_38 rfl (lv_at hl 2 rfl) ?_
          exact hret x3_4 () H locs _ _ 39 ls d_TR_length_39 hP hD hS hw (Nat.le_refl 0) (Nat.le_refl 0)
        · have hw := hw.2 hc
          refine lv_aload_n hx hb d_TR_length_23 rfl (lv_at hl 0 rfl) ?_
          refine gf_TR_9 hx hb hts hown hK hP 0 rfl rfl d_TR_length_24 ?_
          refine lv_iload_n hx hb d_TR_length_27 rfl (lv_at hl 1 rfl) ?_
          obtain ⟨h1, hw⟩ := hw
          refine va_iald hx hb hK hP 1 0 rfl rfl h1 d_TR_length_28 ?_
          refine lv_iconst (v := 4) hx hb d_TR_length_29 (by decide) ?_
          refine lv_idiv hx hb d_TR_length_30 (by decide) ?_
          refine lv_topi (fun y1 ey1 => ?_)
          have hw := hw y1 ey1
          refine lv_istore_n (lv' := [(2, .int y1), (0, .ref a_t), (3, .int x3_4)]) hx hb d_TR_length_31 rfl hl (by decide) rfl (fun ls hl => ?_)
          obtain ⟨y2, ey2⟩ : ∃ z : Int32, z = x3_4 + 1 := ⟨_, rfl⟩
          refine lv_iinc (v := y2) (lv' := [(3, .int y2), (2, .int y1), (0, .ref a_t)]) hx hb d_TR_length_32 hl (k := 2) rfl (by rw [ey2]; rfl) (by decide) rfl (fun ls hl => ?_)
          have hw := hw y2 ey2
          refine lv_goto (tgt := 4) hx hb d_TR_length_35 (by decide) ?_
          exact ih4 y1 y2 hw H locs ls hP hD hS (lv_sub hl [2, 1, 0] rfl)
  obtain ⟨n, hw⟩ := hw
  exact hL4 n a1 0 hw H locs ls hP hD hS (lv_sub hl [2, 1, 0] rfl)

abbrev wl_TR_letter (cI cL cR : ClassId) (a_t : Nat) (a_t_back : Nat) (n_t_back : Nat) (f_t_back : Nat → Int32) : va_W := [(a_t, .inr (1, [.ref a_t_back])), (a_t_back, .inl (cI, n_t_back, .inl f_t_back))]
def wp_TR_letter_L22 (n_t_back : Nat) (f_t_back : Nat → Int32) (a1 : Int32) (a2 : Int32)  (post : Int32 → Prop) : Nat → Int32 → Int32 → Int32 → Prop
  | 0, _, _, _ => False
  | n22 + 1, x3_22, x4_22, x5_22 => ((x3_22 ≤ x5_22 → (vp_in x4_22 n_t_back ∧ post ((f_t_back x4_22.toNatClampNeg) - (f_t_back x4_22.toNatClampNeg) / (4 : Int32) * (4 : Int32)))) ∧ (¬ x3_22 ≤ x5_22 → (vp_in x4_22 n_t_back ∧ (∀ y3 : Int32, y3 = ((f_t_back x4_22.toNatClampNeg) / (4 : Int32)) → (∀ y4 : Int32, y4 = x5_22 + 1 → (wp_TR_letter_L22 n_t_back f_t_back a1 a2 post n22) x3_22 y3 y4)))))
def wp_TR_letter (n_t_back : Nat) (f_t_back : Nat → Int32) (a1 : Int32) (a2 : Int32) (post : Int32 → Prop) : Prop :=
  wp_TR_length n_t_back f_t_back a1 (fun r1 => (∀ y2 : Int32, y2 = ((r1 - (1 : Int32)) - a2) → (((0 : Int32) ≤ y2 → ∃ n : Nat, wp_TR_letter_L22 n_t_back f_t_back a1 a2 post n y2 a1 0) ∧ (¬ (0 : Int32) ≤ y2 → post (-1)))))
abbrev rm_TR_letter : Room := { frames := 2, cells := 0, slots := 0, locals := 36 }
set_option maxHeartbeats 4000000 in
set_option maxRecDepth 100000 in
theorem c_TR_letter (l : Launch) (D : va_G) (cI cL cR : ClassId) (a_t : Nat) (a_t_back : Nat) (n_t_back : Nat) (f_t_back : Nat → Int32) (a1 : Int32) (a2 : Int32) (sz : Nat) (post : Int32 → Prop) (hw : wp_TR_letter n_t_back f_t_back a1 a2 post) : ky_M ky_rI l y_TR_letter (.code y_TR_letter b_TR_letter 6 (some .int) :: wsG) rm_TR_letter D vwCl (ky_T cI cL cR) (wl_TR_letter cI cL cR a_t a_t_back n_t_back f_t_back) sz [.ref a_t, .int a1, .int a2] (fun r (u : Unit) => post r) (fun u => wl_TR_letter cI cL cR a_t a_t_back n_t_back f_t_back) := by
  refine ky_ofI (plainFor_of_name (by decide)) (Nat.le_of_ble_eq_true rfl) ?_
  intro p e s m args below meth c A Q ls hI hret
  obtain ⟨hx, hb, hml, hown, hin, hts, hK, hP, hD, hA, hS, hl⟩ := hI
  have hown : s.vm.findClass R_TR = some m.cls := hown
  have hl : lv_has ls 6 [(0, .ref a_t), (1, .int a1), (2, .int a2)] := hl
  obtain ⟨H, locs, eH, eL⟩ : ∃ (H : Heap) (locs : List Loc), H = s.heap ∧ locs = [] := ⟨_, _, rfl, rfl⟩
  rw [← eL] at hS ⊢
  have hS : va_S A s.heap H locs := by rw [eH]; exact hS
  have hP : va_P D vwCl (wl_TR_letter cI cL cR a_t a_t_back n_t_back f_t_back) H := by rw [eH]; exact hP
  suffices hgo : W p l e rm_TR_letter s m args below meth c H locs 0 0 Q (F0 m 0 ls []) by rw [eH] at hgo; exact hgo
  clear eH eL
  unfold wp_TR_letter at hw
  refine lv_aload_n hx hb d_TR_letter_0 rfl (lv_at hl 0 rfl) ?_
  refine lv_iload_n hx hb d_TR_letter_1 rfl (lv_at hl 1 rfl) ?_
  refine ky_call (wr := []) hP hD hS hA [0, 1] [] rfl rfl (by decide) (by decide) (va_runV (As := [.int a1]) (rest := []) ⟨hx, hb, hml, hown, hts⟩ (c_TR_length l D cI cL cR a_t a_t_back n_t_back f_t_back a1 H.size _ hw) (cw_TR_15 hts ⟨Nat.le_of_ble_eq_true rfl, Nat.le_of_ble_eq_true rfl⟩) (ky_preV hK hP hD [0, 1] rfl (by decide) rfl rfl) rfl rfl hl.1 rfl (lv_room (Nat.le_of_ble_eq_true rfl)) d_TR_letter_2 ⟨Nat.le_refl 0, Nat.le_refl 0⟩) (fun r u H locs hw hP hD hS => ?_)
  obtain ⟨r1, rfl⟩ : ∃ z, z = r := ⟨_, rfl⟩
  have hP : va_P D vwCl (wl_TR_letter cI cL cR a_t a_t_back n_t_back f_t_back) H := hP
  have hD : va_D A (wl_TR_letter cI cL cR a_t a_t_back n_t_back f_t_back) := hD
  refine W.widen (k := 0) (n := 0) (Nat.le_refl _) (Nat.le_refl _) ?_
  refine W.eq (g2 := F0 m 5 ls [.int r1]) rfl ?_
  refine lv_iconst (v := 1) hx hb d_TR_letter_5 (by decide) ?_
  refine lv_isub hx hb d_TR_letter_6 ?_
  refine lv_iload_n hx hb d_TR_letter_7 rfl (lv_at hl 2 rfl) ?_
  refine lv_isub hx hb d_TR_letter_8 ?_
  refine lv_topi (fun y2 ey2 => ?_)
  have hw := hw y2 ey2
  refine lv_istore_n (lv' := [(3, .int y2), (0, .ref a_t), (1, .int a1), (2, .int a2)]) hx hb d_TR_letter_9 rfl hl (by decide) rfl (fun ls hl => ?_)
  refine lv_iload_n hx hb d_TR_letter_10 rfl (lv_at hl 0 rfl) ?_
  refine lv_if_ge (tgt := 16) hx hb d_TR_letter_11 (by decide) (fun hc => ?_) (fun hc => ?_)
  · have hw := hw.1 hc
    refine lv_iload_n hx hb d_TR_letter_16 rfl (lv_at hl 2 rfl) ?_
    refine lv_istore (lv' := [(4, .int a1), (3, .int y2), (0, .ref a_t), (1, .int a1), (2, .int a2)]) hx hb d_TR_letter_17 hl (by decide) rfl (fun ls hl => ?_)
    refine lv_iconst (v := 0) hx hb d_TR_letter_19 (by decide) ?_
    refine lv_istore (lv' := [(5, .int 0), (4, .int a1), (3, .int y2), (0, .ref a_t), (1, .int a1), (2, .int a2)]) hx hb d_TR_letter_20 hl (by decide) rfl (fun ls hl => ?_)
    have hL22 : ∀ (n : Nat) (x3_22 : Int32) (x4_22 : Int32) (x5_22 : Int32), wp_TR_letter_L22 n_t_back f_t_back a1 a2 post n x3_22 x4_22 x5_22 → ∀ (H : Heap) (locs : List Loc) (ls : Array Slot), va_P D vwCl (wl_TR_letter cI cL cR a_t a_t_back n_t_back f_t_back) H → va_D A (wl_TR_letter cI cL cR a_t a_t_back n_t_back f_t_back) → va_S A s.heap H locs → lv_has ls 6 [(0, .ref a_t), (3, .int x3_22), (4, .int x4_22), (5, .int x5_22)] → W p l e rm_TR_letter s m args below meth c H locs 0 0 Q (F0 m 22 ls []) := by
      intro n
      induction n with
      | zero => intro x3_22 x4_22 x5_22 hw; rw [wp_TR_letter_L22] at hw; exact hw.elim
      | succ n22 ih22 =>
        intro x3_22 x4_22 x5_22 hw H locs ls hP hD hS hl
        rw [wp_TR_letter_L22] at hw
        refine lv_iload hx hb d_TR_letter_22 (lv_at hl 3 rfl) ?_
        refine lv_iload_n hx hb d_TR_letter_24 rfl (lv_at hl 1 rfl) ?_
        refine lv_icmp_ge (tgt := 45) hx hb d_TR_letter_25 (by decide) (fun hc => ?_) (fun hc => ?_)
        · have hw := hw.1 hc
          refine lv_aload_n hx hb d_TR_letter_45 rfl (lv_at hl 0 rfl) ?_
          refine gf_TR_9 hx hb hts hown hK hP 0 rfl rfl d_TR_letter_46 ?_
          refine lv_iload hx hb d_TR_letter_49 (lv_at hl 2 rfl) ?_
          obtain ⟨h1, hw⟩ := hw
          refine va_iald hx hb hK hP 1 0 rfl rfl h1 d_TR_letter_51 ?_
          refine lv_iconst (v := 4) hx hb d_TR_letter_52 (by decide) ?_
          refine lv_irem hx hb d_TR_letter_53 (by decide) ?_
          exact hret ((f_t_back x4_22.toNatClampNeg) - (f_t_back x4_22.toNatClampNeg) / (4 : Int32) * (4 : Int32)) () H locs _ _ 54 ls d_TR_letter_54 hP hD hS hw (Nat.le_refl 0) (Nat.le_refl 0)
        · have hw := hw.2 hc
          refine lv_aload_n hx hb d_TR_letter_28 rfl (lv_at hl 0 rfl) ?_
          refine gf_TR_9 hx hb hts hown hK hP 0 rfl rfl d_TR_letter_29 ?_
          refine lv_iload hx hb d_TR_letter_32 (lv_at hl 2 rfl) ?_
          obtain ⟨h1, hw⟩ := hw
          refine va_iald hx hb hK hP 1 0 rfl rfl h1 d_TR_letter_34 ?_
          refine lv_iconst (v := 4) hx hb d_TR_letter_35 (by decide) ?_
          refine lv_idiv hx hb d_TR_letter_36 (by decide) ?_
          refine lv_topi (fun y3 ey3 => ?_)
          have hw := hw y3 ey3
          refine lv_istore (lv' := [(4, .int y3), (0, .ref a_t), (3, .int x3_22), (5, .int x5_22)]) hx hb d_TR_letter_37 hl (by decide) rfl (fun ls hl => ?_)
          obtain ⟨y4, ey4⟩ : ∃ z : Int32, z = x5_22 + 1 := ⟨_, rfl⟩
          refine lv_iinc (v := y4) (lv' := [(5, .int y4), (4, .int y3), (0, .ref a_t), (3, .int x3_22)]) hx hb d_TR_letter_39 hl (k := 3) rfl (by rw [ey4]; rfl) (by decide) rfl (fun ls hl => ?_)
          have hw := hw y4 ey4
          refine lv_goto (tgt := 22) hx hb d_TR_letter_42 (by decide) ?_
          exact ih22 x3_22 y3 y4 hw H locs ls hP hD hS (lv_sub hl [2, 3, 1, 0] rfl)
    obtain ⟨n, hw⟩ := hw
    exact hL22 n y2 a1 0 hw H locs ls hP hD hS (lv_sub hl [3, 2, 1, 0] rfl)
  · have hw := hw.2 hc
    refine lv_iconst (v := (-1)) hx hb d_TR_letter_14 (by decide) ?_
    exact hret (-1) () H locs _ _ 15 ls d_TR_letter_15 hP hD hS hw (Nat.le_refl 0) (Nat.le_refl 0)

abbrev wl_RU_put (cI cL cR : ClassId) (a_t : Nat) (a_t_targets : Nat) (a_t_ops : Nat) (a_t_lefts : Nat) (a_t_rights : Nat) (a_t_moves : Nat) (t_transfers : Int32) (n_t_ops : Nat) (f_t_ops : Nat → Int32) (n_t_lefts : Nat) (f_t_lefts : Nat → Int32) (n_t_rights : Nat) (f_t_rights : Nat → Int32) : va_W := [(a_t, .inr (0, [.ref a_t_targets, .ref a_t_ops, .ref a_t_lefts, .ref a_t_rights, .int t_transfers, .ref a_t_moves])), (a_t_ops, .inl (cI, n_t_ops, .inl f_t_ops)), (a_t_lefts, .inl (cI, n_t_lefts, .inl f_t_lefts)), (a_t_rights, .inl (cI, n_t_rights, .inl f_t_rights))]
def wp_RU_put (t_transfers : Int32) (n_t_ops : Nat) (f_t_ops : Nat → Int32) (n_t_lefts : Nat) (f_t_lefts : Nat → Int32) (n_t_rights : Nat) (f_t_rights : Nat → Int32) (a1 : Int32) (a2 : Int32) (a3 : Int32) (a4 : Int32) (post : (Nat → Int32) → (Nat → Int32) → (Nat → Int32) → Prop) : Prop :=
  (vp_in a1 n_t_ops ∧ (∀ f1 : Nat → Int32, f1 = (upd f_t_ops a1.toNatClampNeg a2) → (vp_in a1 n_t_lefts ∧ (∀ f2 : Nat → Int32, f2 = (upd f_t_lefts a1.toNatClampNeg a3) → (vp_in a1 n_t_rights ∧ (∀ f3 : Nat → Int32, f3 = (upd f_t_rights a1.toNatClampNeg a4) → post f1 f2 f3))))))
abbrev rm_RU_put : Room := { frames := 1, cells := 0, slots := 0, locals := 12 }
set_option maxHeartbeats 4000000 in
set_option maxRecDepth 100000 in
theorem c_RU_put (l : Launch) (D : va_G) (cI cL cR : ClassId) (a_t : Nat) (a_t_targets : Nat) (a_t_ops : Nat) (a_t_lefts : Nat) (a_t_rights : Nat) (a_t_moves : Nat) (t_transfers : Int32) (n_t_ops : Nat) (f_t_ops : Nat → Int32) (n_t_lefts : Nat) (f_t_lefts : Nat → Int32) (n_t_rights : Nat) (f_t_rights : Nat → Int32) (a1 : Int32) (a2 : Int32) (a3 : Int32) (a4 : Int32) (sz : Nat) (post : (Nat → Int32) → (Nat → Int32) → (Nat → Int32) → Prop) (hw : wp_RU_put t_transfers n_t_ops f_t_ops n_t_lefts f_t_lefts n_t_rights f_t_rights a1 a2 a3 a4 post) : ky_M ky_rV l y_RU_put (.code y_RU_put b_RU_put 5 (none) :: wsG) rm_RU_put D vwCl (ky_T cI cL cR) (wl_RU_put cI cL cR a_t a_t_targets a_t_ops a_t_lefts a_t_rights a_t_moves t_transfers n_t_ops f_t_ops n_t_lefts f_t_lefts n_t_rights f_t_rights) sz [.ref a_t, .int a1, .int a2, .int a3, .int a4] (fun _ (u : (Nat → Int32) × (Nat → Int32) × (Nat → Int32)) => post u.1 u.2.1 u.2.2) (fun u => wl_RU_put cI cL cR a_t a_t_targets a_t_ops a_t_lefts a_t_rights a_t_moves t_transfers n_t_ops u.1 n_t_lefts u.2.1 n_t_rights u.2.2) := by
  refine ky_ofV (plainFor_of_name (by decide)) (Nat.le_of_ble_eq_true rfl) ?_
  intro p e s m args below meth c A Q ls hI hret
  obtain ⟨hx, hb, hml, hown, hin, hts, hK, hP, hD, hA, hS, hl⟩ := hI
  have hown : s.vm.findClass R_RU = some m.cls := hown
  have hl : lv_has ls 5 [(0, .ref a_t), (1, .int a1), (2, .int a2), (3, .int a3), (4, .int a4)] := hl
  obtain ⟨H, locs, eH, eL⟩ : ∃ (H : Heap) (locs : List Loc), H = s.heap ∧ locs = [] := ⟨_, _, rfl, rfl⟩
  rw [← eL] at hS ⊢
  have hS : va_S A s.heap H locs := by rw [eH]; exact hS
  have hP : va_P D vwCl (wl_RU_put cI cL cR a_t a_t_targets a_t_ops a_t_lefts a_t_rights a_t_moves t_transfers n_t_ops f_t_ops n_t_lefts f_t_lefts n_t_rights f_t_rights) H := by rw [eH]; exact hP
  suffices hgo : W p l e rm_RU_put s m args below meth c H locs 0 0 Q (F0 m 0 ls []) by rw [eH] at hgo; exact hgo
  clear eH eL
  unfold wp_RU_put at hw
  refine lv_aload_n hx hb d_RU_put_0 rfl (lv_at hl 0 rfl) ?_
  refine gf_RU_15 hx hb hts hown hK hP 0 rfl rfl d_RU_put_1 ?_
  refine lv_iload_n hx hb d_RU_put_4 rfl (lv_at hl 1 rfl) ?_
  refine lv_iload_n hx hb d_RU_put_5 rfl (lv_at hl 2 rfl) ?_
  obtain ⟨h1, hw⟩ := hw
  refine va_iast hx hb hK hP hD hS 1 0 rfl rfl h1 d_RU_put_6 (fun H locs hP hD hS => ?_)
  have hP : va_P D vwCl (wl_RU_put cI cL cR a_t a_t_targets a_t_ops a_t_lefts a_t_rights a_t_moves t_transfers n_t_ops (upd f_t_ops a1.toNatClampNeg a2) n_t_lefts f_t_lefts n_t_rights f_t_rights) H := hP
  have hD : va_D A (wl_RU_put cI cL cR a_t a_t_targets a_t_ops a_t_lefts a_t_rights a_t_moves t_transfers n_t_ops (upd f_t_ops a1.toNatClampNeg a2) n_t_lefts f_t_lefts n_t_rights f_t_rights) := hD
  generalize ef1 : (upd f_t_ops a1.toNatClampNeg a2) = f1 at hP hD
  have hw := hw f1 ef1.symm
  refine lv_aload_n hx hb d_RU_put_7 rfl (lv_at hl 0 rfl) ?_
  refine gf_RU_18 hx hb hts hown hK hP 0 rfl rfl d_RU_put_8 ?_
  refine lv_iload_n hx hb d_RU_put_11 rfl (lv_at hl 1 rfl) ?_
  refine lv_iload_n hx hb d_RU_put_12 rfl (lv_at hl 3 rfl) ?_
  obtain ⟨h1, hw⟩ := hw
  refine va_iast hx hb hK hP hD hS 2 0 rfl rfl h1 d_RU_put_13 (fun H locs hP hD hS => ?_)
  have hP : va_P D vwCl (wl_RU_put cI cL cR a_t a_t_targets a_t_ops a_t_lefts a_t_rights a_t_moves t_transfers n_t_ops f1 n_t_lefts (upd f_t_lefts a1.toNatClampNeg a3) n_t_rights f_t_rights) H := hP
  have hD : va_D A (wl_RU_put cI cL cR a_t a_t_targets a_t_ops a_t_lefts a_t_rights a_t_moves t_transfers n_t_ops f1 n_t_lefts (upd f_t_lefts a1.toNatClampNeg a3) n_t_rights f_t_rights) := hD
  generalize ef2 : (upd f_t_lefts a1.toNatClampNeg a3) = f2 at hP hD
  have hw := hw f2 ef2.symm
  refine lv_aload_n hx hb d_RU_put_14 rfl (lv_at hl 0 rfl) ?_
  refine gf_RU_21 hx hb hts hown hK hP 0 rfl rfl d_RU_put_15 ?_
  refine lv_iload_n hx hb d_RU_put_18 rfl (lv_at hl 1 rfl) ?_
  refine lv_iload hx hb d_RU_put_19 (lv_at hl 4 rfl) ?_
  obtain ⟨h1, hw⟩ := hw
  refine va_iast hx hb hK hP hD hS 3 0 rfl rfl h1 d_RU_put_21 (fun H locs hP hD hS => ?_)
  have hP : va_P D vwCl (wl_RU_put cI cL cR a_t a_t_targets a_t_ops a_t_lefts a_t_rights a_t_moves t_transfers n_t_ops f1 n_t_lefts f2 n_t_rights (upd f_t_rights a1.toNatClampNeg a4)) H := hP
  have hD : va_D A (wl_RU_put cI cL cR a_t a_t_targets a_t_ops a_t_lefts a_t_rights a_t_moves t_transfers n_t_ops f1 n_t_lefts f2 n_t_rights (upd f_t_rights a1.toNatClampNeg a4)) := hD
  generalize ef3 : (upd f_t_rights a1.toNatClampNeg a4) = f3 at hP hD
  have hw := hw f3 ef3.symm
  exact hret (f1, f2, f3) H locs _ _ 22 ls d_RU_put_22 hP hD hS hw (Nat.le_refl 0) (Nat.le_refl 0)

abbrev wl_AR_fill (cI cL cR : ClassId) (a_a0 : Nat) (n_a0 : Nat) (f_a0 : Nat → Int32) : va_W := [(a_a0, .inl (cI, n_a0, .inl f_a0))]
def wp_AR_fill_L5 (n_a0 : Nat) (f_a0 : Nat → Int32) (a1 : Int32)  (post : (Nat → Int32) → Prop) : Nat → (Nat → Int32) → Int32 → Int32 → Prop
  | 0, _, _, _ => False
  | n5 + 1, f_a0_5, x2_5, x3_5 => ((x3_5 ≤ x2_5 → post f_a0_5) ∧ (¬ x3_5 ≤ x2_5 → (vp_in x2_5 n_a0 ∧ (∀ f2 : Nat → Int32, f2 = (upd f_a0_5 x2_5.toNatClampNeg a1) → (∀ y3 : Int32, y3 = x2_5 + 1 → (wp_AR_fill_L5 n_a0 f_a0 a1 post n5) f2 y3 x3_5)))))
def wp_AR_fill (n_a0 : Nat) (f_a0 : Nat → Int32) (a1 : Int32) (post : (Nat → Int32) → Prop) : Prop :=
  (∀ y1 : Int32, y1 = (nI n_a0) → ∃ n : Nat, wp_AR_fill_L5 n_a0 f_a0 a1 post n f_a0 0 y1)
abbrev rm_AR_fill : Room := { frames := 1, cells := 0, slots := 0, locals := 12 }
set_option maxHeartbeats 4000000 in
set_option maxRecDepth 100000 in
theorem c_AR_fill (l : Launch) (D : va_G) (cI cL cR : ClassId) (a_a0 : Nat) (n_a0 : Nat) (f_a0 : Nat → Int32) (a1 : Int32) (sz : Nat) (post : (Nat → Int32) → Prop) (hw : wp_AR_fill n_a0 f_a0 a1 post) : ky_M ky_rV l y_AR_fill (.code y_AR_fill b_AR_fill 4 (none) :: wsG) rm_AR_fill D vwCl (ky_T cI cL cR) (wl_AR_fill cI cL cR a_a0 n_a0 f_a0) sz [.ref a_a0, .int a1] (fun _ (u : (Nat → Int32)) => post u) (fun u => wl_AR_fill cI cL cR a_a0 n_a0 u) := by
  refine ky_ofV (by decide +kernel) (Nat.le_of_ble_eq_true rfl) ?_
  intro p e s m args below meth c A Q ls hI hret
  obtain ⟨hx, hb, hml, hown, hin, hts, hK, hP, hD, hA, hS, hl⟩ := hI
  have hown : s.vm.findClass R_AR = some m.cls := hown
  have hl : lv_has ls 4 [(0, .ref a_a0), (1, .int a1)] := hl
  obtain ⟨H, locs, eH, eL⟩ : ∃ (H : Heap) (locs : List Loc), H = s.heap ∧ locs = [] := ⟨_, _, rfl, rfl⟩
  rw [← eL] at hS ⊢
  have hS : va_S A s.heap H locs := by rw [eH]; exact hS
  have hP : va_P D vwCl (wl_AR_fill cI cL cR a_a0 n_a0 f_a0) H := by rw [eH]; exact hP
  suffices hgo : W p l e rm_AR_fill s m args below meth c H locs 0 0 Q (F0 m 0 ls []) by rw [eH] at hgo; exact hgo
  clear eH eL
  unfold wp_AR_fill at hw
  refine lv_iconst (v := 0) hx hb d_AR_fill_0 (by decide) ?_
  refine lv_istore_n (lv' := [(2, .int 0), (0, .ref a_a0), (1, .int a1)]) hx hb d_AR_fill_1 rfl hl (by decide) rfl (fun ls hl => ?_)
  refine lv_aload_n hx hb d_AR_fill_2 rfl (lv_at hl 1 rfl) ?_
  refine va_alen (v := nI n_a0) hx hb hK hP 0 0 rfl rfl rfl d_AR_fill_3 ?_
  refine lv_topi (fun y1 ey1 => ?_)
  have hw := hw y1 ey1
  refine lv_istore_n (lv' := [(3, .int y1), (2, .int 0), (0, .ref a_a0), (1, .int a1)]) hx hb d_AR_fill_4 rfl hl (by decide) rfl (fun ls hl => ?_)
  have hL5 : ∀ (n : Nat) (f_a0_5 : Nat → Int32) (x2_5 : Int32) (x3_5 : Int32), wp_AR_fill_L5 n_a0 f_a0 a1 post n f_a0_5 x2_5 x3_5 → ∀ (H : Heap) (locs : List Loc) (ls : Array Slot), va_P D vwCl (wl_AR_fill cI cL cR a_a0 n_a0 f_a0_5) H → va_D A (wl_AR_fill cI cL cR a_a0 n_a0 f_a0_5) → va_S A s.heap H locs → lv_has ls 4 [(0, .ref a_a0), (1, .int a1), (2, .int x2_5), (3, .int x3_5)] → W p l e rm_AR_fill s m args below meth c H locs 0 0 Q (F0 m 5 ls []) := by
    intro n
    induction n with
    | zero => intro f_a0_5 x2_5 x3_5 hw; rw [wp_AR_fill_L5] at hw; exact hw.elim
    | succ n5 ih5 =>
      intro f_a0_5 x2_5 x3_5 hw H locs ls hP hD hS hl
      rw [wp_AR_fill_L5] at hw
      refine lv_iload_n hx hb d_AR_fill_5 rfl (lv_at hl 2 rfl) ?_
      refine lv_iload_n hx hb d_AR_fill_6 rfl (lv_at hl 3 rfl) ?_
      refine lv_icmp_ge (tgt := 20) hx hb d_AR_fill_7 (by decide) (fun hc => ?_) (fun hc => ?_)
      · have hw := hw.1 hc
        exact hret f_a0_5 H locs _ _ 20 ls d_AR_fill_20 hP hD hS hw (Nat.le_refl 0) (Nat.le_refl 0)
      · have hw := hw.2 hc
        refine lv_aload_n hx hb d_AR_fill_10 rfl (lv_at hl 0 rfl) ?_
        refine lv_iload_n hx hb d_AR_fill_11 rfl (lv_at hl 2 rfl) ?_
        refine lv_iload_n hx hb d_AR_fill_12 rfl (lv_at hl 1 rfl) ?_
        obtain ⟨h1, hw⟩ := hw
        refine va_iast hx hb hK hP hD hS 0 0 rfl rfl h1 d_AR_fill_13 (fun H locs hP hD hS => ?_)
        have hP : va_P D vwCl (wl_AR_fill cI cL cR a_a0 n_a0 (upd f_a0_5 x2_5.toNatClampNeg a1)) H := hP
        have hD : va_D A (wl_AR_fill cI cL cR a_a0 n_a0 (upd f_a0_5 x2_5.toNatClampNeg a1)) := hD
        generalize ef2 : (upd f_a0_5 x2_5.toNatClampNeg a1) = f2 at hP hD
        have hw := hw f2 ef2.symm
        obtain ⟨y3, ey3⟩ : ∃ z : Int32, z = x2_5 + 1 := ⟨_, rfl⟩
        refine lv_iinc (v := y3) (lv' := [(2, .int y3), (0, .ref a_a0), (1, .int a1), (3, .int x3_5)]) hx hb d_AR_fill_14 hl (k := 2) rfl (by rw [ey3]; rfl) (by decide) rfl (fun ls hl => ?_)
        have hw := hw y3 ey3
        refine lv_goto (tgt := 5) hx hb d_AR_fill_17 (by decide) ?_
        exact ih5 f2 y3 x3_5 hw H locs ls hP hD hS (lv_sub hl [1, 2, 0, 3] rfl)
  obtain ⟨n, hw⟩ := hw
  exact hL5 n f_a0 0 y1 hw H locs ls hP hD hS (lv_sub hl [2, 3, 1, 0] rfl)

abbrev wl_JM_floorMod (cI cL cR : ClassId)  : va_W := []
def wp_JM_floorMod (a0 : Int32) (a1 : Int32) (post : Int32 → Prop) : Prop :=
  ((¬ a1 = 0) ∧ (∀ y1 : Int32, y1 = (a0 - a0 / a1 * a1) → (((0 : Int32) ≤ (a0 ^^^ a1) → post y1) ∧ (¬ (0 : Int32) ≤ (a0 ^^^ a1) → ((y1 = 0 → post y1) ∧ (¬ y1 = 0 → post (y1 + a1)))))))
abbrev rm_JM_floorMod : Room := { frames := 1, cells := 0, slots := 0, locals := 12 }
set_option maxHeartbeats 4000000 in
set_option maxRecDepth 100000 in
theorem c_JM_floorMod (l : Launch) (D : va_G) (cI cL cR : ClassId)  (a0 : Int32) (a1 : Int32) (sz : Nat) (post : Int32 → Prop) (hw : wp_JM_floorMod a0 a1 post) : ky_M ky_rI l y_JM_floorMod (.code y_JM_floorMod b_JM_floorMod 3 (some .int) :: wsG) rm_JM_floorMod D vwCl (ky_T cI cL cR) (wl_JM_floorMod cI cL cR ) sz [.int a0, .int a1] (fun r (u : Unit) => post r) (fun u => wl_JM_floorMod cI cL cR ) := by
  refine ky_ofI (by decide +kernel) (Nat.le_of_ble_eq_true rfl) ?_
  intro p e s m args below meth c A Q ls hI hret
  obtain ⟨hx, hb, hml, hown, hin, hts, hK, hP, hD, hA, hS, hl⟩ := hI
  have hown : s.vm.findClass R_JM = some m.cls := hown
  have hl : lv_has ls 3 [(0, .int a0), (1, .int a1)] := hl
  obtain ⟨H, locs, eH, eL⟩ : ∃ (H : Heap) (locs : List Loc), H = s.heap ∧ locs = [] := ⟨_, _, rfl, rfl⟩
  rw [← eL] at hS ⊢
  have hS : va_S A s.heap H locs := by rw [eH]; exact hS
  have hP : va_P D vwCl (wl_JM_floorMod cI cL cR ) H := by rw [eH]; exact hP
  suffices hgo : W p l e rm_JM_floorMod s m args below meth c H locs 0 0 Q (F0 m 0 ls []) by rw [eH] at hgo; exact hgo
  clear eH eL
  unfold wp_JM_floorMod at hw
  refine lv_iload_n hx hb d_JM_floorMod_0 rfl (lv_at hl 0 rfl) ?_
  refine lv_iload_n hx hb d_JM_floorMod_1 rfl (lv_at hl 1 rfl) ?_
  obtain ⟨h1, hw⟩ := hw
  refine lv_irem hx hb d_JM_floorMod_2 h1 ?_
  refine lv_topi (fun y1 ey1 => ?_)
  have hw := hw y1 ey1
  refine lv_istore_n (lv' := [(2, .int y1), (0, .int a0), (1, .int a1)]) hx hb d_JM_floorMod_3 rfl hl (by decide) rfl (fun ls hl => ?_)
  refine lv_iload_n hx hb d_JM_floorMod_4 rfl (lv_at hl 1 rfl) ?_
  refine lv_iload_n hx hb d_JM_floorMod_5 rfl (lv_at hl 2 rfl) ?_
  refine lv_ixor hx hb d_JM_floorMod_6 ?_
  refine lv_if_ge (tgt := 18) hx hb d_JM_floorMod_7 (by decide) (fun hc => ?_) (fun hc => ?_)
  · have hw := hw.1 hc
    refine lv_iload_n hx hb d_JM_floorMod_18 rfl (lv_at hl 0 rfl) ?_
    exact hret y1 () H locs _ _ 19 ls d_JM_floorMod_19 hP hD hS hw (Nat.le_refl 0) (Nat.le_refl 0)
  · have hw := hw.2 hc
    refine lv_iload_n hx hb d_JM_floorMod_10 rfl (lv_at hl 0 rfl) ?_
    refine lv_if_eq (tgt := 18) hx hb d_JM_floorMod_11 (by decide) (fun hc => ?_) (fun hc => ?_)
    · have hw := hw.1 hc
      refine lv_iload_n hx hb d_JM_floorMod_18 rfl (lv_at hl 0 rfl) ?_
      exact hret y1 () H locs _ _ 19 ls d_JM_floorMod_19 hP hD hS hw (Nat.le_refl 0) (Nat.le_refl 0)
    · have hw := hw.2 hc
      refine lv_iload_n hx hb d_JM_floorMod_14 rfl (lv_at hl 0 rfl) ?_
      refine lv_iload_n hx hb d_JM_floorMod_15 rfl (lv_at hl 2 rfl) ?_
      refine lv_iadd hx hb d_JM_floorMod_16 ?_
      exact hret (y1 + a1) () H locs _ _ 17 ls d_JM_floorMod_17 hP hD hS hw (Nat.le_refl 0) (Nat.le_refl 0)

abbrev wl_MA_states (cI cL cR : ClassId) (a_t : Nat) (a_t_shifts : Nat) (a_t_masks : Nat) (a_t_rules : Nat) (t_registers : Int32) (t_bits : Int32) (t_inputs : Int32) (t_transfers : Int32) : va_W := [(a_t, .inr (2, [.ref a_t_shifts, .ref a_t_masks, .ref a_t_rules, .int t_registers, .int t_bits, .int t_inputs, .int t_transfers]))]
def wp_MA_states (t_registers : Int32) (t_bits : Int32) (t_inputs : Int32) (t_transfers : Int32) (post : Int32 → Prop) : Prop :=
  post ((1 : Int32) <<< (t_bits &&& 31))
abbrev rm_MA_states : Room := { frames := 1, cells := 0, slots := 0, locals := 12 }
set_option maxHeartbeats 4000000 in
set_option maxRecDepth 100000 in
theorem c_MA_states (l : Launch) (D : va_G) (cI cL cR : ClassId) (a_t : Nat) (a_t_shifts : Nat) (a_t_masks : Nat) (a_t_rules : Nat) (t_registers : Int32) (t_bits : Int32) (t_inputs : Int32) (t_transfers : Int32) (sz : Nat) (post : Int32 → Prop) (hw : wp_MA_states t_registers t_bits t_inputs t_transfers post) : ky_M ky_rI l y_MA_states (.code y_MA_states b_MA_states 1 (some .int) :: wsG) rm_MA_states D vwCl (ky_T cI cL cR) (wl_MA_states cI cL cR a_t a_t_shifts a_t_masks a_t_rules t_registers t_bits t_inputs t_transfers) sz [.ref a_t] (fun r (u : Unit) => post r) (fun u => wl_MA_states cI cL cR a_t a_t_shifts a_t_masks a_t_rules t_registers t_bits t_inputs t_transfers) := by
  refine ky_ofI (plainFor_of_name (by decide)) (Nat.le_of_ble_eq_true rfl) ?_
  intro p e s m args below meth c A Q ls hI hret
  obtain ⟨hx, hb, hml, hown, hin, hts, hK, hP, hD, hA, hS, hl⟩ := hI
  have hown : s.vm.findClass R_MA = some m.cls := hown
  have hl : lv_has ls 1 [(0, .ref a_t)] := hl
  obtain ⟨H, locs, eH, eL⟩ : ∃ (H : Heap) (locs : List Loc), H = s.heap ∧ locs = [] := ⟨_, _, rfl, rfl⟩
  rw [← eL] at hS ⊢
  have hS : va_S A s.heap H locs := by rw [eH]; exact hS
  have hP : va_P D vwCl (wl_MA_states cI cL cR a_t a_t_shifts a_t_masks a_t_rules t_registers t_bits t_inputs t_transfers) H := by rw [eH]; exact hP
  suffices hgo : W p l e rm_MA_states s m args below meth c H locs 0 0 Q (F0 m 0 ls []) by rw [eH] at hgo; exact hgo
  clear eH eL
  unfold wp_MA_states at hw
  refine lv_iconst (v := 1) hx hb d_MA_states_0 (by decide) ?_
  refine lv_aload_n hx hb d_MA_states_1 rfl (lv_at hl 0 rfl) ?_
  refine gf_MA_28 hx hb hts hown hK hP 0 rfl rfl d_MA_states_2 ?_
  refine lv_ishl hx hb d_MA_states_5 ?_
  exact hret ((1 : Int32) <<< (t_bits &&& 31)) () H locs _ _ 6 ls d_MA_states_6 hP hD hS hw (Nat.le_refl 0) (Nat.le_refl 0)

abbrev wl_MA_hasState (cI cL cR : ClassId) (a_t : Nat) (a_t_shifts : Nat) (a_t_masks : Nat) (a_t_rules : Nat) (t_registers : Int32) (t_bits : Int32) (t_inputs : Int32) (t_transfers : Int32) : va_W := [(a_t, .inr (2, [.ref a_t_shifts, .ref a_t_masks, .ref a_t_rules, .int t_registers, .int t_bits, .int t_inputs, .int t_transfers]))]
def wp_MA_hasState (t_registers : Int32) (t_bits : Int32) (t_inputs : Int32) (t_transfers : Int32) (a1 : Int32) (post : Int32 → Prop) : Prop :=
  ((a1 < 0 → post 0) ∧ (¬ a1 < 0 → wp_MA_states t_registers t_bits t_inputs t_transfers (fun r1 => ((r1 ≤ a1 → post 0) ∧ (¬ r1 ≤ a1 → post 1)))))
abbrev rm_MA_hasState : Room := { frames := 2, cells := 0, slots := 0, locals := 33 }
set_option maxHeartbeats 4000000 in
set_option maxRecDepth 100000 in
theorem c_MA_hasState (l : Launch) (D : va_G) (cI cL cR : ClassId) (a_t : Nat) (a_t_shifts : Nat) (a_t_masks : Nat) (a_t_rules : Nat) (t_registers : Int32) (t_bits : Int32) (t_inputs : Int32) (t_transfers : Int32) (a1 : Int32) (sz : Nat) (post : Int32 → Prop) (hw : wp_MA_hasState t_registers t_bits t_inputs t_transfers a1 post) : ky_M ky_rI l y_MA_hasState (.code y_MA_hasState b_MA_hasState 2 (some .boolean) :: wsG) rm_MA_hasState D vwCl (ky_T cI cL cR) (wl_MA_hasState cI cL cR a_t a_t_shifts a_t_masks a_t_rules t_registers t_bits t_inputs t_transfers) sz [.ref a_t, .int a1] (fun r (u : Unit) => post r) (fun u => wl_MA_hasState cI cL cR a_t a_t_shifts a_t_masks a_t_rules t_registers t_bits t_inputs t_transfers) := by
  refine ky_ofZ (plainFor_of_name (by decide)) (Nat.le_of_ble_eq_true rfl) ?_
  intro p e s m args below meth c A Q ls hI hret
  obtain ⟨hx, hb, hml, hown, hin, hts, hK, hP, hD, hA, hS, hl⟩ := hI
  have hown : s.vm.findClass R_MA = some m.cls := hown
  have hl : lv_has ls 2 [(0, .ref a_t), (1, .int a1)] := hl
  obtain ⟨H, locs, eH, eL⟩ : ∃ (H : Heap) (locs : List Loc), H = s.heap ∧ locs = [] := ⟨_, _, rfl, rfl⟩
  rw [← eL] at hS ⊢
  have hS : va_S A s.heap H locs := by rw [eH]; exact hS
  have hP : va_P D vwCl (wl_MA_hasState cI cL cR a_t a_t_shifts a_t_masks a_t_rules t_registers t_bits t_inputs t_transfers) H := by rw [eH]; exact hP
  suffices hgo : W p l e rm_MA_hasState s m args below meth c H locs 0 0 Q (F0 m 0 ls []) by rw [eH] at hgo; exact hgo
  clear eH eL
  unfold wp_MA_hasState at hw
  refine lv_iload_n hx hb d_MA_hasState_0 rfl (lv_at hl 1 rfl) ?_
  refine lv_if_lt (tgt := 16) hx hb d_MA_hasState_1 (by decide) (fun hc => ?_) (fun hc => ?_)
  · have hw := hw.1 hc
    refine lv_iconst (v := 0) hx hb d_MA_hasState_16 (by decide) ?_
    exact hret 0 () H locs _ _ 17 ls d_MA_hasState_17 rfl hP hD hS hw (Nat.le_refl 0) (Nat.le_refl 0)
  · have hw := hw.2 hc
    refine lv_iload_n hx hb d_MA_hasState_4 rfl (lv_at hl 1 rfl) ?_
    refine lv_aload_n hx hb d_MA_hasState_5 rfl (lv_at hl 0 rfl) ?_
    refine ky_call (wr := []) hP hD hS hA [0] [] rfl rfl (by decide) (by decide) (va_runV (As := []) (rest := [.int a1]) ⟨hx, hb, hml, hown, hts⟩ (c_MA_states l D cI cL cR a_t a_t_shifts a_t_masks a_t_rules t_registers t_bits t_inputs t_transfers H.size _ hw) (cw_MA_38 hts ⟨Nat.le_of_ble_eq_true rfl, Nat.le_of_ble_eq_true rfl⟩) (ky_preV hK hP hD [0] rfl (by decide) rfl rfl) rfl rfl hl.1 rfl (lv_room (Nat.le_of_ble_eq_true rfl)) d_MA_hasState_6 ⟨Nat.le_refl 0, Nat.le_refl 0⟩) (fun r u H locs hw hP hD hS => ?_)
    obtain ⟨r1, rfl⟩ : ∃ z, z = r := ⟨_, rfl⟩
    have hP : va_P D vwCl (wl_MA_hasState cI cL cR a_t a_t_shifts a_t_masks a_t_rules t_registers t_bits t_inputs t_transfers) H := hP
    have hD : va_D A (wl_MA_hasState cI cL cR a_t a_t_shifts a_t_masks a_t_rules t_registers t_bits t_inputs t_transfers) := hD
    refine W.widen (k := 0) (n := 0) (Nat.le_refl _) (Nat.le_refl _) ?_
    refine W.eq (g2 := F0 m 9 ls [.int r1, .int a1]) rfl ?_
    refine lv_icmp_ge (tgt := 16) hx hb d_MA_hasState_9 (by decide) (fun hc => ?_) (fun hc => ?_)
    · have hw := hw.1 hc
      refine lv_iconst (v := 0) hx hb d_MA_hasState_16 (by decide) ?_
      exact hret 0 () H locs _ _ 17 ls d_MA_hasState_17 rfl hP hD hS hw (Nat.le_refl 0) (Nat.le_refl 0)
    · have hw := hw.2 hc
      refine lv_iconst (v := 1) hx hb d_MA_hasState_12 (by decide) ?_
      refine lv_goto (tgt := 17) hx hb d_MA_hasState_13 (by decide) ?_
      exact hret 1 () H locs _ _ 17 ls d_MA_hasState_17 rfl hP hD hS hw (Nat.le_refl 0) (Nat.le_refl 0)

abbrev wl_MA_hasInput (cI cL cR : ClassId) (a_t : Nat) (a_t_shifts : Nat) (a_t_masks : Nat) (a_t_rules : Nat) (t_registers : Int32) (t_bits : Int32) (t_inputs : Int32) (t_transfers : Int32) : va_W := [(a_t, .inr (2, [.ref a_t_shifts, .ref a_t_masks, .ref a_t_rules, .int t_registers, .int t_bits, .int t_inputs, .int t_transfers]))]
def wp_MA_hasInput (t_registers : Int32) (t_bits : Int32) (t_inputs : Int32) (t_transfers : Int32) (a1 : Int32) (post : Int32 → Prop) : Prop :=
  ((a1 < 0 → post 0) ∧ (¬ a1 < 0 → ((t_inputs ≤ a1 → post 0) ∧ (¬ t_inputs ≤ a1 → post 1))))
abbrev rm_MA_hasInput : Room := { frames := 1, cells := 0, slots := 0, locals := 12 }
set_option maxHeartbeats 4000000 in
set_option maxRecDepth 100000 in
theorem c_MA_hasInput (l : Launch) (D : va_G) (cI cL cR : ClassId) (a_t : Nat) (a_t_shifts : Nat) (a_t_masks : Nat) (a_t_rules : Nat) (t_registers : Int32) (t_bits : Int32) (t_inputs : Int32) (t_transfers : Int32) (a1 : Int32) (sz : Nat) (post : Int32 → Prop) (hw : wp_MA_hasInput t_registers t_bits t_inputs t_transfers a1 post) : ky_M ky_rI l y_MA_hasInput (.code y_MA_hasInput b_MA_hasInput 2 (some .boolean) :: wsG) rm_MA_hasInput D vwCl (ky_T cI cL cR) (wl_MA_hasInput cI cL cR a_t a_t_shifts a_t_masks a_t_rules t_registers t_bits t_inputs t_transfers) sz [.ref a_t, .int a1] (fun r (u : Unit) => post r) (fun u => wl_MA_hasInput cI cL cR a_t a_t_shifts a_t_masks a_t_rules t_registers t_bits t_inputs t_transfers) := by
  refine ky_ofZ (plainFor_of_name (by decide)) (Nat.le_of_ble_eq_true rfl) ?_
  intro p e s m args below meth c A Q ls hI hret
  obtain ⟨hx, hb, hml, hown, hin, hts, hK, hP, hD, hA, hS, hl⟩ := hI
  have hown : s.vm.findClass R_MA = some m.cls := hown
  have hl : lv_has ls 2 [(0, .ref a_t), (1, .int a1)] := hl
  obtain ⟨H, locs, eH, eL⟩ : ∃ (H : Heap) (locs : List Loc), H = s.heap ∧ locs = [] := ⟨_, _, rfl, rfl⟩
  rw [← eL] at hS ⊢
  have hS : va_S A s.heap H locs := by rw [eH]; exact hS
  have hP : va_P D vwCl (wl_MA_hasInput cI cL cR a_t a_t_shifts a_t_masks a_t_rules t_registers t_bits t_inputs t_transfers) H := by rw [eH]; exact hP
  suffices hgo : W p l e rm_MA_hasInput s m args below meth c H locs 0 0 Q (F0 m 0 ls []) by rw [eH] at hgo; exact hgo
  clear eH eL
  unfold wp_MA_hasInput at hw
  refine lv_iload_n hx hb d_MA_hasInput_0 rfl (lv_at hl 1 rfl) ?_
  refine lv_if_lt (tgt := 16) hx hb d_MA_hasInput_1 (by decide) (fun hc => ?_) (fun hc => ?_)
  · have hw := hw.1 hc
    refine lv_iconst (v := 0) hx hb d_MA_hasInput_16 (by decide) ?_
    exact hret 0 () H locs _ _ 17 ls d_MA_hasInput_17 rfl hP hD hS hw (Nat.le_refl 0) (Nat.le_refl 0)
  · have hw := hw.2 hc
    refine lv_iload_n hx hb d_MA_hasInput_4 rfl (lv_at hl 1 rfl) ?_
    refine lv_aload_n hx hb d_MA_hasInput_5 rfl (lv_at hl 0 rfl) ?_
    refine gf_MA_31 hx hb hts hown hK hP 0 rfl rfl d_MA_hasInput_6 ?_
    refine lv_icmp_ge (tgt := 16) hx hb d_MA_hasInput_9 (by decide) (fun hc => ?_) (fun hc => ?_)
    · have hw := hw.1 hc
      refine lv_iconst (v := 0) hx hb d_MA_hasInput_16 (by decide) ?_
      exact hret 0 () H locs _ _ 17 ls d_MA_hasInput_17 rfl hP hD hS hw (Nat.le_refl 0) (Nat.le_refl 0)
    · have hw := hw.2 hc
      refine lv_iconst (v := 1) hx hb d_MA_hasInput_12 (by decide) ?_
      refine lv_goto (tgt := 17) hx hb d_MA_hasInput_13 (by decide) ?_
      exact hret 1 () H locs _ _ 17 ls d_MA_hasInput_17 rfl hP hD hS hw (Nat.le_refl 0) (Nat.le_refl 0)

abbrev wl_MA_hasRegister (cI cL cR : ClassId) (a_t : Nat) (a_t_shifts : Nat) (a_t_masks : Nat) (a_t_rules : Nat) (t_registers : Int32) (t_bits : Int32) (t_inputs : Int32) (t_transfers : Int32) : va_W := [(a_t, .inr (2, [.ref a_t_shifts, .ref a_t_masks, .ref a_t_rules, .int t_registers, .int t_bits, .int t_inputs, .int t_transfers]))]
def wp_MA_hasRegister (t_registers : Int32) (t_bits : Int32) (t_inputs : Int32) (t_transfers : Int32) (a1 : Int32) (post : Int32 → Prop) : Prop :=
  ((a1 < 0 → post 0) ∧ (¬ a1 < 0 → ((t_registers ≤ a1 → post 0) ∧ (¬ t_registers ≤ a1 → post 1))))
abbrev rm_MA_hasRegister : Room := { frames := 1, cells := 0, slots := 0, locals := 12 }
set_option maxHeartbeats 4000000 in
set_option maxRecDepth 100000 in
theorem c_MA_hasRegister (l : Launch) (D : va_G) (cI cL cR : ClassId) (a_t : Nat) (a_t_shifts : Nat) (a_t_masks : Nat) (a_t_rules : Nat) (t_registers : Int32) (t_bits : Int32) (t_inputs : Int32) (t_transfers : Int32) (a1 : Int32) (sz : Nat) (post : Int32 → Prop) (hw : wp_MA_hasRegister t_registers t_bits t_inputs t_transfers a1 post) : ky_M ky_rI l y_MA_hasRegister (.code y_MA_hasRegister b_MA_hasRegister 2 (some .boolean) :: wsG) rm_MA_hasRegister D vwCl (ky_T cI cL cR) (wl_MA_hasRegister cI cL cR a_t a_t_shifts a_t_masks a_t_rules t_registers t_bits t_inputs t_transfers) sz [.ref a_t, .int a1] (fun r (u : Unit) => post r) (fun u => wl_MA_hasRegister cI cL cR a_t a_t_shifts a_t_masks a_t_rules t_registers t_bits t_inputs t_transfers) := by
  refine ky_ofZ (plainFor_of_name (by decide)) (Nat.le_of_ble_eq_true rfl) ?_
  intro p e s m args below meth c A Q ls hI hret
  obtain ⟨hx, hb, hml, hown, hin, hts, hK, hP, hD, hA, hS, hl⟩ := hI
  have hown : s.vm.findClass R_MA = some m.cls := hown
  have hl : lv_has ls 2 [(0, .ref a_t), (1, .int a1)] := hl
  obtain ⟨H, locs, eH, eL⟩ : ∃ (H : Heap) (locs : List Loc), H = s.heap ∧ locs = [] := ⟨_, _, rfl, rfl⟩
  rw [← eL] at hS ⊢
  have hS : va_S A s.heap H locs := by rw [eH]; exact hS
  have hP : va_P D vwCl (wl_MA_hasRegister cI cL cR a_t a_t_shifts a_t_masks a_t_rules t_registers t_bits t_inputs t_transfers) H := by rw [eH]; exact hP
  suffices hgo : W p l e rm_MA_hasRegister s m args below meth c H locs 0 0 Q (F0 m 0 ls []) by rw [eH] at hgo; exact hgo
  clear eH eL
  unfold wp_MA_hasRegister at hw
  refine lv_iload_n hx hb d_MA_hasRegister_0 rfl (lv_at hl 1 rfl) ?_
  refine lv_if_lt (tgt := 16) hx hb d_MA_hasRegister_1 (by decide) (fun hc => ?_) (fun hc => ?_)
  · have hw := hw.1 hc
    refine lv_iconst (v := 0) hx hb d_MA_hasRegister_16 (by decide) ?_
    exact hret 0 () H locs _ _ 17 ls d_MA_hasRegister_17 rfl hP hD hS hw (Nat.le_refl 0) (Nat.le_refl 0)
  · have hw := hw.2 hc
    refine lv_iload_n hx hb d_MA_hasRegister_4 rfl (lv_at hl 1 rfl) ?_
    refine lv_aload_n hx hb d_MA_hasRegister_5 rfl (lv_at hl 0 rfl) ?_
    refine gf_MA_24 hx hb hts hown hK hP 0 rfl rfl d_MA_hasRegister_6 ?_
    refine lv_icmp_ge (tgt := 16) hx hb d_MA_hasRegister_9 (by decide) (fun hc => ?_) (fun hc => ?_)
    · have hw := hw.1 hc
      refine lv_iconst (v := 0) hx hb d_MA_hasRegister_16 (by decide) ?_
      exact hret 0 () H locs _ _ 17 ls d_MA_hasRegister_17 rfl hP hD hS hw (Nat.le_refl 0) (Nat.le_refl 0)
    · have hw := hw.2 hc
      refine lv_iconst (v := 1) hx hb d_MA_hasRegister_12 (by decide) ?_
      refine lv_goto (tgt := 17) hx hb d_MA_hasRegister_13 (by decide) ?_
      exact hret 1 () H locs _ _ 17 ls d_MA_hasRegister_17 rfl hP hD hS hw (Nat.le_refl 0) (Nat.le_refl 0)

abbrev wl_MA_hasOperand (cI cL cR : ClassId) (a_t : Nat) (a_t_shifts : Nat) (a_t_masks : Nat) (a_t_rules : Nat) (t_registers : Int32) (t_bits : Int32) (t_inputs : Int32) (t_transfers : Int32) : va_W := [(a_t, .inr (2, [.ref a_t_shifts, .ref a_t_masks, .ref a_t_rules, .int t_registers, .int t_bits, .int t_inputs, .int t_transfers]))]
def wp_MA_hasOperand (t_registers : Int32) (t_bits : Int32) (t_inputs : Int32) (t_transfers : Int32) (a1 : Int32) (post : Int32 → Prop) : Prop :=
  ((a1 < (-16) → post 0) ∧ (¬ a1 < (-16) → ((t_registers ≤ a1 → post 0) ∧ (¬ t_registers ≤ a1 → post 1))))
abbrev rm_MA_hasOperand : Room := { frames := 1, cells := 0, slots := 0, locals := 12 }
set_option maxHeartbeats 4000000 in
set_option maxRecDepth 100000 in
theorem c_MA_hasOperand (l : Launch) (D : va_G) (cI cL cR : ClassId) (a_t : Nat) (a_t_shifts : Nat) (a_t_masks : Nat) (a_t_rules : Nat) (t_registers : Int32) (t_bits : Int32) (t_inputs : Int32) (t_transfers : Int32) (a1 : Int32) (sz : Nat) (post : Int32 → Prop) (hw : wp_MA_hasOperand t_registers t_bits t_inputs t_transfers a1 post) : ky_M ky_rI l y_MA_hasOperand (.code y_MA_hasOperand b_MA_hasOperand 2 (some .boolean) :: wsG) rm_MA_hasOperand D vwCl (ky_T cI cL cR) (wl_MA_hasOperand cI cL cR a_t a_t_shifts a_t_masks a_t_rules t_registers t_bits t_inputs t_transfers) sz [.ref a_t, .int a1] (fun r (u : Unit) => post r) (fun u => wl_MA_hasOperand cI cL cR a_t a_t_shifts a_t_masks a_t_rules t_registers t_bits t_inputs t_transfers) := by
  refine ky_ofZ (plainFor_of_name (by decide)) (Nat.le_of_ble_eq_true rfl) ?_
  intro p e s m args below meth c A Q ls hI hret
  obtain ⟨hx, hb, hml, hown, hin, hts, hK, hP, hD, hA, hS, hl⟩ := hI
  have hown : s.vm.findClass R_MA = some m.cls := hown
  have hl : lv_has ls 2 [(0, .ref a_t), (1, .int a1)] := hl
  obtain ⟨H, locs, eH, eL⟩ : ∃ (H : Heap) (locs : List Loc), H = s.heap ∧ locs = [] := ⟨_, _, rfl, rfl⟩
  rw [← eL] at hS ⊢
  have hS : va_S A s.heap H locs := by rw [eH]; exact hS
  have hP : va_P D vwCl (wl_MA_hasOperand cI cL cR a_t a_t_shifts a_t_masks a_t_rules t_registers t_bits t_inputs t_transfers) H := by rw [eH]; exact hP
  suffices hgo : W p l e rm_MA_hasOperand s m args below meth c H locs 0 0 Q (F0 m 0 ls []) by rw [eH] at hgo; exact hgo
  clear eH eL
  unfold wp_MA_hasOperand at hw
  refine lv_iload_n hx hb d_MA_hasOperand_0 rfl (lv_at hl 1 rfl) ?_
  refine lv_bipush (v := (-16)) hx hb d_MA_hasOperand_1 (by decide) ?_
  refine lv_icmp_lt (tgt := 18) hx hb d_MA_hasOperand_3 (by decide) (fun hc => ?_) (fun hc => ?_)
  · have hw := hw.1 hc
    refine lv_iconst (v := 0) hx hb d_MA_hasOperand_18 (by decide) ?_
    exact hret 0 () H locs _ _ 19 ls d_MA_hasOperand_19 rfl hP hD hS hw (Nat.le_refl 0) (Nat.le_refl 0)
  · have hw := hw.2 hc
    refine lv_iload_n hx hb d_MA_hasOperand_6 rfl (lv_at hl 1 rfl) ?_
    refine lv_aload_n hx hb d_MA_hasOperand_7 rfl (lv_at hl 0 rfl) ?_
    refine gf_MA_24 hx hb hts hown hK hP 0 rfl rfl d_MA_hasOperand_8 ?_
    refine lv_icmp_ge (tgt := 18) hx hb d_MA_hasOperand_11 (by decide) (fun hc => ?_) (fun hc => ?_)
    · have hw := hw.1 hc
      refine lv_iconst (v := 0) hx hb d_MA_hasOperand_18 (by decide) ?_
      exact hret 0 () H locs _ _ 19 ls d_MA_hasOperand_19 rfl hP hD hS hw (Nat.le_refl 0) (Nat.le_refl 0)
    · have hw := hw.2 hc
      refine lv_iconst (v := 1) hx hb d_MA_hasOperand_14 (by decide) ?_
      refine lv_goto (tgt := 19) hx hb d_MA_hasOperand_15 (by decide) ?_
      exact hret 1 () H locs _ _ 19 ls d_MA_hasOperand_19 rfl hP hD hS hw (Nat.le_refl 0) (Nat.le_refl 0)

abbrev wl_MA_hasExpression (cI cL cR : ClassId) (a_t : Nat) (a_t_shifts : Nat) (a_t_masks : Nat) (a_t_rules : Nat) (t_registers : Int32) (t_bits : Int32) (t_inputs : Int32) (t_transfers : Int32) : va_W := [(a_t, .inr (2, [.ref a_t_shifts, .ref a_t_masks, .ref a_t_rules, .int t_registers, .int t_bits, .int t_inputs, .int t_transfers]))]
def wp_MA_hasExpression (t_registers : Int32) (t_bits : Int32) (t_inputs : Int32) (t_transfers : Int32) (a1 : Int32) (a2 : Int32) (a3 : Int32) (post : Int32 → Prop) : Prop :=
  ((a1 < 0 → post 0) ∧ (¬ a1 < 0 → (((10 : Int32) ≤ a1 → post 0) ∧ (¬ (10 : Int32) ≤ a1 → wp_MA_hasOperand t_registers t_bits t_inputs t_transfers a2 (fun r1 => ((r1 = 0 → post 0) ∧ (¬ r1 = 0 → wp_MA_hasOperand t_registers t_bits t_inputs t_transfers a3 (fun r2 => ((r2 = 0 → post 0) ∧ (¬ r2 = 0 → post 1))))))))))
abbrev rm_MA_hasExpression : Room := { frames := 2, cells := 0, slots := 0, locals := 34 }
set_option maxHeartbeats 4000000 in
set_option maxRecDepth 100000 in
theorem c_MA_hasExpression (l : Launch) (D : va_G) (cI cL cR : ClassId) (a_t : Nat) (a_t_shifts : Nat) (a_t_masks : Nat) (a_t_rules : Nat) (t_registers : Int32) (t_bits : Int32) (t_inputs : Int32) (t_transfers : Int32) (a1 : Int32) (a2 : Int32) (a3 : Int32) (sz : Nat) (post : Int32 → Prop) (hw : wp_MA_hasExpression t_registers t_bits t_inputs t_transfers a1 a2 a3 post) : ky_M ky_rI l y_MA_hasExpression (.code y_MA_hasExpression b_MA_hasExpression 4 (some .boolean) :: wsG) rm_MA_hasExpression D vwCl (ky_T cI cL cR) (wl_MA_hasExpression cI cL cR a_t a_t_shifts a_t_masks a_t_rules t_registers t_bits t_inputs t_transfers) sz [.ref a_t, .int a1, .int a2, .int a3] (fun r (u : Unit) => post r) (fun u => wl_MA_hasExpression cI cL cR a_t a_t_shifts a_t_masks a_t_rules t_registers t_bits t_inputs t_transfers) := by
  refine ky_ofZ (plainFor_of_name (by decide)) (Nat.le_of_ble_eq_true rfl) ?_
  intro p e s m args below meth c A Q ls hI hret
  obtain ⟨hx, hb, hml, hown, hin, hts, hK, hP, hD, hA, hS, hl⟩ := hI
  have hown : s.vm.findClass R_MA = some m.cls := hown
  have hl : lv_has ls 4 [(0, .ref a_t), (1, .int a1), (2, .int a2), (3, .int a3)] := hl
  obtain ⟨H, locs, eH, eL⟩ : ∃ (H : Heap) (locs : List Loc), H = s.heap ∧ locs = [] := ⟨_, _, rfl, rfl⟩
  rw [← eL] at hS ⊢
  have hS : va_S A s.heap H locs := by rw [eH]; exact hS
  have hP : va_P D vwCl (wl_MA_hasExpression cI cL cR a_t a_t_shifts a_t_masks a_t_rules t_registers t_bits t_inputs t_transfers) H := by rw [eH]; exact hP
  suffices hgo : W p l e rm_MA_hasExpression s m args below meth c H locs 0 0 Q (F0 m 0 ls []) by rw [eH] at hgo; exact hgo
  clear eH eL
  unfold wp_MA_hasExpression at hw
  refine lv_iload_n hx hb d_MA_hasExpression_0 rfl (lv_at hl 1 rfl) ?_
  refine lv_if_lt (tgt := 30) hx hb d_MA_hasExpression_1 (by decide) (fun hc => ?_) (fun hc => ?_)
  · have hw := hw.1 hc
    refine lv_iconst (v := 0) hx hb d_MA_hasExpression_30 (by decide) ?_
    exact hret 0 () H locs _ _ 31 ls d_MA_hasExpression_31 rfl hP hD hS hw (Nat.le_refl 0) (Nat.le_refl 0)
  · have hw := hw.2 hc
    refine lv_iload_n hx hb d_MA_hasExpression_4 rfl (lv_at hl 1 rfl) ?_
    refine lv_bipush (v := 10) hx hb d_MA_hasExpression_5 (by decide) ?_
    refine lv_icmp_ge (tgt := 30) hx hb d_MA_hasExpression_7 (by decide) (fun hc => ?_) (fun hc => ?_)
    · have hw := hw.1 hc
      refine lv_iconst (v := 0) hx hb d_MA_hasExpression_30 (by decide) ?_
      exact hret 0 () H locs _ _ 31 ls d_MA_hasExpression_31 rfl hP hD hS hw (Nat.le_refl 0) (Nat.le_refl 0)
    · have hw := hw.2 hc
      refine lv_aload_n hx hb d_MA_hasExpression_10 rfl (lv_at hl 0 rfl) ?_
      refine lv_iload_n hx hb d_MA_hasExpression_11 rfl (lv_at hl 2 rfl) ?_
      refine ky_call (wr := []) hP hD hS hA [0] [] rfl rfl (by decide) (by decide) (va_runV (As := [.int a2]) (rest := []) ⟨hx, hb, hml, hown, hts⟩ (c_MA_hasOperand l D cI cL cR a_t a_t_shifts a_t_masks a_t_rules t_registers t_bits t_inputs t_transfers a2 H.size _ hw) (cw_MA_42 hts ⟨Nat.le_of_ble_eq_true rfl, Nat.le_of_ble_eq_true rfl⟩) (ky_preV hK hP hD [0] rfl (by decide) rfl rfl) rfl rfl hl.1 rfl (lv_room (Nat.le_of_ble_eq_true rfl)) d_MA_hasExpression_12 ⟨Nat.le_refl 0, Nat.le_refl 0⟩) (fun r u H locs hw hP hD hS => ?_)
      obtain ⟨r1, rfl⟩ : ∃ z, z = r := ⟨_, rfl⟩
      have hP : va_P D vwCl (wl_MA_hasExpression cI cL cR a_t a_t_shifts a_t_masks a_t_rules t_registers t_bits t_inputs t_transfers) H := hP
      have hD : va_D A (wl_MA_hasExpression cI cL cR a_t a_t_shifts a_t_masks a_t_rules t_registers t_bits t_inputs t_transfers) := hD
      refine W.widen (k := 0) (n := 0) (Nat.le_refl _) (Nat.le_refl _) ?_
      refine W.eq (g2 := F0 m 15 ls [.int r1]) rfl ?_
      refine lv_if_eq (tgt := 30) hx hb d_MA_hasExpression_15 (by decide) (fun hc => ?_) (fun hc => ?_)
      · have hw := hw.1 hc
        refine lv_iconst (v := 0) hx hb d_MA_hasExpression_30 (by decide) ?_
        exact hret 0 () H locs _ _ 31 ls d_MA_hasExpression_31 rfl hP hD hS hw (Nat.le_refl 0) (Nat.le_refl 0)
      · have hw := hw.2 hc
        refine lv_aload_n hx hb d_MA_hasExpression_18 rfl (lv_at hl 0 rfl) ?_
        refine lv_iload_n hx hb d_MA_hasExpression_19 rfl (lv_at hl 3 rfl) ?_
        refine ky_call (wr := []) hP hD hS hA [0] [] rfl rfl (by decide) (by decide) (va_runV (As := [.int a3]) (rest := []) ⟨hx, hb, hml, hown, hts⟩ (c_MA_hasOperand l D cI cL cR a_t a_t_shifts a_t_masks a_t_rules t_registers t_bits t_inputs t_transfers a3 H.size _ hw) (cw_MA_42 hts ⟨Nat.le_of_ble_eq_true rfl, Nat.le_of_ble_eq_true rfl⟩) (ky_preV hK hP hD [0] rfl (by decide) rfl rfl) rfl rfl hl.1 rfl (lv_room (Nat.le_of_ble_eq_true rfl)) d_MA_hasExpression_20 ⟨Nat.le_refl 0, Nat.le_refl 0⟩) (fun r u H locs hw hP hD hS => ?_)
        obtain ⟨r2, rfl⟩ : ∃ z, z = r := ⟨_, rfl⟩
        have hP : va_P D vwCl (wl_MA_hasExpression cI cL cR a_t a_t_shifts a_t_masks a_t_rules t_registers t_bits t_inputs t_transfers) H := hP
        have hD : va_D A (wl_MA_hasExpression cI cL cR a_t a_t_shifts a_t_masks a_t_rules t_registers t_bits t_inputs t_transfers) := hD
        refine W.widen (k := 0) (n := 0) (Nat.le_refl _) (Nat.le_refl _) ?_
        refine W.eq (g2 := F0 m 23 ls [.int r2]) rfl ?_
        refine lv_if_eq (tgt := 30) hx hb d_MA_hasExpression_23 (by decide) (fun hc => ?_) (fun hc => ?_)
        · have hw := hw.1 hc
          refine lv_iconst (v := 0) hx hb d_MA_hasExpression_30 (by decide) ?_
          exact hret 0 () H locs _ _ 31 ls d_MA_hasExpression_31 rfl hP hD hS hw (Nat.le_refl 0) (Nat.le_refl 0)
        · have hw := hw.2 hc
          refine lv_iconst (v := 1) hx hb d_MA_hasExpression_26 (by decide) ?_
          refine lv_goto (tgt := 31) hx hb d_MA_hasExpression_27 (by decide) ?_
          exact hret 1 () H locs _ _ 31 ls d_MA_hasExpression_31 rfl hP hD hS hw (Nat.le_refl 0) (Nat.le_refl 0)

abbrev wl_MA_addRegister (cI cL cR : ClassId) (a_t : Nat) (a_t_shifts : Nat) (a_t_masks : Nat) (a_t_rules : Nat) (t_registers : Int32) (t_bits : Int32) (t_inputs : Int32) (t_transfers : Int32) (n_t_shifts : Nat) (f_t_shifts : Nat → Int32) (n_t_masks : Nat) (f_t_masks : Nat → Int32) : va_W := [(a_t, .inr (2, [.ref a_t_shifts, .ref a_t_masks, .ref a_t_rules, .int t_registers, .int t_bits, .int t_inputs, .int t_transfers])), (a_t_shifts, .inl (cI, n_t_shifts, .inl f_t_shifts)), (a_t_masks, .inl (cI, n_t_masks, .inl f_t_masks))]
def wp_MA_addRegister (t_registers : Int32) (t_bits : Int32) (t_inputs : Int32) (t_transfers : Int32) (n_t_shifts : Nat) (f_t_shifts : Nat → Int32) (n_t_masks : Nat) (f_t_masks : Nat → Int32) (a1 : Int32) (post : Int32 → Int32 → Int32 → (Nat → Int32) → (Nat → Int32) → Prop) : Prop :=
  (vp_in t_registers n_t_shifts ∧ (∀ f1 : Nat → Int32, f1 = (upd f_t_shifts t_registers.toNatClampNeg t_bits) → (∀ y2 : Int32, y2 = (((1 : Int32) <<< (a1 &&& 31)) - (1 : Int32)) → (vp_in t_registers n_t_masks ∧ (∀ f3 : Nat → Int32, f3 = (upd f_t_masks t_registers.toNatClampNeg y2) → (∀ y4 : Int32, y4 = (t_bits + a1) → (∀ y5 : Int32, y5 = (t_registers + (1 : Int32)) → post t_registers y5 y4 f1 f3)))))))
abbrev rm_MA_addRegister : Room := { frames := 1, cells := 0, slots := 0, locals := 12 }
set_option maxHeartbeats 4000000 in
set_option maxRecDepth 100000 in
theorem c_MA_addRegister (l : Launch) (D : va_G) (cI cL cR : ClassId) (a_t : Nat) (a_t_shifts : Nat) (a_t_masks : Nat) (a_t_rules : Nat) (t_registers : Int32) (t_bits : Int32) (t_inputs : Int32) (t_transfers : Int32) (n_t_shifts : Nat) (f_t_shifts : Nat → Int32) (n_t_masks : Nat) (f_t_masks : Nat → Int32) (a1 : Int32) (sz : Nat) (post : Int32 → Int32 → Int32 → (Nat → Int32) → (Nat → Int32) → Prop) (hw : wp_MA_addRegister t_registers t_bits t_inputs t_transfers n_t_shifts f_t_shifts n_t_masks f_t_masks a1 post) : ky_M ky_rI l y_MA_addRegister (.code y_MA_addRegister b_MA_addRegister 3 (some .int) :: wsG) rm_MA_addRegister D vwCl (ky_T cI cL cR) (wl_MA_addRegister cI cL cR a_t a_t_shifts a_t_masks a_t_rules t_registers t_bits t_inputs t_transfers n_t_shifts f_t_shifts n_t_masks f_t_masks) sz [.ref a_t, .int a1] (fun r (u : Int32 × Int32 × (Nat → Int32) × (Nat → Int32)) => post r u.1 u.2.1 u.2.2.1 u.2.2.2) (fun u => wl_MA_addRegister cI cL cR a_t a_t_shifts a_t_masks a_t_rules u.1 u.2.1 t_inputs t_transfers n_t_shifts u.2.2.1 n_t_masks u.2.2.2) := by
  refine ky_ofI (plainFor_of_name (by decide)) (Nat.le_of_ble_eq_true rfl) ?_
  intro p e s m args below meth c A Q ls hI hret
  obtain ⟨hx, hb, hml, hown, hin, hts, hK, hP, hD, hA, hS, hl⟩ := hI
  have hown : s.vm.findClass R_MA = some m.cls := hown
  have hl : lv_has ls 3 [(0, .ref a_t), (1, .int a1)] := hl
  obtain ⟨H, locs, eH, eL⟩ : ∃ (H : Heap) (locs : List Loc), H = s.heap ∧ locs = [] := ⟨_, _, rfl, rfl⟩
  rw [← eL] at hS ⊢
  have hS : va_S A s.heap H locs := by rw [eH]; exact hS
  have hP : va_P D vwCl (wl_MA_addRegister cI cL cR a_t a_t_shifts a_t_masks a_t_rules t_registers t_bits t_inputs t_transfers n_t_shifts f_t_shifts n_t_masks f_t_masks) H := by rw [eH]; exact hP
  suffices hgo : W p l e rm_MA_addRegister s m args below meth c H locs 0 0 Q (F0 m 0 ls []) by rw [eH] at hgo; exact hgo
  clear eH eL
  unfold wp_MA_addRegister at hw
  refine lv_aload_n hx hb d_MA_addRegister_0 rfl (lv_at hl 0 rfl) ?_
  refine gf_MA_24 hx hb hts hown hK hP 0 rfl rfl d_MA_addRegister_1 ?_
  refine lv_istore_n (lv' := [(2, .int t_registers), (0, .ref a_t), (1, .int a1)]) hx hb d_MA_addRegister_4 rfl hl (by decide) rfl (fun ls hl => ?_)
  refine lv_aload_n hx hb d_MA_addRegister_5 rfl (lv_at hl 1 rfl) ?_
  refine gf_MA_9 hx hb hts hown hK hP 0 rfl rfl d_MA_addRegister_6 ?_
  refine lv_iload_n hx hb d_MA_addRegister_9 rfl (lv_at hl 0 rfl) ?_
  refine lv_aload_n hx hb d_MA_addRegister_10 rfl (lv_at hl 1 rfl) ?_
  refine gf_MA_28 hx hb hts hown hK hP 0 rfl rfl d_MA_addRegister_11 ?_
  obtain ⟨h1, hw⟩ := hw
  refine va_iast hx hb hK hP hD hS 1 0 rfl rfl h1 d_MA_addRegister_14 (fun H locs hP hD hS => ?_)
  have hP : va_P D vwCl (wl_MA_addRegister cI cL cR a_t a_t_shifts a_t_masks a_t_rules t_registers t_bits t_inputs t_transfers n_t_shifts (upd f_t_shifts t_registers.toNatClampNeg t_bits) n_t_masks f_t_masks) H := hP
  have hD : va_D A (wl_MA_addRegister cI cL cR a_t a_t_shifts a_t_masks a_t_rules t_registers t_bits t_inputs t_transfers n_t_shifts (upd f_t_shifts t_registers.toNatClampNeg t_bits) n_t_masks f_t_masks) := hD
  generalize ef1 : (upd f_t_shifts t_registers.toNatClampNeg t_bits) = f1 at hP hD
  have hw := hw f1 ef1.symm
  refine lv_aload_n hx hb d_MA_addRegister_15 rfl (lv_at hl 1 rfl) ?_
  refine gf_MA_15 hx hb hts hown hK hP 0 rfl rfl d_MA_addRegister_16 ?_
  refine lv_iload_n hx hb d_MA_addRegister_19 rfl (lv_at hl 0 rfl) ?_
  refine lv_iconst (v := 1) hx hb d_MA_addRegister_20 (by decide) ?_
  refine lv_iload_n hx hb d_MA_addRegister_21 rfl (lv_at hl 2 rfl) ?_
  refine lv_ishl hx hb d_MA_addRegister_22 ?_
  refine lv_iconst (v := 1) hx hb d_MA_addRegister_23 (by decide) ?_
  refine lv_isub hx hb d_MA_addRegister_24 ?_
  refine lv_topi (fun y2 ey2 => ?_)
  have hw := hw y2 ey2
  obtain ⟨h1, hw⟩ := hw
  refine va_iast hx hb hK hP hD hS 2 0 rfl rfl h1 d_MA_addRegister_25 (fun H locs hP hD hS => ?_)
  have hP : va_P D vwCl (wl_MA_addRegister cI cL cR a_t a_t_shifts a_t_masks a_t_rules t_registers t_bits t_inputs t_transfers n_t_shifts f1 n_t_masks (upd f_t_masks t_registers.toNatClampNeg y2)) H := hP
  have hD : va_D A (wl_MA_addRegister cI cL cR a_t a_t_shifts a_t_masks a_t_rules t_registers t_bits t_inputs t_transfers n_t_shifts f1 n_t_masks (upd f_t_masks t_registers.toNatClampNeg y2)) := hD
  generalize ef3 : (upd f_t_masks t_registers.toNatClampNeg y2) = f3 at hP hD
  have hw := hw f3 ef3.symm
  refine lv_aload_n hx hb d_MA_addRegister_26 rfl (lv_at hl 1 rfl) ?_
  refine lv_dup hx hb d_MA_addRegister_27 rfl ?_
  refine gf_MA_28 hx hb hts hown hK hP 0 rfl rfl d_MA_addRegister_28 ?_
  refine lv_iload_n hx hb d_MA_addRegister_31 rfl (lv_at hl 2 rfl) ?_
  refine lv_iadd hx hb d_MA_addRegister_32 ?_
  refine lv_topi (fun y4 ey4 => ?_)
  have hw := hw y4 ey4
  refine pf_MA_28 (v := .int y4) hx hb hts hown hK hP hD hS 0 rfl rfl rfl (Nat.le_of_ble_eq_true rfl) d_MA_addRegister_33 (fun H locs hP hD hS => ?_)
  have hP : va_P D vwCl (wl_MA_addRegister cI cL cR a_t a_t_shifts a_t_masks a_t_rules t_registers y4 t_inputs t_transfers n_t_shifts f1 n_t_masks f3) H := hP
  have hD : va_D A (wl_MA_addRegister cI cL cR a_t a_t_shifts a_t_masks a_t_rules t_registers y4 t_inputs t_transfers n_t_shifts f1 n_t_masks f3) := hD
  refine lv_aload_n hx hb d_MA_addRegister_36 rfl (lv_at hl 1 rfl) ?_
  refine lv_dup hx hb d_MA_addRegister_37 rfl ?_
  refine gf_MA_24 hx hb hts hown hK hP 0 rfl rfl d_MA_addRegister_38 ?_
  refine lv_iconst (v := 1) hx hb d_MA_addRegister_41 (by decide) ?_
  refine lv_iadd hx hb d_MA_addRegister_42 ?_
  refine lv_topi (fun y5 ey5 => ?_)
  have hw := hw y5 ey5
  refine pf_MA_24 (v := .int y5) hx hb hts hown hK hP hD hS 0 rfl rfl rfl (Nat.le_of_ble_eq_true rfl) d_MA_addRegister_43 (fun H locs hP hD hS => ?_)
  have hP : va_P D vwCl (wl_MA_addRegister cI cL cR a_t a_t_shifts a_t_masks a_t_rules y5 y4 t_inputs t_transfers n_t_shifts f1 n_t_masks f3) H := hP
  have hD : va_D A (wl_MA_addRegister cI cL cR a_t a_t_shifts a_t_masks a_t_rules y5 y4 t_inputs t_transfers n_t_shifts f1 n_t_masks f3) := hD
  refine lv_iload_n hx hb d_MA_addRegister_46 rfl (lv_at hl 0 rfl) ?_
  exact hret t_registers (y5, y4, f1, f3) H locs _ _ 47 ls d_MA_addRegister_47 hP hD hS hw (Nat.le_refl 0) (Nat.le_refl 0)

abbrev wl_MA_withRegister (cI cL cR : ClassId) (a_t : Nat) (a_t_shifts : Nat) (a_t_masks : Nat) (a_t_rules : Nat) (t_registers : Int32) (t_bits : Int32) (t_inputs : Int32) (t_transfers : Int32) (n_t_shifts : Nat) (f_t_shifts : Nat → Int32) (n_t_masks : Nat) (f_t_masks : Nat → Int32) : va_W := [(a_t, .inr (2, [.ref a_t_shifts, .ref a_t_masks, .ref a_t_rules, .int t_registers, .int t_bits, .int t_inputs, .int t_transfers])), (a_t_shifts, .inl (cI, n_t_shifts, .inl f_t_shifts)), (a_t_masks, .inl (cI, n_t_masks, .inl f_t_masks))]
def wp_MA_withRegister (t_registers : Int32) (t_bits : Int32) (t_inputs : Int32) (t_transfers : Int32) (n_t_shifts : Nat) (f_t_shifts : Nat → Int32) (n_t_masks : Nat) (f_t_masks : Nat → Int32) (a1 : Int32) (a2 : Int32) (a3 : Int32) (post : Int32 → Prop) : Prop :=
  (vp_in a2 n_t_masks ∧ (vp_in a2 n_t_shifts ∧ (∀ y1 : Int32, y1 = (a1 &&& (((f_t_masks a2.toNatClampNeg) <<< ((f_t_shifts a2.toNatClampNeg) &&& 31)) ^^^ ((-1) : Int32))) → (vp_in a2 n_t_masks ∧ (vp_in a2 n_t_shifts ∧ post (y1 ||| ((a3 &&& (f_t_masks a2.toNatClampNeg)) <<< ((f_t_shifts a2.toNatClampNeg) &&& 31))))))))
abbrev rm_MA_withRegister : Room := { frames := 1, cells := 0, slots := 0, locals := 12 }
set_option maxHeartbeats 4000000 in
set_option maxRecDepth 100000 in
theorem c_MA_withRegister (l : Launch) (D : va_G) (cI cL cR : ClassId) (a_t : Nat) (a_t_shifts : Nat) (a_t_masks : Nat) (a_t_rules : Nat) (t_registers : Int32) (t_bits : Int32) (t_inputs : Int32) (t_transfers : Int32) (n_t_shifts : Nat) (f_t_shifts : Nat → Int32) (n_t_masks : Nat) (f_t_masks : Nat → Int32) (a1 : Int32) (a2 : Int32) (a3 : Int32) (sz : Nat) (post : Int32 → Prop) (hw : wp_MA_withRegister t_registers t_bits t_inputs t_transfers n_t_shifts f_t_shifts n_t_masks f_t_masks a1 a2 a3 post) : ky_M ky_rI l y_MA_withRegister (.code y_MA_withRegister b_MA_withRegister 5 (some .int) :: wsG) rm_MA_withRegister D vwCl (ky_T cI cL cR) (wl_MA_withRegister cI cL cR a_t a_t_shifts a_t_masks a_t_rules t_registers t_bits t_inputs t_transfers n_t_shifts f_t_shifts n_t_masks f_t_masks) sz [.ref a_t, .int a1, .int a2, .int a3] (fun r (u : Unit) => post r) (fun u => wl_MA_withRegister cI cL cR a_t a_t_shifts a_t_masks a_t_rules t_registers t_bits t_inputs t_transfers n_t_shifts f_t_shifts n_t_masks f_t_masks) := by
  refine ky_ofI (plainFor_of_name (by decide)) (Nat.le_of_ble_eq_true rfl) ?_
  intro p e s m args below meth c A Q ls hI hret
  obtain ⟨hx, hb, hml, hown, hin, hts, hK, hP, hD, hA, hS, hl⟩ := hI
  have hown : s.vm.findClass R_MA = some m.cls := hown
  have hl : lv_has ls 5 [(0, .ref a_t), (1, .int a1), (2, .int a2), (3, .int a3)] := hl
  obtain ⟨H, locs, eH, eL⟩ : ∃ (H : Heap) (locs : List Loc), H = s.heap ∧ locs = [] := ⟨_, _, rfl, rfl⟩
  rw [← eL] at hS ⊢
  have hS : va_S A s.heap H locs := by rw [eH]; exact hS
  have hP : va_P D vwCl (wl_MA_withRegister cI cL cR a_t a_t_shifts a_t_masks a_t_rules t_registers t_bits t_inputs t_transfers n_t_shifts f_t_shifts n_t_masks f_t_masks) H := by rw [eH]; exact hP
  suffices hgo : W p l e rm_MA_withRegister s m args below meth c H locs 0 0 Q (F0 m 0 ls []) by rw [eH] at hgo; exact hgo
  clear eH eL
  unfold wp_MA_withRegister at hw
  refine lv_iload_n hx hb d_MA_withRegister_0 rfl (lv_at hl 1 rfl) ?_
  refine lv_aload_n hx hb d_MA_withRegister_1 rfl (lv_at hl 0 rfl) ?_
  refine gf_MA_15 hx hb hts hown hK hP 0 rfl rfl d_MA_withRegister_2 ?_
  refine lv_iload_n hx hb d_MA_withRegister_5 rfl (lv_at hl 2 rfl) ?_
  obtain ⟨h1, hw⟩ := hw
  refine va_iald hx hb hK hP 2 0 rfl rfl h1 d_MA_withRegister_6 ?_
  refine lv_aload_n hx hb d_MA_withRegister_7 rfl (lv_at hl 0 rfl) ?_
  refine gf_MA_9 hx hb hts hown hK hP 0 rfl rfl d_MA_withRegister_8 ?_
  refine lv_iload_n hx hb d_MA_withRegister_11 rfl (lv_at hl 2 rfl) ?_
  obtain ⟨h1, hw⟩ := hw
  refine va_iald hx hb hK hP 1 0 rfl rfl h1 d_MA_withRegister_12 ?_
  refine lv_ishl hx hb d_MA_withRegister_13 ?_
  refine lv_iconst (v := (-1)) hx hb d_MA_withRegister_14 (by decide) ?_
  refine lv_ixor hx hb d_MA_withRegister_15 ?_
  refine lv_iand hx hb d_MA_withRegister_16 ?_
  refine lv_topi (fun y1 ey1 => ?_)
  have hw := hw y1 ey1
  refine lv_istore (lv' := [(4, .int y1), (0, .ref a_t), (1, .int a1), (2, .int a2), (3, .int a3)]) hx hb d_MA_withRegister_17 hl (by decide) rfl (fun ls hl => ?_)
  refine lv_iload hx hb d_MA_withRegister_19 (lv_at hl 0 rfl) ?_
  refine lv_iload_n hx hb d_MA_withRegister_21 rfl (lv_at hl 4 rfl) ?_
  refine lv_aload_n hx hb d_MA_withRegister_22 rfl (lv_at hl 1 rfl) ?_
  refine gf_MA_15 hx hb hts hown hK hP 0 rfl rfl d_MA_withRegister_23 ?_
  refine lv_iload_n hx hb d_MA_withRegister_26 rfl (lv_at hl 3 rfl) ?_
  obtain ⟨h1, hw⟩ := hw
  refine va_iald hx hb hK hP 2 0 rfl rfl h1 d_MA_withRegister_27 ?_
  refine lv_iand hx hb d_MA_withRegister_28 ?_
  refine lv_aload_n hx hb d_MA_withRegister_29 rfl (lv_at hl 1 rfl) ?_
  refine gf_MA_9 hx hb hts hown hK hP 0 rfl rfl d_MA_withRegister_30 ?_
  refine lv_iload_n hx hb d_MA_withRegister_33 rfl (lv_at hl 3 rfl) ?_
  obtain ⟨h1, hw⟩ := hw
  refine va_iald hx hb hK hP 1 0 rfl rfl h1 d_MA_withRegister_34 ?_
  refine lv_ishl hx hb d_MA_withRegister_35 ?_
  refine lv_ior hx hb d_MA_withRegister_36 ?_
  exact hret (y1 ||| ((a3 &&& (f_t_masks a2.toNatClampNeg)) <<< ((f_t_shifts a2.toNatClampNeg) &&& 31))) () H locs _ _ 37 ls d_MA_withRegister_37 hP hD hS hw (Nat.le_refl 0) (Nat.le_refl 0)

abbrev wl_MA_operandValue (cI cL cR : ClassId) (a_t : Nat) (a_t_shifts : Nat) (a_t_masks : Nat) (a_t_rules : Nat) (t_registers : Int32) (t_bits : Int32) (t_inputs : Int32) (t_transfers : Int32) (n_t_shifts : Nat) (f_t_shifts : Nat → Int32) (n_t_masks : Nat) (f_t_masks : Nat → Int32) : va_W := [(a_t, .inr (2, [.ref a_t_shifts, .ref a_t_masks, .ref a_t_rules, .int t_registers, .int t_bits, .int t_inputs, .int t_transfers])), (a_t_shifts, .inl (cI, n_t_shifts, .inl f_t_shifts)), (a_t_masks, .inl (cI, n_t_masks, .inl f_t_masks))]
def wp_MA_operandValue (t_registers : Int32) (t_bits : Int32) (t_inputs : Int32) (t_transfers : Int32) (n_t_shifts : Nat) (f_t_shifts : Nat → Int32) (n_t_masks : Nat) (f_t_masks : Nat → Int32) (a1 : Int32) (a2 : Int32) (post : Int32 → Prop) : Prop :=
  (((0 : Int32) ≤ a1 → (vp_in a1 n_t_shifts ∧ (vp_in a1 n_t_masks ∧ post ((a2 >>> ((f_t_shifts a1.toNatClampNeg) &&& 31)) &&& (f_t_masks a1.toNatClampNeg))))) ∧ (¬ (0 : Int32) ≤ a1 → post (((-1) : Int32) - a1)))
abbrev rm_MA_operandValue : Room := { frames := 1, cells := 0, slots := 0, locals := 12 }
set_option maxHeartbeats 4000000 in
set_option maxRecDepth 100000 in
theorem c_MA_operandValue (l : Launch) (D : va_G) (cI cL cR : ClassId) (a_t : Nat) (a_t_shifts : Nat) (a_t_masks : Nat) (a_t_rules : Nat) (t_registers : Int32) (t_bits : Int32) (t_inputs : Int32) (t_transfers : Int32) (n_t_shifts : Nat) (f_t_shifts : Nat → Int32) (n_t_masks : Nat) (f_t_masks : Nat → Int32) (a1 : Int32) (a2 : Int32) (sz : Nat) (post : Int32 → Prop) (hw : wp_MA_operandValue t_registers t_bits t_inputs t_transfers n_t_shifts f_t_shifts n_t_masks f_t_masks a1 a2 post) : ky_M ky_rI l y_MA_operandValue (.code y_MA_operandValue b_MA_operandValue 3 (some .int) :: wsG) rm_MA_operandValue D vwCl (ky_T cI cL cR) (wl_MA_operandValue cI cL cR a_t a_t_shifts a_t_masks a_t_rules t_registers t_bits t_inputs t_transfers n_t_shifts f_t_shifts n_t_masks f_t_masks) sz [.ref a_t, .int a1, .int a2] (fun r (u : Unit) => post r) (fun u => wl_MA_operandValue cI cL cR a_t a_t_shifts a_t_masks a_t_rules t_registers t_bits t_inputs t_transfers n_t_shifts f_t_shifts n_t_masks f_t_masks) := by
  refine ky_ofI (plainFor_of_name (by decide)) (Nat.le_of_ble_eq_true rfl) ?_
  intro p e s m args below meth c A Q ls hI hret
  obtain ⟨hx, hb, hml, hown, hin, hts, hK, hP, hD, hA, hS, hl⟩ := hI
  have hown : s.vm.findClass R_MA = some m.cls := hown
  have hl : lv_has ls 3 [(0, .ref a_t), (1, .int a1), (2, .int a2)] := hl
  obtain ⟨H, locs, eH, eL⟩ : ∃ (H : Heap) (locs : List Loc), H = s.heap ∧ locs = [] := ⟨_, _, rfl, rfl⟩
  rw [← eL] at hS ⊢
  have hS : va_S A s.heap H locs := by rw [eH]; exact hS
  have hP : va_P D vwCl (wl_MA_operandValue cI cL cR a_t a_t_shifts a_t_masks a_t_rules t_registers t_bits t_inputs t_transfers n_t_shifts f_t_shifts n_t_masks f_t_masks) H := by rw [eH]; exact hP
  suffices hgo : W p l e rm_MA_operandValue s m args below meth c H locs 0 0 Q (F0 m 0 ls []) by rw [eH] at hgo; exact hgo
  clear eH eL
  unfold wp_MA_operandValue at hw
  refine lv_iload_n hx hb d_MA_operandValue_0 rfl (lv_at hl 1 rfl) ?_
  refine lv_if_ge (tgt := 8) hx hb d_MA_operandValue_1 (by decide) (fun hc => ?_) (fun hc => ?_)
  · have hw := hw.1 hc
    refine lv_iload_n hx hb d_MA_operandValue_8 rfl (lv_at hl 2 rfl) ?_
    refine lv_aload_n hx hb d_MA_operandValue_9 rfl (lv_at hl 0 rfl) ?_
    refine gf_MA_9 hx hb hts hown hK hP 0 rfl rfl d_MA_operandValue_10 ?_
    refine lv_iload_n hx hb d_MA_operandValue_13 rfl (lv_at hl 1 rfl) ?_
    obtain ⟨h1, hw⟩ := hw
    refine va_iald hx hb hK hP 1 0 rfl rfl h1 d_MA_operandValue_14 ?_
    refine lv_ishr hx hb d_MA_operandValue_15 ?_
    refine lv_aload_n hx hb d_MA_operandValue_16 rfl (lv_at hl 0 rfl) ?_
    refine gf_MA_15 hx hb hts hown hK hP 0 rfl rfl d_MA_operandValue_17 ?_
    refine lv_iload_n hx hb d_MA_operandValue_20 rfl (lv_at hl 1 rfl) ?_
    obtain ⟨h1, hw⟩ := hw
    refine va_iald hx hb hK hP 2 0 rfl rfl h1 d_MA_operandValue_21 ?_
    refine lv_iand hx hb d_MA_operandValue_22 ?_
    exact hret ((a2 >>> ((f_t_shifts a1.toNatClampNeg) &&& 31)) &&& (f_t_masks a1.toNatClampNeg)) () H locs _ _ 23 ls d_MA_operandValue_23 hP hD hS hw (Nat.le_refl 0) (Nat.le_refl 0)
  · have hw := hw.2 hc
    refine lv_iconst (v := (-1)) hx hb d_MA_operandValue_4 (by decide) ?_
    refine lv_iload_n hx hb d_MA_operandValue_5 rfl (lv_at hl 1 rfl) ?_
    refine lv_isub hx hb d_MA_operandValue_6 ?_
    exact hret (((-1) : Int32) - a1) () H locs _ _ 7 ls d_MA_operandValue_7 hP hD hS hw (Nat.le_refl 0) (Nat.le_refl 0)

abbrev wl_MA_valueOf (cI cL cR : ClassId)  : va_W := []
def wp_MA_valueOf (a0 : Int32) (a1 : Int32) (a2 : Int32) (post : Int32 → Prop) : Prop :=
  ((a0 = 0 → post (a1 + a2)) ∧ ((a0 = 1 → post (a1 - a2)) ∧ ((a0 = 2 → post (a1 &&& a2)) ∧ ((a0 = 3 → post (a1 ||| a2)) ∧ ((a0 = 4 → post (a1 ^^^ a2)) ∧ ((a0 = 5 → post (a1 * a2)) ∧ ((a0 = 6 → ((a2 ≤ a1 → post 0) ∧ (¬ a2 ≤ a1 → post 1))) ∧ ((a0 = 7 → ((¬ a1 = a2 → post 0) ∧ (a1 = a2 → post 1))) ∧ ((a0 = 8 → ((a2 = 0 → post 0) ∧ (¬ a2 = 0 → post a1))) ∧ (¬ a0 = 0 → ¬ a0 = 1 → ¬ a0 = 2 → ¬ a0 = 3 → ¬ a0 = 4 → ¬ a0 = 5 → ¬ a0 = 6 → ¬ a0 = 7 → ¬ a0 = 8 → post ((a1 >>> ((1 : Int32) &&& 31)) + ((8 : Int32) * a2))))))))))))
abbrev rm_MA_valueOf : Room := { frames := 1, cells := 0, slots := 0, locals := 12 }
set_option maxHeartbeats 4000000 in
set_option maxRecDepth 100000 in
theorem c_MA_valueOf (l : Launch) (D : va_G) (cI cL cR : ClassId)  (a0 : Int32) (a1 : Int32) (a2 : Int32) (sz : Nat) (post : Int32 → Prop) (hw : wp_MA_valueOf a0 a1 a2 post) : ky_M ky_rI l y_MA_valueOf (.code y_MA_valueOf b_MA_valueOf 3 (some .int) :: wsG) rm_MA_valueOf D vwCl (ky_T cI cL cR) (wl_MA_valueOf cI cL cR ) sz [.int a0, .int a1, .int a2] (fun r (u : Unit) => post r) (fun u => wl_MA_valueOf cI cL cR ) := by
  refine ky_ofI (plainFor_of_name (by decide)) (Nat.le_of_ble_eq_true rfl) ?_
  intro p e s m args below meth c A Q ls hI hret
  obtain ⟨hx, hb, hml, hown, hin, hts, hK, hP, hD, hA, hS, hl⟩ := hI
  have hown : s.vm.findClass R_MA = some m.cls := hown
  have hl : lv_has ls 3 [(0, .int a0), (1, .int a1), (2, .int a2)] := hl
  obtain ⟨H, locs, eH, eL⟩ : ∃ (H : Heap) (locs : List Loc), H = s.heap ∧ locs = [] := ⟨_, _, rfl, rfl⟩
  rw [← eL] at hS ⊢
  have hS : va_S A s.heap H locs := by rw [eH]; exact hS
  have hP : va_P D vwCl (wl_MA_valueOf cI cL cR ) H := by rw [eH]; exact hP
  suffices hgo : W p l e rm_MA_valueOf s m args below meth c H locs 0 0 Q (F0 m 0 ls []) by rw [eH] at hgo; exact hgo
  clear eH eL
  unfold wp_MA_valueOf at hw
  refine lv_iload_n hx hb d_MA_valueOf_0 rfl (lv_at hl 0 rfl) ?_
  by_cases hs1_0 : a0 = 0
  · have hw := hw.1 hs1_0
    refine lv_tableIn (off := 51) (tgt := 52) hx hb d_MA_valueOf_1 (by rw [hs1_0]; decide) (by rw [hs1_0]; decide) (by rw [hs1_0]; rfl) (by decide) ?_
    refine lv_iload_n hx hb d_MA_valueOf_52 rfl (lv_at hl 1 rfl) ?_
    refine lv_iload_n hx hb d_MA_valueOf_53 rfl (lv_at hl 2 rfl) ?_
    refine lv_iadd hx hb d_MA_valueOf_54 ?_
    exact hret (a1 + a2) () H locs _ _ 55 ls d_MA_valueOf_55 hP hD hS hw (Nat.le_refl 0) (Nat.le_refl 0)
  have hw := hw.2
  by_cases hs1_1 : a0 = 1
  · have hw := hw.1 hs1_1
    refine lv_tableIn (off := 55) (tgt := 56) hx hb d_MA_valueOf_1 (by rw [hs1_1]; decide) (by rw [hs1_1]; decide) (by rw [hs1_1]; rfl) (by decide) ?_
    refine lv_iload_n hx hb d_MA_valueOf_56 rfl (lv_at hl 1 rfl) ?_
    refine lv_iload_n hx hb d_MA_valueOf_57 rfl (lv_at hl 2 rfl) ?_
    refine lv_isub hx hb d_MA_valueOf_58 ?_
    exact hret (a1 - a2) () H locs _ _ 59 ls d_MA_valueOf_59 hP hD hS hw (Nat.le_refl 0) (Nat.le_refl 0)
  have hw := hw.2
  by_cases hs1_2 : a0 = 2
  · have hw := hw.1 hs1_2
    refine lv_tableIn (off := 59) (tgt := 60) hx hb d_MA_valueOf_1 (by rw [hs1_2]; decide) (by rw [hs1_2]; decide) (by rw [hs1_2]; rfl) (by decide) ?_
    refine lv_iload_n hx hb d_MA_valueOf_60 rfl (lv_at hl 1 rfl) ?_
    refine lv_iload_n hx hb d_MA_valueOf_61 rfl (lv_at hl 2 rfl) ?_
    refine lv_iand hx hb d_MA_valueOf_62 ?_
    exact hret (a1 &&& a2) () H locs _ _ 63 ls d_MA_valueOf_63 hP hD hS hw (Nat.le_refl 0) (Nat.le_refl 0)
  have hw := hw.2
  by_cases hs1_3 : a0 = 3
  · have hw := hw.1 hs1_3
    refine lv_tableIn (off := 63) (tgt := 64) hx hb d_MA_valueOf_1 (by rw [hs1_3]; decide) (by rw [hs1_3]; decide) (by rw [hs1_3]; rfl) (by decide) ?_
    refine lv_iload_n hx hb d_MA_valueOf_64 rfl (lv_at hl 1 rfl) ?_
    refine lv_iload_n hx hb d_MA_valueOf_65 rfl (lv_at hl 2 rfl) ?_
    refine lv_ior hx hb d_MA_valueOf_66 ?_
    exact hret (a1 ||| a2) () H locs _ _ 67 ls d_MA_valueOf_67 hP hD hS hw (Nat.le_refl 0) (Nat.le_refl 0)
  have hw := hw.2
  by_cases hs1_4 : a0 = 4
  · have hw := hw.1 hs1_4
    refine lv_tableIn (off := 67) (tgt := 68) hx hb d_MA_valueOf_1 (by rw [hs1_4]; decide) (by rw [hs1_4]; decide) (by rw [hs1_4]; rfl) (by decide) ?_
    refine lv_iload_n hx hb d_MA_valueOf_68 rfl (lv_at hl 1 rfl) ?_
    refine lv_iload_n hx hb d_MA_valueOf_69 rfl (lv_at hl 2 rfl) ?_
    refine lv_ixor hx hb d_MA_valueOf_70 ?_
    exact hret (a1 ^^^ a2) () H locs _ _ 71 ls d_MA_valueOf_71 hP hD hS hw (Nat.le_refl 0) (Nat.le_refl 0)
  have hw := hw.2
  by_cases hs1_5 : a0 = 5
  · have hw := hw.1 hs1_5
    refine lv_tableIn (off := 71) (tgt := 72) hx hb d_MA_valueOf_1 (by rw [hs1_5]; decide) (by rw [hs1_5]; decide) (by rw [hs1_5]; rfl) (by decide) ?_
    refine lv_iload_n hx hb d_MA_valueOf_72 rfl (lv_at hl 1 rfl) ?_
    refine lv_iload_n hx hb d_MA_valueOf_73 rfl (lv_at hl 2 rfl) ?_
    refine lv_imul hx hb d_MA_valueOf_74 ?_
    exact hret (a1 * a2) () H locs _ _ 75 ls d_MA_valueOf_75 hP hD hS hw (Nat.le_refl 0) (Nat.le_refl 0)
  have hw := hw.2
  by_cases hs1_6 : a0 = 6
  · have hw := hw.1 hs1_6
    refine lv_tableIn (off := 75) (tgt := 76) hx hb d_MA_valueOf_1 (by rw [hs1_6]; decide) (by rw [hs1_6]; decide) (by rw [hs1_6]; rfl) (by decide) ?_
    refine lv_iload_n hx hb d_MA_valueOf_76 rfl (lv_at hl 1 rfl) ?_
    refine lv_iload_n hx hb d_MA_valueOf_77 rfl (lv_at hl 2 rfl) ?_
    refine lv_icmp_ge (tgt := 85) hx hb d_MA_valueOf_78 (by decide) (fun hc => ?_) (fun hc => ?_)
    · have hw := hw.1 hc
      refine lv_iconst (v := 0) hx hb d_MA_valueOf_85 (by decide) ?_
      exact hret 0 () H locs _ _ 86 ls d_MA_valueOf_86 hP hD hS hw (Nat.le_refl 0) (Nat.le_refl 0)
    · have hw := hw.2 hc
      refine lv_iconst (v := 1) hx hb d_MA_valueOf_81 (by decide) ?_
      refine lv_goto (tgt := 86) hx hb d_MA_valueOf_82 (by decide) ?_
      exact hret 1 () H locs _ _ 86 ls d_MA_valueOf_86 hP hD hS hw (Nat.le_refl 0) (Nat.le_refl 0)
  have hw := hw.2
  by_cases hs1_7 : a0 = 7
  · have hw := hw.1 hs1_7
    refine lv_tableIn (off := 86) (tgt := 87) hx hb d_MA_valueOf_1 (by rw [hs1_7]; decide) (by rw [hs1_7]; decide) (by rw [hs1_7]; rfl) (by decide) ?_
    refine lv_iload_n hx hb d_MA_valueOf_87 rfl (lv_at hl 1 rfl) ?_
    refine lv_iload_n hx hb d_MA_valueOf_88 rfl (lv_at hl 2 rfl) ?_
    refine lv_icmp_ne (tgt := 96) hx hb d_MA_valueOf_89 (by decide) (fun hc => ?_) (fun hc => ?_)
    · have hw := hw.1 hc
      refine lv_iconst (v := 0) hx hb d_MA_valueOf_96 (by decide) ?_
      exact hret 0 () H locs _ _ 97 ls d_MA_valueOf_97 hP hD hS hw (Nat.le_refl 0) (Nat.le_refl 0)
    · have hw := hw.2 hc
      refine lv_iconst (v := 1) hx hb d_MA_valueOf_92 (by decide) ?_
      refine lv_goto (tgt := 97) hx hb d_MA_valueOf_93 (by decide) ?_
      exact hret 1 () H locs _ _ 97 ls d_MA_valueOf_97 hP hD hS hw (Nat.le_refl 0) (Nat.le_refl 0)
  have hw := hw.2
  by_cases hs1_8 : a0 = 8
  · have hw := hw.1 hs1_8
    refine lv_tableIn (off := 97) (tgt := 98) hx hb d_MA_valueOf_1 (by rw [hs1_8]; decide) (by rw [hs1_8]; decide) (by rw [hs1_8]; rfl) (by decide) ?_
    refine lv_iload_n hx hb d_MA_valueOf_98 rfl (lv_at hl 2 rfl) ?_
    refine lv_if_eq (tgt := 106) hx hb d_MA_valueOf_99 (by decide) (fun hc => ?_) (fun hc => ?_)
    · have hw := hw.1 hc
      refine lv_iconst (v := 0) hx hb d_MA_valueOf_106 (by decide) ?_
      exact hret 0 () H locs _ _ 107 ls d_MA_valueOf_107 hP hD hS hw (Nat.le_refl 0) (Nat.le_refl 0)
    · have hw := hw.2 hc
      refine lv_iload_n hx hb d_MA_valueOf_102 rfl (lv_at hl 1 rfl) ?_
      refine lv_goto (tgt := 107) hx hb d_MA_valueOf_103 (by decide) ?_
      exact hret a1 () H locs _ _ 107 ls d_MA_valueOf_107 hP hD hS hw (Nat.le_refl 0) (Nat.le_refl 0)
  have hw := hw.2
  refine lv_tableOut (tgt := 108) hx hb d_MA_valueOf_1 (by have := lv_neT (k := 0) (a := 0) hs1_0 rfl; have := lv_neT (k := 1) (a := 1) hs1_1 rfl; have := lv_neT (k := 2) (a := 2) hs1_2 rfl; have := lv_neT (k := 3) (a := 3) hs1_3 rfl; have := lv_neT (k := 4) (a := 4) hs1_4 rfl; have := lv_neT (k := 5) (a := 5) hs1_5 rfl; have := lv_neT (k := 6) (a := 6) hs1_6 rfl; have := lv_neT (k := 7) (a := 7) hs1_7 rfl; have := lv_neT (k := 8) (a := 8) hs1_8 rfl; omega) (by decide) ?_
  have hw := hw hs1_0 hs1_1 hs1_2 hs1_3 hs1_4 hs1_5 hs1_6 hs1_7 hs1_8
  refine lv_iload_n hx hb d_MA_valueOf_108 rfl (lv_at hl 1 rfl) ?_
  refine lv_iconst (v := 1) hx hb d_MA_valueOf_109 (by decide) ?_
  refine lv_ishr hx hb d_MA_valueOf_110 ?_
  refine lv_bipush (v := 8) hx hb d_MA_valueOf_111 (by decide) ?_
  refine lv_iload_n hx hb d_MA_valueOf_113 rfl (lv_at hl 2 rfl) ?_
  refine lv_imul hx hb d_MA_valueOf_114 ?_
  refine lv_iadd hx hb d_MA_valueOf_115 ?_
  exact hret ((a1 >>> ((1 : Int32) &&& 31)) + ((8 : Int32) * a2)) () H locs _ _ 116 ls d_MA_valueOf_116 hP hD hS hw (Nat.le_refl 0) (Nat.le_refl 0)


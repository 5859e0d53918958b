abbrev b_LW_cell : ByteArray := method_2_code
def y_LW_cell : MethodName := ⟨R_LW, "cell", "([II)I"⟩
theorem k_657 : Cond.classLink R_LW 8 R_SE ∈ wsG := by decide +kernel
theorem k_658 : Cond.classLink R_LW 77 R_MO ∈ wsG := by decide +kernel
theorem k_659 : Cond.code y_LW_cell b_LW_cell 2 (some .int) ∈ wsG := by decide +kernel
theorem k_660 : Cond.methodLink R_LW 68 y_LW_cell ∈ wsG := by decide +kernel
theorem k_661 : Cond.static y_LW_cell ∈ wsG := by decide +kernel
theorem k_662 : Cond.code y_SE_new b_SE_new 2 none ∈ wsG := by decide +kernel
theorem k_663 : Cond.methodLink R_LW 74 y_SE_new ∈ wsG := by decide +kernel
theorem k_664 : Cond.instanceMethod y_SE_new ∈ wsG := by decide +kernel
theorem k_665 : Cond.code y_MO_new b_MO_new 2 none ∈ wsG := by decide +kernel
theorem k_666 : Cond.methodLink R_LW 79 y_MO_new ∈ wsG := by decide +kernel
theorem k_667 : Cond.instanceMethod y_MO_new ∈ wsG := by decide +kernel
theorem d_LW_cell_0 : decode b_LW_cell 0 = .ok (.iload_n 1, 1) := by decide +kernel
theorem d_LW_cell_1 : decode b_LW_cell 1 = .ok (.aload_n 0, 1) := by decide +kernel
theorem d_LW_cell_2 : decode b_LW_cell 2 = .ok (.arraylength, 1) := by decide +kernel
theorem d_LW_cell_3 : decode b_LW_cell 3 = .ok (.if_icmp .ge 9, 3) := by decide +kernel
theorem d_LW_cell_6 : decode b_LW_cell 6 = .ok (.aload_n 0, 1) := by decide +kernel
theorem d_LW_cell_7 : decode b_LW_cell 7 = .ok (.iload_n 1, 1) := by decide +kernel
theorem d_LW_cell_8 : decode b_LW_cell 8 = .ok (.iaload, 1) := by decide +kernel
theorem d_LW_cell_9 : decode b_LW_cell 9 = .ok (.goto 4, 3) := by decide +kernel
theorem d_LW_cell_12 : decode b_LW_cell 12 = .ok (.iconst 0, 1) := by decide +kernel
theorem d_LW_cell_13 : decode b_LW_cell 13 = .ok (.ireturn, 1) := by decide +kernel
section Sites
variable {p : Program} {l : Launch} {e : Env} {R : Room} {s : State} {m : MethodId} {args : Array Value} {below : List Frame} {meth : Method} {c : Code} {H H0 : Heap} {locs : List Loc} {cells slots : Nat} {Q : State → Prop} {cc : ByteArray} {pc : Nat} {ls : Array Slot} {rest : List Value} {D : va_G} {A : Nat → Prop} {a : Nat} {TY : List (ClassId × FieldType)} {ws : va_W}
theorem cw_LW_68 {rm : Room} (hts : ∀ w ∈ wsG, w.before args s = true) (hR : rm.frames + 1 ≤ R.frames ∧ 8 + (2 + 11) + rm.locals ≤ R.locals) : CallB R s args R_LW 68 y_LW_cell b_LW_cell 2 (some .int) (.code y_LW_cell b_LW_cell 2 (some .int) :: wsG) rm rm.cells rm.slots 2 ∧ (Cond.static y_LW_cell).before args s = true :=
  ky_cwS 2 hts k_659 k_660 k_661 k_542 (by decide +kernel) hR
theorem cw_LW_74 {rm : Room} (hts : ∀ w ∈ wsG, w.before args s = true) (hR : rm.frames + 1 ≤ R.frames ∧ 8 + (2 + 11) + rm.locals ≤ R.locals) : CallB R s args R_LW 74 y_SE_new b_SE_new 2 none (.code y_SE_new b_SE_new 2 none :: wsG) rm rm.cells rm.slots 1 ∧ y_SE_new.name = "<init>" ∧ (Cond.instanceMethod y_SE_new).before args s = true :=
  ky_cwI 1 hts k_662 k_663 k_664 k_361 rfl (by decide +kernel) hR
theorem cw_LW_79 {rm : Room} (hts : ∀ w ∈ wsG, w.before args s = true) (hR : rm.frames + 1 ≤ R.frames ∧ 8 + (2 + 11) + rm.locals ≤ R.locals) : CallB R s args R_LW 79 y_MO_new b_MO_new 2 none (.code y_MO_new b_MO_new 2 none :: wsG) rm rm.cells rm.slots 1 ∧ y_MO_new.name = "<init>" ∧ (Cond.instanceMethod y_MO_new).before args s = true :=
  ky_cwI 1 hts k_665 k_666 k_667 k_51 rfl (by decide +kernel) hR
end Sites
/-! the law's own helper, and what the Statement gives of the start -/
def kc_v (L : Nat) (xs : Nat → Int32) : Int32 := if L = 0 then 0 else xs 0
abbrev rm_LW_cell : Room := { frames := 1, cells := 0, slots := 0, locals := 12 }
theorem c_LW_cell (l : Launch) (D : va_G) (cl : List vw_C) (TY : List (ClassId × FieldType)) (b L : Nat) (xs : Nat → Int32) (sz : Nat) (hL : L ≤ 3073) (hbs : b < sz) :
    Met l y_LW_cell (Cond.code y_LW_cell b_LW_cell 2 (some .int) :: wsG) rm_LW_cell (fun a U => ky_Pc D cl TY [] sz [.ref b, .int 0] a U ∧ va_X b L xs U U.heap) (ky_Q ky_rI (fun r (_ : Unit) => r = kc_v L xs) (ky_B D cl TY (va_A [] sz) (fun _ => [])) (va_A [] sz)) 0 0 (va_A [] sz) := by
  refine va_MetF (cc := b_LW_cell) (maxL := 2) (ret := some .int) (plainFor_of_name (by decide)) rfl ?_
  intro p e s m args below meth c s₁ B hml hv
  obtain ⟨⟨rfl, hsz, hP, hK, hD0⟩, hX⟩ := hv
  have hx := B.exec
  have hb := B.bytes
  subst hsz
  have hD := hD0.self (sz := s.heap.size)
  have hl := lv_entry ([.ref b, .int 0] : List Value) (n := 2) (Nat.le_of_ble_eq_true rfl)
  rw [lg_entry_eq]
  generalize (lg_sl ([.ref b, .int 0] : List Value) ++ List.replicate (2 - (lg_sl ([.ref b, .int 0] : List Value)).length) Slot.unset).toArray = ls at hl ⊢
  have hl : lv_has ls 2 [(0, .ref b), (1, .int 0)] := hl
  have hS : va_S (va_A [] s.heap.size) s.heap s.heap [] := va_S.rf
  have hbA : ¬ va_A [] s.heap.size b := by
    intro h
    rcases h with ⟨k, e, h⟩ | h
    · simp at h
    · omega
  have fin : ∀ (r : Int32) (pc : Nat) (ls : Array Slot), decode b_LW_cell pc = .ok (.ireturn, 1) → r = kc_v L xs → W p l e rm_LW_cell s m ([.ref b, .int 0] : List Value).toArray below meth c s.heap [] 0 0 (MQ below (ky_Q ky_rI (fun r (_ : Unit) => r = kc_v L xs) (ky_B D cl TY (va_A [] s.heap.size) (fun _ => [])) (va_A [] s.heap.size)) ([.ref b, .int 0] : List Value).toArray s 0 0 (va_A [] s.heap.size)) (F0 m pc ls [.int r]) := by
    intro r pc ls hdg hr
    exact W.iret hx hb B.returns (fun t ht hW => ⟨⟨r, (), rfl, hr, by rw [ht]; exact hP, va_K.moved hW.alike hK, hD⟩, hS.F ht⟩) hS.2.2 hdg B.notSynchronized
  refine lv_iload_n hx hb d_LW_cell_0 rfl (lv_at hl 1 rfl) ?_
  refine lv_aload_n hx hb d_LW_cell_1 rfl (lv_at hl 0 rfl) ?_
  refine va_slen hx hb hX hbs hbA hS d_LW_cell_2 ?_
  refine lv_icmp_ge (tgt := 12) hx hb d_LW_cell_3 (by decide) (fun hc => ?_) (fun hc => ?_)
  · refine lv_iconst (v := 0) hx hb d_LW_cell_12 (by decide) ?_
    refine fin 0 13 ls d_LW_cell_13 ?_
    have h0 : L = 0 := by
      rcases Nat.eq_zero_or_pos L with h | h
      · exact h
      · exact absurd hc (nI_nle h (by omega))
    rw [kc_v, if_pos h0]
  · have h0 : 0 < L := by
      rcases Nat.eq_zero_or_pos L with h | h
      · subst h; exact absurd (show nI 0 ≤ nI 0 from nI_le (Nat.le_refl 0) (by omega)) hc
      · exact h
    refine lv_aload_n hx hb d_LW_cell_6 rfl (lv_at hl 0 rfl) ?_
    refine lv_iload_n hx hb d_LW_cell_7 rfl (lv_at hl 1 rfl) ?_
    refine va_sld hx hb hX hbs hbA hS (show vp_in (nI 0) L from vp_in_nI h0 (by omega)) d_LW_cell_8 ?_
    refine lv_goto (tgt := 13) hx hb d_LW_cell_9 (by decide) ?_
    refine fin _ 13 ls d_LW_cell_13 ?_
    rw [kc_v, if_neg (by omega)]
    rfl
theorem kc_pre {s : State} {H : Heap} {D : va_G} {cl : List vw_C} {TY : List (ClassId × FieldType)} {b L : Nat} {xs : Nat → Int32} (hK : va_K D cl TY s) (hX : va_X b L xs s H) : PreS s H (fun a U => ky_Pc D cl TY [] H.size [.ref b, .int 0] a U ∧ va_X b L xs U U.heap) [.ref b, .int 0] :=
  ⟨fun a U g mk q => by obtain ⟨⟨q0, q1, qP, qK, qD⟩, qX⟩ := q; exact ⟨⟨q0, q1, qP, va_K.moved (u := U) (U := U.calling g mk a) (Vm.Alike.refl U.vm) qK, qD⟩, va_X.moved (u := U) (U := U.calling g mk a) (Vm.Alike.refl U.vm) qX⟩,
   fun U hU hW => ⟨⟨rfl, by rw [hU], fun k q h => by simp at h, va_K.moved hW.alike hK, ⟨fun i j p q h => by simp at h, fun k q h => by simp at h⟩⟩, by rw [hU]; exact va_X.moved hW.alike hX⟩⟩


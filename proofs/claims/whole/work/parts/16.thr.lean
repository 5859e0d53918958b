/-! OWN KIT, part 5: a throw, as a row -/
theorem kx_stand {p : Program} {l : Launch} {e : Env} {R R' : Room} {s : State} {m : MethodId} {args : Array Value} {below : List Frame} {meth : Method} {c : Code} {T : State} {locs : List Loc} {cells slots : Nat}
    (X : Stand p l e R s m args below meth c T locs cells slots) (hRf : R'.frames = R.frames) (hRl : R'.locals = R.locals) (hRc : cells + R'.cells ≤ R.cells) (hRs : slots + R'.slots ≤ R.slots) :
    Stand p l e R' (T.setFrames (.invoking m args :: below)) m args below meth c T [] 0 0 := by
  obtain ⟨g₀, hfr⟩ := X.frames_eq
  have hcur : T.cur < T.threads.size := State.cur_lt_of_frames hfr
  have hf : (T.setFrames (.invoking m args :: below)).frames = .invoking m args :: below := State.frames_setFrames _ hcur
  have hm : T.vm.method? m = some meth := X.method'
  have hmeth : ∀ q, T.vm.method? q = s.vm.method? q := fun q => by rw [X.warmed.alike.method?]
  refine ⟨X.admits, X.cas, X.clock, hf, ?_, ?_, hm, X.code, X.here, X.tail, State.WarmedH.refl _, (State.stackLimits_setFrames _ _ _).symm, (State.stackBytes_setFrames _ _).symm, ?_⟩
  · have h0 := X.room
    have hl0 := State.localsInUse_invoking X.frames X.method X.code
    have hl1 := State.localsInUse_invoking hf hm X.code
    have hc := X.cellsAbove hRc
    have hs := X.slotsAbove hRs
    have hbk : (T.setFrames (.invoking m args :: below)).slotsTrue = true := X.book
    simp only [State.hasRoom, Bool.and_eq_true, decide_eq_true_eq] at h0 ⊢
    obtain ⟨⟨⟨⟨a1, a2, a3, a4, a5, a6⟩, a7⟩, a8⟩, a9⟩ := h0
    rw [hl0] at a1 a4 a5
    rw [X.frames] at a2 a3
    rw [hl1, hf, State.stackLimits_setFrames, State.stackBytes_setFrames, X.limits, X.bytes, hRf, hRl]
    exact ⟨⟨⟨⟨a1, a2, a3, a4, a5, a6⟩, hc⟩, hs⟩, hbk⟩
  · have h0 := X.hears
    have hcode : ∀ q, (T.setFrames (.invoking m args :: below)).code? q = s.code? q := fun q => by
      rw [State.code?_eq, State.code?_eq]
      show (T.vm.method? q).bind _ = _
      rw [hmeth]
    cases below with
    | nil => simp only [State.hears] at h0 ⊢; show ((T.vm.method? m).any _) = true; rw [hmeth]; exact h0
    | cons f r =>
      cases f with
      | java g => simp only [State.hears] at h0 ⊢; rw [hcode]; exact h0
      | native g => rfl
      | proc g => rfl
      | _ => simp only [State.hears] at h0 ⊢; show ((T.vm.method? m).any _) = true; rw [hmeth]; exact h0
  · obtain ⟨t, ht, -⟩ := State.frames_cons hfr
    have e1 : T.setVm (T.setFrames (.invoking m args :: below)).vm = T := State.setVm_self T
    rw [e1]
    refine ⟨?_, Nat.le_refl _, Nat.le_refl _, ?_, ?_, fun a c h => ⟨c, h, rfl, rfl, fun _ _ => rfl⟩⟩
    · rw [State.setFrames_setFrames, State.setFrames_self ht]
    · show T.slotsUsed = T.slotsUsed + ((T.heap.toList.drop T.heap.size).map (·.slots.size)).sum
      rw [List.drop_eq_nil_of_le (show T.heap.toList.length ≤ T.heap.size by simp)]; rfl
    · show ((T.heap.toList.drop T.heap.size).map (·.slots.size)).sum ≤ 0
      rw [List.drop_eq_nil_of_le (show T.heap.toList.length ≤ T.heap.size by simp)]; exact Nat.le_refl 0
def kx_End (st t : State) (L : List Loc) (k n : Nat) : Prop := st.WarmedH t.vm ∧ st.sameButNew ({ t with vm := st.vm } : State) L k n
def kx_exc (E : String) (x : Nat) (t : State) : Prop := ∃ cell : Cell, t.heap[x]? = some cell ∧ cell.vm = .none ∧ t.vm.findClass E = some cell.cls
def kx_nm : Nat → String
  | 1 => "java/lang/IllegalArgumentException"
  | 2 => "java/lang/IllegalStateException"
  | 3 => "java/lang/UnsupportedOperationException"
  | _ => "java/lang/IndexOutOfBoundsException"
def kx_Q {α S : Type} (rv : α → Option Value) (post : α → S → Prop) (pX : Nat → S → Prop) (B : S → State → Prop) (A : Nat → Prop) : Array Value → State → Outcome → State → Prop :=
  fun _ st oc t => ((∃ (r : α) (u : S), oc = .returned (rv r) ∧ post r u ∧ B u t) ∨ (∃ (x k : Nat) (u : S), oc = .threw x ∧ pX k u ∧ kx_exc (kx_nm k) x t ∧ st.heap.size ≤ x ∧ B u t)) ∧ va_F A st t
def kx_MQ (below : List Frame) (Qc : Array Value → State → Outcome → State → Prop) (a : Array Value) (s : State) (mc ms : Nat) (free : Addr → Prop) : State → Prop := fun t =>
  ∃ o, t.status = .running ∧ Ended t below o ∧ Qc a s o t ∧ ∃ L, kx_End s t L mc ms ∧ ∀ q ∈ L, free q.base
abbrev kx_nms : List String := ["java/lang/RuntimeException", "java/lang/Exception"]
section KXthr
variable {p : Program} {l : Launch} {e : Env} {R : Room} {s s0 : State} {m : MethodId} {args : Array Value} {below : List Frame} {meth : Method} {c : Code} {H : Heap} {locs : List Loc} {cells slots : Nat} {cc : ByteArray} {pc : Nat} {ls : Array Slot} {D : va_G} {cl : List vw_C} {A : Nat → Prop} {TY : List (ClassId × FieldType)}
theorem kx_thr {α S : Type} {rv : α → Option Value} {post : α → S → Prop} {pX : Nat → S → Prop} {wf : S → va_W} {ik is ic mc ms nL : Nat} {tx : String} (k : Nat) (hx : p.tables.exec = Jvm.exec) (hb : c.code = cc) (hml : c.maxLocals = nL) (hlt : l.stackTraces = false) (hown : s.vm.findClass R_SE = some m.cls) (hts : ∀ w ∈ wsG, w.before args s = true)
    (hS0 : kx_S s0 s) (hA0 : ∀ q, A q → s0.heap.size ≤ q) (h1 : Cond.classLink R_SE ik (kx_nm k) ∈ wsG) (h2 : Cond.instantiable (kx_nm k) 6 ∈ wsG) (h3 : Cond.initialized (kx_nm k) ∈ wsG) (hfit : Bundle.fit (kx_nm k) = true)
    (hat : ∀ w ∈ Bundle.ownAtoms R_SE ic (kx_nm k) kx_nms, kx_ok w = true) (hF : ∀ w ∈ Bundle.ownAtoms R_SE ic (kx_nm k) kx_nms, w.before #[] s0 = true) (hstr : ∃ q, vk_R R_SE is tx q s0)
    (hout : c.exceptionTable.isEmpty = true) (hlocks : meth.locks = false) (hsz : ls.size = nL)
    (d0 : decode cc pc = .ok (.new ik, 3)) (d3 : decode cc (pc + 3) = .ok (.dup, 1)) (d4 : decode cc (pc + 4) = .ok (.ldc is, 2)) (d6 : decode cc (pc + 6) = .ok (.invokespecial ic, 3)) (d9 : decode cc (pc + 9) = .ok (.athrow, 1))
    (hK : va_K D cl TY s) (u : S) (hP : va_P D cl (wf u) H) (hD : va_D A (wf u)) (hS : va_S A s.heap H locs) (hw : pX k u) (hc1 : cells + 1 ≤ mc) (hs1 : slots + 6 ≤ ms) (hc2 : cells + 1 ≤ R.cells) (hs2 : slots + 6 ≤ R.slots) (hRf : 5 < R.frames) (hRl : 90 ≤ R.locals) :
    W p l e R s m args below meth c H locs cells slots (kx_MQ below (kx_Q rv post pX (ky_B D cl TY A wf) A) args s mc ms A) (F0 m pc ls []) := by
  intro T hT X
  subst hT
  have X' := kx_stand X (R' := { frames := R.frames, cells := R.cells - cells, slots := R.slots - slots, locals := R.locals }) rfl rfl (by show cells + (R.cells - cells) ≤ R.cells; omega) (by show slots + (R.slots - slots) ≤ R.slots; omega)
  generalize hs' : T.setFrames (.invoking m args :: below) = s' at X'
  have hh : s'.heap = T.heap := by rw [← hs']; rfl
  have hv : s'.vm = T.vm := by rw [← hs']; rfl
  have hW0 : s0.WarmedH s'.vm := by rw [hv]; exact State.WarmedH.trans hS0.1 X.warmed
  have hS' : kx_S s0 s' := ⟨hW0, by rw [hh]; exact Nat.le_trans hS0.2.1 hS.1, fun q hq => by
    rw [hh, hS.2.1 q (Nat.lt_of_lt_of_le hq hS0.2.1) (fun z => absurd (hA0 q z) (Nat.not_le.mpr hq))]; exact hS0.2.2 q hq⟩
  have hts' : ∀ w ∈ wsG, w.before args s' = true := fun w h => word_at (s := s) (by rw [hv]; exact X.warmed) (ky_gw w h) (hts w h)
  have hown' : s'.vm.findClass R_SE = some m.cls := by rw [hv, X.warmed.alike.findClass]; exact hown
  have htr : e.platform.stackTraces = false := by rw [X.admits.platform]; exact hlt
  obtain ⟨q, hq⟩ := hstr
  have hq' := vk_R.warm hW0 hq
  have key : W p l e { frames := R.frames, cells := R.cells - cells, slots := R.slots - slots, locals := R.locals } s' m args below meth c T.heap [] 0 0 (fun t => ∃ (a : Addr) (ce : Cell), t.status = .running ∧ Ended t below (.threw a) ∧ s'.WarmedH t.vm ∧ s'.sameButNew ({ t with vm := s'.vm } : State) [] 1 6 ∧ T.heap.size ≤ a ∧ t.heap[a]? = some ce ∧ Bundle.OwnCell args s' (kx_nm k) a (.ref q) ce) (F0 m pc ls []) := by
    refine W.newc (n := 6) hx hb hown' (hts' _ h1) (hts' _ h2) (hts' _ h3) rfl d0 (by show 0 + 1 ≤ R.cells - cells; omega) (by show 0 + 6 ≤ R.slots - slots; omega) (fun cC kC f1 f2 f3 f4 => ?_)
    refine W.eq (g2 := F0 m (pc + 3) ls [.ref T.heap.size]) rfl ?_
    refine lv_dup hx hb d3 rfl ?_
    refine va_ldcS hx hb hown' hq' d4 ?_
    intro T2 hT2 X2
    obtain ⟨U, u1, u2, u3, u4, u5, ce, u6, u7⟩ := X2.ctorThrowS hx htr hown' hfit (by decide) (fun a ha => kx_move hS' (hat a ha) (hF a ha)) (fun x hx => by cases hx) f1 f2 (a := T.heap.size) (by rw [hT2]; simp) (by rw [hh]; exact Nat.le_refl _) (msg := .ref q) rfl (g := F0 m (pc + 4 + 2) ls [.ref q, .ref T.heap.size, .ref T.heap.size]) rfl (by rw [hml]; exact hsz) rfl rfl (rest := []) rfl (by rw [hb]; exact d6) (by rw [hb]; exact d9)
      (by intro x hx; rw [Array.isEmpty_iff.mp hout] at hx; cases hx) (by show 2 + 3 < R.frames; omega) (by show 2 * 0 + 1 + (13 * (2 + 1) + 42) ≤ R.locals; omega) hlocks
    exact ⟨U, u1, T.heap.size, ce, u2, u3, u4, u5, Nat.le_refl _, u6, u7⟩
  obtain ⟨t, t1, a, ce, t2, t3, t4, t5, t6, t7, t8⟩ := key T rfl X'
  have tW : T.WarmedH t.vm := by rw [← hs'] at t4; exact t4
  have tS : T.sameButNew ({ t with vm := T.vm } : State) [] 1 6 := by
    have z := t5.1
    rw [← hs', State.setFrames_setFrames] at z
    have z2 := t5.2
    rw [← hs'] at z2
    exact ⟨z, z2⟩
  have hkeep : ∀ q : Nat, q < T.heap.size → t.heap[q]? = T.heap[q]? := fun q h => kx_keepB tS h
  have hsW : s.WarmedH t.vm := State.WarmedH.trans X.warmed tW
  refine ⟨t, t1, .threw a, t2, t3, ⟨Or.inr ⟨a, k, u, rfl, hw, ⟨ce, t7, t8.vm, by rw [tW.alike.findClass]; have z := t8.cls; rw [hv] at z; exact z⟩, Nat.le_trans hS.1 t6, hP.kept (fun k q hk => hkeep q.1 (hP k q hk).lt), va_K.moved hsW.alike hK, hD⟩, Nat.le_trans hS.1 tS.2.1, fun q h1 h2 => by rw [hkeep q (Nat.lt_of_lt_of_le h1 hS.1)]; exact hS.2.1 q h1 h2⟩, locs, ⟨hsW, ?_⟩, hS.2.2⟩
  have z := (X.same.trans (tS.setVm s.vm)).mono hc1 hs1
  rw [List.append_nil] at z
  exact z
end KXthr

/-- a contract of a method that may throw; s0: the law's own start -/
def kx_Pc (s0 : State) (D : va_G) (cl : List vw_C) (TY : List (ClassId × FieldType)) (ws : va_W) (sz : Nat) (av : List Value) : Array Value → State → Prop :=
  fun a U => ky_Pc D cl TY ws sz av a U ∧ kx_S s0 U ∧ va_D (fun q => s0.heap.size ≤ q) ws
def kx_M {α S : Type} (rv : α → Option Value) (s0 : State) (l : Launch) (y : MethodName) (ws : List Cond) (rm : Room) (D : va_G) (cl : List vw_C) (TY : List (ClassId × FieldType)) (w : va_W) (sz : Nat) (av : List Value) (post : α → S → Prop) (pX : Nat → S → Prop) (wf : S → va_W) : Prop :=
  MetFree l y (headSpec ws rm) (kx_Pc s0 D cl TY w sz av) (fun _ _ _ _ _ => True) (fun a st o t => kx_Q rv post pX (ky_B D cl TY (va_A w sz) wf) (va_A w sz) a st o t ∧ ∃ L, kx_End st t L rm.cells rm.slots ∧ ∀ q ∈ L, va_A w sz q.base)
section KXof
variable {l : Launch} {S : Type} {s0 : State} {y : MethodName} {wsG : List Cond} {rm : Room} {D : va_G} {cl : List vw_C} {TY : List (ClassId × FieldType)} {w : va_W} {sz : Nat} {av : List Value} {wf : S → va_W} {cc : ByteArray} {maxL : Nat} {pX : Nat → S → Prop}
theorem kx_ofW {α : Type} {rv : α → Option Value} {post : α → S → Prop} {ret : Option FieldType} (hy : plainFor y = true) (hlen : (lg_sl av).length ≤ maxL)
    (body : ∀ (p : Program) (e : Env) (s : State) (m : MethodId) (args : Array Value) (below : List Frame) (meth : Method) (c : Code) (A : Nat → Prop) (ls : Array Slot), meth.sig.returnType = ret → meth.locks = false → c.exceptionTable.isEmpty = true → kx_S s0 s → (∀ q, A q → s0.heap.size ≤ q) →
      ky_In y wsG D cl TY w cc maxL av p s m args meth c A ls →
      W p l e rm s m args below meth c s.heap [] 0 0 (kx_MQ below (kx_Q rv post pX (ky_B D cl TY A wf) A) args s rm.cells rm.slots A) (F0 m 0 ls [])) :
    kx_M rv s0 l y (Cond.code y cc maxL ret :: wsG) rm D cl TY w sz av post pX wf := by
  refine MetFree.of_bodySF (code := cc) (maxLocals := maxL) (ret := ret) hy ?_ ?_
  · intro args s m h hn
    obtain ⟨meth, c, h1, h2, h3, h4, h5, h6, -, -⟩ := Cond.code_spec hn (atoms_spec (ws := Cond.code y cc maxL ret :: wsG) h _ List.mem_cons_self)
    exact ⟨meth, c, h1, h2, h3, h4, h5, h6⟩
  · intro p e s m args below meth c s₁ B hml hv _
    obtain ⟨⟨rfl, hsz, hP, hK, hD0⟩, hS0, hDs⟩ := hv
    have hts := atoms_spec (ws := Cond.code y cc maxL ret :: wsG) B.pre
    have hown : s.vm.findClass y.cls = some m.cls := findClass_of_methodNamed B.named
    have hin : meth.name = y.name := (name_of_methodNamed B.named B.method).1
    have hex := B.noHandlers (hts _ List.mem_cons_self)
    subst hsz
    have hD := hD0.self (sz := s.heap.size)
    have hl := lv_entry av (n := maxL) hlen
    have hh0 : s₁.heap = s.heap := by rw [B.state]; rfl
    have hA0 : ∀ q, va_A w s.heap.size q → s0.heap.size ≤ q := by
      intro q h
      rcases h with ⟨k, e, h⟩ | h
      · exact hDs.2 k (q, e) h
      · exact Nat.le_trans hS0.2.1 h
    have K := body p e s m av.toArray below meth c (va_A w s.heap.size) _ B.returns B.notSynchronized hex hS0 hA0 ⟨B.exec, B.bytes, hml, hown, hin, fun w h => hts w (List.mem_cons_of_mem _ h), hK, hP, hD, fun q h => Or.inr h, va_S.rf, hl⟩
    rw [← lg_entry_eq] at K
    obtain ⟨t, a1, o, b1, b2, b3⟩ := K s₁ hh0 (Stand.of_body B)
    exact ⟨t, o, a1, b1, b2, b3⟩
end KXof
theorem kx_mono {p : Program} {l : Launch} {e : Env} {R : Room} {s : State} {m : MethodId} {args : Array Value} {below : List Frame} {meth : Method} {c : Code} {H : Heap} {locs : List Loc} {cells slots : Nat} {Q Q' : State → Prop} {g : JFrame} (h : W p l e R s m args below meth c H locs cells slots Q g) (hQ : ∀ t, Q t → Q' t) : W p l e R s m args below meth c H locs cells slots Q' g := fun T hT X => by
  obtain ⟨t, a, b⟩ := h T hT X
  exact ⟨t, a, hQ t b⟩
section KXret
variable {p : Program} {l : Launch} {e : Env} {R : Room} {s : State} {m : MethodId} {args : Array Value} {below : List Frame} {meth : Method} {c : Code} {H : Heap} {locs : List Loc} {cells slots mc ms : Nat} {cc : ByteArray} {pc : Nat} {ls : Array Slot} {D : va_G} {cl : List vw_C} {A : Nat → Prop} {TY : List (ClassId × FieldType)} {S : Type} {pX : Nat → S → Prop} {wf : S → va_W}
theorem kx_to {Qc : Array Value → State → Outcome → State → Prop} {t : State} {A : Nat → Prop} (h : MQ below Qc args s mc ms A t) : kx_MQ below Qc args s mc ms A t := by
  obtain ⟨o, h1, h2, h3, L, h4, h5⟩ := h
  exact ⟨o, h1, h2, h3, L, h4.2, h5⟩
theorem kx_iret {post : Int32 → S → Prop} {r : Int32} (hx : p.tables.exec = Jvm.exec) (hb : c.code = cc) (hr : meth.sig.returnType = some .int) (hlocks : meth.locks = false) (hdg : decode cc pc = .ok (.ireturn, 1)) (hK : va_K D cl TY s) (u : S) (hP : va_P D cl (wf u) H) (hD : va_D A (wf u)) (hS : va_S A s.heap H locs) (hp : post r u) (hc : cells ≤ mc) (hs : slots ≤ ms) :
    W p l e R s m args below meth c H locs cells slots (kx_MQ below (kx_Q ky_rI post pX (ky_B D cl TY A wf) A) args s mc ms A) (F0 m pc ls [.int r]) :=
  kx_mono (W.widen hc hs (W.iret hx hb hr (fun t ht hW => ⟨Or.inl ⟨r, u, rfl, hp, by rw [ht]; exact hP, va_K.moved hW.alike hK, hD⟩, hS.F ht⟩) hS.2.2 hdg hlocks)) (fun t h => kx_to h)
theorem kx_zret {post : Int32 → S → Prop} {r : Int32} (hx : p.tables.exec = Jvm.exec) (hb : c.code = cc) (hr : meth.sig.returnType = some .boolean) (hlocks : meth.locks = false) (hdg : decode cc pc = .ok (.ireturn, 1)) (hn : narrow .boolean (.int r) = .int r) (hK : va_K D cl TY s) (u : S) (hP : va_P D cl (wf u) H) (hD : va_D A (wf u)) (hS : va_S A s.heap H locs) (hp : post r u) (hc : cells ≤ mc) (hs : slots ≤ ms) :
    W p l e R s m args below meth c H locs cells slots (kx_MQ below (kx_Q ky_rI post pX (ky_B D cl TY A wf) A) args s mc ms A) (F0 m pc ls [.int r]) :=
  kx_mono (W.widen hc hs (W.zret hx hb hr hn (fun t ht hW => ⟨Or.inl ⟨r, u, rfl, hp, by rw [ht]; exact hP, va_K.moved hW.alike hK, hD⟩, hS.F ht⟩) hS.2.2 hdg hlocks)) (fun t h => kx_to h)
theorem kx_vret {post : S → Prop} (hx : p.tables.exec = Jvm.exec) (hb : c.code = cc) (hr : meth.sig.returnType = none) (hlocks : meth.locks = false) (hdg : decode cc pc = .ok (.return_, 1)) (hK : va_K D cl TY s) (u : S) (hP : va_P D cl (wf u) H) (hD : va_D A (wf u)) (hS : va_S A s.heap H locs) (hp : post u) (hc : cells ≤ mc) (hs : slots ≤ ms) :
    W p l e R s m args below meth c H locs cells slots (kx_MQ below (kx_Q ky_rV (fun _ => post) pX (ky_B D cl TY A wf) A) args s mc ms A) (F0 m pc ls []) :=
  kx_mono (W.widen hc hs (W.vret hx hb hr (fun t ht hW => ⟨Or.inl ⟨(), u, rfl, hp, by rw [ht]; exact hP, va_K.moved hW.alike hK, hD⟩, hS.F ht⟩) hS.2.2 hdg hlocks)) (fun t h => kx_to h)
end KXret


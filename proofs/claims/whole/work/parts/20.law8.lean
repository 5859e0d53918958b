/-! OWN KIT, part 8: methods with handlers, called by the law -/
section KXofC
variable {l : Launch} {S : Type} {s0 : State} {y : MethodName} {wsG : List Cond} {rm : Room} {D : va_G} {cl : List vw_C} {TY : List (ClassId × FieldType)} {w : va_W} {sz : Nat} {av : List Value} {wf : S → va_W} {cc : ByteArray} {maxL : Nat} {pX : Nat → S → Prop}
theorem kx_ofC {α : Type} {rv : α → Option Value} {post : α → S → Prop} {ret : Option FieldType} {hs : List (Nat × Nat × Nat × Nat)} (hy : plainFor y = true) (hlen : (lg_sl av).length ≤ maxL)
    (body : ∀ (p : Program) (e : Env) (s : State) (m : MethodId) (args : Array Value) (below : List Frame) (meth : Method) (c : Code) (A : Nat → Prop) (ls : Array Slot), meth.sig.returnType = ret → meth.locks = false → c.exceptionTable.toList.map (fun h => (h.startPc, h.endPc, h.handlerPc, h.catchType)) = hs → kx_S s0 s → (∀ q, A q → s0.heap.size ≤ q) →
      ky_In y wsG D cl TY w cc maxL av p s m args meth c A ls →
      W p l e rm s m args below meth c s.heap [] 0 0 (kx_MQ below (kx_Q rv post pX (ky_B D cl TY A wf) A) args s rm.cells rm.slots A) (F0 m 0 ls [])) :
    kx_M rv s0 l y (Cond.codeWith y cc maxL ret hs :: wsG) rm D cl TY w sz av post pX wf := by
  refine MetFree.of_bodySF (code := cc) (maxLocals := maxL) (ret := ret) hy ?_ ?_
  · intro args s m h hn
    obtain ⟨m', meth, c, h0, h1, h2, h3, h4, -, h5, h6, -⟩ := Cond.codeWith_spec (atoms_spec (ws := Cond.codeWith y cc maxL ret hs :: wsG) h _ List.mem_cons_self)
    cases hn.symm.trans h0
    exact ⟨meth, c, h1, h2, h3, h4, h5, h6⟩
  · intro p e s m args below meth c s₁ B hml hv _
    obtain ⟨⟨rfl, hsz, hP, hK, hD0⟩, hS0, hDs⟩ := hv
    have hts := atoms_spec (ws := Cond.codeWith y cc maxL ret hs :: wsG) B.pre
    have hown : s.vm.findClass y.cls = some m.cls := findClass_of_methodNamed B.named
    have hin : meth.name = y.name := (name_of_methodNamed B.named B.method).1
    have htab : c.exceptionTable.toList.map (fun h => (h.startPc, h.endPc, h.handlerPc, h.catchType)) = hs := by
      obtain ⟨m', meth', c', h0, h1, h2, -, -, h3, -⟩ := Cond.codeWith_spec (hts _ List.mem_cons_self)
      cases B.named.symm.trans h0
      cases B.method.symm.trans h1
      cases (Stand.of_body B).code.symm.trans h2
      exact h3
    subst hsz
    have hD := hD0.self (sz := s.heap.size)
    have hl := lv_entry av (n := maxL) hlen
    have hh0 : s₁.heap = s.heap := by rw [B.state]; rfl
    have hA0 : ∀ q, va_A w s.heap.size q → s0.heap.size ≤ q := by
      intro q h
      rcases h with ⟨k, e, h⟩ | h
      · exact hDs.2 k (q, e) h
      · exact Nat.le_trans hS0.2.1 h
    have K := body p e s m av.toArray below meth c (va_A w s.heap.size) _ B.returns B.notSynchronized htab hS0 hA0 ⟨B.exec, B.bytes, hml, hown, hin, fun w h => hts w (List.mem_cons_of_mem _ h), hK, hP, hD, fun q h => Or.inr h, va_S.rf, hl⟩
    rw [← lg_entry_eq] at K
    obtain ⟨t, a1, o, b1, b2, b3⟩ := K s₁ hh0 (Stand.of_body B)
    exact ⟨t, o, a1, b1, b2, b3⟩
end KXofC
section KXrunS
variable {p : Program} {l : Launch} {e : Env} {R : Room} {s s0 : State} {m : MethodId} {args : Array Value} {below : List Frame} {meth : Method} {c : Code} {H H0 : Heap} {locs : List Loc} {cells slots : Nat} {D : va_G} {cl : List vw_C} {TY : List (ClassId × FieldType)} {ws wc w : va_W} {A : Nat → Prop} {maxL n nL index sz : Nat} {rest As : List Value} {y : MethodName} {bytes cc : ByteArray} {ret : Option FieldType} {rm : Room} {own : String} {g : JFrame} {av : List Value} {hs : List (Nat × Nat × Nat × Nat)}
theorem kx_runS {α S : Type} {rv : α → Option Value} {post : α → S → Prop} {pX : Nat → S → Prop} {wf : S → va_W} (F : CallFix p m c cc nL s args wsG own) (hM : kx_M rv s0 l y (Cond.codeWith y bytes maxL ret hs :: wsG) rm D cl TY w sz av post pX wf)
    (h1 : Cond.codeWith y bytes maxL ret hs ∈ wsG) (h2 : Cond.methodLink own index y ∈ wsG) (h3 : Cond.static y ∈ wsG) (h4 : Cond.initialized y.cls ∈ wsG) (hd : y.cls ≠ "java/lang/invoke/MethodHandle" ∧ y.cls ≠ "java/lang/invoke/VarHandle" ∧ (parseMethodDescriptor y.desc).map (fun d => d.parameters.length) = some n) (hR : rm.frames + 1 ≤ R.frames ∧ 8 + (maxL + 11) + rm.locals ≤ R.locals) (hp : PreS s H (kx_Pc s0 D cl TY w sz av) As)
    (hg : g.method = m) (hn : As.length = n) (hsize : g.locals.size = nL) (hstack : g.stack = As.reverse ++ rest) (hW : 2 * g.monitorRoom + (rest.map fun v => v.category).sum ≤ 8) (hdg : decode cc g.pc = .ok (.invokestatic index, 3)) (hf : cells + rm.cells ≤ R.cells ∧ slots + rm.slots ≤ R.slots) :
    kx_Run p l e R s m args below meth c H locs cells slots rm.cells rm.slots g rest (kx_Q rv post pX (ky_B D cl TY (va_A w sz) wf) (va_A w sz) As.toArray) (va_A w sz) := by
  obtain ⟨hx, hb, hml, ho, hts⟩ := F
  obtain ⟨hbl, hPc⟩ := hp
  intro T hT X
  obtain ⟨mk, methM, cM, hnamed, hmethM, hcM, -, hlM, -, -, -, hsigM⟩ := Cond.codeWith_spec (hts _ h1)
  have hstatic : methM.isStatic = true := Cond.static_spec hnamed hmethM (hts _ h3)
  obtain ⟨kP, hkP, -⟩ := className_of_methodNamed hnamed
  have hinitP : kP.init = .initialized := Cond.initialized_spec (findClass_of_methodNamed hnamed) hkP (hts _ h4)
  have hlen : As.length = methM.sig.parameters.length := by
    have z := hd.2.2
    rw [hsigM] at z
    rw [hn]; exact (Option.some.inj z).symm
  obtain ⟨vm₁, X₁, hstep₁⟩ := X.invokestatic hx ho (hts _ h2) hnamed hmethM hstatic hkP hinitP ⟨hd.1, hd.2.1⟩ (g := g) hg (argsL := As) (rest := rest) hlen hstack (by rw [hb]; exact hdg)
  have hW1 := X₁.warmed
  obtain ⟨o, t, T', L, hq, hL, e1, e2, X', hst⟩ := kx_back X₁ hM (g := { g with stack := rest }) hg (hsize.trans hml.symm) (by rw [hb]; exact hdg) hW (X₁.named hnamed) (by rw [hW1.alike.method?]; exact hmethM) hcM hlM
    (atoms_intro fun w hw => pay_in hts (ky_good h1) w hw _ _ hW1) (word_at hW1 (ky_gw _ h4) (hts _ h4)) hf.1 hf.2 hR.1 hR.2 (hbl _ _ _ _ (hPc (T.setVm vm₁) hT hW1))
  refine ⟨o, (T.setVm vm₁).calling { g with stack := rest } mk As.toArray, t, T', L, hT, X', hL, e1, e2, hq, ?_⟩
  rcases hst with ⟨v, rfl, hs⟩ | ⟨x, rfl, hs⟩
  · exact Or.inl ⟨v, rfl, fun tg h => hstep₁ _ fun acts => by rw [doInvoke_state]; exact hs.trans h⟩
  · exact Or.inr ⟨x, rfl, fun tg h => hstep₁ _ fun acts => by rw [doInvoke_state]; exact hs.trans h⟩
theorem kx_preS (hS0 : kx_S s0 s) (hA0 : ∀ q, A q → s0.heap.size ≤ q) (hK : va_K D cl TY s) (hP : va_P D cl ws H) (hD : va_D A ws) (hS : va_S A s.heap H locs) (isC : List Nat) (hC : isC.map (fun i => ws[i]?) = wc.map some) (hn : va_nd isC = true) : PreS s H (kx_Pc s0 D cl TY wc H.size As) As := by
  have h1 := ky_preS (As := As) hK hP hD isC hC hn
  refine ⟨fun a U g mk q => ⟨h1.1 a U g mk q.1, q.2.1, q.2.2⟩, fun U hU hW => ⟨h1.2 U hU hW, ⟨State.WarmedH.trans hS0.1 hW, ?_, ?_⟩, (hD.sub isC hn hC).weaken (fun k q _ h => hA0 _ h)⟩⟩
  · rw [hU]; exact Nat.le_trans hS0.2.1 hS.1
  · intro q hq
    rw [hU, hS.2.1 q (Nat.lt_of_lt_of_le hq hS0.2.1) (fun z => absurd (hA0 q z) (Nat.not_le.mpr hq))]; exact hS0.2.2 q hq
end KXrunS


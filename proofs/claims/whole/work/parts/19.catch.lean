/-! OWN KIT, part 7: what is thrown is caught; methods with a table of handlers -/
section KXgo
variable {e : Env} {s : State} {f : JFrame} {a : Addr}
theorem kx_go1 {Q : Handler → Pre} {E : CtlPost} {d : Bool} {acts : List Action} {x : ExceptionTableEntry} {t : List ExceptionTableEntry} {c : ClassId} {cell : Cell} (hx : covers x f.pc = true) (h0 : x.catchType ≠ 0) (hl : s.vm.ClassLinks e.platform f.method.cls x.catchType c)
    (hcell : s.heap[a]? = some cell) (hobj : ∀ k, cell.vm ≠ .statics k) (hk : ∃ k, s.vm.classes[cell.cls]? = some k) (hc : ∃ k, s.vm.classes[c]? = some k) :
    wp (findHandler.go f a (x :: t)) Q E e d acts s ↔ if s.vm.assignable cell.cls c = true then Q (.found x.handlerPc) d acts (s.setVm (s.vm.noted f.method.cls x.catchType (.cls c))) else wp (findHandler.go f a t) Q E e d acts (s.setVm (s.vm.noted f.method.cls x.catchType (.cls c))) := by
  have hal : s.vm.Alike (s.vm.noted f.method.cls x.catchType (.cls c)) := (Vm.Alike.refl s.vm).noted _ _ _
  obtain ⟨hr1, hr2⟩ := (resolveClass_links e.toSetting hl).op (op := VmOp.resolveClass f.method.cls x.catchType) rfl
  obtain ⟨k1, hk1⟩ := hk
  obtain ⟨k2, hk2⟩ := hc
  obtain ⟨k3, hk3, -⟩ := hal.2.2 _ _ hk1
  obtain ⟨k4, hk4, -⟩ := hal.2.2 _ _ hk2
  simp only [covers] at hx
  cases hfit : s.vm.assignable cell.cls c with
  | true =>
    have hf2 : (s.vm.noted f.method.cls x.catchType (.cls c)).assignable cell.cls c = true := by rw [hal.assignable]; exact hfit
    simp [findHandler.go, hx, h0, hr1, hr2, hcell, hobj, hk3, hk4, hf2, VmOp.dirties, VmOp.acts]
  | false =>
    have hf2 : (s.vm.noted f.method.cls x.catchType (.cls c)).assignable cell.cls c = false := by rw [hal.assignable]; exact hfit
    simp [findHandler.go, hx, h0, hr1, hr2, hcell, hobj, hk3, hk4, hf2, VmOp.dirties, VmOp.acts]
end KXgo
def kx_hit (s : State) (E : String) (pc hpc : Nat) : List (Nat × Nat × Nat × Nat) → List String → Prop
  | (st, en, h, ct) :: t, N :: ns => st ≤ pc ∧ pc < en ∧ ct ≠ 0 ∧ Cond.classLink R_LW ct N ∈ wsG ∧ ((N = E ∧ h = hpc) ∨ ((Cond.not (.castable E N)).before #[] s = true ∧ kx_hit s E pc hpc t ns))
  | _, _ => False
theorem kx_nc {E N : String} {s U : State} (hW : s.WarmedH U.vm) (h : (Cond.not (.castable E N)).before #[] s = true) : (Cond.not (.castable E N)).before #[] U = true := by
  simp only [Cond.before, Cond.holds, Cond.value, hW.alike.findClass, hW.alike.assignable] at h ⊢
  exact h
theorem kx_find {p : Program} {l : Launch} {e : Env} {s : State} {f : JFrame} {a : Addr} {args : Array Value} {E : String} {cell : Cell} {hpc : Nat} (hpl : e.platform.magicAccessors = ({} : Platform).magicAccessors) (hown : s.vm.findClass R_LW = some f.method.cls) (hts : ∀ w ∈ wsG, w.before args s = true) (hobj : cell.vm = .none) (hE : s.vm.findClass E = some cell.cls) (hcast : (Cond.castable E E).before #[] s = true) :
    ∀ (L : List ExceptionTableEntry) (hs : List (Nat × Nat × Nat × Nat)) (NS : List String) (S : State), s.WarmedH S.vm → S.heap[a]? = some cell → L.map (fun h => (h.startPc, h.endPc, h.handlerPc, h.catchType)) = hs → kx_hit s E f.pc hpc hs NS →
      ∃ vm', s.WarmedH vm' ∧ ∀ (Q : Handler → Pre) (C : CtlPost) (d : Bool) (acts : List Action), wp (findHandler.go f a L) Q C e d acts S ↔ Q (.found hpc) d acts (S.setVm vm') := by
  intro L
  induction L with
  | nil => intro hs NS S _ _ h hh; subst h; exact hh.elim
  | cons x t ih =>
    intro hs NS S hW hcell h hh
    subst h
    cases NS with
    | nil => exact hh.elim
    | cons N ns =>
      obtain ⟨h1, h2, h3, h4, h5⟩ := hh
      have hlink : (Cond.classLink R_LW x.catchType N).before args S = true := word_at hW (ky_gw _ h4) (hts _ h4)
      have hownS : S.vm.findClass R_LW = some f.method.cls := by rw [hW.alike.findClass]; exact hown
      obtain ⟨c', hc', hcl⟩ := Cond.classLink_spec hownS hlink e.platform hpl
      have hES : S.vm.findClass E = some cell.cls := by rw [hW.alike.findClass]; exact hE
      have hcov : covers x f.pc = true := by simp [covers, h1, h2]
      have hkE : ∃ k, S.vm.classes[cell.cls]? = some k := by obtain ⟨k, hk, -⟩ := Vm.findClass_spec hES; exact ⟨k, hk⟩
      have hkN : ∃ k, S.vm.classes[c']? = some k := by obtain ⟨k, hk, -⟩ := Vm.findClass_spec hc'; exact ⟨k, hk⟩
      have hw2 : s.WarmedH (S.vm.noted f.method.cls x.catchType (.cls c')) := by
        obtain ⟨dk, _, _, kt, hd, _, _, _, _, hkt, _, hopen⟩ := hcl.here
        exact State.WarmedH.trans hW ((State.WarmedH.refl S).noted hd hopen (State.rightAt_cls hcl))
      have hstep := fun Q C d acts => kx_go1 (Q := Q) (E := C) (d := d) (acts := acts) (t := t) hcov h3 hcl hcell (by rw [hobj]; intro k hk; cases hk) hkE hkN
      rcases h5 with ⟨rfl, rfl⟩ | ⟨hno, hrest⟩
      · obtain ⟨c3, c4, q3, q4, q5⟩ := Cond.castable_spec (va_Nw.warmC hW hcast)
        cases hES.symm.trans q3
        cases hES.symm.trans q4
        cases hES.symm.trans hc'
        exact ⟨_, hw2, fun Q C d acts => by rw [hstep, if_pos q5]⟩
      · have hnS := Cond.holds_not_iff.mp (kx_nc hW hno)
        simp only [Cond.value, hES, hc'] at hnS
        have hnA : S.vm.assignable cell.cls c' = false := Option.some.inj hnS
        obtain ⟨vm', hv1, hv2⟩ := ih _ ns (S.setVm (S.vm.noted f.method.cls x.catchType (.cls c'))) hw2 hcell rfl hrest
        exact ⟨vm', hv1, fun Q C d acts => by rw [hstep, hnA]; simp only [Bool.false_eq_true, if_false]; exact hv2 Q C d acts⟩
theorem kx_caught {tb : Tables} {e : Env} {s target : State} {g : JFrame} {c : Code} {below : List Frame} {a : Addr} {pc : Nat} {vm' : Vm} (h : At s g.method c below)
    (hfind : ∀ (Q : Handler → Pre) (C : CtlPost) (d : Bool) (acts : List Action), wp (findHandler g a) Q C e d acts ((s.setTop g).pushFrame (.throwing a)) ↔ Q (.found pc) d acts (((s.setTop g).pushFrame (.throwing a)).setVm vm'))
    (hrest : Steps tb e below ((s.setVm vm').setTop { g with pc := pc, stack := [.ref a] }) target) : Steps tb e below ((s.setTop g).pushFrame (.throwing a)) target := by
  obtain ⟨hgo, hw⟩ := h.throwing a
  refine Steps.head hgo hw ?_
  have hstep : (stepThrowing e ((s.setTop g).pushFrame (.throwing a)) a (.java g :: s.frames.tail)).1 = (((s.setTop g).pushFrame (.throwing a)).setVm vm').setFrames (.java { g with pc := pc, stack := [.ref a] } :: s.frames.tail) := by
    simp only [stepThrowing, searchFrame, vmDo]
    generalize hr : Sem.go _ e false [] ((s.setTop g).pushFrame (.throwing a)) = res
    obtain ⟨as, rfl, ha⟩ := Sem.eq_ok_of hr (a := Handler.found pc) (s' := ((s.setTop g).pushFrame (.throwing a)).setVm vm') (acts' := []) (by simp [hfind _ _ _ _])
    rfl
  rw [stepThread_throwing (frames_entered h.top _), hstep]
  obtain ⟨g₀, hg⟩ := Option.isSome_iff_exists.mp h.top
  obtain ⟨r, hr⟩ := State.topJava?_eq_some.mp hg
  have hr' : (s.setVm vm').frames = .java g₀ :: r := hr
  rw [State.setTop_of_frames _ hr'] at hrest
  have e1 : (((s.setTop g).pushFrame (.throwing a)).setVm vm').setFrames (.java { g with pc := pc, stack := [.ref a] } :: s.frames.tail) = (s.setVm vm').setFrames (.java { g with pc := pc, stack := [.ref a] } :: r) := by
    rw [hr, List.tail_cons, State.pushFrame, State.setTop_of_frames _ hr]
    show (((s.setVm vm').setFrames _).setFrames _).setFrames _ = _
    rw [State.setFrames_setFrames, State.setFrames_setFrames]
  rw [e1]
  exact hrest
section KXcatch
variable {p : Program} {l : Launch} {e : Env} {R : Room} {s : State} {m : MethodId} {args : Array Value} {below : List Frame} {meth : Method} {c : Code} {H : Heap} {locs : List Loc} {cells slots : Nat} {Q : State → Prop} {pc hpc k x : Nat} {ls : Array Slot} {rest : List Value}
theorem kx_catch {hs : List (Nat × Nat × Nat × Nat)} (NS : List String) (hown : s.vm.findClass R_LW = some m.cls) (hts : ∀ w ∈ wsG, w.before args s = true) (htab : c.exceptionTable.toList.map (fun h => (h.startPc, h.endPc, h.handlerPc, h.catchType)) = hs) (hcast : (Cond.castable (kx_nm k) (kx_nm k)).before #[] s = true)
    (hex : kx_at s k x H) (hhit : kx_hit s (kx_nm k) pc hpc hs NS) (kk : W p l e R s m args below meth c H locs cells slots Q (F0 m hpc ls [.ref x])) : kx_W p l e R s m args below meth c H locs cells slots Q (F0 m pc ls rest) x := by
  intro T hT X
  obtain ⟨cell, x1, x2, x3⟩ := hex
  have hpl : e.platform.magicAccessors = ({} : Platform).magicAccessors := by rw [X.admits.platform]
  have hheap : ((T.setTop (F0 m pc ls rest)).pushFrame (.throwing x)).heap = H := by rw [Stand.throwing_heap]; exact hT
  have hvm : ((T.setTop (F0 m pc ls rest)).pushFrame (.throwing x)).vm = T.vm := Stand.throwing_vm _ _ _
  obtain ⟨vm', hv1, hv2⟩ := kx_find (p := p) (l := l) (f := F0 m pc ls rest) (a := x) hpl hown hts x2 x3 hcast c.exceptionTable.toList hs NS ((T.setTop (F0 m pc ls rest)).pushFrame (.throwing x)) (by rw [hvm]; exact X.warmed) (by rw [hheap]; exact x1) htab hhit
  have X2 := X.noted hv1
  obtain ⟨t, a1, b1⟩ := kk (T.setVm vm') hT X2
  refine ⟨t, kx_caught (g := F0 m pc ls rest) X.here ?_ a1, b1⟩
  intro Q2 C d acts
  rw [W.findHandler_eq (meth := meth) (code := c) (by rw [hvm]; exact X.method') X.code]
  exact hv2 Q2 C d acts
end KXcatch


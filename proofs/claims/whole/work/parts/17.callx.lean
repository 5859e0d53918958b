/-! OWN KIT, part 6: calls of methods that may throw; catching -/
def kx_W (p : Program) (l : Launch) (e : Env) (R : Room) (s : State) (m : MethodId) (args : Array Value) (below : List Frame) (meth : Method) (c : Code) (H : Heap) (locs : List Loc) (cells slots : Nat) (Q : State → Prop) (g : JFrame) (x : Nat) : Prop :=
  ∀ T : State, T.heap = H → Stand p l e R s m args below meth c T locs cells slots → ∃ t, Steps p.tables e below ((T.setTop g).pushFrame (.throwing x)) t ∧ Q t
def kx_at (s : State) (k x : Nat) (H : Heap) : Prop := ∃ cell : Cell, H[x]? = some cell ∧ cell.vm = .none ∧ s.vm.findClass (kx_nm k) = some cell.cls
def kx_Run (p : Program) (l : Launch) (e : Env) (R : Room) (s : State) (m : MethodId) (args : Array Value) (below : List Frame) (meth : Method) (c : Code) (H : Heap) (locs : List Loc) (cells slots mc ms : Nat) (g : JFrame) (rest : List Value) (Qa : State → Outcome → State → Prop) (free : Addr → Prop) : Prop :=
  ∀ T : State, T.heap = H → Stand p l e R s m args below meth c T locs cells slots → ∃ (o : Outcome) (st₀ t T' : State) (L : List Loc), st₀.heap = H ∧ Stand p l e R s m args below meth c T' (locs ++ L) (cells + mc) (slots + ms) ∧ (∀ q ∈ L, free q.base) ∧ T'.heap = t.heap ∧ T'.vm = t.vm ∧ Qa st₀ o t ∧
    ((∃ v, o = .returned v ∧ Goes p e below T g T' { g with pc := g.pc + 3, stack := v.toList ++ rest }) ∨ (∃ x, o = .threw x ∧ ∀ tg, Steps p.tables e below ((T'.setTop { g with stack := rest }).pushFrame (.throwing x)) tg → Steps p.tables e below (T.setTop g) tg))
theorem kx_back {p : Program} {l : Launch} {e : Env} {R : Room} {s : State} {m : MethodId} {args : Array Value} {below : List Frame} {meth : Method} {c : Code} {T : State} {locs : List Loc} {cells slots maxL : Nat} {y : MethodName} {ws : List Cond} {rm : Room} {P : Array Value → State → Prop} {Qf : Array Value → State → Outcome → State → Prop} {free : Addr → Prop} {g : JFrame} {ig : Instr} {mk : MethodId} {a : Array Value} {methY : Method} {cY : Code}
    (X : Stand p l e R s m args below meth c T locs cells slots) (hM : MetFree l y (headSpec ws rm) P (fun _ _ _ _ _ => True) (fun a st o t => Qf a st o t ∧ ∃ L, kx_End st t L rm.cells rm.slots ∧ ∀ q ∈ L, free q.base))
    (hg : g.method = m) (hsize : g.locals.size = c.maxLocals) (hdg : decode c.code g.pc = .ok (ig, 3)) (hW : 2 * g.monitorRoom + (g.stack.map fun v => v.category).sum ≤ 8) (hn : T.methodNamed? y = some mk) (hmY : T.vm.method? mk = some methY) (hcY : methY.code = some cY) (hlY : cY.maxLocals = maxL)
    (h1 : (headSpec ws rm).pre.before a T = true) (h3 : (Cond.initialized y.cls).before a T = true) (h4 : cells + rm.cells ≤ R.cells) (h5 : slots + rm.slots ≤ R.slots) (hfr : rm.frames + 1 ≤ R.frames) (hlo : 8 + (maxL + 11) + rm.locals ≤ R.locals) (hP : P a (T.calling g mk a)) :
    ∃ (o : Outcome) (t T' : State) (L : List Loc), Qf a (T.calling g mk a) o t ∧ (∀ q ∈ L, free q.base) ∧ T'.heap = t.heap ∧ T'.vm = t.vm ∧ Stand p l e R s m args below meth c T' (locs ++ L) (cells + rm.cells) (slots + rm.slots) ∧
      ((∃ v, o = .returned v ∧ Steps p.tables e below (doInvoke e (T.setTop g) [] mk a).1 (T'.setTop { g with pc := g.pc + 3, stack := v.toList ++ g.stack })) ∨ (∃ x, o = .threw x ∧ Steps p.tables e below (doInvoke e (T.setTop g) [] mk a).1 ((T'.setTop g).pushFrame (.throwing x)))) := by
  subst hg
  have h : At T g.method c below := X.here
  obtain ⟨kY, hkY, -⟩ := className_of_methodNamed hn
  have hinitY : kY.init = .initialized := Cond.initialized_spec (findClass_of_methodNamed hn) hkY h3
  have happ : (headSpec ws rm).appliesLoose y e.platform (T.calling g mk a) = true :=
    Spec.appliesLoose_calling (g := g) h hdg hn hkY hinitY (X.room_calling (g := g) (R' := (headSpec ws rm).room) hsize hmY hcY hfr (by rw [hlY]; show _ + _ + _ + rm.locals ≤ _; omega) h4 h5) h1
  obtain ⟨mid, hmid⟩ := h.above
  have hfr' : (T.setTop g).frames = (.java g :: mid) ++ below := by rw [State.frames_setTop' g h.top, hmid]; rfl
  obtain ⟨o, s₂, hsteps, -, hend, hq, L, ⟨hW₂, e2, q2, q3, q4, q5, q6⟩, hL⟩ := Steps.callFree hM p X.admits X.cas X.clock (acts := []) hfr' happ hP trivial
  rw [State.frames_setTop' g h.top] at hend
  have e3 : s₂ = ({ (T.calling g mk a).setFrames s₂.frames with heap := s₂.heap, slotsUsed := s₂.slotsUsed } : State).setVm s₂.vm := by
    have z : s₂ = ({ s₂ with vm := (T.calling g mk a).vm } : State).setVm s₂.vm := rfl
    have e2' : ({ s₂ with vm := (T.calling g mk a).vm } : State) = ({ (T.calling g mk a).setFrames s₂.frames with heap := s₂.heap, slotsUsed := s₂.slotsUsed } : State) := e2
    exact z.trans (congrArg (fun u : State => u.setVm s₂.vm) e2')
  have hW' : T.WarmedH s₂.vm := hW₂
  obtain ⟨g₀, hg0⟩ := Option.isSome_iff_exists.mp h.top
  obtain ⟨r, hr⟩ := State.topJava?_eq_some.mp hg0
  have hr' : (({ T with heap := s₂.heap, slotsUsed := s₂.slotsUsed } : State).setVm s₂.vm).frames = .java g₀ :: r := hr
  have hsame : T.sameButNew ({ T with heap := s₂.heap, slotsUsed := s₂.slotsUsed } : State) L rm.cells rm.slots := by
    refine ⟨?_, q2, q3, q4, q5, q6⟩
    obtain ⟨t, ht, -⟩ := State.frames_cons hr
    show ({ T with heap := s₂.heap, slotsUsed := s₂.slotsUsed } : State) = { T.setFrames T.frames with heap := s₂.heap, slotsUsed := s₂.slotsUsed }
    rw [State.setFrames_self ht]
  refine ⟨o, s₂, ({ T with heap := s₂.heap, slotsUsed := s₂.slotsUsed } : State).setVm s₂.vm, L, hq, hL, rfl, rfl,
    ⟨X.admits, X.cas, X.clock, X.frames, X.room, X.hears, X.method, X.code, (X.here.setHeapUsed s₂.heap s₂.slotsUsed).setVm hW'.alike, X.tail, State.WarmedH.trans X.warmed hW', X.limits, X.bytes, X.same.trans (hsame.setVm s.vm)⟩, ?_⟩
  cases o with
  | returned v =>
    left
    refine ⟨v, rfl, ?_⟩
    obtain ⟨c₂, i₂, len₂, hc₂, hd₂, hf₂⟩ := hend
    have hcc : c₂ = c := by
      have z : s₂.code? g.method = T.code? g.method := by rw [State.code?_eq, State.code?_eq, hW'.alike.method?]
      exact Option.some.inj (hc₂.symm.trans (z.trans h.code))
    subst hcc
    have hlen : len₂ = 3 := by rw [hdg] at hd₂; cases hd₂; rfl
    subst hlen
    have hs₂ : s₂ = (({ T with heap := s₂.heap, slotsUsed := s₂.slotsUsed } : State).setVm s₂.vm).setTop { g with pc := g.pc + 3, stack := v.toList ++ g.stack } := by
      refine e3.trans ?_
      rw [hf₂, State.calling_eq h.top, State.setFrames_setFrames, State.setTop_of_frames _ hr', hr]
      rfl
    rw [← hs₂]
    exact hsteps
  | threw x =>
    right
    refine ⟨x, rfl, ?_⟩
    have hf₂ : s₂.frames = .throwing x :: .java g :: T.frames.tail := hend
    have hs₂ : s₂ = ((({ T with heap := s₂.heap, slotsUsed := s₂.slotsUsed } : State).setVm s₂.vm).setTop g).pushFrame (.throwing x) := by
      refine e3.trans ?_
      rw [hf₂, State.calling_eq h.top, State.setFrames_setFrames, State.pushFrame, State.frames_setTop _ hr', State.setTop_of_frames _ hr', State.setFrames_setFrames, hr]
      rfl
    rw [← hs₂]
    exact hsteps
section KXcall
variable {p : Program} {l : Launch} {e : Env} {R : Room} {s s0 : State} {m : MethodId} {args : Array Value} {below : List Frame} {meth : Method} {c : Code} {H H0 : Heap} {locs : List Loc} {cells slots : Nat} {Q : State → Prop} {D : va_G} {cl : List vw_C} {TY : List (ClassId × FieldType)} {ws wc wr w : va_W} {A : Nat → Prop} {pc mc ms maxL n nL index sz : Nat} {ls : Array Slot} {rest st0 As : List Value} {a : Array Value} {y : MethodName} {bytes cc : ByteArray} {ret : Option FieldType} {rm : Room} {own C : String} {b : Nat} {g : JFrame} {av : List Value}
theorem kx_runV {α S : Type} {rv : α → Option Value} {post : α → S → Prop} {pX : Nat → S → Prop} {wf : S → va_W} (F : CallFix p m c cc nL s args wsG own) (hM : kx_M rv s0 l y (Cond.code y bytes maxL ret :: wsG) rm D cl TY w sz av post pX wf) (cw : CallW R s args own C index y bytes maxL ret (Cond.code y bytes maxL ret :: wsG) rm rm.cells rm.slots n) (hp : PreV s H C b (kx_Pc s0 D cl TY w sz av) As)
    (hg : g.method = m) (hn : As.length = n) (hsize : g.locals.size = nL) (hstack : g.stack = As.reverse ++ .ref b :: rest) (hW : 2 * g.monitorRoom + (rest.map fun v => v.category).sum ≤ 8) (hdg : decode cc g.pc = .ok (.invokevirtual index, 3)) (hf : cells + rm.cells ≤ R.cells ∧ slots + rm.slots ≤ R.slots) :
    kx_Run p l e R s m args below meth c H locs cells slots rm.cells rm.slots g rest (kx_Q rv post pX (ky_B D cl TY (va_A w sz) wf) (va_A w sz) (Value.ref b :: As).toArray) (va_A w sz) := by
  obtain ⟨⟨-, -, hfr, hlo, hws, -, hcode, hini, hy, hlen, hl⟩, hin, hse⟩ := cw
  obtain ⟨hx, hb, hml, ho, -⟩ := F
  obtain ⟨hbl, ⟨cellB, hcB, hoB, hclB⟩, hPc⟩ := hp
  intro T hT X
  obtain ⟨mk, methM, hnamed, hmethM, hstM, habM⟩ := Cond.instanceMethod_spec hin
  obtain ⟨methM', cM, hmethM', hcM, -, hlM, -, -, -, hsigM⟩ := Cond.code_spec hnamed hcode
  cases hmethM.symm.trans hmethM'
  obtain ⟨c2, r2, m2, q1, q2, q3, q4, kP, hkP, hkPi⟩ := Cond.selects_spec hse
  cases hclB.symm.trans q1
  cases (State.methodFound?_of_named hnamed hy).symm.trans q2
  cases hnamed.symm.trans q3
  have hselP : selectMethod e.platform s.vm cellB.cls mk = .method mk := by rw [Launch.admits_selectMethod X.admits]; exact q4
  obtain ⟨vm₁, X₁, hstep₁⟩ := X.invokevirtual hx ho hl hnamed hmethM hstM hkP hkPi hy (a := b) (cell := cellB) (by rw [hT]; exact hcB)
    (fun z h => by rw [h] at hoB; cases hoB) hselP hmethM habM hkP hkPi (g := g) hg (argsL := As) (rest := rest) (hn.trans (hlen _ hsigM)) hstack (by rw [hb]; exact hdg)
  have hW1 := X₁.warmed
  obtain ⟨o, t, T', L, hq, hL, e1, e2, X', hst⟩ := kx_back X₁ hM (g := { g with stack := rest }) hg (hsize.trans hml.symm) (by rw [hb]; exact hdg) hW (X₁.named hnamed) (by rw [hW1.alike.method?]; exact hmethM) hcM hlM
    (atoms_intro fun w hw => hws w hw _ _ hW1) (word_at hW1 (Or.inl (by first | rfl | simp [Cond.onTables, Cond.keeps, Cond.steady])) hini) hf.1 hf.2 hfr hlo (hbl _ _ _ _ (hPc (T.setVm vm₁) hT hW1))
  refine ⟨o, (T.setVm vm₁).calling { g with stack := rest } mk (Value.ref b :: As).toArray, t, T', L, hT, X', hL, e1, e2, hq, ?_⟩
  rcases hst with ⟨v, rfl, hs⟩ | ⟨x, rfl, hs⟩
  · exact Or.inl ⟨v, rfl, fun tg h => hstep₁ _ fun acts => by rw [doInvoke_state]; exact hs.trans h⟩
  · exact Or.inr ⟨x, rfl, fun tg h => hstep₁ _ fun acts => by rw [doInvoke_state]; exact hs.trans h⟩
theorem kx_call {α S : Type} {rv : α → Option Value} {post : α → S → Prop} {pX : Nat → S → Prop} {wf : S → va_W} (hP : va_P D cl ws H) (hD : va_D A ws) (hS : va_S A H0 H locs) (hA : ∀ q : Nat, H0.size ≤ q → A q) (isC isR : List Nat)
    (hC : isC.map (fun i => ws[i]?) = wc.map some) (hR : isR.map (fun i => ws[i]?) = wr.map some) (hn : va_nd isR = true) (hdis : ∀ i ∈ isR, i ∉ isC)
    (hr : kx_Run p l e R s m args below meth c H locs cells slots mc ms (F0 m pc ls st0) rest (kx_Q rv post pX (ky_B D cl TY (va_A wc H.size) wf) (va_A wc H.size) a) (va_A wc H.size))
    (kk : ∀ (r : α) (u : S) (H1 : Heap) (locs1 : List Loc), post r u → va_P D cl (wr ++ wf u) H1 → va_D A (wr ++ wf u) → va_S A H0 H1 locs1 → W p l e R s m args below meth c H1 locs1 (cells + mc) (slots + ms) Q (F0 m (pc + 3) ls ((rv r).toList ++ rest)))
    (kt : ∀ (k x : Nat) (u : S) (H1 : Heap) (locs1 : List Loc), pX k u → kx_at s k x H1 → H.size ≤ x → va_P D cl (wr ++ wf u) H1 → va_D A (wr ++ wf u) → va_S A H0 H1 locs1 → kx_W p l e R s m args below meth c H1 locs1 (cells + mc) (slots + ms) Q (F0 m pc ls rest) x) :
    W p l e R s m args below meth c H locs cells slots Q (F0 m pc ls st0) := by
  intro T hT X
  obtain ⟨o, st₀, t, T', L, h0, X', hL, e1, e2, ⟨hq, hz, hk⟩, st⟩ := hr T hT X
  have hFc := va_free (wc := wc) hD hS hA isC hC
  rw [h0] at hz hk
  have hS1 : va_S A H0 t.heap (locs ++ L) := ⟨Nat.le_trans hS.1 hz, fun q h1 h2 => by
      rw [hk q (Nat.lt_of_lt_of_le h1 hS.1) (fun z => h2 (hFc q z))]; exact hS.2.1 q h1 h2, fun q hq => by
      rcases List.mem_append.mp hq with h | h
      · exact hS.2.2 q h
      · exact hFc _ (hL q h)⟩
  rcases hq with ⟨r, u, hv, hp, hB⟩ | ⟨x, k, u, hv, hp, hex, hnew, hB⟩
  · obtain ⟨hP', hD'⟩ := va_join (wr := wr) (w1 := wf u) hP hD isC isR hC hR hn hdis hk hFc hB.1 hB.2.2
    subst hv
    rcases st with ⟨v, hv, st⟩ | ⟨x, hv, st⟩
    · cases hv
      obtain ⟨t2, a1, b1⟩ := kk r u t.heap (locs ++ L) hp hP' hD' hS1 T' e1 X'
      exact ⟨t2, st t2 a1, b1⟩
    · cases hv
  · obtain ⟨hP', hD'⟩ := va_join (wr := wr) (w1 := wf u) hP hD isC isR hC hR hn hdis hk hFc hB.1 hB.2.2
    subst hv
    rcases st with ⟨v, hv, st⟩ | ⟨x', hv, st⟩
    · cases hv
    · cases hv
      obtain ⟨cell, x1, x2, x3⟩ := hex
      obtain ⟨t2, a1, b1⟩ := kt k x u t.heap (locs ++ L) hp ⟨cell, x1, x2, by rw [← e2, X'.warmed.alike.findClass] at x3; exact x3⟩ (by rw [← h0]; exact hnew) hP' hD' hS1 T' e1 X'
      exact ⟨t2, st t2 a1, b1⟩
theorem kx_leave {α S : Type} {rv : α → Option Value} {post : α → S → Prop} {pX : Nat → S → Prop} {wf : S → va_W} {k x : Nat} (hlocks : meth.locks = false) (hout : c.exceptionTable.isEmpty = true) (hK : va_K D cl TY s) (u : S) (hP : va_P D cl (wf u) H) (hD : va_D A (wf u)) (hS : va_S A s.heap H locs) (hw : pX k u) (hex : kx_at s k x H) (hnew : s.heap.size ≤ x) (hc : cells ≤ mc) (hs : slots ≤ ms) :
    kx_W p l e R s m args below meth c H locs cells slots (kx_MQ below (kx_Q rv post pX (ky_B D cl TY A wf) A) args s mc ms A) (F0 m pc ls rest) x := by
  intro T hT X
  obtain ⟨w1, w2, w3, w4, w5⟩ := X.leaveThrown x (g := F0 m pc ls rest) rfl rfl rfl (by intro z hz; rw [Array.isEmpty_iff.mp hout] at hz; cases hz) hlocks
  obtain ⟨cell, x1, x2, x3⟩ := hex
  subst hT
  exact ⟨_, w1, .threw x, w2, w3, ⟨Or.inr ⟨x, k, u, rfl, hw, ⟨cell, x1, x2, by rw [w4.alike.findClass]; exact x3⟩, hnew, hP, va_K.moved w4.alike hK, hD⟩, hS.1, fun q h1 h2 => hS.2.1 q h1 h2⟩, locs, ⟨w4, w5.mono hc hs⟩, hS.2.2⟩
theorem kx_preV {ci N : Nat} {F : u_T} {fs : List Value} (hS0 : kx_S s0 s) (hA0 : ∀ q, A q → s0.heap.size ≤ q) (hK : va_K D cl TY s) (hP : va_P D cl ws H) (hD : va_D A ws) (hS : va_S A s.heap H locs) (isC : List Nat) (hC : isC.map (fun i => ws[i]?) = wc.map some) (hn : va_nd isC = true)
    (hc : cl[ci]? = some (C, F, N)) (he : wc[0]? = some (b, .inr (ci, fs))) : PreV s H C b (kx_Pc s0 D cl TY wc H.size (.ref b :: As)) As := by
  have h1 := ky_preV (As := As) hK hP hD isC hC hn hc he
  refine ⟨fun a U g mk q => ⟨h1.1 a U g mk q.1, q.2.1, q.2.2⟩, h1.2.1, fun U hU hW => ⟨h1.2.2 U hU hW, ⟨State.WarmedH.trans hS0.1 hW, ?_, ?_⟩, (hD.sub isC hn hC).weaken (fun k q _ h => hA0 _ h)⟩⟩
  · rw [hU]; exact Nat.le_trans hS0.2.1 hS.1
  · intro q hq
    rw [hU, hS.2.1 q (Nat.lt_of_lt_of_le hq hS0.2.1) (fun z => absurd (hA0 q z) (Nat.not_le.mpr hq))]; exact hS0.2.2 q hq
end KXcall


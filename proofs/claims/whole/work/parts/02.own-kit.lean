/-! OWN KIT: contracts over worlds, a call in one row, the rule of consequence -/
def ky_Pc (D : va_G) (cl : List vw_C) (TY : List (ClassId × FieldType)) (ws : va_W) (sz : Nat) (av : List Value) : Array Value → State → Prop :=
  va_Pc av (fun U => U.heap.size = sz ∧ va_P D cl ws U.heap ∧ va_K D cl TY U ∧ va_D (fun _ => True) ws)
def ky_B {S : Type} (D : va_G) (cl : List vw_C) (TY : List (ClassId × FieldType)) (A : Nat → Prop) (wf : S → va_W) : S → State → Prop :=
  fun u t => va_P D cl (wf u) t.heap ∧ va_K D cl TY t ∧ va_D A (wf u)
def ky_Q {α S : Type} (rv : α → Option Value) (post : α → S → Prop) (B : S → State → Prop) (A : Nat → Prop) : Array Value → State → Outcome → State → Prop :=
  fun _ st oc t => (∃ (r : α) (u : S), oc = .returned (rv r) ∧ post r u ∧ B u t) ∧ va_F A st t
abbrev ky_rI : Int32 → Option Value := fun r => some (.int r)
abbrev ky_rL : Int64 → Option Value := fun r => some (.long r)
abbrev ky_rV : Unit → Option Value := fun _ => none
/-- a contract: from the world w at a heap of size sz, with arguments av, the method returns rv r, 'post r u', and the world is wf u -/
def ky_M {α S : Type} (rv : α → Option Value) (l : Launch) (y : MethodName) (ws : List Cond) (rm : Room) (D : va_G) (cl : List vw_C) (TY : List (ClassId × FieldType)) (w : va_W) (sz : Nat) (av : List Value) (post : α → S → Prop) (wf : S → va_W) : Prop :=
  Met l y ws rm (ky_Pc D cl TY w sz av) (ky_Q rv post (ky_B D cl TY (va_A w sz) wf) (va_A w sz)) rm.cells rm.slots (va_A w sz)
section KYof
variable {l : Launch} {S : Type} {y : MethodName} {wsG : List Cond} {rm : Room} {D : va_G} {cl : List vw_C} {TY : List (ClassId × FieldType)} {w : va_W} {sz : Nat} {av : List Value} {wf : S → va_W} {cc : ByteArray} {maxL : Nat}
/-- what a walk has at its entry -/
abbrev ky_In (y : MethodName) (wsG : List Cond) (D : va_G) (cl : List vw_C) (TY : List (ClassId × FieldType)) (w : va_W) (cc : ByteArray) (maxL : Nat) (av : List Value) (p : Program) (s : State) (m : MethodId) (args : Array Value) (meth : Method) (c : Code) (A : Nat → Prop) (ls : Array Slot) : Prop :=
  p.tables.exec = Jvm.exec ∧ c.code = cc ∧ c.maxLocals = maxL ∧ s.vm.findClass y.cls = some m.cls ∧ meth.name = y.name ∧ (∀ w ∈ wsG, w.before args s = true) ∧ va_K D cl TY s ∧ va_P D cl w s.heap ∧ va_D A w ∧ (∀ q : Nat, s.heap.size ≤ q → A q) ∧ va_S A s.heap s.heap [] ∧ lv_has ls maxL (lv_args 0 av)
theorem ky_ofW {α : Type} {rv : α → Option Value} {post : α → S → Prop} {ret : Option FieldType} (hy : plainFor y = true) (hlen : (lg_sl av).length ≤ maxL)
    (body : ∀ (p : Program) (e : Env) (s : State) (m : MethodId) (args : Array Value) (below : List Frame) (meth : Method) (c : Code) (A : Nat → Prop) (ls : Array Slot), meth.sig.returnType = ret → meth.locks = false →
      ky_In y wsG D cl TY w cc maxL av p s m args meth c A ls →
      W p l e rm s m args below meth c s.heap [] 0 0 (MQ below (ky_Q rv post (ky_B D cl TY A wf) A) args s rm.cells rm.slots A) (F0 m 0 ls [])) :
    ky_M rv l y (Cond.code y cc maxL ret :: wsG) rm D cl TY w sz av post wf := by
  refine va_MetF (cc := cc) (maxL := maxL) (ret := ret) hy rfl ?_
  intro p e s m args below meth c s₁ B hml hv
  obtain ⟨rfl, hsz, hP, hK, hD0⟩ := hv
  have hts := atoms_spec (ws := Cond.code y cc maxL ret :: wsG) B.pre
  have hown : s.vm.findClass y.cls = some m.cls := findClass_of_methodNamed B.named
  have hin : meth.name = y.name := (name_of_methodNamed B.named B.method).1
  subst hsz
  have hD := hD0.self (sz := s.heap.size)
  have hl := lv_entry av (n := maxL) hlen
  rw [lg_entry_eq]
  exact body p e s m av.toArray below meth c (va_A w s.heap.size) _ B.returns B.notSynchronized ⟨B.exec, B.bytes, hml, hown, hin, fun w h => hts w (List.mem_cons_of_mem _ h), hK, hP, hD, fun q h => Or.inr h, va_S.rf, hl⟩
theorem ky_ofI {post : Int32 → S → Prop} (hy : plainFor y = true) (hlen : (lg_sl av).length ≤ maxL)
    (body : ∀ (p : Program) (e : Env) (s : State) (m : MethodId) (args : Array Value) (below : List Frame) (meth : Method) (c : Code) (A : Nat → Prop) (Q : State → Prop) (ls : Array Slot),
      ky_In y wsG D cl TY w cc maxL av p s m args meth c A ls →
      (∀ (r : Int32) (u : S) (H : Heap) (locs : List Loc) (cells slots pc : Nat) (ls : Array Slot), decode cc pc = .ok (.ireturn, 1) → va_P D cl (wf u) H → va_D A (wf u) → va_S A s.heap H locs → post r u → cells ≤ rm.cells → slots ≤ rm.slots → W p l e rm s m args below meth c H locs cells slots Q (F0 m pc ls [.int r])) →
      W p l e rm s m args below meth c s.heap [] 0 0 Q (F0 m 0 ls [])) :
    ky_M ky_rI l y (Cond.code y cc maxL (some .int) :: wsG) rm D cl TY w sz av post wf :=
  ky_ofW hy hlen (fun p e s m args below meth c A ls hr hlocks hI => body p e s m args below meth c A _ ls hI (fun r u H locs cells slots pc ls hdg hP hD hS hp hc hs =>
    W.widen hc hs (W.iret hI.1 hI.2.1 hr (fun t ht hW => ⟨⟨r, u, rfl, hp, by rw [ht]; exact hP, va_K.moved hW.alike hI.2.2.2.2.2.2.1, hD⟩, hS.F ht⟩) hS.2.2 hdg hlocks)))
theorem ky_ofZ {post : Int32 → S → Prop} (hy : plainFor y = true) (hlen : (lg_sl av).length ≤ maxL)
    (body : ∀ (p : Program) (e : Env) (s : State) (m : MethodId) (args : Array Value) (below : List Frame) (meth : Method) (c : Code) (A : Nat → Prop) (Q : State → Prop) (ls : Array Slot),
      ky_In y wsG D cl TY w cc maxL av p s m args meth c A ls →
      (∀ (r : Int32) (u : S) (H : Heap) (locs : List Loc) (cells slots pc : Nat) (ls : Array Slot), decode cc pc = .ok (.ireturn, 1) → narrow .boolean (.int r) = .int r → va_P D cl (wf u) H → va_D A (wf u) → va_S A s.heap H locs → post r u → cells ≤ rm.cells → slots ≤ rm.slots → W p l e rm s m args below meth c H locs cells slots Q (F0 m pc ls [.int r])) →
      W p l e rm s m args below meth c s.heap [] 0 0 Q (F0 m 0 ls [])) :
    ky_M ky_rI l y (Cond.code y cc maxL (some .boolean) :: wsG) rm D cl TY w sz av post wf :=
  ky_ofW hy hlen (fun p e s m args below meth c A ls hr hlocks hI => body p e s m args below meth c A _ ls hI (fun r u H locs cells slots pc ls hdg hn hP hD hS hp hc hs =>
    W.widen hc hs (W.zret hI.1 hI.2.1 hr hn (fun t ht hW => ⟨⟨r, u, rfl, hp, by rw [ht]; exact hP, va_K.moved hW.alike hI.2.2.2.2.2.2.1, hD⟩, hS.F ht⟩) hS.2.2 hdg hlocks)))
theorem ky_ofL {post : Int64 → S → Prop} (hy : plainFor y = true) (hlen : (lg_sl av).length ≤ maxL)
    (body : ∀ (p : Program) (e : Env) (s : State) (m : MethodId) (args : Array Value) (below : List Frame) (meth : Method) (c : Code) (A : Nat → Prop) (Q : State → Prop) (ls : Array Slot),
      ky_In y wsG D cl TY w cc maxL av p s m args meth c A ls →
      (∀ (r : Int64) (u : S) (H : Heap) (locs : List Loc) (cells slots pc : Nat) (ls : Array Slot), decode cc pc = .ok (.lreturn, 1) → va_P D cl (wf u) H → va_D A (wf u) → va_S A s.heap H locs → post r u → cells ≤ rm.cells → slots ≤ rm.slots → W p l e rm s m args below meth c H locs cells slots Q (F0 m pc ls [.long r])) →
      W p l e rm s m args below meth c s.heap [] 0 0 Q (F0 m 0 ls [])) :
    ky_M ky_rL l y (Cond.code y cc maxL (some .long) :: wsG) rm D cl TY w sz av post wf :=
  ky_ofW hy hlen (fun p e s m args below meth c A ls hr hlocks hI => body p e s m args below meth c A _ ls hI (fun r u H locs cells slots pc ls hdg hP hD hS hp hc hs =>
    W.widen hc hs (W.lret hI.1 hI.2.1 hr (fun t ht hW => ⟨⟨r, u, rfl, hp, by rw [ht]; exact hP, va_K.moved hW.alike hI.2.2.2.2.2.2.1, hD⟩, hS.F ht⟩) hS.2.2 hdg hlocks)))
theorem ky_ofV {post : S → Prop} (hy : plainFor y = true) (hlen : (lg_sl av).length ≤ maxL)
    (body : ∀ (p : Program) (e : Env) (s : State) (m : MethodId) (args : Array Value) (below : List Frame) (meth : Method) (c : Code) (A : Nat → Prop) (Q : State → Prop) (ls : Array Slot),
      ky_In y wsG D cl TY w cc maxL av p s m args meth c A ls →
      (∀ (u : S) (H : Heap) (locs : List Loc) (cells slots pc : Nat) (ls : Array Slot), decode cc pc = .ok (.return_, 1) → va_P D cl (wf u) H → va_D A (wf u) → va_S A s.heap H locs → post u → cells ≤ rm.cells → slots ≤ rm.slots → W p l e rm s m args below meth c H locs cells slots Q (F0 m pc ls [])) →
      W p l e rm s m args below meth c s.heap [] 0 0 Q (F0 m 0 ls [])) :
    ky_M ky_rV l y (Cond.code y cc maxL none :: wsG) rm D cl TY w sz av (fun _ => post) wf :=
  ky_ofW hy hlen (fun p e s m args below meth c A ls hr hlocks hI => body p e s m args below meth c A _ ls hI (fun u H locs cells slots pc ls hdg hP hD hS hp hc hs =>
    W.widen hc hs (W.vret hI.1 hI.2.1 hr (fun t ht hW => ⟨⟨(), u, rfl, hp, by rw [ht]; exact hP, va_K.moved hW.alike hI.2.2.2.2.2.2.1, hD⟩, hS.F ht⟩) hS.2.2 hdg hlocks)))
end KYof
theorem ky_fm {α β : Type} (f : α → Option β) : ∀ (is : List α) (w : List β), is.map f = w.map some → is.filterMap f = w := by
  intro is
  induction is with
  | nil => intro w h; cases w with
    | nil => rfl
    | cons a r => simp at h
  | cons i r ih => intro w h; cases w with
    | nil => simp at h
    | cons a q =>
      simp only [List.map_cons, List.cons.injEq] at h
      rw [List.filterMap_cons, h.1, ih q h.2]
section KYcall
variable {p : Program} {l : Launch} {e : Env} {R : Room} {s : State} {m : MethodId} {args : Array Value} {below : List Frame} {meth : Method} {c : Code} {H : Heap} {locs : List Loc} {cells slots : Nat} {Q : State → Prop}
variable {D : va_G} {cl : List vw_C} {TY : List (ClassId × FieldType)} {ws wc wr : va_W} {A : Nat → Prop} {H0 : Heap} {pc mc ms : Nat} {ls : Array Slot} {rest st0 : List Value} {a : Array Value}
theorem ky_call {α S : Type} {rv : α → Option Value} {post : α → S → Prop} {wf : S → va_W} (hP : va_P D cl ws H) (hD : va_D A ws) (hS : va_S A H0 H locs) (hA : ∀ q : Nat, H0.size ≤ q → A q) (isC isR : List Nat)
    (hC : isC.map (fun i => ws[i]?) = wc.map some) (hR : isR.map (fun i => ws[i]?) = wr.map some) (hn : va_nd isR = true) (hdis : ∀ i ∈ isR, i ∉ isC)
    (hr : va_Run p l e R s m args below meth c H locs cells slots mc ms (F0 m pc ls st0) rest (ky_Q rv post (ky_B D cl TY (va_A wc H.size) wf) (va_A wc H.size) a) (va_A wc H.size))
    (kk : ∀ (r : α) (u : S) (H1 : Heap) (locs1 : List Loc), post r u → va_P D cl (wr ++ wf u) H1 → va_D A (wr ++ wf u) → va_S A H0 H1 locs1 → W p l e R s m args below meth c H1 locs1 (cells + mc) (slots + ms) Q (F0 m (pc + 3) ls ((rv r).toList ++ rest))) :
    W p l e R s m args below meth c H locs cells slots Q (F0 m pc ls st0) := by
  intro T hT X
  obtain ⟨v, st₀, t, T', L, h0, X', hL, e1, e2, hq, st⟩ := hr T hT X
  obtain ⟨⟨r, u, hv, hp, hB⟩, hz, hk⟩ := hq
  cases hv
  have hFc := va_free (wc := wc) hD hS hA isC hC
  rw [h0] at hz hk
  obtain ⟨hP', hD'⟩ := va_join (wr := wr) (w1 := wf u) hP hD isC isR hC hR hn hdis hk hFc hB.1 hB.2.2
  obtain ⟨t2, a1, b1⟩ := kk r u t.heap (locs ++ L) hp hP' hD' ⟨Nat.le_trans hS.1 hz, fun q h1 h2 => by
      rw [hk q (Nat.lt_of_lt_of_le h1 hS.1) (fun z => h2 (hFc q z))]; exact hS.2.1 q h1 h2, fun q hq => by
      rcases List.mem_append.mp hq with h | h
      · exact hS.2.2 q h
      · exact hFc _ (hL q h)⟩ T' e1 X'
  exact ⟨t2, st t2 a1, b1⟩
theorem ky_preS {As : List Value} (hK : va_K D cl TY s) (hP : va_P D cl ws H) (hD : va_D A ws) (isC : List Nat) (hC : isC.map (fun i => ws[i]?) = wc.map some) (hn : va_nd isC = true) : PreS s H (ky_Pc D cl TY wc H.size As) As :=
  ⟨fun a U g mk q => by obtain ⟨q0, q1, qP, qK, qD⟩ := q; exact ⟨q0, q1, qP, va_K.moved (u := U) (U := U.calling g mk a) (Vm.Alike.refl U.vm) qK, qD⟩,
   fun U hU hW => ⟨rfl, by rw [hU], by rw [hU]; exact hP.sub isC (ky_fm _ _ _ hC), va_K.moved hW.alike hK, (hD.sub isC hn hC).weaken (fun _ _ _ _ => trivial)⟩⟩
theorem ky_preV {As : List Value} {b ci N : Nat} {C : String} {F : u_T} {fs : List Value} (hK : va_K D cl TY s) (hP : va_P D cl ws H) (hD : va_D A ws) (isC : List Nat) (hC : isC.map (fun i => ws[i]?) = wc.map some) (hn : va_nd isC = true)
    (hc : cl[ci]? = some (C, F, N)) (he : wc[0]? = some (b, .inr (ci, fs))) : PreV s H C b (ky_Pc D cl TY wc H.size (.ref b :: As)) As :=
  ⟨(ky_preS (As := .ref b :: As) hK hP hD isC hC hn).1, va_recv hK (hP.sub isC (ky_fm _ _ _ hC)) hc he, (ky_preS (As := .ref b :: As) hK hP hD isC hC hn).2⟩
end KYcall
theorem ky_conseq {l : Launch} {y : MethodName} {ws : List Cond} {rm : Room} {Pc Pc' : Array Value → State → Prop} {Qc Qc' : Array Value → State → Outcome → State → Prop} {mc ms : Nat} {free free' : Addr → Prop}
    (hM : Met l y ws rm Pc Qc mc ms free) (h1 : ∀ a st, Pc' a st → Pc a st) (h2 : ∀ a st o t, Pc' a st → Qc a st o t → Qc' a st o t) (h3 : ∀ q, free q → free' q) : Met l y ws rm Pc' Qc' mc ms free' := by
  intro p e ha hc hk s m args below hf happ hP hK
  obtain ⟨n, o, a1, a2, a3, a4, L, a5, a6⟩ := hM p e ha hc hk s m args below hf happ (h1 _ _ hP) hK
  exact ⟨n, o, a1, a2, a3, h2 _ _ _ _ hP a4, L, a5, fun q hq => h3 _ (a6 q hq)⟩
/-- a contract over some cells serves over more: the rest stays -/
theorem ky_lift {α S S' : Type} {rv : α → Option Value} {l : Launch} {y : MethodName} {ws : List Cond} {rm : Room} {D : va_G} {cl : List vw_C} {TY : List (ClassId × FieldType)} {w wc wr : va_W} {sz : Nat} {av : List Value} {post : α → S → Prop} {wf : S → va_W} {post' : α → S' → Prop} {wf' : S' → va_W}
    (hM : ky_M rv l y ws rm D cl TY wc sz av post wf) (isC isR : List Nat) (hC : isC.map (fun i => w[i]?) = wc.map some) (hR : isR.map (fun i => w[i]?) = wr.map some) (hnC : va_nd isC = true) (hnR : va_nd isR = true) (hdis : ∀ i ∈ isR, i ∉ isC)
    (hpost : ∀ (r : α) (u : S), post r u → ∃ u' : S', post' r u' ∧ ∃ perm : List Nat, va_nd perm = true ∧ perm.map (fun i => (wr ++ wf u)[i]?) = (wf' u').map some) : ky_M rv l y ws rm D cl TY w sz av post' wf' := by
  have hin : ∀ q, va_A wc sz q → va_A w sz q := by
    intro q h
    rcases h with ⟨k, e, h⟩ | h
    · have h1 : (isC.map (fun i => w[i]?))[k]? = some (some (q, e)) := by rw [hC, List.getElem?_map, h]; rfl
      rw [List.getElem?_map] at h1
      cases hi : isC[k]? with
      | none => rw [hi] at h1; cases h1
      | some i => rw [hi] at h1; exact Or.inl ⟨i, e, Option.some.inj h1⟩
    · exact Or.inr h
  refine ky_conseq hM ?_ ?_ hin
  · rintro a st ⟨rfl, hsz, hP, hK, hD⟩
    exact ⟨rfl, hsz, hP.sub isC (ky_fm _ _ _ hC), hK, hD.sub isC hnC hC⟩
  · rintro a st o t ⟨rfl, hsz, hP, hK, hD⟩ ⟨⟨r, u, ho, hp, hB⟩, hF⟩
    subst hsz
    obtain ⟨u', hp', perm, hn, he⟩ := hpost r u hp
    have hD1 := hD.self (sz := st.heap.size)
    obtain ⟨hP2, hD2⟩ := va_join (wr := wr) (w1 := wf u) hP hD1 isC isR hC hR hnR hdis hF.2 hin hB.1 hB.2.2
    exact ⟨⟨r, u', ho, hp', hP2.sub perm (ky_fm _ _ _ he), hB.2.1, hD2.sub perm hn he⟩, hF.1, fun q h1 h2 => hF.2 q h1 (fun z => h2 (hin q z))⟩


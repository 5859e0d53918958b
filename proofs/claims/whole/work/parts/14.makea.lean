abbrev b_RU_new : ByteArray := prog_4_method_1_code
def y_RU_new : MethodName := ⟨R_RU, "<init>", "()V"⟩
abbrev b_TR_new : ByteArray := prog_6_method_1_code
def y_TR_new : MethodName := ⟨R_TR, "<init>", "()V"⟩
abbrev b_MA_new : ByteArray := prog_3_method_1_code
def y_MA_new : MethodName := ⟨R_MA, "<init>", "()V"⟩
abbrev b_WA_new : ByteArray := prog_7_method_1_code
def y_WA_new : MethodName := ⟨R_WA, "<init>", "()V"⟩
abbrev b_GR_new : ByteArray := prog_2_method_1_code
def y_GR_new : MethodName := ⟨R_GR, "<init>", "()V"⟩
abbrev b_TE_new : ByteArray := prog_5_method_1_code
def y_TE_new : MethodName := ⟨R_TE, "<init>", "()V"⟩
abbrev b_SE_new : ByteArray := prog_1_method_1_code
def y_SE_new : MethodName := ⟨R_SE, "<init>", "(I)V"⟩
abbrev b_MO_new : ByteArray := prog_9_method_1_code
def y_MO_new : MethodName := ⟨R_MO, "<init>", "(I)V"⟩
/-! OWN KIT, part 3: constructors; the tables' words on private constructors of nest mates -/
abbrev kn_1 : Cond := .methodLinkNest R_MA 37 y_RU_new R_SE
abbrev kn_2 : Cond := .methodLinkNest R_SE 18 y_WA_new R_SE
abbrev kn_3 : Cond := .methodLinkNest R_WA 11 y_TR_new R_SE
abbrev kn_4 : Cond := .methodLinkNest R_SE 25 y_GR_new R_SE
abbrev kn_5 : Cond := .methodLinkNest R_SE 32 y_TE_new R_SE
abbrev kn_6 : Cond := .methodLinkNest R_TE 20 y_TR_new R_SE
def kn_X (U : State) : Prop := va_Nw kn_1 U ∧ va_Nw kn_2 U ∧ va_Nw kn_3 U ∧ va_Nw kn_4 U ∧ va_Nw kn_5 U ∧ va_Nw kn_6 U ∧ va_AO R_RU U
theorem kn_X.same {u U : State} (h : u.vm = U.vm) (hZ : kn_X u) : kn_X U := by
  obtain ⟨h1, h2, h3, h4, h5, h6, h7⟩ := hZ
  exact ⟨va_Nw.same rfl h h1, va_Nw.same rfl h h2, va_Nw.same rfl h h3, va_Nw.same rfl h h4, va_Nw.same rfl h h5, va_Nw.same rfl h h6, va_AO.moved (by rw [h]; exact Vm.Alike.refl _) h7⟩
theorem kn_X.warm {s U : State} (hW : s.WarmedH U.vm) (hZ : kn_X s) : kn_X U := by
  obtain ⟨h1, h2, h3, h4, h5, h6, h7⟩ := hZ
  exact ⟨va_Nw.warmM hW h1, va_Nw.warmM hW h2, va_Nw.warmM hW h3, va_Nw.warmM hW h4, va_Nw.warmM hW h5, va_Nw.warmM hW h6, va_AO.moved hW.alike h7⟩
def ky_MN {S : Type} (l : Launch) (y : MethodName) (ws : List Cond) (rm : Room) (D : va_G) (cl : List vw_C) (TY : List (ClassId × FieldType)) (w : va_W) (sz : Nat) (av : List Value) (post : S → Prop) (wf : S → va_W) : Prop :=
  Met l y ws rm (fun a U => ky_Pc D cl TY w sz av a U ∧ kn_X U) (ky_Q ky_rV (fun _ => post) (ky_B D cl TY (va_A w sz) wf) (va_A w sz)) rm.cells rm.slots (va_A w sz)
theorem ky_ofN {l : Launch} {S : Type} {y : MethodName} {wsG : List Cond} {rm : Room} {D : va_G} {cl : List vw_C} {TY : List (ClassId × FieldType)} {w : va_W} {sz : Nat} {av : List Value} {wf : S → va_W} {cc : ByteArray} {maxL : Nat} {post : S → Prop} (hy : plainFor y = true) (hlen : (lg_sl av).length ≤ maxL)
    (body : ∀ (p : Program) (e : Env) (s : State) (m : MethodId) (args : Array Value) (below : List Frame) (meth : Method) (c : Code) (A : Nat → Prop) (Q : State → Prop) (ls : Array Slot),
      kn_X s → ky_In y wsG D cl TY w cc maxL av p s m args meth c A ls →
      (∀ (u : S) (H : Heap) (locs : List Loc) (cells slots pc : Nat) (ls : Array Slot), decode cc pc = .ok (.return_, 1) → va_P D cl (wf u) H → va_D A (wf u) → va_S A s.heap H locs → post u → cells ≤ rm.cells → slots ≤ rm.slots → W p l e rm s m args below meth c H locs cells slots Q (F0 m pc ls [])) →
      W p l e rm s m args below meth c s.heap [] 0 0 Q (F0 m 0 ls [])) :
    ky_MN l y (Cond.code y cc maxL none :: wsG) rm D cl TY w sz av post wf := by
  refine va_MetF (cc := cc) (maxL := maxL) (ret := none) hy rfl ?_
  intro p e s m args below meth c s₁ B hml hv
  obtain ⟨⟨rfl, hsz, hP, hK, hD0⟩, hN⟩ := hv
  have hts := atoms_spec (ws := Cond.code y cc maxL none :: wsG) B.pre
  have hown : s.vm.findClass y.cls = some m.cls := findClass_of_methodNamed B.named
  have hin : meth.name = y.name := (name_of_methodNamed B.named B.method).1
  subst hsz
  have hD := hD0.self (sz := s.heap.size)
  have hl := lv_entry av (n := maxL) hlen
  rw [lg_entry_eq]
  refine body p e s m av.toArray below meth c (va_A w s.heap.size) _ _ hN ⟨B.exec, B.bytes, hml, hown, hin, fun w h => hts w (List.mem_cons_of_mem _ h), hK, hP, hD, fun q h => Or.inr h, va_S.rf, hl⟩ ?_
  intro u H locs cells slots pc ls hdg hP hD hS hp hc hs
  exact W.widen hc hs (W.vret B.exec B.bytes B.returns (fun t ht hW => ⟨⟨(), u, rfl, hp, by rw [ht]; exact hP, va_K.moved hW.alike hK, hD⟩, hS.F ht⟩) hS.2.2 hdg B.notSynchronized)
section KYN
variable {own host : String} {index maxL : Nat} {y : MethodName} {bytes : ByteArray} {rm R : Room} {s : State} {args : Array Value}
theorem ky_cnI (n : Nat) (ht : ∀ w ∈ wsG, w.before args s = true) (h1 : Cond.code y bytes maxL none ∈ wsG) (hl : va_Nw (.methodLinkNest own index y host) s) (h3 : Cond.instanceMethod y ∈ wsG) (h5 : Cond.initialized y.cls ∈ wsG) (hn : y.name = "<init>")
    (hd : y.cls ≠ "java/lang/invoke/MethodHandle" ∧ y.cls ≠ "java/lang/invoke/VarHandle" ∧ (parseMethodDescriptor y.desc).map (fun d => d.parameters.length) = some n) (hR : rm.frames + 1 ≤ R.frames ∧ 8 + (maxL + 11) + rm.locals ≤ R.locals) :
    va_CN R s args own index y host bytes maxL none (Cond.code y bytes maxL none :: wsG) rm rm.cells rm.slots n ∧ y.name = "<init>" ∧ (Cond.instanceMethod y).before args s = true :=
  ⟨va_cnB n ht (ky_good h1) rfl rfl rfl hl (ht _ h5) hd hR, hn, ht _ h3⟩
theorem ky_preN {D : va_G} {cl : List vw_C} {TY : List (ClassId × FieldType)} {ws wc : va_W} {A : Nat → Prop} {H : Heap} {As : List Value} (hN : kn_X s) (hK : va_K D cl TY s) (hP : va_P D cl ws H) (hD : va_D A ws) (isC : List Nat) (hC : isC.map (fun i => ws[i]?) = wc.map some) (hn : va_nd isC = true) :
    PreS s H (fun a U => ky_Pc D cl TY wc H.size As a U ∧ kn_X U) As :=
  ⟨fun a U g mk q => ⟨(ky_preS (As := As) hK hP hD isC hC hn).1 a U g mk q.1, kn_X.same (u := U) rfl q.2⟩, fun U hU hW => ⟨(ky_preS (As := As) hK hP hD isC hC hn).2 U hU hW, kn_X.warm hW hN⟩⟩
end KYN

theorem k_311 : Cond.methodLink R_RU 3 objectInit ∈ wsG := by decide +kernel
theorem k_312 : Cond.instanceMethod objectInit ∈ wsG := by decide +kernel
theorem k_313 : Cond.code objectInit ⟨#[0xb1]⟩ 1 none ∈ wsG := by decide +kernel
theorem k_314 : Cond.methodLink R_TR 3 objectInit ∈ wsG := by decide +kernel
theorem k_315 : Cond.methodLink R_MA 3 objectInit ∈ wsG := by decide +kernel
theorem k_316 : Cond.classLink R_MA 18 R_RU ∈ wsG := by decide +kernel
theorem k_317 : Cond.methodLink R_WA 3 objectInit ∈ wsG := by decide +kernel
theorem k_318 : Cond.classLink R_WA 9 R_TR ∈ wsG := by decide +kernel
theorem k_319 : Cond.methodLink R_GR 3 objectInit ∈ wsG := by decide +kernel
theorem k_320 : Cond.methodLink R_TE 3 objectInit ∈ wsG := by decide +kernel
theorem k_321 : Cond.classLink R_TE 18 R_TR ∈ wsG := by decide +kernel
theorem k_322 : Cond.methodLink R_SE 3 objectInit ∈ wsG := by decide +kernel
theorem k_323 : Cond.classLink R_SE 9 R_MA ∈ wsG := by decide +kernel
theorem k_324 : Cond.classLink R_SE 16 R_WA ∈ wsG := by decide +kernel
theorem k_325 : Cond.classLink R_SE 23 R_GR ∈ wsG := by decide +kernel
theorem k_326 : Cond.classLink R_SE 30 R_TE ∈ wsG := by decide +kernel
theorem k_327 : Cond.methodLink R_MO 1 objectInit ∈ wsG := by decide +kernel
theorem k_328 : Cond.fieldLink R_RU 9 R_RU "targets" "[I" ∈ wsG := by decide +kernel
theorem k_329 : Cond.fieldLink R_RU 24 R_RU "transfers" "I" ∈ wsG := by decide +kernel
theorem k_330 : Cond.fieldLink R_RU 28 R_RU "moves" "[I" ∈ wsG := by decide +kernel
theorem k_331 : Cond.fieldLink R_SE 12 R_SE "machine" "LSmallExhaust$Machine;" ∈ wsG := by decide +kernel
theorem k_332 : Cond.fieldLink R_SE 19 R_SE "walk" "LSmallExhaust$Walk;" ∈ wsG := by decide +kernel
theorem k_333 : Cond.fieldLink R_SE 26 R_SE "grouping" "LSmallExhaust$Grouping;" ∈ wsG := by decide +kernel
theorem k_334 : Cond.fieldLink R_SE 33 R_SE "telling" "LSmallExhaust$Telling;" ∈ wsG := by decide +kernel
theorem k_335 : Cond.fieldLink R_SE 37 R_SE "firstState" "I" ∈ wsG := by decide +kernel
theorem k_336 : Cond.fieldLink R_SE 47 R_SE "room" "I" ∈ wsG := by decide +kernel
theorem k_337 : Cond.code y_RU_new b_RU_new 1 none ∈ wsG := by decide +kernel
theorem k_338 : Cond.instanceMethod y_RU_new ∈ wsG := by decide +kernel
theorem k_339 : Cond.code y_TR_new b_TR_new 1 none ∈ wsG := by decide +kernel
theorem k_340 : Cond.instanceMethod y_TR_new ∈ wsG := by decide +kernel
theorem k_341 : Cond.code y_MA_new b_MA_new 2 none ∈ wsG := by decide +kernel
theorem k_342 : Cond.methodLink R_SE 11 y_MA_new ∈ wsG := by decide +kernel
theorem k_343 : Cond.instanceMethod y_MA_new ∈ wsG := by decide +kernel
theorem k_344 : Cond.code y_WA_new b_WA_new 1 none ∈ wsG := by decide +kernel
theorem k_345 : Cond.instanceMethod y_WA_new ∈ wsG := by decide +kernel
theorem k_346 : Cond.code y_GR_new b_GR_new 1 none ∈ wsG := by decide +kernel
theorem k_347 : Cond.instanceMethod y_GR_new ∈ wsG := by decide +kernel
theorem k_348 : Cond.code y_TE_new b_TE_new 1 none ∈ wsG := by decide +kernel
theorem k_349 : Cond.instanceMethod y_TE_new ∈ wsG := by decide +kernel
theorem k_350 : Cond.code y_JM_floorMod b_JM_floorMod 3 (some .int) ∈ wsG := by decide +kernel
theorem k_351 : Cond.methodLink R_SE 41 y_JM_floorMod ∈ wsG := by decide +kernel
theorem k_352 : Cond.initialized R_JM ∈ wsG := by decide +kernel
theorem k_353 : Cond.static y_JM_floorMod ∈ wsG := by decide +kernel
theorem k_354 : Cond.instantiable R_RU 6 ∈ wsG := by decide +kernel
theorem k_355 : Cond.instantiable R_TR 1 ∈ wsG := by decide +kernel
theorem k_356 : Cond.instantiable R_MA 7 ∈ wsG := by decide +kernel
theorem k_357 : Cond.instantiable R_WA 9 ∈ wsG := by decide +kernel
theorem k_358 : Cond.instantiable R_GR 7 ∈ wsG := by decide +kernel
theorem k_359 : Cond.instantiable R_TE 9 ∈ wsG := by decide +kernel
theorem k_360 : Cond.instantiable R_SE 6 ∈ wsG := by decide +kernel
theorem k_361 : Cond.initialized R_SE ∈ wsG := by decide +kernel
theorem k_362 : Cond.instantiable R_MO 41 ∈ wsG := by decide +kernel
theorem d_RU_new_0 : decode b_RU_new 0 = .ok (.aload_n 0, 1) := by decide +kernel
theorem d_RU_new_1 : decode b_RU_new 1 = .ok (.invokespecial 3, 3) := by decide +kernel
theorem d_RU_new_4 : decode b_RU_new 4 = .ok (.aload_n 0, 1) := by decide +kernel
theorem d_RU_new_5 : decode b_RU_new 5 = .ok (.bipush 9, 2) := by decide +kernel
theorem d_RU_new_7 : decode b_RU_new 7 = .ok (.newarray .int, 2) := by decide +kernel
theorem d_RU_new_9 : decode b_RU_new 9 = .ok (.putfield 9, 3) := by decide +kernel
theorem d_RU_new_12 : decode b_RU_new 12 = .ok (.aload_n 0, 1) := by decide +kernel
theorem d_RU_new_13 : decode b_RU_new 13 = .ok (.bipush 9, 2) := by decide +kernel
theorem d_RU_new_15 : decode b_RU_new 15 = .ok (.newarray .int, 2) := by decide +kernel
theorem d_RU_new_17 : decode b_RU_new 17 = .ok (.putfield 15, 3) := by decide +kernel
theorem d_RU_new_20 : decode b_RU_new 20 = .ok (.aload_n 0, 1) := by decide +kernel
theorem d_RU_new_21 : decode b_RU_new 21 = .ok (.bipush 9, 2) := by decide +kernel
theorem d_RU_new_23 : decode b_RU_new 23 = .ok (.newarray .int, 2) := by decide +kernel
theorem d_RU_new_25 : decode b_RU_new 25 = .ok (.putfield 18, 3) := by decide +kernel
theorem d_RU_new_28 : decode b_RU_new 28 = .ok (.aload_n 0, 1) := by decide +kernel
theorem d_RU_new_29 : decode b_RU_new 29 = .ok (.bipush 9, 2) := by decide +kernel
theorem d_RU_new_31 : decode b_RU_new 31 = .ok (.newarray .int, 2) := by decide +kernel
theorem d_RU_new_33 : decode b_RU_new 33 = .ok (.putfield 21, 3) := by decide +kernel
theorem d_RU_new_36 : decode b_RU_new 36 = .ok (.aload_n 0, 1) := by decide +kernel
theorem d_RU_new_37 : decode b_RU_new 37 = .ok (.iconst 0, 1) := by decide +kernel
theorem d_RU_new_38 : decode b_RU_new 38 = .ok (.putfield 24, 3) := by decide +kernel
theorem d_RU_new_41 : decode b_RU_new 41 = .ok (.aload_n 0, 1) := by decide +kernel
theorem d_RU_new_42 : decode b_RU_new 42 = .ok (.iconst 0, 1) := by decide +kernel
theorem d_RU_new_43 : decode b_RU_new 43 = .ok (.newarray .int, 2) := by decide +kernel
theorem d_RU_new_45 : decode b_RU_new 45 = .ok (.putfield 28, 3) := by decide +kernel
theorem d_RU_new_48 : decode b_RU_new 48 = .ok (.return_, 1) := by decide +kernel
theorem d_TR_new_0 : decode b_TR_new 0 = .ok (.aload_n 0, 1) := by decide +kernel
theorem d_TR_new_1 : decode b_TR_new 1 = .ok (.invokespecial 3, 3) := by decide +kernel
theorem d_TR_new_4 : decode b_TR_new 4 = .ok (.aload_n 0, 1) := by decide +kernel
theorem d_TR_new_5 : decode b_TR_new 5 = .ok (.iconst 0, 1) := by decide +kernel
theorem d_TR_new_6 : decode b_TR_new 6 = .ok (.newarray .int, 2) := by decide +kernel
theorem d_TR_new_8 : decode b_TR_new 8 = .ok (.putfield 9, 3) := by decide +kernel
theorem d_TR_new_11 : decode b_TR_new 11 = .ok (.return_, 1) := by decide +kernel
theorem d_MA_new_0 : decode b_MA_new 0 = .ok (.aload_n 0, 1) := by decide +kernel
theorem d_MA_new_1 : decode b_MA_new 1 = .ok (.invokespecial 3, 3) := by decide +kernel
theorem d_MA_new_4 : decode b_MA_new 4 = .ok (.aload_n 0, 1) := by decide +kernel
theorem d_MA_new_5 : decode b_MA_new 5 = .ok (.iconst 4, 1) := by decide +kernel
theorem d_MA_new_6 : decode b_MA_new 6 = .ok (.newarray .int, 2) := by decide +kernel
theorem d_MA_new_8 : decode b_MA_new 8 = .ok (.putfield 9, 3) := by decide +kernel
theorem d_MA_new_11 : decode b_MA_new 11 = .ok (.aload_n 0, 1) := by decide +kernel
theorem d_MA_new_12 : decode b_MA_new 12 = .ok (.iconst 4, 1) := by decide +kernel
theorem d_MA_new_13 : decode b_MA_new 13 = .ok (.newarray .int, 2) := by decide +kernel
theorem d_MA_new_15 : decode b_MA_new 15 = .ok (.putfield 15, 3) := by decide +kernel
theorem d_MA_new_18 : decode b_MA_new 18 = .ok (.aload_n 0, 1) := by decide +kernel
theorem d_MA_new_19 : decode b_MA_new 19 = .ok (.iconst 4, 1) := by decide +kernel
theorem d_MA_new_20 : decode b_MA_new 20 = .ok (.anewarray 18, 3) := by decide +kernel
theorem d_MA_new_23 : decode b_MA_new 23 = .ok (.putfield 20, 3) := by decide +kernel
theorem d_MA_new_26 : decode b_MA_new 26 = .ok (.aload_n 0, 1) := by decide +kernel
theorem d_MA_new_27 : decode b_MA_new 27 = .ok (.iconst 0, 1) := by decide +kernel
theorem d_MA_new_28 : decode b_MA_new 28 = .ok (.putfield 24, 3) := by decide +kernel
theorem d_MA_new_31 : decode b_MA_new 31 = .ok (.aload_n 0, 1) := by decide +kernel
theorem d_MA_new_32 : decode b_MA_new 32 = .ok (.iconst 0, 1) := by decide +kernel
theorem d_MA_new_33 : decode b_MA_new 33 = .ok (.putfield 28, 3) := by decide +kernel
theorem d_MA_new_36 : decode b_MA_new 36 = .ok (.aload_n 0, 1) := by decide +kernel
theorem d_MA_new_37 : decode b_MA_new 37 = .ok (.iconst 0, 1) := by decide +kernel
theorem d_MA_new_38 : decode b_MA_new 38 = .ok (.putfield 31, 3) := by decide +kernel
theorem d_MA_new_41 : decode b_MA_new 41 = .ok (.aload_n 0, 1) := by decide +kernel
theorem d_MA_new_42 : decode b_MA_new 42 = .ok (.iconst 0, 1) := by decide +kernel
theorem d_MA_new_43 : decode b_MA_new 43 = .ok (.putfield 34, 3) := by decide +kernel
theorem d_MA_new_46 : decode b_MA_new 46 = .ok (.iconst 0, 1) := by decide +kernel
theorem d_MA_new_47 : decode b_MA_new 47 = .ok (.istore_n 1, 1) := by decide +kernel
theorem d_MA_new_48 : decode b_MA_new 48 = .ok (.iload_n 1, 1) := by decide +kernel
theorem d_MA_new_49 : decode b_MA_new 49 = .ok (.iconst 4, 1) := by decide +kernel
theorem d_MA_new_50 : decode b_MA_new 50 = .ok (.if_icmp .ge 22, 3) := by decide +kernel
theorem d_MA_new_53 : decode b_MA_new 53 = .ok (.aload_n 0, 1) := by decide +kernel
theorem d_MA_new_54 : decode b_MA_new 54 = .ok (.getfield 20, 3) := by decide +kernel
theorem d_MA_new_57 : decode b_MA_new 57 = .ok (.iload_n 1, 1) := by decide +kernel
theorem d_MA_new_58 : decode b_MA_new 58 = .ok (.new 18, 3) := by decide +kernel
theorem d_MA_new_61 : decode b_MA_new 61 = .ok (.dup, 1) := by decide +kernel
theorem d_MA_new_62 : decode b_MA_new 62 = .ok (.invokespecial 37, 3) := by decide +kernel
theorem d_MA_new_65 : decode b_MA_new 65 = .ok (.aastore, 1) := by decide +kernel
theorem d_MA_new_66 : decode b_MA_new 66 = .ok (.iinc 1 1, 3) := by decide +kernel
theorem d_MA_new_69 : decode b_MA_new 69 = .ok (.goto (-21), 3) := by decide +kernel
theorem d_MA_new_72 : decode b_MA_new 72 = .ok (.return_, 1) := by decide +kernel
theorem d_WA_new_0 : decode b_WA_new 0 = .ok (.aload_n 0, 1) := by decide +kernel
theorem d_WA_new_1 : decode b_WA_new 1 = .ok (.invokespecial 3, 3) := by decide +kernel
theorem d_WA_new_4 : decode b_WA_new 4 = .ok (.aload_n 0, 1) := by decide +kernel
theorem d_WA_new_5 : decode b_WA_new 5 = .ok (.new 9, 3) := by decide +kernel
theorem d_WA_new_8 : decode b_WA_new 8 = .ok (.dup, 1) := by decide +kernel
theorem d_WA_new_9 : decode b_WA_new 9 = .ok (.invokespecial 11, 3) := by decide +kernel
theorem d_WA_new_12 : decode b_WA_new 12 = .ok (.putfield 12, 3) := by decide +kernel
theorem d_WA_new_15 : decode b_WA_new 15 = .ok (.aload_n 0, 1) := by decide +kernel
theorem d_WA_new_16 : decode b_WA_new 16 = .ok (.iconst 0, 1) := by decide +kernel
theorem d_WA_new_17 : decode b_WA_new 17 = .ok (.newarray .int, 2) := by decide +kernel
theorem d_WA_new_19 : decode b_WA_new 19 = .ok (.putfield 18, 3) := by decide +kernel
theorem d_WA_new_22 : decode b_WA_new 22 = .ok (.aload_n 0, 1) := by decide +kernel
theorem d_WA_new_23 : decode b_WA_new 23 = .ok (.iconst 0, 1) := by decide +kernel
theorem d_WA_new_24 : decode b_WA_new 24 = .ok (.newarray .int, 2) := by decide +kernel
theorem d_WA_new_26 : decode b_WA_new 26 = .ok (.putfield 22, 3) := by decide +kernel
theorem d_WA_new_29 : decode b_WA_new 29 = .ok (.aload_n 0, 1) := by decide +kernel
theorem d_WA_new_30 : decode b_WA_new 30 = .ok (.iconst 0, 1) := by decide +kernel
theorem d_WA_new_31 : decode b_WA_new 31 = .ok (.putfield 25, 3) := by decide +kernel
theorem d_WA_new_34 : decode b_WA_new 34 = .ok (.aload_n 0, 1) := by decide +kernel
theorem d_WA_new_35 : decode b_WA_new 35 = .ok (.iconst 0, 1) := by decide +kernel
theorem d_WA_new_36 : decode b_WA_new 36 = .ok (.putfield 29, 3) := by decide +kernel
theorem d_WA_new_39 : decode b_WA_new 39 = .ok (.aload_n 0, 1) := by decide +kernel
theorem d_WA_new_40 : decode b_WA_new 40 = .ok (.iconst 0, 1) := by decide +kernel
theorem d_WA_new_41 : decode b_WA_new 41 = .ok (.putfield 33, 3) := by decide +kernel
theorem d_WA_new_44 : decode b_WA_new 44 = .ok (.aload_n 0, 1) := by decide +kernel
theorem d_WA_new_45 : decode b_WA_new 45 = .ok (.iconst 0, 1) := by decide +kernel
theorem d_WA_new_46 : decode b_WA_new 46 = .ok (.putfield 36, 3) := by decide +kernel
theorem d_WA_new_49 : decode b_WA_new 49 = .ok (.aload_n 0, 1) := by decide +kernel
theorem d_WA_new_50 : decode b_WA_new 50 = .ok (.iconst 0, 1) := by decide +kernel
theorem d_WA_new_51 : decode b_WA_new 51 = .ok (.putfield 39, 3) := by decide +kernel
theorem d_WA_new_54 : decode b_WA_new 54 = .ok (.aload_n 0, 1) := by decide +kernel
theorem d_WA_new_55 : decode b_WA_new 55 = .ok (.iconst 0, 1) := by decide +kernel
theorem d_WA_new_56 : decode b_WA_new 56 = .ok (.newarray .int, 2) := by decide +kernel
theorem d_WA_new_58 : decode b_WA_new 58 = .ok (.putfield 42, 3) := by decide +kernel
theorem d_WA_new_61 : decode b_WA_new 61 = .ok (.return_, 1) := by decide +kernel
theorem d_GR_new_0 : decode b_GR_new 0 = .ok (.aload_n 0, 1) := by decide +kernel
theorem d_GR_new_1 : decode b_GR_new 1 = .ok (.invokespecial 3, 3) := by decide +kernel
theorem d_GR_new_4 : decode b_GR_new 4 = .ok (.aload_n 0, 1) := by decide +kernel
theorem d_GR_new_5 : decode b_GR_new 5 = .ok (.iconst 0, 1) := by decide +kernel
theorem d_GR_new_6 : decode b_GR_new 6 = .ok (.newarray .int, 2) := by decide +kernel
theorem d_GR_new_8 : decode b_GR_new 8 = .ok (.putfield 9, 3) := by decide +kernel
theorem d_GR_new_11 : decode b_GR_new 11 = .ok (.aload_n 0, 1) := by decide +kernel
theorem d_GR_new_12 : decode b_GR_new 12 = .ok (.iconst 0, 1) := by decide +kernel
theorem d_GR_new_13 : decode b_GR_new 13 = .ok (.newarray .int, 2) := by decide +kernel
theorem d_GR_new_15 : decode b_GR_new 15 = .ok (.putfield 15, 3) := by decide +kernel
theorem d_GR_new_18 : decode b_GR_new 18 = .ok (.aload_n 0, 1) := by decide +kernel
theorem d_GR_new_19 : decode b_GR_new 19 = .ok (.iconst 0, 1) := by decide +kernel
theorem d_GR_new_20 : decode b_GR_new 20 = .ok (.putfield 18, 3) := by decide +kernel
theorem d_GR_new_23 : decode b_GR_new 23 = .ok (.aload_n 0, 1) := by decide +kernel
theorem d_GR_new_24 : decode b_GR_new 24 = .ok (.iconst 0, 1) := by decide +kernel
theorem d_GR_new_25 : decode b_GR_new 25 = .ok (.putfield 22, 3) := by decide +kernel
theorem d_GR_new_28 : decode b_GR_new 28 = .ok (.aload_n 0, 1) := by decide +kernel
theorem d_GR_new_29 : decode b_GR_new 29 = .ok (.iconst 0, 1) := by decide +kernel
theorem d_GR_new_30 : decode b_GR_new 30 = .ok (.newarray .long, 2) := by decide +kernel
theorem d_GR_new_32 : decode b_GR_new 32 = .ok (.putfield 26, 3) := by decide +kernel
theorem d_GR_new_35 : decode b_GR_new 35 = .ok (.aload_n 0, 1) := by decide +kernel
theorem d_GR_new_36 : decode b_GR_new 36 = .ok (.iconst 0, 1) := by decide +kernel
theorem d_GR_new_37 : decode b_GR_new 37 = .ok (.newarray .int, 2) := by decide +kernel
theorem d_GR_new_39 : decode b_GR_new 39 = .ok (.putfield 30, 3) := by decide +kernel
theorem d_GR_new_42 : decode b_GR_new 42 = .ok (.aload_n 0, 1) := by decide +kernel
theorem d_GR_new_43 : decode b_GR_new 43 = .ok (.iconst 0, 1) := by decide +kernel
theorem d_GR_new_44 : decode b_GR_new 44 = .ok (.putfield 33, 3) := by decide +kernel
theorem d_GR_new_47 : decode b_GR_new 47 = .ok (.return_, 1) := by decide +kernel
theorem d_TE_new_0 : decode b_TE_new 0 = .ok (.aload_n 0, 1) := by decide +kernel
theorem d_TE_new_1 : decode b_TE_new 1 = .ok (.invokespecial 3, 3) := by decide +kernel
theorem d_TE_new_4 : decode b_TE_new 4 = .ok (.aload_n 0, 1) := by decide +kernel
theorem d_TE_new_5 : decode b_TE_new 5 = .ok (.iconst 0, 1) := by decide +kernel
theorem d_TE_new_6 : decode b_TE_new 6 = .ok (.putfield 9, 3) := by decide +kernel
theorem d_TE_new_9 : decode b_TE_new 9 = .ok (.aload_n 0, 1) := by decide +kernel
theorem d_TE_new_10 : decode b_TE_new 10 = .ok (.iconst 0, 1) := by decide +kernel
theorem d_TE_new_11 : decode b_TE_new 11 = .ok (.putfield 15, 3) := by decide +kernel
theorem d_TE_new_14 : decode b_TE_new 14 = .ok (.aload_n 0, 1) := by decide +kernel
theorem d_TE_new_15 : decode b_TE_new 15 = .ok (.new 18, 3) := by decide +kernel
theorem d_TE_new_18 : decode b_TE_new 18 = .ok (.dup, 1) := by decide +kernel
theorem d_TE_new_19 : decode b_TE_new 19 = .ok (.invokespecial 20, 3) := by decide +kernel
theorem d_TE_new_22 : decode b_TE_new 22 = .ok (.putfield 21, 3) := by decide +kernel
theorem d_TE_new_25 : decode b_TE_new 25 = .ok (.aload_n 0, 1) := by decide +kernel
theorem d_TE_new_26 : decode b_TE_new 26 = .ok (.iconst 0, 1) := by decide +kernel
theorem d_TE_new_27 : decode b_TE_new 27 = .ok (.newarray .int, 2) := by decide +kernel
theorem d_TE_new_29 : decode b_TE_new 29 = .ok (.putfield 25, 3) := by decide +kernel
theorem d_TE_new_32 : decode b_TE_new 32 = .ok (.aload_n 0, 1) := by decide +kernel
theorem d_TE_new_33 : decode b_TE_new 33 = .ok (.iconst 0, 1) := by decide +kernel
theorem d_TE_new_34 : decode b_TE_new 34 = .ok (.newarray .int, 2) := by decide +kernel
theorem d_TE_new_36 : decode b_TE_new 36 = .ok (.putfield 29, 3) := by decide +kernel
theorem d_TE_new_39 : decode b_TE_new 39 = .ok (.aload_n 0, 1) := by decide +kernel
theorem d_TE_new_40 : decode b_TE_new 40 = .ok (.iconst 0, 1) := by decide +kernel
theorem d_TE_new_41 : decode b_TE_new 41 = .ok (.newarray .int, 2) := by decide +kernel
theorem d_TE_new_43 : decode b_TE_new 43 = .ok (.putfield 32, 3) := by decide +kernel
theorem d_TE_new_46 : decode b_TE_new 46 = .ok (.aload_n 0, 1) := by decide +kernel
theorem d_TE_new_47 : decode b_TE_new 47 = .ok (.iconst (-1), 1) := by decide +kernel
theorem d_TE_new_48 : decode b_TE_new 48 = .ok (.putfield 35, 3) := by decide +kernel
theorem d_TE_new_51 : decode b_TE_new 51 = .ok (.aload_n 0, 1) := by decide +kernel
theorem d_TE_new_52 : decode b_TE_new 52 = .ok (.iconst (-1), 1) := by decide +kernel
theorem d_TE_new_53 : decode b_TE_new 53 = .ok (.putfield 39, 3) := by decide +kernel
theorem d_TE_new_56 : decode b_TE_new 56 = .ok (.aload_n 0, 1) := by decide +kernel
theorem d_TE_new_57 : decode b_TE_new 57 = .ok (.iconst 0, 1) := by decide +kernel
theorem d_TE_new_58 : decode b_TE_new 58 = .ok (.putfield 42, 3) := by decide +kernel
theorem d_TE_new_61 : decode b_TE_new 61 = .ok (.return_, 1) := by decide +kernel
theorem d_SE_new_0 : decode b_SE_new 0 = .ok (.aload_n 0, 1) := by decide +kernel
theorem d_SE_new_1 : decode b_SE_new 1 = .ok (.invokespecial 3, 3) := by decide +kernel
theorem d_SE_new_4 : decode b_SE_new 4 = .ok (.aload_n 0, 1) := by decide +kernel
theorem d_SE_new_5 : decode b_SE_new 5 = .ok (.new 9, 3) := by decide +kernel
theorem d_SE_new_8 : decode b_SE_new 8 = .ok (.dup, 1) := by decide +kernel
theorem d_SE_new_9 : decode b_SE_new 9 = .ok (.invokespecial 11, 3) := by decide +kernel
theorem d_SE_new_12 : decode b_SE_new 12 = .ok (.putfield 12, 3) := by decide +kernel
theorem d_SE_new_15 : decode b_SE_new 15 = .ok (.aload_n 0, 1) := by decide +kernel
theorem d_SE_new_16 : decode b_SE_new 16 = .ok (.new 16, 3) := by decide +kernel
theorem d_SE_new_19 : decode b_SE_new 19 = .ok (.dup, 1) := by decide +kernel
theorem d_SE_new_20 : decode b_SE_new 20 = .ok (.invokespecial 18, 3) := by decide +kernel
theorem d_SE_new_23 : decode b_SE_new 23 = .ok (.putfield 19, 3) := by decide +kernel
theorem d_SE_new_26 : decode b_SE_new 26 = .ok (.aload_n 0, 1) := by decide +kernel
theorem d_SE_new_27 : decode b_SE_new 27 = .ok (.new 23, 3) := by decide +kernel
theorem d_SE_new_30 : decode b_SE_new 30 = .ok (.dup, 1) := by decide +kernel
theorem d_SE_new_31 : decode b_SE_new 31 = .ok (.invokespecial 25, 3) := by decide +kernel
theorem d_SE_new_34 : decode b_SE_new 34 = .ok (.putfield 26, 3) := by decide +kernel
theorem d_SE_new_37 : decode b_SE_new 37 = .ok (.aload_n 0, 1) := by decide +kernel
theorem d_SE_new_38 : decode b_SE_new 38 = .ok (.new 30, 3) := by decide +kernel
theorem d_SE_new_41 : decode b_SE_new 41 = .ok (.dup, 1) := by decide +kernel
theorem d_SE_new_42 : decode b_SE_new 42 = .ok (.invokespecial 32, 3) := by decide +kernel
theorem d_SE_new_45 : decode b_SE_new 45 = .ok (.putfield 33, 3) := by decide +kernel
theorem d_SE_new_48 : decode b_SE_new 48 = .ok (.aload_n 0, 1) := by decide +kernel
theorem d_SE_new_49 : decode b_SE_new 49 = .ok (.iconst 0, 1) := by decide +kernel
theorem d_SE_new_50 : decode b_SE_new 50 = .ok (.putfield 37, 3) := by decide +kernel
theorem d_SE_new_53 : decode b_SE_new 53 = .ok (.aload_n 0, 1) := by decide +kernel
theorem d_SE_new_54 : decode b_SE_new 54 = .ok (.iconst 1, 1) := by decide +kernel
theorem d_SE_new_55 : decode b_SE_new 55 = .ok (.iload_n 1, 1) := by decide +kernel
theorem d_SE_new_56 : decode b_SE_new 56 = .ok (.iconst 1, 1) := by decide +kernel
theorem d_SE_new_57 : decode b_SE_new 57 = .ok (.isub, 1) := by decide +kernel
theorem d_SE_new_58 : decode b_SE_new 58 = .ok (.sipush 4096, 3) := by decide +kernel
theorem d_SE_new_61 : decode b_SE_new 61 = .ok (.invokestatic 41, 3) := by decide +kernel
theorem d_SE_new_64 : decode b_SE_new 64 = .ok (.iadd, 1) := by decide +kernel
theorem d_SE_new_65 : decode b_SE_new 65 = .ok (.putfield 47, 3) := by decide +kernel
theorem d_SE_new_68 : decode b_SE_new 68 = .ok (.return_, 1) := by decide +kernel
theorem d_MO_new_0 : decode b_MO_new 0 = .ok (.aload_n 0, 1) := by decide +kernel
theorem d_MO_new_1 : decode b_MO_new 1 = .ok (.invokespecial 1, 3) := by decide +kernel
theorem d_MO_new_4 : decode b_MO_new 4 = .ok (.aload_n 0, 1) := by decide +kernel
theorem d_MO_new_5 : decode b_MO_new 5 = .ok (.iconst 4, 1) := by decide +kernel
theorem d_MO_new_6 : decode b_MO_new 6 = .ok (.newarray .int, 2) := by decide +kernel
theorem d_MO_new_8 : decode b_MO_new 8 = .ok (.putfield 7, 3) := by decide +kernel
theorem d_MO_new_11 : decode b_MO_new 11 = .ok (.aload_n 0, 1) := by decide +kernel
theorem d_MO_new_12 : decode b_MO_new 12 = .ok (.iconst 4, 1) := by decide +kernel
theorem d_MO_new_13 : decode b_MO_new 13 = .ok (.newarray .int, 2) := by decide +kernel
theorem d_MO_new_15 : decode b_MO_new 15 = .ok (.putfield 13, 3) := by decide +kernel
theorem d_MO_new_18 : decode b_MO_new 18 = .ok (.aload_n 0, 1) := by decide +kernel
theorem d_MO_new_19 : decode b_MO_new 19 = .ok (.iconst 4, 1) := by decide +kernel
theorem d_MO_new_20 : decode b_MO_new 20 = .ok (.newarray .int, 2) := by decide +kernel
theorem d_MO_new_22 : decode b_MO_new 22 = .ok (.putfield 16, 3) := by decide +kernel
theorem d_MO_new_25 : decode b_MO_new 25 = .ok (.aload_n 0, 1) := by decide +kernel
theorem d_MO_new_26 : decode b_MO_new 26 = .ok (.iconst 4, 1) := by decide +kernel
theorem d_MO_new_27 : decode b_MO_new 27 = .ok (.newarray .int, 2) := by decide +kernel
theorem d_MO_new_29 : decode b_MO_new 29 = .ok (.putfield 19, 3) := by decide +kernel
theorem d_MO_new_32 : decode b_MO_new 32 = .ok (.aload_n 0, 1) := by decide +kernel
theorem d_MO_new_33 : decode b_MO_new 33 = .ok (.iconst 4, 1) := by decide +kernel
theorem d_MO_new_34 : decode b_MO_new 34 = .ok (.newarray .int, 2) := by decide +kernel
theorem d_MO_new_36 : decode b_MO_new 36 = .ok (.putfield 22, 3) := by decide +kernel
theorem d_MO_new_39 : decode b_MO_new 39 = .ok (.aload_n 0, 1) := by decide +kernel
theorem d_MO_new_40 : decode b_MO_new 40 = .ok (.iconst 4, 1) := by decide +kernel
theorem d_MO_new_41 : decode b_MO_new 41 = .ok (.newarray .int, 2) := by decide +kernel
theorem d_MO_new_43 : decode b_MO_new 43 = .ok (.putfield 25, 3) := by decide +kernel
theorem d_MO_new_46 : decode b_MO_new 46 = .ok (.aload_n 0, 1) := by decide +kernel
theorem d_MO_new_47 : decode b_MO_new 47 = .ok (.bipush 32, 2) := by decide +kernel
theorem d_MO_new_49 : decode b_MO_new 49 = .ok (.newarray .int, 2) := by decide +kernel
theorem d_MO_new_51 : decode b_MO_new 51 = .ok (.putfield 28, 3) := by decide +kernel
theorem d_MO_new_54 : decode b_MO_new 54 = .ok (.aload_n 0, 1) := by decide +kernel
theorem d_MO_new_55 : decode b_MO_new 55 = .ok (.bipush 32, 2) := by decide +kernel
theorem d_MO_new_57 : decode b_MO_new 57 = .ok (.newarray .int, 2) := by decide +kernel
theorem d_MO_new_59 : decode b_MO_new 59 = .ok (.putfield 31, 3) := by decide +kernel
theorem d_MO_new_62 : decode b_MO_new 62 = .ok (.aload_n 0, 1) := by decide +kernel
theorem d_MO_new_63 : decode b_MO_new 63 = .ok (.bipush 32, 2) := by decide +kernel
theorem d_MO_new_65 : decode b_MO_new 65 = .ok (.newarray .int, 2) := by decide +kernel
theorem d_MO_new_67 : decode b_MO_new 67 = .ok (.putfield 34, 3) := by decide +kernel
theorem d_MO_new_70 : decode b_MO_new 70 = .ok (.aload_n 0, 1) := by decide +kernel
theorem d_MO_new_71 : decode b_MO_new 71 = .ok (.bipush 32, 2) := by decide +kernel
theorem d_MO_new_73 : decode b_MO_new 73 = .ok (.newarray .int, 2) := by decide +kernel
theorem d_MO_new_75 : decode b_MO_new 75 = .ok (.putfield 37, 3) := by decide +kernel
theorem d_MO_new_78 : decode b_MO_new 78 = .ok (.aload_n 0, 1) := by decide +kernel
theorem d_MO_new_79 : decode b_MO_new 79 = .ok (.sipush 16384, 3) := by decide +kernel
theorem d_MO_new_82 : decode b_MO_new 82 = .ok (.newarray .int, 2) := by decide +kernel
theorem d_MO_new_84 : decode b_MO_new 84 = .ok (.putfield 40, 3) := by decide +kernel
theorem d_MO_new_87 : decode b_MO_new 87 = .ok (.aload_n 0, 1) := by decide +kernel
theorem d_MO_new_88 : decode b_MO_new 88 = .ok (.sipush 16384, 3) := by decide +kernel
theorem d_MO_new_91 : decode b_MO_new 91 = .ok (.newarray .int, 2) := by decide +kernel
theorem d_MO_new_93 : decode b_MO_new 93 = .ok (.putfield 43, 3) := by decide +kernel
theorem d_MO_new_96 : decode b_MO_new 96 = .ok (.aload_n 0, 1) := by decide +kernel
theorem d_MO_new_97 : decode b_MO_new 97 = .ok (.sipush 4096, 3) := by decide +kernel
theorem d_MO_new_100 : decode b_MO_new 100 = .ok (.newarray .int, 2) := by decide +kernel
theorem d_MO_new_102 : decode b_MO_new 102 = .ok (.putfield 46, 3) := by decide +kernel
theorem d_MO_new_105 : decode b_MO_new 105 = .ok (.aload_n 0, 1) := by decide +kernel
theorem d_MO_new_106 : decode b_MO_new 106 = .ok (.sipush 4096, 3) := by decide +kernel
theorem d_MO_new_109 : decode b_MO_new 109 = .ok (.newarray .int, 2) := by decide +kernel
theorem d_MO_new_111 : decode b_MO_new 111 = .ok (.putfield 49, 3) := by decide +kernel
theorem d_MO_new_114 : decode b_MO_new 114 = .ok (.aload_n 0, 1) := by decide +kernel
theorem d_MO_new_115 : decode b_MO_new 115 = .ok (.sipush 4096, 3) := by decide +kernel
theorem d_MO_new_118 : decode b_MO_new 118 = .ok (.newarray .int, 2) := by decide +kernel
theorem d_MO_new_120 : decode b_MO_new 120 = .ok (.putfield 52, 3) := by decide +kernel
theorem d_MO_new_123 : decode b_MO_new 123 = .ok (.aload_n 0, 1) := by decide +kernel
theorem d_MO_new_124 : decode b_MO_new 124 = .ok (.sipush 4096, 3) := by decide +kernel
theorem d_MO_new_127 : decode b_MO_new 127 = .ok (.newarray .int, 2) := by decide +kernel
theorem d_MO_new_129 : decode b_MO_new 129 = .ok (.putfield 55, 3) := by decide +kernel
theorem d_MO_new_132 : decode b_MO_new 132 = .ok (.aload_n 0, 1) := by decide +kernel
theorem d_MO_new_133 : decode b_MO_new 133 = .ok (.sipush 4096, 3) := by decide +kernel
theorem d_MO_new_136 : decode b_MO_new 136 = .ok (.newarray .int, 2) := by decide +kernel
theorem d_MO_new_138 : decode b_MO_new 138 = .ok (.putfield 58, 3) := by decide +kernel
theorem d_MO_new_141 : decode b_MO_new 141 = .ok (.aload_n 0, 1) := by decide +kernel
theorem d_MO_new_142 : decode b_MO_new 142 = .ok (.sipush 4096, 3) := by decide +kernel
theorem d_MO_new_145 : decode b_MO_new 145 = .ok (.newarray .int, 2) := by decide +kernel
theorem d_MO_new_147 : decode b_MO_new 147 = .ok (.putfield 61, 3) := by decide +kernel
theorem d_MO_new_150 : decode b_MO_new 150 = .ok (.aload_n 0, 1) := by decide +kernel
theorem d_MO_new_151 : decode b_MO_new 151 = .ok (.sipush 4096, 3) := by decide +kernel
theorem d_MO_new_154 : decode b_MO_new 154 = .ok (.newarray .int, 2) := by decide +kernel
theorem d_MO_new_156 : decode b_MO_new 156 = .ok (.putfield 64, 3) := by decide +kernel
theorem d_MO_new_159 : decode b_MO_new 159 = .ok (.aload_n 0, 1) := by decide +kernel
theorem d_MO_new_160 : decode b_MO_new 160 = .ok (.sipush 4096, 3) := by decide +kernel
theorem d_MO_new_163 : decode b_MO_new 163 = .ok (.newarray .int, 2) := by decide +kernel
theorem d_MO_new_165 : decode b_MO_new 165 = .ok (.putfield 67, 3) := by decide +kernel
theorem d_MO_new_168 : decode b_MO_new 168 = .ok (.aload_n 0, 1) := by decide +kernel
theorem d_MO_new_169 : decode b_MO_new 169 = .ok (.sipush 4096, 3) := by decide +kernel
theorem d_MO_new_172 : decode b_MO_new 172 = .ok (.newarray .int, 2) := by decide +kernel
theorem d_MO_new_174 : decode b_MO_new 174 = .ok (.putfield 70, 3) := by decide +kernel
theorem d_MO_new_177 : decode b_MO_new 177 = .ok (.aload_n 0, 1) := by decide +kernel
theorem d_MO_new_178 : decode b_MO_new 178 = .ok (.sipush 8192, 3) := by decide +kernel
theorem d_MO_new_181 : decode b_MO_new 181 = .ok (.newarray .int, 2) := by decide +kernel
theorem d_MO_new_183 : decode b_MO_new 183 = .ok (.putfield 73, 3) := by decide +kernel
theorem d_MO_new_186 : decode b_MO_new 186 = .ok (.aload_n 0, 1) := by decide +kernel
theorem d_MO_new_187 : decode b_MO_new 187 = .ok (.sipush 8192, 3) := by decide +kernel
theorem d_MO_new_190 : decode b_MO_new 190 = .ok (.newarray .int, 2) := by decide +kernel
theorem d_MO_new_192 : decode b_MO_new 192 = .ok (.putfield 76, 3) := by decide +kernel
theorem d_MO_new_195 : decode b_MO_new 195 = .ok (.aload_n 0, 1) := by decide +kernel
theorem d_MO_new_196 : decode b_MO_new 196 = .ok (.sipush 4096, 3) := by decide +kernel
theorem d_MO_new_199 : decode b_MO_new 199 = .ok (.newarray .int, 2) := by decide +kernel
theorem d_MO_new_201 : decode b_MO_new 201 = .ok (.putfield 79, 3) := by decide +kernel
theorem d_MO_new_204 : decode b_MO_new 204 = .ok (.aload_n 0, 1) := by decide +kernel
theorem d_MO_new_205 : decode b_MO_new 205 = .ok (.sipush 4096, 3) := by decide +kernel
theorem d_MO_new_208 : decode b_MO_new 208 = .ok (.newarray .int, 2) := by decide +kernel
theorem d_MO_new_210 : decode b_MO_new 210 = .ok (.putfield 82, 3) := by decide +kernel
theorem d_MO_new_213 : decode b_MO_new 213 = .ok (.aload_n 0, 1) := by decide +kernel
theorem d_MO_new_214 : decode b_MO_new 214 = .ok (.sipush 4099, 3) := by decide +kernel
theorem d_MO_new_217 : decode b_MO_new 217 = .ok (.newarray .int, 2) := by decide +kernel
theorem d_MO_new_219 : decode b_MO_new 219 = .ok (.putfield 85, 3) := by decide +kernel
theorem d_MO_new_222 : decode b_MO_new 222 = .ok (.aload_n 0, 1) := by decide +kernel
theorem d_MO_new_223 : decode b_MO_new 223 = .ok (.sipush 4096, 3) := by decide +kernel
theorem d_MO_new_226 : decode b_MO_new 226 = .ok (.newarray .int, 2) := by decide +kernel
theorem d_MO_new_228 : decode b_MO_new 228 = .ok (.putfield 88, 3) := by decide +kernel
theorem d_MO_new_231 : decode b_MO_new 231 = .ok (.aload_n 0, 1) := by decide +kernel
theorem d_MO_new_232 : decode b_MO_new 232 = .ok (.sipush 4096, 3) := by decide +kernel
theorem d_MO_new_235 : decode b_MO_new 235 = .ok (.newarray .int, 2) := by decide +kernel
theorem d_MO_new_237 : decode b_MO_new 237 = .ok (.putfield 91, 3) := by decide +kernel
theorem d_MO_new_240 : decode b_MO_new 240 = .ok (.aload_n 0, 1) := by decide +kernel
theorem d_MO_new_241 : decode b_MO_new 241 = .ok (.sipush 4096, 3) := by decide +kernel
theorem d_MO_new_244 : decode b_MO_new 244 = .ok (.newarray .int, 2) := by decide +kernel
theorem d_MO_new_246 : decode b_MO_new 246 = .ok (.putfield 94, 3) := by decide +kernel
theorem d_MO_new_249 : decode b_MO_new 249 = .ok (.aload_n 0, 1) := by decide +kernel
theorem d_MO_new_250 : decode b_MO_new 250 = .ok (.iconst 1, 1) := by decide +kernel
theorem d_MO_new_251 : decode b_MO_new 251 = .ok (.iload_n 1, 1) := by decide +kernel
theorem d_MO_new_252 : decode b_MO_new 252 = .ok (.iconst 1, 1) := by decide +kernel
theorem d_MO_new_253 : decode b_MO_new 253 = .ok (.isub, 1) := by decide +kernel
theorem d_MO_new_254 : decode b_MO_new 254 = .ok (.sipush 4095, 3) := by decide +kernel
theorem d_MO_new_257 : decode b_MO_new 257 = .ok (.iand, 1) := by decide +kernel
theorem d_MO_new_258 : decode b_MO_new 258 = .ok (.iadd, 1) := by decide +kernel
theorem d_MO_new_259 : decode b_MO_new 259 = .ok (.putfield 97, 3) := by decide +kernel
theorem d_MO_new_262 : decode b_MO_new 262 = .ok (.return_, 1) := by decide +kernel
section Sites
variable {p : Program} {l : Launch} {e : Env} {R : Room} {s : State} {m : MethodId} {args : Array Value} {below : List Frame} {meth : Method} {c : Code} {H H0 : Heap} {locs : List Loc} {cells slots : Nat} {Q : State → Prop} {cc : ByteArray} {pc : Nat} {ls : Array Slot} {rest : List Value} {D : va_G} {A : Nat → Prop} {a : Nat} {TY : List (ClassId × FieldType)} {ws : va_W}
theorem pF_RU_9 (hx : p.tables.exec = Jvm.exec) (hb : c.code = cc) (hts : ∀ w ∈ wsG, w.before args s = true) (hown : s.vm.findClass R_RU = some m.cls) (hin : meth.name = "<init>") (hK : va_K D vwCl TY s) (hP : va_P D vwCl ws H) (hD : va_D A ws) (hS : va_S A H0 H locs) (q0 : Nat) {fs : List Value} {v : Value} (he : ws[q0]? = some (a, .inr (0, fs))) (hn : narrow (.array (.int)) v = v) (hfit : fits (.array (.int)) v = true) (hl : 0 < fs.length) (hdg : decode cc pc = .ok (.putfield 9, 3)) (kk : ∀ (H1 : Heap) (locs1 : List Loc), va_P D vwCl (ws.set q0 (a, .inr (0, fs.set 0 v))) H1 → va_D A (ws.set q0 (a, .inr (0, fs.set 0 v))) → va_S A H0 H1 locs1 → W p l e R s m args below meth c H1 locs1 cells slots Q (F0 m (pc + 3) ls rest)) : W p l e R s m args below meth c H locs cells slots Q (F0 m pc ls (v :: .ref a :: rest)) :=
  va_putF (D := D) (ci := 0) (v := v) (ty := .array (.int)) (C := R_RU) (T := F_RU) (N := 6) hx hb hts i_RU t_RU t_RU_ok n_RU hown hK hP hD hS q0 he rfl 0 (by decide) (hts _ k_328) (fun _ h9 => h9) rfl hin rfl (by decide +kernel) hn hfit hl hdg kk
theorem pF_RU_15 (hx : p.tables.exec = Jvm.exec) (hb : c.code = cc) (hts : ∀ w ∈ wsG, w.before args s = true) (hown : s.vm.findClass R_RU = some m.cls) (hin : meth.name = "<init>") (hK : va_K D vwCl TY s) (hP : va_P D vwCl ws H) (hD : va_D A ws) (hS : va_S A H0 H locs) (q0 : Nat) {fs : List Value} {v : Value} (he : ws[q0]? = some (a, .inr (0, fs))) (hn : narrow (.array (.int)) v = v) (hfit : fits (.array (.int)) v = true) (hl : 1 < fs.length) (hdg : decode cc pc = .ok (.putfield 15, 3)) (kk : ∀ (H1 : Heap) (locs1 : List Loc), va_P D vwCl (ws.set q0 (a, .inr (0, fs.set 1 v))) H1 → va_D A (ws.set q0 (a, .inr (0, fs.set 1 v))) → va_S A H0 H1 locs1 → W p l e R s m args below meth c H1 locs1 cells slots Q (F0 m (pc + 3) ls rest)) : W p l e R s m args below meth c H locs cells slots Q (F0 m pc ls (v :: .ref a :: rest)) :=
  va_putF (D := D) (ci := 0) (v := v) (ty := .array (.int)) (C := R_RU) (T := F_RU) (N := 6) hx hb hts i_RU t_RU t_RU_ok n_RU hown hK hP hD hS q0 he rfl 1 (by decide) (hts _ k_2) (fun _ h9 => h9) rfl hin rfl (by decide +kernel) hn hfit hl hdg kk
theorem pF_RU_18 (hx : p.tables.exec = Jvm.exec) (hb : c.code = cc) (hts : ∀ w ∈ wsG, w.before args s = true) (hown : s.vm.findClass R_RU = some m.cls) (hin : meth.name = "<init>") (hK : va_K D vwCl TY s) (hP : va_P D vwCl ws H) (hD : va_D A ws) (hS : va_S A H0 H locs) (q0 : Nat) {fs : List Value} {v : Value} (he : ws[q0]? = some (a, .inr (0, fs))) (hn : narrow (.array (.int)) v = v) (hfit : fits (.array (.int)) v = true) (hl : 2 < fs.length) (hdg : decode cc pc = .ok (.putfield 18, 3)) (kk : ∀ (H1 : Heap) (locs1 : List Loc), va_P D vwCl (ws.set q0 (a, .inr (0, fs.set 2 v))) H1 → va_D A (ws.set q0 (a, .inr (0, fs.set 2 v))) → va_S A H0 H1 locs1 → W p l e R s m args below meth c H1 locs1 cells slots Q (F0 m (pc + 3) ls rest)) : W p l e R s m args below meth c H locs cells slots Q (F0 m pc ls (v :: .ref a :: rest)) :=
  va_putF (D := D) (ci := 0) (v := v) (ty := .array (.int)) (C := R_RU) (T := F_RU) (N := 6) hx hb hts i_RU t_RU t_RU_ok n_RU hown hK hP hD hS q0 he rfl 2 (by decide) (hts _ k_3) (fun _ h9 => h9) rfl hin rfl (by decide +kernel) hn hfit hl hdg kk
theorem pF_RU_21 (hx : p.tables.exec = Jvm.exec) (hb : c.code = cc) (hts : ∀ w ∈ wsG, w.before args s = true) (hown : s.vm.findClass R_RU = some m.cls) (hin : meth.name = "<init>") (hK : va_K D vwCl TY s) (hP : va_P D vwCl ws H) (hD : va_D A ws) (hS : va_S A H0 H locs) (q0 : Nat) {fs : List Value} {v : Value} (he : ws[q0]? = some (a, .inr (0, fs))) (hn : narrow (.array (.int)) v = v) (hfit : fits (.array (.int)) v = true) (hl : 3 < fs.length) (hdg : decode cc pc = .ok (.putfield 21, 3)) (kk : ∀ (H1 : Heap) (locs1 : List Loc), va_P D vwCl (ws.set q0 (a, .inr (0, fs.set 3 v))) H1 → va_D A (ws.set q0 (a, .inr (0, fs.set 3 v))) → va_S A H0 H1 locs1 → W p l e R s m args below meth c H1 locs1 cells slots Q (F0 m (pc + 3) ls rest)) : W p l e R s m args below meth c H locs cells slots Q (F0 m pc ls (v :: .ref a :: rest)) :=
  va_putF (D := D) (ci := 0) (v := v) (ty := .array (.int)) (C := R_RU) (T := F_RU) (N := 6) hx hb hts i_RU t_RU t_RU_ok n_RU hown hK hP hD hS q0 he rfl 3 (by decide) (hts _ k_4) (fun _ h9 => h9) rfl hin rfl (by decide +kernel) hn hfit hl hdg kk
theorem pf_RU_24 (hx : p.tables.exec = Jvm.exec) (hb : c.code = cc) (hts : ∀ w ∈ wsG, w.before args s = true) (hown : s.vm.findClass R_RU = some m.cls) (hK : va_K D vwCl TY s) (hP : va_P D vwCl ws H) (hD : va_D A ws) (hS : va_S A H0 H locs) (q0 : Nat) {fs : List Value} {v : Value} (he : ws[q0]? = some (a, .inr (0, fs))) (hn : narrow (.int) v = v) (hfit : fits (.int) v = true) (hl : 4 < fs.length) (hdg : decode cc pc = .ok (.putfield 24, 3)) (kk : ∀ (H1 : Heap) (locs1 : List Loc), va_P D vwCl (ws.set q0 (a, .inr (0, fs.set 4 v))) H1 → va_D A (ws.set q0 (a, .inr (0, fs.set 4 v))) → va_S A H0 H1 locs1 → W p l e R s m args below meth c H1 locs1 cells slots Q (F0 m (pc + 3) ls rest)) : W p l e R s m args below meth c H locs cells slots Q (F0 m pc ls (v :: .ref a :: rest)) :=
  va_put (D := D) (ci := 0) (v := v) (ty := .int) (C := R_RU) (T := F_RU) (N := 6) hx hb hts i_RU t_RU t_RU_ok n_RU hown hK hP hD hS q0 he rfl 4 (by decide) (hts _ k_329) (fun _ h9 => h9) rfl (by decide +kernel) hn hfit hl hdg kk
theorem pf_RU_28 (hx : p.tables.exec = Jvm.exec) (hb : c.code = cc) (hts : ∀ w ∈ wsG, w.before args s = true) (hown : s.vm.findClass R_RU = some m.cls) (hK : va_K D vwCl TY s) (hP : va_P D vwCl ws H) (hD : va_D A ws) (hS : va_S A H0 H locs) (q0 : Nat) {fs : List Value} {v : Value} (he : ws[q0]? = some (a, .inr (0, fs))) (hn : narrow (.array (.int)) v = v) (hfit : fits (.array (.int)) v = true) (hl : 5 < fs.length) (hdg : decode cc pc = .ok (.putfield 28, 3)) (kk : ∀ (H1 : Heap) (locs1 : List Loc), va_P D vwCl (ws.set q0 (a, .inr (0, fs.set 5 v))) H1 → va_D A (ws.set q0 (a, .inr (0, fs.set 5 v))) → va_S A H0 H1 locs1 → W p l e R s m args below meth c H1 locs1 cells slots Q (F0 m (pc + 3) ls rest)) : W p l e R s m args below meth c H locs cells slots Q (F0 m pc ls (v :: .ref a :: rest)) :=
  va_put (D := D) (ci := 0) (v := v) (ty := .array (.int)) (C := R_RU) (T := F_RU) (N := 6) hx hb hts i_RU t_RU t_RU_ok n_RU hown hK hP hD hS q0 he rfl 5 (by decide) (hts _ k_330) (fun _ h9 => h9) rfl (by decide +kernel) hn hfit hl hdg kk
theorem pF_MA_9 (hx : p.tables.exec = Jvm.exec) (hb : c.code = cc) (hts : ∀ w ∈ wsG, w.before args s = true) (hown : s.vm.findClass R_MA = some m.cls) (hin : meth.name = "<init>") (hK : va_K D vwCl TY s) (hP : va_P D vwCl ws H) (hD : va_D A ws) (hS : va_S A H0 H locs) (q0 : Nat) {fs : List Value} {v : Value} (he : ws[q0]? = some (a, .inr (2, fs))) (hn : narrow (.array (.int)) v = v) (hfit : fits (.array (.int)) v = true) (hl : 0 < fs.length) (hdg : decode cc pc = .ok (.putfield 9, 3)) (kk : ∀ (H1 : Heap) (locs1 : List Loc), va_P D vwCl (ws.set q0 (a, .inr (2, fs.set 0 v))) H1 → va_D A (ws.set q0 (a, .inr (2, fs.set 0 v))) → va_S A H0 H1 locs1 → W p l e R s m args below meth c H1 locs1 cells slots Q (F0 m (pc + 3) ls rest)) : W p l e R s m args below meth c H locs cells slots Q (F0 m pc ls (v :: .ref a :: rest)) :=
  va_putF (D := D) (ci := 2) (v := v) (ty := .array (.int)) (C := R_MA) (T := F_MA) (N := 7) hx hb hts i_MA t_MA t_MA_ok n_MA hown hK hP hD hS q0 he rfl 0 (by decide) (hts _ k_8) (fun _ h9 => h9) rfl hin rfl (by decide +kernel) hn hfit hl hdg kk
theorem pF_MA_15 (hx : p.tables.exec = Jvm.exec) (hb : c.code = cc) (hts : ∀ w ∈ wsG, w.before args s = true) (hown : s.vm.findClass R_MA = some m.cls) (hin : meth.name = "<init>") (hK : va_K D vwCl TY s) (hP : va_P D vwCl ws H) (hD : va_D A ws) (hS : va_S A H0 H locs) (q0 : Nat) {fs : List Value} {v : Value} (he : ws[q0]? = some (a, .inr (2, fs))) (hn : narrow (.array (.int)) v = v) (hfit : fits (.array (.int)) v = true) (hl : 1 < fs.length) (hdg : decode cc pc = .ok (.putfield 15, 3)) (kk : ∀ (H1 : Heap) (locs1 : List Loc), va_P D vwCl (ws.set q0 (a, .inr (2, fs.set 1 v))) H1 → va_D A (ws.set q0 (a, .inr (2, fs.set 1 v))) → va_S A H0 H1 locs1 → W p l e R s m args below meth c H1 locs1 cells slots Q (F0 m (pc + 3) ls rest)) : W p l e R s m args below meth c H locs cells slots Q (F0 m pc ls (v :: .ref a :: rest)) :=
  va_putF (D := D) (ci := 2) (v := v) (ty := .array (.int)) (C := R_MA) (T := F_MA) (N := 7) hx hb hts i_MA t_MA t_MA_ok n_MA hown hK hP hD hS q0 he rfl 1 (by decide) (hts _ k_9) (fun _ h9 => h9) rfl hin rfl (by decide +kernel) hn hfit hl hdg kk
theorem pF_MA_20 (hx : p.tables.exec = Jvm.exec) (hb : c.code = cc) (hts : ∀ w ∈ wsG, w.before args s = true) (hown : s.vm.findClass R_MA = some m.cls) (hin : meth.name = "<init>") (hK : va_K D vwCl TY s) (hP : va_P D vwCl ws H) (hD : va_D A ws) (hS : va_S A H0 H locs) (q0 : Nat) {fs : List Value} {v : Value} (he : ws[q0]? = some (a, .inr (2, fs))) (hn : narrow (.array (.object "SmallExhaust$Rule")) v = v) (hfit : fits (.array (.object "SmallExhaust$Rule")) v = true) (hl : 2 < fs.length) (hdg : decode cc pc = .ok (.putfield 20, 3)) (kk : ∀ (H1 : Heap) (locs1 : List Loc), va_P D vwCl (ws.set q0 (a, .inr (2, fs.set 2 v))) H1 → va_D A (ws.set q0 (a, .inr (2, fs.set 2 v))) → va_S A H0 H1 locs1 → W p l e R s m args below meth c H1 locs1 cells slots Q (F0 m (pc + 3) ls rest)) : W p l e R s m args below meth c H locs cells slots Q (F0 m pc ls (v :: .ref a :: rest)) :=
  va_putF (D := D) (ci := 2) (v := v) (ty := .array (.object "SmallExhaust$Rule")) (C := R_MA) (T := F_MA) (N := 7) hx hb hts i_MA t_MA t_MA_ok n_MA hown hK hP hD hS q0 he rfl 2 (by decide) (hts _ k_153) (fun _ h9 => h9) rfl hin rfl (by decide +kernel) hn hfit hl hdg kk
theorem pF_WA_12 (hx : p.tables.exec = Jvm.exec) (hb : c.code = cc) (hts : ∀ w ∈ wsG, w.before args s = true) (hown : s.vm.findClass R_WA = some m.cls) (hin : meth.name = "<init>") (hK : va_K D vwCl TY s) (hP : va_P D vwCl ws H) (hD : va_D A ws) (hS : va_S A H0 H locs) (q0 : Nat) {fs : List Value} {v : Value} (he : ws[q0]? = some (a, .inr (3, fs))) (hn : narrow (.object "SmallExhaust$Trail") v = v) (hfit : fits (.object "SmallExhaust$Trail") v = true) (hl : 0 < fs.length) (hdg : decode cc pc = .ok (.putfield 12, 3)) (kk : ∀ (H1 : Heap) (locs1 : List Loc), va_P D vwCl (ws.set q0 (a, .inr (3, fs.set 0 v))) H1 → va_D A (ws.set q0 (a, .inr (3, fs.set 0 v))) → va_S A H0 H1 locs1 → W p l e R s m args below meth c H1 locs1 cells slots Q (F0 m (pc + 3) ls rest)) : W p l e R s m args below meth c H locs cells slots Q (F0 m pc ls (v :: .ref a :: rest)) :=
  va_putF (D := D) (ci := 3) (v := v) (ty := .object "SmallExhaust$Trail") (C := R_WA) (T := F_WA) (N := 9) hx hb hts i_WA t_WA t_WA_ok n_WA hown hK hP hD hS q0 he rfl 0 (by decide) (hts _ k_188) (fun _ h9 => h9) rfl hin rfl (by decide +kernel) hn hfit hl hdg kk
theorem pF_TE_21 (hx : p.tables.exec = Jvm.exec) (hb : c.code = cc) (hts : ∀ w ∈ wsG, w.before args s = true) (hown : s.vm.findClass R_TE = some m.cls) (hin : meth.name = "<init>") (hK : va_K D vwCl TY s) (hP : va_P D vwCl ws H) (hD : va_D A ws) (hS : va_S A H0 H locs) (q0 : Nat) {fs : List Value} {v : Value} (he : ws[q0]? = some (a, .inr (5, fs))) (hn : narrow (.object "SmallExhaust$Trail") v = v) (hfit : fits (.object "SmallExhaust$Trail") v = true) (hl : 2 < fs.length) (hdg : decode cc pc = .ok (.putfield 21, 3)) (kk : ∀ (H1 : Heap) (locs1 : List Loc), va_P D vwCl (ws.set q0 (a, .inr (5, fs.set 2 v))) H1 → va_D A (ws.set q0 (a, .inr (5, fs.set 2 v))) → va_S A H0 H1 locs1 → W p l e R s m args below meth c H1 locs1 cells slots Q (F0 m (pc + 3) ls rest)) : W p l e R s m args below meth c H locs cells slots Q (F0 m pc ls (v :: .ref a :: rest)) :=
  va_putF (D := D) (ci := 5) (v := v) (ty := .object "SmallExhaust$Trail") (C := R_TE) (T := F_TE) (N := 9) hx hb hts i_TE t_TE t_TE_ok n_TE hown hK hP hD hS q0 he rfl 2 (by decide) (hts _ k_277) (fun _ h9 => h9) rfl hin rfl (by decide +kernel) hn hfit hl hdg kk
theorem pF_SE_12 (hx : p.tables.exec = Jvm.exec) (hb : c.code = cc) (hts : ∀ w ∈ wsG, w.before args s = true) (hown : s.vm.findClass R_SE = some m.cls) (hin : meth.name = "<init>") (hK : va_K D vwCl TY s) (hP : va_P D vwCl ws H) (hD : va_D A ws) (hS : va_S A H0 H locs) (q0 : Nat) {fs : List Value} {v : Value} (he : ws[q0]? = some (a, .inr (6, fs))) (hn : narrow (.object "SmallExhaust$Machine") v = v) (hfit : fits (.object "SmallExhaust$Machine") v = true) (hl : 0 < fs.length) (hdg : decode cc pc = .ok (.putfield 12, 3)) (kk : ∀ (H1 : Heap) (locs1 : List Loc), va_P D vwCl (ws.set q0 (a, .inr (6, fs.set 0 v))) H1 → va_D A (ws.set q0 (a, .inr (6, fs.set 0 v))) → va_S A H0 H1 locs1 → W p l e R s m args below meth c H1 locs1 cells slots Q (F0 m (pc + 3) ls rest)) : W p l e R s m args below meth c H locs cells slots Q (F0 m pc ls (v :: .ref a :: rest)) :=
  va_putF (D := D) (ci := 6) (v := v) (ty := .object "SmallExhaust$Machine") (C := R_SE) (T := F_SE) (N := 6) hx hb hts i_SE t_SE t_SE_ok n_SE hown hK hP hD hS q0 he rfl 0 (by decide) (hts _ k_331) (fun _ h9 => h9) rfl hin rfl (by decide +kernel) hn hfit hl hdg kk
theorem pF_SE_19 (hx : p.tables.exec = Jvm.exec) (hb : c.code = cc) (hts : ∀ w ∈ wsG, w.before args s = true) (hown : s.vm.findClass R_SE = some m.cls) (hin : meth.name = "<init>") (hK : va_K D vwCl TY s) (hP : va_P D vwCl ws H) (hD : va_D A ws) (hS : va_S A H0 H locs) (q0 : Nat) {fs : List Value} {v : Value} (he : ws[q0]? = some (a, .inr (6, fs))) (hn : narrow (.object "SmallExhaust$Walk") v = v) (hfit : fits (.object "SmallExhaust$Walk") v = true) (hl : 1 < fs.length) (hdg : decode cc pc = .ok (.putfield 19, 3)) (kk : ∀ (H1 : Heap) (locs1 : List Loc), va_P D vwCl (ws.set q0 (a, .inr (6, fs.set 1 v))) H1 → va_D A (ws.set q0 (a, .inr (6, fs.set 1 v))) → va_S A H0 H1 locs1 → W p l e R s m args below meth c H1 locs1 cells slots Q (F0 m (pc + 3) ls rest)) : W p l e R s m args below meth c H locs cells slots Q (F0 m pc ls (v :: .ref a :: rest)) :=
  va_putF (D := D) (ci := 6) (v := v) (ty := .object "SmallExhaust$Walk") (C := R_SE) (T := F_SE) (N := 6) hx hb hts i_SE t_SE t_SE_ok n_SE hown hK hP hD hS q0 he rfl 1 (by decide) (hts _ k_332) (fun _ h9 => h9) rfl hin rfl (by decide +kernel) hn hfit hl hdg kk
theorem pF_SE_26 (hx : p.tables.exec = Jvm.exec) (hb : c.code = cc) (hts : ∀ w ∈ wsG, w.before args s = true) (hown : s.vm.findClass R_SE = some m.cls) (hin : meth.name = "<init>") (hK : va_K D vwCl TY s) (hP : va_P D vwCl ws H) (hD : va_D A ws) (hS : va_S A H0 H locs) (q0 : Nat) {fs : List Value} {v : Value} (he : ws[q0]? = some (a, .inr (6, fs))) (hn : narrow (.object "SmallExhaust$Grouping") v = v) (hfit : fits (.object "SmallExhaust$Grouping") v = true) (hl : 2 < fs.length) (hdg : decode cc pc = .ok (.putfield 26, 3)) (kk : ∀ (H1 : Heap) (locs1 : List Loc), va_P D vwCl (ws.set q0 (a, .inr (6, fs.set 2 v))) H1 → va_D A (ws.set q0 (a, .inr (6, fs.set 2 v))) → va_S A H0 H1 locs1 → W p l e R s m args below meth c H1 locs1 cells slots Q (F0 m (pc + 3) ls rest)) : W p l e R s m args below meth c H locs cells slots Q (F0 m pc ls (v :: .ref a :: rest)) :=
  va_putF (D := D) (ci := 6) (v := v) (ty := .object "SmallExhaust$Grouping") (C := R_SE) (T := F_SE) (N := 6) hx hb hts i_SE t_SE t_SE_ok n_SE hown hK hP hD hS q0 he rfl 2 (by decide) (hts _ k_333) (fun _ h9 => h9) rfl hin rfl (by decide +kernel) hn hfit hl hdg kk
theorem pF_SE_33 (hx : p.tables.exec = Jvm.exec) (hb : c.code = cc) (hts : ∀ w ∈ wsG, w.before args s = true) (hown : s.vm.findClass R_SE = some m.cls) (hin : meth.name = "<init>") (hK : va_K D vwCl TY s) (hP : va_P D vwCl ws H) (hD : va_D A ws) (hS : va_S A H0 H locs) (q0 : Nat) {fs : List Value} {v : Value} (he : ws[q0]? = some (a, .inr (6, fs))) (hn : narrow (.object "SmallExhaust$Telling") v = v) (hfit : fits (.object "SmallExhaust$Telling") v = true) (hl : 3 < fs.length) (hdg : decode cc pc = .ok (.putfield 33, 3)) (kk : ∀ (H1 : Heap) (locs1 : List Loc), va_P D vwCl (ws.set q0 (a, .inr (6, fs.set 3 v))) H1 → va_D A (ws.set q0 (a, .inr (6, fs.set 3 v))) → va_S A H0 H1 locs1 → W p l e R s m args below meth c H1 locs1 cells slots Q (F0 m (pc + 3) ls rest)) : W p l e R s m args below meth c H locs cells slots Q (F0 m pc ls (v :: .ref a :: rest)) :=
  va_putF (D := D) (ci := 6) (v := v) (ty := .object "SmallExhaust$Telling") (C := R_SE) (T := F_SE) (N := 6) hx hb hts i_SE t_SE t_SE_ok n_SE hown hK hP hD hS q0 he rfl 3 (by decide) (hts _ k_334) (fun _ h9 => h9) rfl hin rfl (by decide +kernel) hn hfit hl hdg kk
theorem pf_SE_37 (hx : p.tables.exec = Jvm.exec) (hb : c.code = cc) (hts : ∀ w ∈ wsG, w.before args s = true) (hown : s.vm.findClass R_SE = some m.cls) (hK : va_K D vwCl TY s) (hP : va_P D vwCl ws H) (hD : va_D A ws) (hS : va_S A H0 H locs) (q0 : Nat) {fs : List Value} {v : Value} (he : ws[q0]? = some (a, .inr (6, fs))) (hn : narrow (.int) v = v) (hfit : fits (.int) v = true) (hl : 5 < fs.length) (hdg : decode cc pc = .ok (.putfield 37, 3)) (kk : ∀ (H1 : Heap) (locs1 : List Loc), va_P D vwCl (ws.set q0 (a, .inr (6, fs.set 5 v))) H1 → va_D A (ws.set q0 (a, .inr (6, fs.set 5 v))) → va_S A H0 H1 locs1 → W p l e R s m args below meth c H1 locs1 cells slots Q (F0 m (pc + 3) ls rest)) : W p l e R s m args below meth c H locs cells slots Q (F0 m pc ls (v :: .ref a :: rest)) :=
  va_put (D := D) (ci := 6) (v := v) (ty := .int) (C := R_SE) (T := F_SE) (N := 6) hx hb hts i_SE t_SE t_SE_ok n_SE hown hK hP hD hS q0 he rfl 5 (by decide) (hts _ k_335) (fun _ h9 => h9) rfl (by decide +kernel) hn hfit hl hdg kk
theorem pF_SE_47 (hx : p.tables.exec = Jvm.exec) (hb : c.code = cc) (hts : ∀ w ∈ wsG, w.before args s = true) (hown : s.vm.findClass R_SE = some m.cls) (hin : meth.name = "<init>") (hK : va_K D vwCl TY s) (hP : va_P D vwCl ws H) (hD : va_D A ws) (hS : va_S A H0 H locs) (q0 : Nat) {fs : List Value} {v : Value} (he : ws[q0]? = some (a, .inr (6, fs))) (hn : narrow (.int) v = v) (hfit : fits (.int) v = true) (hl : 4 < fs.length) (hdg : decode cc pc = .ok (.putfield 47, 3)) (kk : ∀ (H1 : Heap) (locs1 : List Loc), va_P D vwCl (ws.set q0 (a, .inr (6, fs.set 4 v))) H1 → va_D A (ws.set q0 (a, .inr (6, fs.set 4 v))) → va_S A H0 H1 locs1 → W p l e R s m args below meth c H1 locs1 cells slots Q (F0 m (pc + 3) ls rest)) : W p l e R s m args below meth c H locs cells slots Q (F0 m pc ls (v :: .ref a :: rest)) :=
  va_putF (D := D) (ci := 6) (v := v) (ty := .int) (C := R_SE) (T := F_SE) (N := 6) hx hb hts i_SE t_SE t_SE_ok n_SE hown hK hP hD hS q0 he rfl 4 (by decide) (hts _ k_336) (fun _ h9 => h9) rfl hin rfl (by decide +kernel) hn hfit hl hdg kk
theorem pF_MO_7 (hx : p.tables.exec = Jvm.exec) (hb : c.code = cc) (hts : ∀ w ∈ wsG, w.before args s = true) (hown : s.vm.findClass R_MO = some m.cls) (hin : meth.name = "<init>") (hK : va_K D vwCl TY s) (hP : va_P D vwCl ws H) (hD : va_D A ws) (hS : va_S A H0 H locs) (q0 : Nat) {fs : List Value} {v : Value} (he : ws[q0]? = some (a, .inr (7, fs))) (hn : narrow (.array (.int)) v = v) (hfit : fits (.array (.int)) v = true) (hl : 6 < fs.length) (hdg : decode cc pc = .ok (.putfield 7, 3)) (kk : ∀ (H1 : Heap) (locs1 : List Loc), va_P D vwCl (ws.set q0 (a, .inr (7, fs.set 6 v))) H1 → va_D A (ws.set q0 (a, .inr (7, fs.set 6 v))) → va_S A H0 H1 locs1 → W p l e R s m args below meth c H1 locs1 cells slots Q (F0 m (pc + 3) ls rest)) : W p l e R s m args below meth c H locs cells slots Q (F0 m pc ls (v :: .ref a :: rest)) :=
  va_putF (D := D) (ci := 7) (v := v) (ty := .array (.int)) (C := R_MO) (T := F_MO) (N := 41) hx hb hts i_MO t_MO t_MO_ok n_MO hown hK hP hD hS q0 he rfl 6 (by decide) (hts _ k_28) (fun _ h9 => h9) rfl hin rfl (by decide +kernel) hn hfit hl hdg kk
theorem pF_MO_13 (hx : p.tables.exec = Jvm.exec) (hb : c.code = cc) (hts : ∀ w ∈ wsG, w.before args s = true) (hown : s.vm.findClass R_MO = some m.cls) (hin : meth.name = "<init>") (hK : va_K D vwCl TY s) (hP : va_P D vwCl ws H) (hD : va_D A ws) (hS : va_S A H0 H locs) (q0 : Nat) {fs : List Value} {v : Value} (he : ws[q0]? = some (a, .inr (7, fs))) (hn : narrow (.array (.int)) v = v) (hfit : fits (.array (.int)) v = true) (hl : 7 < fs.length) (hdg : decode cc pc = .ok (.putfield 13, 3)) (kk : ∀ (H1 : Heap) (locs1 : List Loc), va_P D vwCl (ws.set q0 (a, .inr (7, fs.set 7 v))) H1 → va_D A (ws.set q0 (a, .inr (7, fs.set 7 v))) → va_S A H0 H1 locs1 → W p l e R s m args below meth c H1 locs1 cells slots Q (F0 m (pc + 3) ls rest)) : W p l e R s m args below meth c H locs cells slots Q (F0 m pc ls (v :: .ref a :: rest)) :=
  va_putF (D := D) (ci := 7) (v := v) (ty := .array (.int)) (C := R_MO) (T := F_MO) (N := 41) hx hb hts i_MO t_MO t_MO_ok n_MO hown hK hP hD hS q0 he rfl 7 (by decide) (hts _ k_29) (fun _ h9 => h9) rfl hin rfl (by decide +kernel) hn hfit hl hdg kk
theorem pF_MO_16 (hx : p.tables.exec = Jvm.exec) (hb : c.code = cc) (hts : ∀ w ∈ wsG, w.before args s = true) (hown : s.vm.findClass R_MO = some m.cls) (hin : meth.name = "<init>") (hK : va_K D vwCl TY s) (hP : va_P D vwCl ws H) (hD : va_D A ws) (hS : va_S A H0 H locs) (q0 : Nat) {fs : List Value} {v : Value} (he : ws[q0]? = some (a, .inr (7, fs))) (hn : narrow (.array (.int)) v = v) (hfit : fits (.array (.int)) v = true) (hl : 8 < fs.length) (hdg : decode cc pc = .ok (.putfield 16, 3)) (kk : ∀ (H1 : Heap) (locs1 : List Loc), va_P D vwCl (ws.set q0 (a, .inr (7, fs.set 8 v))) H1 → va_D A (ws.set q0 (a, .inr (7, fs.set 8 v))) → va_S A H0 H1 locs1 → W p l e R s m args below meth c H1 locs1 cells slots Q (F0 m (pc + 3) ls rest)) : W p l e R s m args below meth c H locs cells slots Q (F0 m pc ls (v :: .ref a :: rest)) :=
  va_putF (D := D) (ci := 7) (v := v) (ty := .array (.int)) (C := R_MO) (T := F_MO) (N := 41) hx hb hts i_MO t_MO t_MO_ok n_MO hown hK hP hD hS q0 he rfl 8 (by decide) (hts _ k_31) (fun _ h9 => h9) rfl hin rfl (by decide +kernel) hn hfit hl hdg kk
theorem pF_MO_19 (hx : p.tables.exec = Jvm.exec) (hb : c.code = cc) (hts : ∀ w ∈ wsG, w.before args s = true) (hown : s.vm.findClass R_MO = some m.cls) (hin : meth.name = "<init>") (hK : va_K D vwCl TY s) (hP : va_P D vwCl ws H) (hD : va_D A ws) (hS : va_S A H0 H locs) (q0 : Nat) {fs : List Value} {v : Value} (he : ws[q0]? = some (a, .inr (7, fs))) (hn : narrow (.array (.int)) v = v) (hfit : fits (.array (.int)) v = true) (hl : 9 < fs.length) (hdg : decode cc pc = .ok (.putfield 19, 3)) (kk : ∀ (H1 : Heap) (locs1 : List Loc), va_P D vwCl (ws.set q0 (a, .inr (7, fs.set 9 v))) H1 → va_D A (ws.set q0 (a, .inr (7, fs.set 9 v))) → va_S A H0 H1 locs1 → W p l e R s m args below meth c H1 locs1 cells slots Q (F0 m (pc + 3) ls rest)) : W p l e R s m args below meth c H locs cells slots Q (F0 m pc ls (v :: .ref a :: rest)) :=
  va_putF (D := D) (ci := 7) (v := v) (ty := .array (.int)) (C := R_MO) (T := F_MO) (N := 41) hx hb hts i_MO t_MO t_MO_ok n_MO hown hK hP hD hS q0 he rfl 9 (by decide) (hts _ k_32) (fun _ h9 => h9) rfl hin rfl (by decide +kernel) hn hfit hl hdg kk
theorem pF_MO_22 (hx : p.tables.exec = Jvm.exec) (hb : c.code = cc) (hts : ∀ w ∈ wsG, w.before args s = true) (hown : s.vm.findClass R_MO = some m.cls) (hin : meth.name = "<init>") (hK : va_K D vwCl TY s) (hP : va_P D vwCl ws H) (hD : va_D A ws) (hS : va_S A H0 H locs) (q0 : Nat) {fs : List Value} {v : Value} (he : ws[q0]? = some (a, .inr (7, fs))) (hn : narrow (.array (.int)) v = v) (hfit : fits (.array (.int)) v = true) (hl : 10 < fs.length) (hdg : decode cc pc = .ok (.putfield 22, 3)) (kk : ∀ (H1 : Heap) (locs1 : List Loc), va_P D vwCl (ws.set q0 (a, .inr (7, fs.set 10 v))) H1 → va_D A (ws.set q0 (a, .inr (7, fs.set 10 v))) → va_S A H0 H1 locs1 → W p l e R s m args below meth c H1 locs1 cells slots Q (F0 m (pc + 3) ls rest)) : W p l e R s m args below meth c H locs cells slots Q (F0 m pc ls (v :: .ref a :: rest)) :=
  va_putF (D := D) (ci := 7) (v := v) (ty := .array (.int)) (C := R_MO) (T := F_MO) (N := 41) hx hb hts i_MO t_MO t_MO_ok n_MO hown hK hP hD hS q0 he rfl 10 (by decide) (hts _ k_33) (fun _ h9 => h9) rfl hin rfl (by decide +kernel) hn hfit hl hdg kk
theorem pF_MO_25 (hx : p.tables.exec = Jvm.exec) (hb : c.code = cc) (hts : ∀ w ∈ wsG, w.before args s = true) (hown : s.vm.findClass R_MO = some m.cls) (hin : meth.name = "<init>") (hK : va_K D vwCl TY s) (hP : va_P D vwCl ws H) (hD : va_D A ws) (hS : va_S A H0 H locs) (q0 : Nat) {fs : List Value} {v : Value} (he : ws[q0]? = some (a, .inr (7, fs))) (hn : narrow (.array (.int)) v = v) (hfit : fits (.array (.int)) v = true) (hl : 11 < fs.length) (hdg : decode cc pc = .ok (.putfield 25, 3)) (kk : ∀ (H1 : Heap) (locs1 : List Loc), va_P D vwCl (ws.set q0 (a, .inr (7, fs.set 11 v))) H1 → va_D A (ws.set q0 (a, .inr (7, fs.set 11 v))) → va_S A H0 H1 locs1 → W p l e R s m args below meth c H1 locs1 cells slots Q (F0 m (pc + 3) ls rest)) : W p l e R s m args below meth c H locs cells slots Q (F0 m pc ls (v :: .ref a :: rest)) :=
  va_putF (D := D) (ci := 7) (v := v) (ty := .array (.int)) (C := R_MO) (T := F_MO) (N := 41) hx hb hts i_MO t_MO t_MO_ok n_MO hown hK hP hD hS q0 he rfl 11 (by decide) (hts _ k_34) (fun _ h9 => h9) rfl hin rfl (by decide +kernel) hn hfit hl hdg kk
theorem pF_MO_28 (hx : p.tables.exec = Jvm.exec) (hb : c.code = cc) (hts : ∀ w ∈ wsG, w.before args s = true) (hown : s.vm.findClass R_MO = some m.cls) (hin : meth.name = "<init>") (hK : va_K D vwCl TY s) (hP : va_P D vwCl ws H) (hD : va_D A ws) (hS : va_S A H0 H locs) (q0 : Nat) {fs : List Value} {v : Value} (he : ws[q0]? = some (a, .inr (7, fs))) (hn : narrow (.array (.int)) v = v) (hfit : fits (.array (.int)) v = true) (hl : 12 < fs.length) (hdg : decode cc pc = .ok (.putfield 28, 3)) (kk : ∀ (H1 : Heap) (locs1 : List Loc), va_P D vwCl (ws.set q0 (a, .inr (7, fs.set 12 v))) H1 → va_D A (ws.set q0 (a, .inr (7, fs.set 12 v))) → va_S A H0 H1 locs1 → W p l e R s m args below meth c H1 locs1 cells slots Q (F0 m (pc + 3) ls rest)) : W p l e R s m args below meth c H locs cells slots Q (F0 m pc ls (v :: .ref a :: rest)) :=
  va_putF (D := D) (ci := 7) (v := v) (ty := .array (.int)) (C := R_MO) (T := F_MO) (N := 41) hx hb hts i_MO t_MO t_MO_ok n_MO hown hK hP hD hS q0 he rfl 12 (by decide) (hts _ k_35) (fun _ h9 => h9) rfl hin rfl (by decide +kernel) hn hfit hl hdg kk
theorem pF_MO_31 (hx : p.tables.exec = Jvm.exec) (hb : c.code = cc) (hts : ∀ w ∈ wsG, w.before args s = true) (hown : s.vm.findClass R_MO = some m.cls) (hin : meth.name = "<init>") (hK : va_K D vwCl TY s) (hP : va_P D vwCl ws H) (hD : va_D A ws) (hS : va_S A H0 H locs) (q0 : Nat) {fs : List Value} {v : Value} (he : ws[q0]? = some (a, .inr (7, fs))) (hn : narrow (.array (.int)) v = v) (hfit : fits (.array (.int)) v = true) (hl : 13 < fs.length) (hdg : decode cc pc = .ok (.putfield 31, 3)) (kk : ∀ (H1 : Heap) (locs1 : List Loc), va_P D vwCl (ws.set q0 (a, .inr (7, fs.set 13 v))) H1 → va_D A (ws.set q0 (a, .inr (7, fs.set 13 v))) → va_S A H0 H1 locs1 → W p l e R s m args below meth c H1 locs1 cells slots Q (F0 m (pc + 3) ls rest)) : W p l e R s m args below meth c H locs cells slots Q (F0 m pc ls (v :: .ref a :: rest)) :=
  va_putF (D := D) (ci := 7) (v := v) (ty := .array (.int)) (C := R_MO) (T := F_MO) (N := 41) hx hb hts i_MO t_MO t_MO_ok n_MO hown hK hP hD hS q0 he rfl 13 (by decide) (hts _ k_36) (fun _ h9 => h9) rfl hin rfl (by decide +kernel) hn hfit hl hdg kk
theorem pF_MO_34 (hx : p.tables.exec = Jvm.exec) (hb : c.code = cc) (hts : ∀ w ∈ wsG, w.before args s = true) (hown : s.vm.findClass R_MO = some m.cls) (hin : meth.name = "<init>") (hK : va_K D vwCl TY s) (hP : va_P D vwCl ws H) (hD : va_D A ws) (hS : va_S A H0 H locs) (q0 : Nat) {fs : List Value} {v : Value} (he : ws[q0]? = some (a, .inr (7, fs))) (hn : narrow (.array (.int)) v = v) (hfit : fits (.array (.int)) v = true) (hl : 14 < fs.length) (hdg : decode cc pc = .ok (.putfield 34, 3)) (kk : ∀ (H1 : Heap) (locs1 : List Loc), va_P D vwCl (ws.set q0 (a, .inr (7, fs.set 14 v))) H1 → va_D A (ws.set q0 (a, .inr (7, fs.set 14 v))) → va_S A H0 H1 locs1 → W p l e R s m args below meth c H1 locs1 cells slots Q (F0 m (pc + 3) ls rest)) : W p l e R s m args below meth c H locs cells slots Q (F0 m pc ls (v :: .ref a :: rest)) :=
  va_putF (D := D) (ci := 7) (v := v) (ty := .array (.int)) (C := R_MO) (T := F_MO) (N := 41) hx hb hts i_MO t_MO t_MO_ok n_MO hown hK hP hD hS q0 he rfl 14 (by decide) (hts _ k_37) (fun _ h9 => h9) rfl hin rfl (by decide +kernel) hn hfit hl hdg kk
theorem pF_MO_37 (hx : p.tables.exec = Jvm.exec) (hb : c.code = cc) (hts : ∀ w ∈ wsG, w.before args s = true) (hown : s.vm.findClass R_MO = some m.cls) (hin : meth.name = "<init>") (hK : va_K D vwCl TY s) (hP : va_P D vwCl ws H) (hD : va_D A ws) (hS : va_S A H0 H locs) (q0 : Nat) {fs : List Value} {v : Value} (he : ws[q0]? = some (a, .inr (7, fs))) (hn : narrow (.array (.int)) v = v) (hfit : fits (.array (.int)) v = true) (hl : 15 < fs.length) (hdg : decode cc pc = .ok (.putfield 37, 3)) (kk : ∀ (H1 : Heap) (locs1 : List Loc), va_P D vwCl (ws.set q0 (a, .inr (7, fs.set 15 v))) H1 → va_D A (ws.set q0 (a, .inr (7, fs.set 15 v))) → va_S A H0 H1 locs1 → W p l e R s m args below meth c H1 locs1 cells slots Q (F0 m (pc + 3) ls rest)) : W p l e R s m args below meth c H locs cells slots Q (F0 m pc ls (v :: .ref a :: rest)) :=
  va_putF (D := D) (ci := 7) (v := v) (ty := .array (.int)) (C := R_MO) (T := F_MO) (N := 41) hx hb hts i_MO t_MO t_MO_ok n_MO hown hK hP hD hS q0 he rfl 15 (by decide) (hts _ k_38) (fun _ h9 => h9) rfl hin rfl (by decide +kernel) hn hfit hl hdg kk
theorem pF_MO_40 (hx : p.tables.exec = Jvm.exec) (hb : c.code = cc) (hts : ∀ w ∈ wsG, w.before args s = true) (hown : s.vm.findClass R_MO = some m.cls) (hin : meth.name = "<init>") (hK : va_K D vwCl TY s) (hP : va_P D vwCl ws H) (hD : va_D A ws) (hS : va_S A H0 H locs) (q0 : Nat) {fs : List Value} {v : Value} (he : ws[q0]? = some (a, .inr (7, fs))) (hn : narrow (.array (.int)) v = v) (hfit : fits (.array (.int)) v = true) (hl : 17 < fs.length) (hdg : decode cc pc = .ok (.putfield 40, 3)) (kk : ∀ (H1 : Heap) (locs1 : List Loc), va_P D vwCl (ws.set q0 (a, .inr (7, fs.set 17 v))) H1 → va_D A (ws.set q0 (a, .inr (7, fs.set 17 v))) → va_S A H0 H1 locs1 → W p l e R s m args below meth c H1 locs1 cells slots Q (F0 m (pc + 3) ls rest)) : W p l e R s m args below meth c H locs cells slots Q (F0 m pc ls (v :: .ref a :: rest)) :=
  va_putF (D := D) (ci := 7) (v := v) (ty := .array (.int)) (C := R_MO) (T := F_MO) (N := 41) hx hb hts i_MO t_MO t_MO_ok n_MO hown hK hP hD hS q0 he rfl 17 (by decide) (hts _ k_47) (fun _ h9 => h9) rfl hin rfl (by decide +kernel) hn hfit hl hdg kk
theorem pF_MO_43 (hx : p.tables.exec = Jvm.exec) (hb : c.code = cc) (hts : ∀ w ∈ wsG, w.before args s = true) (hown : s.vm.findClass R_MO = some m.cls) (hin : meth.name = "<init>") (hK : va_K D vwCl TY s) (hP : va_P D vwCl ws H) (hD : va_D A ws) (hS : va_S A H0 H locs) (q0 : Nat) {fs : List Value} {v : Value} (he : ws[q0]? = some (a, .inr (7, fs))) (hn : narrow (.array (.int)) v = v) (hfit : fits (.array (.int)) v = true) (hl : 18 < fs.length) (hdg : decode cc pc = .ok (.putfield 43, 3)) (kk : ∀ (H1 : Heap) (locs1 : List Loc), va_P D vwCl (ws.set q0 (a, .inr (7, fs.set 18 v))) H1 → va_D A (ws.set q0 (a, .inr (7, fs.set 18 v))) → va_S A H0 H1 locs1 → W p l e R s m args below meth c H1 locs1 cells slots Q (F0 m (pc + 3) ls rest)) : W p l e R s m args below meth c H locs cells slots Q (F0 m pc ls (v :: .ref a :: rest)) :=
  va_putF (D := D) (ci := 7) (v := v) (ty := .array (.int)) (C := R_MO) (T := F_MO) (N := 41) hx hb hts i_MO t_MO t_MO_ok n_MO hown hK hP hD hS q0 he rfl 18 (by decide) (hts _ k_90) (fun _ h9 => h9) rfl hin rfl (by decide +kernel) hn hfit hl hdg kk
theorem pF_MO_46 (hx : p.tables.exec = Jvm.exec) (hb : c.code = cc) (hts : ∀ w ∈ wsG, w.before args s = true) (hown : s.vm.findClass R_MO = some m.cls) (hin : meth.name = "<init>") (hK : va_K D vwCl TY s) (hP : va_P D vwCl ws H) (hD : va_D A ws) (hS : va_S A H0 H locs) (q0 : Nat) {fs : List Value} {v : Value} (he : ws[q0]? = some (a, .inr (7, fs))) (hn : narrow (.array (.int)) v = v) (hfit : fits (.array (.int)) v = true) (hl : 21 < fs.length) (hdg : decode cc pc = .ok (.putfield 46, 3)) (kk : ∀ (H1 : Heap) (locs1 : List Loc), va_P D vwCl (ws.set q0 (a, .inr (7, fs.set 21 v))) H1 → va_D A (ws.set q0 (a, .inr (7, fs.set 21 v))) → va_S A H0 H1 locs1 → W p l e R s m args below meth c H1 locs1 cells slots Q (F0 m (pc + 3) ls rest)) : W p l e R s m args below meth c H locs cells slots Q (F0 m pc ls (v :: .ref a :: rest)) :=
  va_putF (D := D) (ci := 7) (v := v) (ty := .array (.int)) (C := R_MO) (T := F_MO) (N := 41) hx hb hts i_MO t_MO t_MO_ok n_MO hown hK hP hD hS q0 he rfl 21 (by decide) (hts _ k_40) (fun _ h9 => h9) rfl hin rfl (by decide +kernel) hn hfit hl hdg kk
theorem pF_MO_49 (hx : p.tables.exec = Jvm.exec) (hb : c.code = cc) (hts : ∀ w ∈ wsG, w.before args s = true) (hown : s.vm.findClass R_MO = some m.cls) (hin : meth.name = "<init>") (hK : va_K D vwCl TY s) (hP : va_P D vwCl ws H) (hD : va_D A ws) (hS : va_S A H0 H locs) (q0 : Nat) {fs : List Value} {v : Value} (he : ws[q0]? = some (a, .inr (7, fs))) (hn : narrow (.array (.int)) v = v) (hfit : fits (.array (.int)) v = true) (hl : 22 < fs.length) (hdg : decode cc pc = .ok (.putfield 49, 3)) (kk : ∀ (H1 : Heap) (locs1 : List Loc), va_P D vwCl (ws.set q0 (a, .inr (7, fs.set 22 v))) H1 → va_D A (ws.set q0 (a, .inr (7, fs.set 22 v))) → va_S A H0 H1 locs1 → W p l e R s m args below meth c H1 locs1 cells slots Q (F0 m (pc + 3) ls rest)) : W p l e R s m args below meth c H locs cells slots Q (F0 m pc ls (v :: .ref a :: rest)) :=
  va_putF (D := D) (ci := 7) (v := v) (ty := .array (.int)) (C := R_MO) (T := F_MO) (N := 41) hx hb hts i_MO t_MO t_MO_ok n_MO hown hK hP hD hS q0 he rfl 22 (by decide) (hts _ k_42) (fun _ h9 => h9) rfl hin rfl (by decide +kernel) hn hfit hl hdg kk
theorem pF_MO_52 (hx : p.tables.exec = Jvm.exec) (hb : c.code = cc) (hts : ∀ w ∈ wsG, w.before args s = true) (hown : s.vm.findClass R_MO = some m.cls) (hin : meth.name = "<init>") (hK : va_K D vwCl TY s) (hP : va_P D vwCl ws H) (hD : va_D A ws) (hS : va_S A H0 H locs) (q0 : Nat) {fs : List Value} {v : Value} (he : ws[q0]? = some (a, .inr (7, fs))) (hn : narrow (.array (.int)) v = v) (hfit : fits (.array (.int)) v = true) (hl : 23 < fs.length) (hdg : decode cc pc = .ok (.putfield 52, 3)) (kk : ∀ (H1 : Heap) (locs1 : List Loc), va_P D vwCl (ws.set q0 (a, .inr (7, fs.set 23 v))) H1 → va_D A (ws.set q0 (a, .inr (7, fs.set 23 v))) → va_S A H0 H1 locs1 → W p l e R s m args below meth c H1 locs1 cells slots Q (F0 m (pc + 3) ls rest)) : W p l e R s m args below meth c H locs cells slots Q (F0 m pc ls (v :: .ref a :: rest)) :=
  va_putF (D := D) (ci := 7) (v := v) (ty := .array (.int)) (C := R_MO) (T := F_MO) (N := 41) hx hb hts i_MO t_MO t_MO_ok n_MO hown hK hP hD hS q0 he rfl 23 (by decide) (hts _ k_43) (fun _ h9 => h9) rfl hin rfl (by decide +kernel) hn hfit hl hdg kk
theorem pF_MO_55 (hx : p.tables.exec = Jvm.exec) (hb : c.code = cc) (hts : ∀ w ∈ wsG, w.before args s = true) (hown : s.vm.findClass R_MO = some m.cls) (hin : meth.name = "<init>") (hK : va_K D vwCl TY s) (hP : va_P D vwCl ws H) (hD : va_D A ws) (hS : va_S A H0 H locs) (q0 : Nat) {fs : List Value} {v : Value} (he : ws[q0]? = some (a, .inr (7, fs))) (hn : narrow (.array (.int)) v = v) (hfit : fits (.array (.int)) v = true) (hl : 24 < fs.length) (hdg : decode cc pc = .ok (.putfield 55, 3)) (kk : ∀ (H1 : Heap) (locs1 : List Loc), va_P D vwCl (ws.set q0 (a, .inr (7, fs.set 24 v))) H1 → va_D A (ws.set q0 (a, .inr (7, fs.set 24 v))) → va_S A H0 H1 locs1 → W p l e R s m args below meth c H1 locs1 cells slots Q (F0 m (pc + 3) ls rest)) : W p l e R s m args below meth c H locs cells slots Q (F0 m pc ls (v :: .ref a :: rest)) :=
  va_putF (D := D) (ci := 7) (v := v) (ty := .array (.int)) (C := R_MO) (T := F_MO) (N := 41) hx hb hts i_MO t_MO t_MO_ok n_MO hown hK hP hD hS q0 he rfl 24 (by decide) (hts _ k_44) (fun _ h9 => h9) rfl hin rfl (by decide +kernel) hn hfit hl hdg kk
theorem pF_MO_58 (hx : p.tables.exec = Jvm.exec) (hb : c.code = cc) (hts : ∀ w ∈ wsG, w.before args s = true) (hown : s.vm.findClass R_MO = some m.cls) (hin : meth.name = "<init>") (hK : va_K D vwCl TY s) (hP : va_P D vwCl ws H) (hD : va_D A ws) (hS : va_S A H0 H locs) (q0 : Nat) {fs : List Value} {v : Value} (he : ws[q0]? = some (a, .inr (7, fs))) (hn : narrow (.array (.int)) v = v) (hfit : fits (.array (.int)) v = true) (hl : 25 < fs.length) (hdg : decode cc pc = .ok (.putfield 58, 3)) (kk : ∀ (H1 : Heap) (locs1 : List Loc), va_P D vwCl (ws.set q0 (a, .inr (7, fs.set 25 v))) H1 → va_D A (ws.set q0 (a, .inr (7, fs.set 25 v))) → va_S A H0 H1 locs1 → W p l e R s m args below meth c H1 locs1 cells slots Q (F0 m (pc + 3) ls rest)) : W p l e R s m args below meth c H locs cells slots Q (F0 m pc ls (v :: .ref a :: rest)) :=
  va_putF (D := D) (ci := 7) (v := v) (ty := .array (.int)) (C := R_MO) (T := F_MO) (N := 41) hx hb hts i_MO t_MO t_MO_ok n_MO hown hK hP hD hS q0 he rfl 25 (by decide) (hts _ k_45) (fun _ h9 => h9) rfl hin rfl (by decide +kernel) hn hfit hl hdg kk
theorem pF_MO_61 (hx : p.tables.exec = Jvm.exec) (hb : c.code = cc) (hts : ∀ w ∈ wsG, w.before args s = true) (hown : s.vm.findClass R_MO = some m.cls) (hin : meth.name = "<init>") (hK : va_K D vwCl TY s) (hP : va_P D vwCl ws H) (hD : va_D A ws) (hS : va_S A H0 H locs) (q0 : Nat) {fs : List Value} {v : Value} (he : ws[q0]? = some (a, .inr (7, fs))) (hn : narrow (.array (.int)) v = v) (hfit : fits (.array (.int)) v = true) (hl : 28 < fs.length) (hdg : decode cc pc = .ok (.putfield 61, 3)) (kk : ∀ (H1 : Heap) (locs1 : List Loc), va_P D vwCl (ws.set q0 (a, .inr (7, fs.set 28 v))) H1 → va_D A (ws.set q0 (a, .inr (7, fs.set 28 v))) → va_S A H0 H1 locs1 → W p l e R s m args below meth c H1 locs1 cells slots Q (F0 m (pc + 3) ls rest)) : W p l e R s m args below meth c H locs cells slots Q (F0 m pc ls (v :: .ref a :: rest)) :=
  va_putF (D := D) (ci := 7) (v := v) (ty := .array (.int)) (C := R_MO) (T := F_MO) (N := 41) hx hb hts i_MO t_MO t_MO_ok n_MO hown hK hP hD hS q0 he rfl 28 (by decide) (hts _ k_89) (fun _ h9 => h9) rfl hin rfl (by decide +kernel) hn hfit hl hdg kk
theorem pF_MO_64 (hx : p.tables.exec = Jvm.exec) (hb : c.code = cc) (hts : ∀ w ∈ wsG, w.before args s = true) (hown : s.vm.findClass R_MO = some m.cls) (hin : meth.name = "<init>") (hK : va_K D vwCl TY s) (hP : va_P D vwCl ws H) (hD : va_D A ws) (hS : va_S A H0 H locs) (q0 : Nat) {fs : List Value} {v : Value} (he : ws[q0]? = some (a, .inr (7, fs))) (hn : narrow (.array (.int)) v = v) (hfit : fits (.array (.int)) v = true) (hl : 29 < fs.length) (hdg : decode cc pc = .ok (.putfield 64, 3)) (kk : ∀ (H1 : Heap) (locs1 : List Loc), va_P D vwCl (ws.set q0 (a, .inr (7, fs.set 29 v))) H1 → va_D A (ws.set q0 (a, .inr (7, fs.set 29 v))) → va_S A H0 H1 locs1 → W p l e R s m args below meth c H1 locs1 cells slots Q (F0 m (pc + 3) ls rest)) : W p l e R s m args below meth c H locs cells slots Q (F0 m pc ls (v :: .ref a :: rest)) :=
  va_putF (D := D) (ci := 7) (v := v) (ty := .array (.int)) (C := R_MO) (T := F_MO) (N := 41) hx hb hts i_MO t_MO t_MO_ok n_MO hown hK hP hD hS q0 he rfl 29 (by decide) (hts _ k_93) (fun _ h9 => h9) rfl hin rfl (by decide +kernel) hn hfit hl hdg kk
theorem pF_MO_67 (hx : p.tables.exec = Jvm.exec) (hb : c.code = cc) (hts : ∀ w ∈ wsG, w.before args s = true) (hown : s.vm.findClass R_MO = some m.cls) (hin : meth.name = "<init>") (hK : va_K D vwCl TY s) (hP : va_P D vwCl ws H) (hD : va_D A ws) (hS : va_S A H0 H locs) (q0 : Nat) {fs : List Value} {v : Value} (he : ws[q0]? = some (a, .inr (7, fs))) (hn : narrow (.array (.int)) v = v) (hfit : fits (.array (.int)) v = true) (hl : 30 < fs.length) (hdg : decode cc pc = .ok (.putfield 67, 3)) (kk : ∀ (H1 : Heap) (locs1 : List Loc), va_P D vwCl (ws.set q0 (a, .inr (7, fs.set 30 v))) H1 → va_D A (ws.set q0 (a, .inr (7, fs.set 30 v))) → va_S A H0 H1 locs1 → W p l e R s m args below meth c H1 locs1 cells slots Q (F0 m (pc + 3) ls rest)) : W p l e R s m args below meth c H locs cells slots Q (F0 m pc ls (v :: .ref a :: rest)) :=
  va_putF (D := D) (ci := 7) (v := v) (ty := .array (.int)) (C := R_MO) (T := F_MO) (N := 41) hx hb hts i_MO t_MO t_MO_ok n_MO hown hK hP hD hS q0 he rfl 30 (by decide) (hts _ k_98) (fun _ h9 => h9) rfl hin rfl (by decide +kernel) hn hfit hl hdg kk
theorem pF_MO_70 (hx : p.tables.exec = Jvm.exec) (hb : c.code = cc) (hts : ∀ w ∈ wsG, w.before args s = true) (hown : s.vm.findClass R_MO = some m.cls) (hin : meth.name = "<init>") (hK : va_K D vwCl TY s) (hP : va_P D vwCl ws H) (hD : va_D A ws) (hS : va_S A H0 H locs) (q0 : Nat) {fs : List Value} {v : Value} (he : ws[q0]? = some (a, .inr (7, fs))) (hn : narrow (.array (.int)) v = v) (hfit : fits (.array (.int)) v = true) (hl : 31 < fs.length) (hdg : decode cc pc = .ok (.putfield 70, 3)) (kk : ∀ (H1 : Heap) (locs1 : List Loc), va_P D vwCl (ws.set q0 (a, .inr (7, fs.set 31 v))) H1 → va_D A (ws.set q0 (a, .inr (7, fs.set 31 v))) → va_S A H0 H1 locs1 → W p l e R s m args below meth c H1 locs1 cells slots Q (F0 m (pc + 3) ls rest)) : W p l e R s m args below meth c H locs cells slots Q (F0 m pc ls (v :: .ref a :: rest)) :=
  va_putF (D := D) (ci := 7) (v := v) (ty := .array (.int)) (C := R_MO) (T := F_MO) (N := 41) hx hb hts i_MO t_MO t_MO_ok n_MO hown hK hP hD hS q0 he rfl 31 (by decide) (hts _ k_101) (fun _ h9 => h9) rfl hin rfl (by decide +kernel) hn hfit hl hdg kk
theorem pF_MO_73 (hx : p.tables.exec = Jvm.exec) (hb : c.code = cc) (hts : ∀ w ∈ wsG, w.before args s = true) (hown : s.vm.findClass R_MO = some m.cls) (hin : meth.name = "<init>") (hK : va_K D vwCl TY s) (hP : va_P D vwCl ws H) (hD : va_D A ws) (hS : va_S A H0 H locs) (q0 : Nat) {fs : List Value} {v : Value} (he : ws[q0]? = some (a, .inr (7, fs))) (hn : narrow (.array (.int)) v = v) (hfit : fits (.array (.int)) v = true) (hl : 32 < fs.length) (hdg : decode cc pc = .ok (.putfield 73, 3)) (kk : ∀ (H1 : Heap) (locs1 : List Loc), va_P D vwCl (ws.set q0 (a, .inr (7, fs.set 32 v))) H1 → va_D A (ws.set q0 (a, .inr (7, fs.set 32 v))) → va_S A H0 H1 locs1 → W p l e R s m args below meth c H1 locs1 cells slots Q (F0 m (pc + 3) ls rest)) : W p l e R s m args below meth c H locs cells slots Q (F0 m pc ls (v :: .ref a :: rest)) :=
  va_putF (D := D) (ci := 7) (v := v) (ty := .array (.int)) (C := R_MO) (T := F_MO) (N := 41) hx hb hts i_MO t_MO t_MO_ok n_MO hown hK hP hD hS q0 he rfl 32 (by decide) (hts _ k_99) (fun _ h9 => h9) rfl hin rfl (by decide +kernel) hn hfit hl hdg kk
theorem pF_MO_76 (hx : p.tables.exec = Jvm.exec) (hb : c.code = cc) (hts : ∀ w ∈ wsG, w.before args s = true) (hown : s.vm.findClass R_MO = some m.cls) (hin : meth.name = "<init>") (hK : va_K D vwCl TY s) (hP : va_P D vwCl ws H) (hD : va_D A ws) (hS : va_S A H0 H locs) (q0 : Nat) {fs : List Value} {v : Value} (he : ws[q0]? = some (a, .inr (7, fs))) (hn : narrow (.array (.int)) v = v) (hfit : fits (.array (.int)) v = true) (hl : 33 < fs.length) (hdg : decode cc pc = .ok (.putfield 76, 3)) (kk : ∀ (H1 : Heap) (locs1 : List Loc), va_P D vwCl (ws.set q0 (a, .inr (7, fs.set 33 v))) H1 → va_D A (ws.set q0 (a, .inr (7, fs.set 33 v))) → va_S A H0 H1 locs1 → W p l e R s m args below meth c H1 locs1 cells slots Q (F0 m (pc + 3) ls rest)) : W p l e R s m args below meth c H locs cells slots Q (F0 m pc ls (v :: .ref a :: rest)) :=
  va_putF (D := D) (ci := 7) (v := v) (ty := .array (.int)) (C := R_MO) (T := F_MO) (N := 41) hx hb hts i_MO t_MO t_MO_ok n_MO hown hK hP hD hS q0 he rfl 33 (by decide) (hts _ k_100) (fun _ h9 => h9) rfl hin rfl (by decide +kernel) hn hfit hl hdg kk
theorem pF_MO_79 (hx : p.tables.exec = Jvm.exec) (hb : c.code = cc) (hts : ∀ w ∈ wsG, w.before args s = true) (hown : s.vm.findClass R_MO = some m.cls) (hin : meth.name = "<init>") (hK : va_K D vwCl TY s) (hP : va_P D vwCl ws H) (hD : va_D A ws) (hS : va_S A H0 H locs) (q0 : Nat) {fs : List Value} {v : Value} (he : ws[q0]? = some (a, .inr (7, fs))) (hn : narrow (.array (.int)) v = v) (hfit : fits (.array (.int)) v = true) (hl : 34 < fs.length) (hdg : decode cc pc = .ok (.putfield 79, 3)) (kk : ∀ (H1 : Heap) (locs1 : List Loc), va_P D vwCl (ws.set q0 (a, .inr (7, fs.set 34 v))) H1 → va_D A (ws.set q0 (a, .inr (7, fs.set 34 v))) → va_S A H0 H1 locs1 → W p l e R s m args below meth c H1 locs1 cells slots Q (F0 m (pc + 3) ls rest)) : W p l e R s m args below meth c H locs cells slots Q (F0 m pc ls (v :: .ref a :: rest)) :=
  va_putF (D := D) (ci := 7) (v := v) (ty := .array (.int)) (C := R_MO) (T := F_MO) (N := 41) hx hb hts i_MO t_MO t_MO_ok n_MO hown hK hP hD hS q0 he rfl 34 (by decide) (hts _ k_94) (fun _ h9 => h9) rfl hin rfl (by decide +kernel) hn hfit hl hdg kk
theorem pF_MO_82 (hx : p.tables.exec = Jvm.exec) (hb : c.code = cc) (hts : ∀ w ∈ wsG, w.before args s = true) (hown : s.vm.findClass R_MO = some m.cls) (hin : meth.name = "<init>") (hK : va_K D vwCl TY s) (hP : va_P D vwCl ws H) (hD : va_D A ws) (hS : va_S A H0 H locs) (q0 : Nat) {fs : List Value} {v : Value} (he : ws[q0]? = some (a, .inr (7, fs))) (hn : narrow (.array (.int)) v = v) (hfit : fits (.array (.int)) v = true) (hl : 35 < fs.length) (hdg : decode cc pc = .ok (.putfield 82, 3)) (kk : ∀ (H1 : Heap) (locs1 : List Loc), va_P D vwCl (ws.set q0 (a, .inr (7, fs.set 35 v))) H1 → va_D A (ws.set q0 (a, .inr (7, fs.set 35 v))) → va_S A H0 H1 locs1 → W p l e R s m args below meth c H1 locs1 cells slots Q (F0 m (pc + 3) ls rest)) : W p l e R s m args below meth c H locs cells slots Q (F0 m pc ls (v :: .ref a :: rest)) :=
  va_putF (D := D) (ci := 7) (v := v) (ty := .array (.int)) (C := R_MO) (T := F_MO) (N := 41) hx hb hts i_MO t_MO t_MO_ok n_MO hown hK hP hD hS q0 he rfl 35 (by decide) (hts _ k_96) (fun _ h9 => h9) rfl hin rfl (by decide +kernel) hn hfit hl hdg kk
theorem pF_MO_85 (hx : p.tables.exec = Jvm.exec) (hb : c.code = cc) (hts : ∀ w ∈ wsG, w.before args s = true) (hown : s.vm.findClass R_MO = some m.cls) (hin : meth.name = "<init>") (hK : va_K D vwCl TY s) (hP : va_P D vwCl ws H) (hD : va_D A ws) (hS : va_S A H0 H locs) (q0 : Nat) {fs : List Value} {v : Value} (he : ws[q0]? = some (a, .inr (7, fs))) (hn : narrow (.array (.int)) v = v) (hfit : fits (.array (.int)) v = true) (hl : 36 < fs.length) (hdg : decode cc pc = .ok (.putfield 85, 3)) (kk : ∀ (H1 : Heap) (locs1 : List Loc), va_P D vwCl (ws.set q0 (a, .inr (7, fs.set 36 v))) H1 → va_D A (ws.set q0 (a, .inr (7, fs.set 36 v))) → va_S A H0 H1 locs1 → W p l e R s m args below meth c H1 locs1 cells slots Q (F0 m (pc + 3) ls rest)) : W p l e R s m args below meth c H locs cells slots Q (F0 m pc ls (v :: .ref a :: rest)) :=
  va_putF (D := D) (ci := 7) (v := v) (ty := .array (.int)) (C := R_MO) (T := F_MO) (N := 41) hx hb hts i_MO t_MO t_MO_ok n_MO hown hK hP hD hS q0 he rfl 36 (by decide) (hts _ k_92) (fun _ h9 => h9) rfl hin rfl (by decide +kernel) hn hfit hl hdg kk
theorem pF_MO_88 (hx : p.tables.exec = Jvm.exec) (hb : c.code = cc) (hts : ∀ w ∈ wsG, w.before args s = true) (hown : s.vm.findClass R_MO = some m.cls) (hin : meth.name = "<init>") (hK : va_K D vwCl TY s) (hP : va_P D vwCl ws H) (hD : va_D A ws) (hS : va_S A H0 H locs) (q0 : Nat) {fs : List Value} {v : Value} (he : ws[q0]? = some (a, .inr (7, fs))) (hn : narrow (.array (.int)) v = v) (hfit : fits (.array (.int)) v = true) (hl : 37 < fs.length) (hdg : decode cc pc = .ok (.putfield 88, 3)) (kk : ∀ (H1 : Heap) (locs1 : List Loc), va_P D vwCl (ws.set q0 (a, .inr (7, fs.set 37 v))) H1 → va_D A (ws.set q0 (a, .inr (7, fs.set 37 v))) → va_S A H0 H1 locs1 → W p l e R s m args below meth c H1 locs1 cells slots Q (F0 m (pc + 3) ls rest)) : W p l e R s m args below meth c H locs cells slots Q (F0 m pc ls (v :: .ref a :: rest)) :=
  va_putF (D := D) (ci := 7) (v := v) (ty := .array (.int)) (C := R_MO) (T := F_MO) (N := 41) hx hb hts i_MO t_MO t_MO_ok n_MO hown hK hP hD hS q0 he rfl 37 (by decide) (hts _ k_95) (fun _ h9 => h9) rfl hin rfl (by decide +kernel) hn hfit hl hdg kk
theorem pF_MO_91 (hx : p.tables.exec = Jvm.exec) (hb : c.code = cc) (hts : ∀ w ∈ wsG, w.before args s = true) (hown : s.vm.findClass R_MO = some m.cls) (hin : meth.name = "<init>") (hK : va_K D vwCl TY s) (hP : va_P D vwCl ws H) (hD : va_D A ws) (hS : va_S A H0 H locs) (q0 : Nat) {fs : List Value} {v : Value} (he : ws[q0]? = some (a, .inr (7, fs))) (hn : narrow (.array (.int)) v = v) (hfit : fits (.array (.int)) v = true) (hl : 39 < fs.length) (hdg : decode cc pc = .ok (.putfield 91, 3)) (kk : ∀ (H1 : Heap) (locs1 : List Loc), va_P D vwCl (ws.set q0 (a, .inr (7, fs.set 39 v))) H1 → va_D A (ws.set q0 (a, .inr (7, fs.set 39 v))) → va_S A H0 H1 locs1 → W p l e R s m args below meth c H1 locs1 cells slots Q (F0 m (pc + 3) ls rest)) : W p l e R s m args below meth c H locs cells slots Q (F0 m pc ls (v :: .ref a :: rest)) :=
  va_putF (D := D) (ci := 7) (v := v) (ty := .array (.int)) (C := R_MO) (T := F_MO) (N := 41) hx hb hts i_MO t_MO t_MO_ok n_MO hown hK hP hD hS q0 he rfl 39 (by decide) (hts _ k_103) (fun _ h9 => h9) rfl hin rfl (by decide +kernel) hn hfit hl hdg kk
theorem pF_MO_94 (hx : p.tables.exec = Jvm.exec) (hb : c.code = cc) (hts : ∀ w ∈ wsG, w.before args s = true) (hown : s.vm.findClass R_MO = some m.cls) (hin : meth.name = "<init>") (hK : va_K D vwCl TY s) (hP : va_P D vwCl ws H) (hD : va_D A ws) (hS : va_S A H0 H locs) (q0 : Nat) {fs : List Value} {v : Value} (he : ws[q0]? = some (a, .inr (7, fs))) (hn : narrow (.array (.int)) v = v) (hfit : fits (.array (.int)) v = true) (hl : 40 < fs.length) (hdg : decode cc pc = .ok (.putfield 94, 3)) (kk : ∀ (H1 : Heap) (locs1 : List Loc), va_P D vwCl (ws.set q0 (a, .inr (7, fs.set 40 v))) H1 → va_D A (ws.set q0 (a, .inr (7, fs.set 40 v))) → va_S A H0 H1 locs1 → W p l e R s m args below meth c H1 locs1 cells slots Q (F0 m (pc + 3) ls rest)) : W p l e R s m args below meth c H locs cells slots Q (F0 m pc ls (v :: .ref a :: rest)) :=
  va_putF (D := D) (ci := 7) (v := v) (ty := .array (.int)) (C := R_MO) (T := F_MO) (N := 41) hx hb hts i_MO t_MO t_MO_ok n_MO hown hK hP hD hS q0 he rfl 40 (by decide) (hts _ k_104) (fun _ h9 => h9) rfl hin rfl (by decide +kernel) hn hfit hl hdg kk
theorem pF_MO_97 (hx : p.tables.exec = Jvm.exec) (hb : c.code = cc) (hts : ∀ w ∈ wsG, w.before args s = true) (hown : s.vm.findClass R_MO = some m.cls) (hin : meth.name = "<init>") (hK : va_K D vwCl TY s) (hP : va_P D vwCl ws H) (hD : va_D A ws) (hS : va_S A H0 H locs) (q0 : Nat) {fs : List Value} {v : Value} (he : ws[q0]? = some (a, .inr (7, fs))) (hn : narrow (.int) v = v) (hfit : fits (.int) v = true) (hl : 1 < fs.length) (hdg : decode cc pc = .ok (.putfield 97, 3)) (kk : ∀ (H1 : Heap) (locs1 : List Loc), va_P D vwCl (ws.set q0 (a, .inr (7, fs.set 1 v))) H1 → va_D A (ws.set q0 (a, .inr (7, fs.set 1 v))) → va_S A H0 H1 locs1 → W p l e R s m args below meth c H1 locs1 cells slots Q (F0 m (pc + 3) ls rest)) : W p l e R s m args below meth c H locs cells slots Q (F0 m pc ls (v :: .ref a :: rest)) :=
  va_putF (D := D) (ci := 7) (v := v) (ty := .int) (C := R_MO) (T := F_MO) (N := 41) hx hb hts i_MO t_MO t_MO_ok n_MO hown hK hP hD hS q0 he rfl 1 (by decide) (hts _ k_48) (fun _ h9 => h9) rfl hin rfl (by decide +kernel) hn hfit hl hdg kk
theorem cw_MA_37 {rm : Room} (hts : ∀ w ∈ wsG, w.before args s = true) (hNW : va_Nw (.methodLinkNest R_MA 37 y_RU_new R_SE) s) (hR : rm.frames + 1 ≤ R.frames ∧ 8 + (1 + 11) + rm.locals ≤ R.locals) : va_CN R s args R_MA 37 y_RU_new R_SE b_RU_new 1 none (.code y_RU_new b_RU_new 1 none :: wsG) rm rm.cells rm.slots 0 ∧ y_RU_new.name = "<init>" ∧ (Cond.instanceMethod y_RU_new).before args s = true :=
  ky_cnI 0 hts k_337 hNW k_338 k_163 rfl (by decide +kernel) hR
theorem cw_WA_11 {rm : Room} (hts : ∀ w ∈ wsG, w.before args s = true) (hNW : va_Nw (.methodLinkNest R_WA 11 y_TR_new R_SE) s) (hR : rm.frames + 1 ≤ R.frames ∧ 8 + (1 + 11) + rm.locals ≤ R.locals) : va_CN R s args R_WA 11 y_TR_new R_SE b_TR_new 1 none (.code y_TR_new b_TR_new 1 none :: wsG) rm rm.cells rm.slots 0 ∧ y_TR_new.name = "<init>" ∧ (Cond.instanceMethod y_TR_new).before args s = true :=
  ky_cnI 0 hts k_339 hNW k_340 k_12 rfl (by decide +kernel) hR
theorem cw_TE_20 {rm : Room} (hts : ∀ w ∈ wsG, w.before args s = true) (hNW : va_Nw (.methodLinkNest R_TE 20 y_TR_new R_SE) s) (hR : rm.frames + 1 ≤ R.frames ∧ 8 + (1 + 11) + rm.locals ≤ R.locals) : va_CN R s args R_TE 20 y_TR_new R_SE b_TR_new 1 none (.code y_TR_new b_TR_new 1 none :: wsG) rm rm.cells rm.slots 0 ∧ y_TR_new.name = "<init>" ∧ (Cond.instanceMethod y_TR_new).before args s = true :=
  ky_cnI 0 hts k_339 hNW k_340 k_12 rfl (by decide +kernel) hR
theorem cw_SE_11 {rm : Room} (hts : ∀ w ∈ wsG, w.before args s = true) (hR : rm.frames + 1 ≤ R.frames ∧ 8 + (2 + 11) + rm.locals ≤ R.locals) : CallB R s args R_SE 11 y_MA_new b_MA_new 2 none (.code y_MA_new b_MA_new 2 none :: wsG) rm rm.cells rm.slots 0 ∧ y_MA_new.name = "<init>" ∧ (Cond.instanceMethod y_MA_new).before args s = true :=
  ky_cwI 0 hts k_341 k_342 k_343 k_17 rfl (by decide +kernel) hR
theorem cw_SE_18 {rm : Room} (hts : ∀ w ∈ wsG, w.before args s = true) (hNW : va_Nw (.methodLinkNest R_SE 18 y_WA_new R_SE) s) (hR : rm.frames + 1 ≤ R.frames ∧ 8 + (1 + 11) + rm.locals ≤ R.locals) : va_CN R s args R_SE 18 y_WA_new R_SE b_WA_new 1 none (.code y_WA_new b_WA_new 1 none :: wsG) rm rm.cells rm.slots 0 ∧ y_WA_new.name = "<init>" ∧ (Cond.instanceMethod y_WA_new).before args s = true :=
  ky_cnI 0 hts k_344 hNW k_345 k_205 rfl (by decide +kernel) hR
theorem cw_SE_25 {rm : Room} (hts : ∀ w ∈ wsG, w.before args s = true) (hNW : va_Nw (.methodLinkNest R_SE 25 y_GR_new R_SE) s) (hR : rm.frames + 1 ≤ R.frames ∧ 8 + (1 + 11) + rm.locals ≤ R.locals) : va_CN R s args R_SE 25 y_GR_new R_SE b_GR_new 1 none (.code y_GR_new b_GR_new 1 none :: wsG) rm rm.cells rm.slots 0 ∧ y_GR_new.name = "<init>" ∧ (Cond.instanceMethod y_GR_new).before args s = true :=
  ky_cnI 0 hts k_346 hNW k_347 k_247 rfl (by decide +kernel) hR
theorem cw_SE_32 {rm : Room} (hts : ∀ w ∈ wsG, w.before args s = true) (hNW : va_Nw (.methodLinkNest R_SE 32 y_TE_new R_SE) s) (hR : rm.frames + 1 ≤ R.frames ∧ 8 + (1 + 11) + rm.locals ≤ R.locals) : va_CN R s args R_SE 32 y_TE_new R_SE b_TE_new 1 none (.code y_TE_new b_TE_new 1 none :: wsG) rm rm.cells rm.slots 0 ∧ y_TE_new.name = "<init>" ∧ (Cond.instanceMethod y_TE_new).before args s = true :=
  ky_cnI 0 hts k_348 hNW k_349 k_287 rfl (by decide +kernel) hR
theorem cw_SE_41 {rm : Room} (hts : ∀ w ∈ wsG, w.before args s = true) (hR : rm.frames + 1 ≤ R.frames ∧ 8 + (3 + 11) + rm.locals ≤ R.locals) : CallB R s args R_SE 41 y_JM_floorMod b_JM_floorMod 3 (some .int) (.code y_JM_floorMod b_JM_floorMod 3 (some .int) :: wsG) rm rm.cells rm.slots 2 ∧ (Cond.static y_JM_floorMod).before args s = true :=
  ky_cwS 2 hts k_350 k_351 k_353 k_352 (by decide +kernel) hR
theorem ky_oRU {own : String} {index : Nat} (hx : p.tables.exec = Jvm.exec) (hb : c.code = cc) (hts : ∀ w ∈ wsG, w.before args s = true) (hown : s.vm.findClass own = some m.cls) (hcl : (Cond.classLink own index R_RU).before args s = true) (hK : va_K D vwCl TY s) (hP : va_P D vwCl ws H) (hD : va_D A ws) (hS : va_S A H0 H locs) (hA : ∀ q : Nat, H0.size ≤ q → A q) (hcells : cells + 1 ≤ R.cells) (hslots : slots + 6 ≤ R.slots) (hdg : decode cc pc = .ok (.new index, 3)) (kk : ∀ (q : Nat) (H1 : Heap), va_P D vwCl (ws ++ [(q, .inr (0, [.null, .null, .null, .null, .int 0, .null]))]) H1 → va_D A (ws ++ [(q, .inr (0, [.null, .null, .null, .null, .int 0, .null]))]) → va_S A H0 H1 locs → W p l e R s m args below meth c H1 locs (cells + 1) (slots + 6) Q (F0 m (pc + 3) ls (.ref q :: rest))) : W p l e R s m args below meth c H locs cells slots Q (F0 m pc ls rest) :=
  va_new (ci := 0) (fs := [.null, .null, .null, .null, .int 0, .null]) (C := R_RU) (T := F_RU) (N := 6) hx hb hts i_RU t_RU t_RU_ok hown hcl (hts _ k_354) (hts _ k_163) hK hP hD hS hA rfl (by decide +kernel) hcells hslots hdg kk
theorem ky_oTR {own : String} {index : Nat} (hx : p.tables.exec = Jvm.exec) (hb : c.code = cc) (hts : ∀ w ∈ wsG, w.before args s = true) (hown : s.vm.findClass own = some m.cls) (hcl : (Cond.classLink own index R_TR).before args s = true) (hK : va_K D vwCl TY s) (hP : va_P D vwCl ws H) (hD : va_D A ws) (hS : va_S A H0 H locs) (hA : ∀ q : Nat, H0.size ≤ q → A q) (hcells : cells + 1 ≤ R.cells) (hslots : slots + 1 ≤ R.slots) (hdg : decode cc pc = .ok (.new index, 3)) (kk : ∀ (q : Nat) (H1 : Heap), va_P D vwCl (ws ++ [(q, .inr (1, [.null]))]) H1 → va_D A (ws ++ [(q, .inr (1, [.null]))]) → va_S A H0 H1 locs → W p l e R s m args below meth c H1 locs (cells + 1) (slots + 1) Q (F0 m (pc + 3) ls (.ref q :: rest))) : W p l e R s m args below meth c H locs cells slots Q (F0 m pc ls rest) :=
  va_new (ci := 1) (fs := [.null]) (C := R_TR) (T := F_TR) (N := 1) hx hb hts i_TR t_TR t_TR_ok hown hcl (hts _ k_355) (hts _ k_12) hK hP hD hS hA rfl (by decide +kernel) hcells hslots hdg kk
theorem ky_oMA {own : String} {index : Nat} (hx : p.tables.exec = Jvm.exec) (hb : c.code = cc) (hts : ∀ w ∈ wsG, w.before args s = true) (hown : s.vm.findClass own = some m.cls) (hcl : (Cond.classLink own index R_MA).before args s = true) (hK : va_K D vwCl TY s) (hP : va_P D vwCl ws H) (hD : va_D A ws) (hS : va_S A H0 H locs) (hA : ∀ q : Nat, H0.size ≤ q → A q) (hcells : cells + 1 ≤ R.cells) (hslots : slots + 7 ≤ R.slots) (hdg : decode cc pc = .ok (.new index, 3)) (kk : ∀ (q : Nat) (H1 : Heap), va_P D vwCl (ws ++ [(q, .inr (2, [.null, .null, .null, .int 0, .int 0, .int 0, .int 0]))]) H1 → va_D A (ws ++ [(q, .inr (2, [.null, .null, .null, .int 0, .int 0, .int 0, .int 0]))]) → va_S A H0 H1 locs → W p l e R s m args below meth c H1 locs (cells + 1) (slots + 7) Q (F0 m (pc + 3) ls (.ref q :: rest))) : W p l e R s m args below meth c H locs cells slots Q (F0 m pc ls rest) :=
  va_new (ci := 2) (fs := [.null, .null, .null, .int 0, .int 0, .int 0, .int 0]) (C := R_MA) (T := F_MA) (N := 7) hx hb hts i_MA t_MA t_MA_ok hown hcl (hts _ k_356) (hts _ k_17) hK hP hD hS hA rfl (by decide +kernel) hcells hslots hdg kk
theorem ky_oWA {own : String} {index : Nat} (hx : p.tables.exec = Jvm.exec) (hb : c.code = cc) (hts : ∀ w ∈ wsG, w.before args s = true) (hown : s.vm.findClass own = some m.cls) (hcl : (Cond.classLink own index R_WA).before args s = true) (hK : va_K D vwCl TY s) (hP : va_P D vwCl ws H) (hD : va_D A ws) (hS : va_S A H0 H locs) (hA : ∀ q : Nat, H0.size ≤ q → A q) (hcells : cells + 1 ≤ R.cells) (hslots : slots + 9 ≤ R.slots) (hdg : decode cc pc = .ok (.new index, 3)) (kk : ∀ (q : Nat) (H1 : Heap), va_P D vwCl (ws ++ [(q, .inr (3, [.null, .null, .null, .int 0, .int 0, .int 0, .int 0, .int 0, .null]))]) H1 → va_D A (ws ++ [(q, .inr (3, [.null, .null, .null, .int 0, .int 0, .int 0, .int 0, .int 0, .null]))]) → va_S A H0 H1 locs → W p l e R s m args below meth c H1 locs (cells + 1) (slots + 9) Q (F0 m (pc + 3) ls (.ref q :: rest))) : W p l e R s m args below meth c H locs cells slots Q (F0 m pc ls rest) :=
  va_new (ci := 3) (fs := [.null, .null, .null, .int 0, .int 0, .int 0, .int 0, .int 0, .null]) (C := R_WA) (T := F_WA) (N := 9) hx hb hts i_WA t_WA t_WA_ok hown hcl (hts _ k_357) (hts _ k_205) hK hP hD hS hA rfl (by decide +kernel) hcells hslots hdg kk
theorem ky_oGR {own : String} {index : Nat} (hx : p.tables.exec = Jvm.exec) (hb : c.code = cc) (hts : ∀ w ∈ wsG, w.before args s = true) (hown : s.vm.findClass own = some m.cls) (hcl : (Cond.classLink own index R_GR).before args s = true) (hK : va_K D vwCl TY s) (hP : va_P D vwCl ws H) (hD : va_D A ws) (hS : va_S A H0 H locs) (hA : ∀ q : Nat, H0.size ≤ q → A q) (hcells : cells + 1 ≤ R.cells) (hslots : slots + 7 ≤ R.slots) (hdg : decode cc pc = .ok (.new index, 3)) (kk : ∀ (q : Nat) (H1 : Heap), va_P D vwCl (ws ++ [(q, .inr (4, [.null, .null, .int 0, .int 0, .null, .null, .int 0]))]) H1 → va_D A (ws ++ [(q, .inr (4, [.null, .null, .int 0, .int 0, .null, .null, .int 0]))]) → va_S A H0 H1 locs → W p l e R s m args below meth c H1 locs (cells + 1) (slots + 7) Q (F0 m (pc + 3) ls (.ref q :: rest))) : W p l e R s m args below meth c H locs cells slots Q (F0 m pc ls rest) :=
  va_new (ci := 4) (fs := [.null, .null, .int 0, .int 0, .null, .null, .int 0]) (C := R_GR) (T := F_GR) (N := 7) hx hb hts i_GR t_GR t_GR_ok hown hcl (hts _ k_358) (hts _ k_247) hK hP hD hS hA rfl (by decide +kernel) hcells hslots hdg kk
theorem ky_oTE {own : String} {index : Nat} (hx : p.tables.exec = Jvm.exec) (hb : c.code = cc) (hts : ∀ w ∈ wsG, w.before args s = true) (hown : s.vm.findClass own = some m.cls) (hcl : (Cond.classLink own index R_TE).before args s = true) (hK : va_K D vwCl TY s) (hP : va_P D vwCl ws H) (hD : va_D A ws) (hS : va_S A H0 H locs) (hA : ∀ q : Nat, H0.size ≤ q → A q) (hcells : cells + 1 ≤ R.cells) (hslots : slots + 9 ≤ R.slots) (hdg : decode cc pc = .ok (.new index, 3)) (kk : ∀ (q : Nat) (H1 : Heap), va_P D vwCl (ws ++ [(q, .inr (5, [.int 0, .int 0, .null, .null, .null, .null, .int 0, .int 0, .int 0]))]) H1 → va_D A (ws ++ [(q, .inr (5, [.int 0, .int 0, .null, .null, .null, .null, .int 0, .int 0, .int 0]))]) → va_S A H0 H1 locs → W p l e R s m args below meth c H1 locs (cells + 1) (slots + 9) Q (F0 m (pc + 3) ls (.ref q :: rest))) : W p l e R s m args below meth c H locs cells slots Q (F0 m pc ls rest) :=
  va_new (ci := 5) (fs := [.int 0, .int 0, .null, .null, .null, .null, .int 0, .int 0, .int 0]) (C := R_TE) (T := F_TE) (N := 9) hx hb hts i_TE t_TE t_TE_ok hown hcl (hts _ k_359) (hts _ k_287) hK hP hD hS hA rfl (by decide +kernel) hcells hslots hdg kk
theorem ky_oSE {own : String} {index : Nat} (hx : p.tables.exec = Jvm.exec) (hb : c.code = cc) (hts : ∀ w ∈ wsG, w.before args s = true) (hown : s.vm.findClass own = some m.cls) (hcl : (Cond.classLink own index R_SE).before args s = true) (hK : va_K D vwCl TY s) (hP : va_P D vwCl ws H) (hD : va_D A ws) (hS : va_S A H0 H locs) (hA : ∀ q : Nat, H0.size ≤ q → A q) (hcells : cells + 1 ≤ R.cells) (hslots : slots + 6 ≤ R.slots) (hdg : decode cc pc = .ok (.new index, 3)) (kk : ∀ (q : Nat) (H1 : Heap), va_P D vwCl (ws ++ [(q, .inr (6, [.null, .null, .null, .null, .int 0, .int 0]))]) H1 → va_D A (ws ++ [(q, .inr (6, [.null, .null, .null, .null, .int 0, .int 0]))]) → va_S A H0 H1 locs → W p l e R s m args below meth c H1 locs (cells + 1) (slots + 6) Q (F0 m (pc + 3) ls (.ref q :: rest))) : W p l e R s m args below meth c H locs cells slots Q (F0 m pc ls rest) :=
  va_new (ci := 6) (fs := [.null, .null, .null, .null, .int 0, .int 0]) (C := R_SE) (T := F_SE) (N := 6) hx hb hts i_SE t_SE t_SE_ok hown hcl (hts _ k_360) (hts _ k_361) hK hP hD hS hA rfl (by decide +kernel) hcells hslots hdg kk
theorem ky_oMO {own : String} {index : Nat} (hx : p.tables.exec = Jvm.exec) (hb : c.code = cc) (hts : ∀ w ∈ wsG, w.before args s = true) (hown : s.vm.findClass own = some m.cls) (hcl : (Cond.classLink own index R_MO).before args s = true) (hK : va_K D vwCl TY s) (hP : va_P D vwCl ws H) (hD : va_D A ws) (hS : va_S A H0 H locs) (hA : ∀ q : Nat, H0.size ≤ q → A q) (hcells : cells + 1 ≤ R.cells) (hslots : slots + 41 ≤ R.slots) (hdg : decode cc pc = .ok (.new index, 3)) (kk : ∀ (q : Nat) (H1 : Heap), va_P D vwCl (ws ++ [(q, .inr (7, [.int 0, .int 0, .int 0, .int 0, .int 0, .int 0, .null, .null, .null, .null, .null, .null, .null, .null, .null, .null, .int 0, .null, .null, .int 0, .int 0, .null, .null, .null, .null, .null, .int 0, .int 0, .null, .null, .null, .null, .null, .null, .null, .null, .null, .null, .int 0, .null, .null]))]) H1 → va_D A (ws ++ [(q, .inr (7, [.int 0, .int 0, .int 0, .int 0, .int 0, .int 0, .null, .null, .null, .null, .null, .null, .null, .null, .null, .null, .int 0, .null, .null, .int 0, .int 0, .null, .null, .null, .null, .null, .int 0, .int 0, .null, .null, .null, .null, .null, .null, .null, .null, .null, .null, .int 0, .null, .null]))]) → va_S A H0 H1 locs → W p l e R s m args below meth c H1 locs (cells + 1) (slots + 41) Q (F0 m (pc + 3) ls (.ref q :: rest))) : W p l e R s m args below meth c H locs cells slots Q (F0 m pc ls rest) :=
  va_new (ci := 7) (fs := [.int 0, .int 0, .int 0, .int 0, .int 0, .int 0, .null, .null, .null, .null, .null, .null, .null, .null, .null, .null, .int 0, .null, .null, .int 0, .int 0, .null, .null, .null, .null, .null, .int 0, .int 0, .null, .null, .null, .null, .null, .null, .null, .null, .null, .null, .int 0, .null, .null]) (C := R_MO) (T := F_MO) (N := 41) hx hb hts i_MO t_MO t_MO_ok hown hcl (hts _ k_362) (hts _ k_51) hK hP hD hS hA rfl (by decide +kernel) hcells hslots hdg kk
end Sites

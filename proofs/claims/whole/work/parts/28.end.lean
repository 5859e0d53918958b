theorem kz_arr {s : State} {args : Array Value} {ty : FieldType} (hty : ty = .int ∨ ty = .long) (h : (Cond.arrayClass ty).before args s = true) : ∃ cA : ClassId, ArrOfT s cA ty ∧ va_RA s cA ty := by
  obtain ⟨cA, kA, comp, h1, h2, h3⟩ := Cond.arrayClass_spec h
  refine ⟨cA, fun n z => ⟨fun k h => (by cases h), kA, h2, comp, h3⟩, ?_⟩
  rcases hty with rfl | rfl <;> exact h1
theorem kz_arrR {s : State} {C : String} (h : va_AO C s) : ∃ cA : ClassId, ArrOfT s cA (.object C) ∧ va_RA s cA (.object C) := by
  obtain ⟨comp, c, k, h1, h2, h3, h4, h5⟩ := Cond.arrayOver_spec h
  exact ⟨c, fun n z => ⟨fun k h => (by cases h), k, h3, comp, h4⟩, k, comp, h3, h4, h1, h5⟩
set_option maxRecDepth 20000 in
theorem kz_m1 : ∀ w ∈ Bundle.ownAtoms R_SE 54 (kx_nm 1) kx_nms, w ∈ lw_tbl ∨ w ∈ [Cond.isRef (.static Bundle.tN "UNASSIGNED_STACK" Bundle.steD), Cond.isRef (.static Bundle.tN "SUPPRESSED_SENTINEL" Bundle.listD)] := by decide +kernel
set_option maxRecDepth 20000 in
theorem kz_m2 : ∀ w ∈ Bundle.ownAtoms R_SE 64 (kx_nm 2) kx_nms, w ∈ lw_tbl ∨ w ∈ [Cond.isRef (.static Bundle.tN "UNASSIGNED_STACK" Bundle.steD), Cond.isRef (.static Bundle.tN "SUPPRESSED_SENTINEL" Bundle.listD)] := by decide +kernel
set_option maxRecDepth 20000 in
theorem kz_m3 : ∀ w ∈ Bundle.ownAtoms R_SE 75 (kx_nm 3) kx_nms, w ∈ lw_tbl ∨ w ∈ [Cond.isRef (.static Bundle.tN "UNASSIGNED_STACK" Bundle.steD), Cond.isRef (.static Bundle.tN "SUPPRESSED_SENTINEL" Bundle.listD)] := by decide +kernel
set_option maxRecDepth 20000 in
theorem kz_m4 : ∀ w ∈ Bundle.ownAtoms R_SE 186 (kx_nm 4) kx_nms, w ∈ lw_tbl ∨ w ∈ [Cond.isRef (.static Bundle.tN "UNASSIGNED_STACK" Bundle.steD), Cond.isRef (.static Bundle.tN "SUPPRESSED_SENTINEL" Bundle.listD)] := by decide +kernel
set_option maxHeartbeats 4000000 in
set_option maxRecDepth 20000 in
theorem kz_fine {s : State} {b : Nat} (hts : ∀ w ∈ lw_tbl, w.before #[Value.ref b] s = true) (hgv : (Jvm.Cond.and given_1 narrow_1).before #[Value.ref b] s = true) : kx_Fine s := by
  have hs := flat_of_before _ hgv
  have hS0 : kx_S s s := ⟨State.WarmedH.refl s, Nat.le_refl _, fun _ _ => rfl⟩
  have hr : ∀ w ∈ [Cond.isRef (.static Bundle.tN "UNASSIGNED_STACK" Bundle.steD), Cond.isRef (.static Bundle.tN "SUPPRESSED_SENTINEL" Bundle.listD)], w.before #[Value.ref b] s = true := by
    intro w hw
    simp only [List.mem_cons, List.not_mem_nil, or_false] at hw
    rcases hw with rfl | rfl
    · exact hs _ (by decide +kernel)
    · exact hs _ (by decide +kernel)
  have go : ∀ {ic k : Nat}, (∀ w ∈ Bundle.ownAtoms R_SE ic (kx_nm k) kx_nms, w ∈ lw_tbl ∨ w ∈ [Cond.isRef (.static Bundle.tN "UNASSIGNED_STACK" Bundle.steD), Cond.isRef (.static Bundle.tN "SUPPRESSED_SENTINEL" Bundle.listD)]) → (∀ w ∈ Bundle.ownAtoms R_SE ic (kx_nm k) kx_nms, kx_ok w = true) → ∀ w ∈ Bundle.ownAtoms R_SE ic (kx_nm k) kx_nms, w.before #[] s = true := by
    intro ic k h1 h2 w hw
    rcases h1 w hw with h | h
    · exact kx_move hS0 (h2 w hw) (hts w h)
    · exact kx_move hS0 (h2 w hw) (hr w h)
  have st : ∀ {k : Nat} {tx : String}, (Cond.stringRef R_SE k tx).before #[Value.ref b] s = true → (Cond.exactly (.string R_SE k) "java/lang/String").before #[Value.ref b] s = true → ∃ q, vk_R R_SE k tx q s := by
    intro k tx h1 h2
    obtain ⟨a, _, _, _, ha, _⟩ := Cond.exactly_spec h2
    exact ⟨a, vk_R.of h1 ha⟩
  exact ⟨go kz_m1 kx_at1, go kz_m2 kx_at2, go kz_m3 kx_at3, go kz_m4 kx_at4, st (hts (.stringRef R_SE 52 "no such width") (by decide +kernel)) (hs _ (by decide +kernel)), st (hts (.stringRef R_SE 62 "there is an input") (by decide +kernel)) (hs _ (by decide +kernel)), st (hts (.stringRef R_SE 73 "no more registers or bits") (by decide +kernel)) (hs _ (by decide +kernel)), st (hts (.stringRef R_SE 87 "no such op or operand") (by decide +kernel)) (hs _ (by decide +kernel)), st (hts (.stringRef R_SE 89 "no more inputs") (by decide +kernel)) (hs _ (by decide +kernel)), st (hts (.stringRef R_SE 102 "no such input, register, op or operand") (by decide +kernel)) (hs _ (by decide +kernel)), st (hts (.stringRef R_SE 113 "no more transfers") (by decide +kernel)) (hs _ (by decide +kernel)), st (hts (.stringRef R_SE 184 "no such class, input or what") (by decide +kernel)) (hs _ (by decide +kernel)), st (hts (.stringRef R_SE 210 "no such state") (by decide +kernel)) (hs _ (by decide +kernel)), st (hts (.stringRef R_SE 212 "no such input") (by decide +kernel)) (hs _ (by decide +kernel)), st (hts (.stringRef R_SE 214 "more states come than there is room for") (by decide +kernel)) (hs _ (by decide +kernel)), st (hts (.stringRef R_SE 216 "no such walked state") (by decide +kernel)) (hs _ (by decide +kernel)), st (hts (.stringRef R_SE 218 "a place below 0") (by decide +kernel)) (hs _ (by decide +kernel))⟩
set_option maxHeartbeats 4000000 in
set_option maxRecDepth 20000 in
theorem kz_fine2 {s : State} {b : Nat} (hgv : (Jvm.Cond.and given_1 narrow_1).before #[Value.ref b] s = true) : kx_Fine2 s := by
  have hs := flat_of_before _ hgv
  have go : ∀ {C N : String}, (Cond.not (.castable C N)).before #[Value.ref b] s = true → (Cond.not (.castable C N)).before #[] s = true := fun h => h
  exact ⟨go (hs _ (by decide +kernel)), go (hs _ (by decide +kernel)), go (hs _ (by decide +kernel)), go (hs _ (by decide +kernel)), go (hs _ (by decide +kernel)), go (hs _ (by decide +kernel))⟩
theorem kz_nest {s : State} {b : Nat} (hts : ∀ w ∈ lw_tbl, w.before #[Value.ref b] s = true) : kn_X s := ⟨va_Nw.of rfl (hts kn_1 (by decide +kernel)), va_Nw.of rfl (hts kn_2 (by decide +kernel)), va_Nw.of rfl (hts kn_3 (by decide +kernel)), va_Nw.of rfl (hts kn_4 (by decide +kernel)), va_Nw.of rfl (hts kn_5 (by decide +kernel)), va_Nw.of rfl (hts kn_6 (by decide +kernel)), va_AO.of (hts (.arrayOver (.object R_RU)) (by decide +kernel))⟩
set_option maxHeartbeats 4000000 in
set_option maxRecDepth 20000 in
theorem whole_start {p : Program} {e : Env} {s : State} {m : MethodId} {below : List Frame} {meth : Method} {c : Code} (l : Launch) (hlt : l.stackTraces = false) {b L : Nat} {xs : Nat → Int32} (hL : L ≤ 3073) (C0 : lw_At p s m meth c b L xs) : W p l e room_1 s m #[Value.ref b] below meth c s.heap [] 0 0 (lw_Z below #[Value.ref b] s) (entryFrame m ([Value.ref b] : List Value).toArray 7) := by
  obtain ⟨hx, hb, hr, hml, hown, hts, hX, hbl, hlocks, hgv⟩ := id C0
  have htsG : ∀ w ∈ wsG, w.before #[Value.ref b] s = true := fun w h => hts w (List.mem_filter.mp h).1
  obtain ⟨c0, iS0, hKn0⟩ := u_known (C := R_RU) (T := F_RU) (N := 6) (n := 6) htsG i_RU (htsG _ k_354)
  obtain ⟨c1, iS1, hKn1⟩ := u_known (C := R_TR) (T := F_TR) (N := 1) (n := 1) htsG i_TR (htsG _ k_355)
  obtain ⟨c2, iS2, hKn2⟩ := u_known (C := R_MA) (T := F_MA) (N := 7) (n := 7) htsG i_MA (htsG _ k_356)
  obtain ⟨c3, iS3, hKn3⟩ := u_known (C := R_WA) (T := F_WA) (N := 9) (n := 9) htsG i_WA (htsG _ k_357)
  obtain ⟨c4, iS4, hKn4⟩ := u_known (C := R_GR) (T := F_GR) (N := 7) (n := 7) htsG i_GR (htsG _ k_358)
  obtain ⟨c5, iS5, hKn5⟩ := u_known (C := R_TE) (T := F_TE) (N := 9) (n := 9) htsG i_TE (htsG _ k_359)
  obtain ⟨c6, iS6, hKn6⟩ := u_known (C := R_SE) (T := F_SE) (N := 6) (n := 6) htsG i_SE (htsG _ k_360)
  obtain ⟨c7, iS7, hKn7⟩ := u_known (C := R_MO) (T := F_MO) (N := 41) (n := 41) htsG i_MO (htsG _ k_362)
  obtain ⟨cI, hI1, hI2⟩ := kz_arr (Or.inl rfl) (htsG (.arrayClass .int) (by decide +kernel))
  obtain ⟨cL, hL1, hL2⟩ := kz_arr (Or.inr rfl) (htsG (.arrayClass .long) (by decide +kernel))
  have hNW := kz_nest hts
  obtain ⟨cR, hR1, hR2⟩ := kz_arrR hNW.2.2.2.2.2.2
  have hK : va_K (fun k => if k = 0 then c0 else if k = 1 then c1 else if k = 2 then c2 else if k = 3 then c3 else if k = 4 then c4 else if k = 5 then c5 else if k = 6 then c6 else c7, fun k => if k = 0 then iS0 else if k = 1 then iS1 else if k = 2 then iS2 else if k = 3 then iS3 else if k = 4 then iS4 else if k = 5 then iS5 else if k = 6 then iS6 else iS7) vwCl (ky_T cI cL cR) s := by
    refine ⟨?_, ?_⟩
    · intro k q hq
      match k, hq with
      | 0, hq => cases hq; exact hKn0
      | 1, hq => cases hq; exact hKn1
      | 2, hq => cases hq; exact hKn2
      | 3, hq => cases hq; exact hKn3
      | 4, hq => cases hq; exact hKn4
      | 5, hq => cases hq; exact hKn5
      | 6, hq => cases hq; exact hKn6
      | 7, hq => cases hq; exact hKn7
      | k + 8, hq => simp [vwCl] at hq
    · intro k q hq
      match k, hq with
      | 0, hq => cases hq; exact ⟨hI1, hI2⟩
      | 1, hq => cases hq; exact ⟨hL1, hL2⟩
      | 2, hq => cases hq; exact ⟨hR1, hR2⟩
      | k + 3, hq => simp at hq
  have hl := lv_entry ([.ref b]) (n := 7) (Nat.le_of_ble_eq_true rfl)
  rw [lg_entry_eq]
  generalize (lg_sl ([.ref b]) ++ List.replicate (7 - (lg_sl ([.ref b])).length) Slot.unset).toArray = ls at hl ⊢
  exact c_ST l hL hlt (kz_fine hts hgv) (kz_fine2 hgv) hx hb hr hlocks hml hown htsG hX hbl hNW _ cI cL cR hK (pure_law L xs hL) ls hl
set_option maxHeartbeats 4000000 in
theorem lw_walk (l : Launch) (hlt : l.stackTraces = false) (b : Addr) (xs : List Int32) : MetFree l x (headSpec (Jvm.Cond.code x code maxLocals ret :: tables_1) room_1) (lw_P b xs) (fun _ _ _ _ _ => True) lw_Q := by
  refine MetFree.of_bodyS (code := code) (maxLocals := maxLocals) (ret := ret) (by decide) ?_ ?_
  · intro args s m h hn
    obtain ⟨meth, c, h1, h2, h3, h4, h5, h6, -, -⟩ := Cond.code_spec hn (atoms_spec (ws := Jvm.Cond.code x code maxLocals ret :: tables_1) h _ List.mem_cons_self)
    exact ⟨meth, c, h1, h2, h3, h4, h5, h6⟩
  · intro p e s m args below meth c s₁ B hml0 hP _
    obtain ⟨rfl, hx, hbd, hgv⟩ := hP
    obtain ⟨scr, harrAt, hlist, hof, hsmall⟩ := hx
    obtain ⟨hcb, hkn, -, -⟩ := State.arrayAt?_spec harrAt
    have hown : s.vm.findClass R_law = some m.cls := findClass_of_methodNamed B.named
    have hts0 : ∀ c ∈ (Jvm.Cond.code x code maxLocals ret :: tables_1), c.before #[Value.ref b] s = true := atoms_spec (ws := Jvm.Cond.code x code maxLocals ret :: tables_1) B.pre
    have hts : ∀ w ∈ lw_tbl, w.before #[Value.ref b] s = true := k2_hts_sels lw_privs (fun w hw => hts0 w (List.mem_cons_of_mem _ hw)) lw_privs_ok
    have hml : c.maxLocals = 7 := B.maxLocals_eq (hts0 _ List.mem_cons_self)
    have X₀ : Stand p l e room_1 s m #[Value.ref b] below meth c s₁ [] 0 0 := Stand.of_body B
    have hh0 : s₁.heap = s.heap := by rw [B.state]; rfl
    have hsz : scr.slots.size = xs.length := by rw [← Array.length_toList, hlist, List.length_map]
    have hval : ∀ j : Nat, j < xs.length → scr.slots[j]? = some (.int (xs.getD j 0)) := fun j hj => by
      rw [← Array.getElem?_toList, hlist]
      simp [hj]
    have hbl : b < s.heap.size := (Array.getElem?_eq_some_iff.mp hcb).1
    have hX : va_X b xs.length (fun j => xs.getD j 0) s s.heap := ⟨scr, hcb, hof, hkn, hsz, hval⟩
    have K : W p l e room_1 s m #[Value.ref b] below meth c s₁.heap [] 0 0 (lw_Z below #[Value.ref b] s) (entryFrame m ([Value.ref b] : List Value).toArray 7) := by
      rw [hh0]
      exact whole_start l hlt hbd ⟨B.exec, B.bytes, B.returns, hml, hown, hts, hX, hbl, B.notSynchronized, hgv⟩
    obtain ⟨t, a1, o, b1, b2, b3⟩ := K s₁ rfl X₀
    exact ⟨t, o, a1, b1, b2, b3⟩
theorem lw_pre_spec {args : Array Value} {s : State} (h : (Jvm.Cond.and given_1 narrow_1).before args s = true) (hr : rest_1_c.before args s = true) : ∃ (b : Addr) (xs : List Int32), lw_P b xs args s := by
  have hs := flat_of_before _ h
  have hq := flat_of_before _ hr
  have hc : (Cond.count 1).before args s = true := hs _ (by decide +kernel)
  have harr : (Cond.arrayOf (.arg 0) .int).before args s = true := hs _ (by decide +kernel)
  have hle : (Cond.le (.length (.arg 0)) (.int 3073)).before args s = true := hs _ (by decide +kernel)
  have hlen : (Cond.isInt (.length (.arg 0))).before args s = true := hq _ (by decide +kernel)
  have hall : (Cond.all (.arg 0) (.isInt (.elem (.arg 0) (.index 0)))).before args s = true := hq _ (by decide +kernel)
  obtain ⟨b, xs, hb, hx⟩ := State.ints_of_pre rfl harr hlen hall
  have hsm : xs.length < 2 ^ 31 := hx.choose_spec.2.2.2
  have hev : (Term.length (.arg 0)).eval args s none [] s = some (.int xs.length.toInt32) := hx.length_eval hb
  have hv := Cond.le_ints hev (show (Term.int 3073).eval args s none [] s = some (.int 3073) from rfl)
  have hd : xs.length.toInt32 ≤ 3073 := by
    simpa [Cond.before, Cond.holds, hv] using hle
  have hN : xs.length ≤ 3073 := (Int32.ofNat_le_ofNat hsm (by decide)).mp (show Int32.ofNat xs.length ≤ Int32.ofNat 3073 from hd)
  exact ⟨b, xs, Cond.one_arg hc (show args[0]? = some (.ref b) from hb), hx, hN, h⟩
theorem lw_comes (l : Launch) (hlt : l.stackTraces = false) : Comes l x (Jvm.Cond.code x code maxLocals ret :: tables_1) room_1 (fun tb e args s => Calls_1 tb e args s ∧ rest_1 tb e args s ∧ Pre_1 tb e args s)
    (fun _ _ args s o t => lw_Q args s o t) := by
  intro p e ha hc hk s m args below hf hfit hheap happ hpre
  obtain ⟨b, xs, hP⟩ := lw_pre_spec hpre.2.2 hpre.2.1
  obtain ⟨k, o, h1, h2, h3, hQ⟩   := lw_walk l hlt b xs p e ha hc hk s m args below hf ((Spec.applies_iff_loose hf).mp happ).1 hP trivial
  exact ⟨k, o, h1, h2, h3, hQ⟩
theorem lw_frame {s t : State} {o : Outcome} {args : Array Value} (h : Framed s o t [] 601024 7293000) :
    Framed s o t (fieldLocs frame_1_writes args s ++ arrayLocs frame_1_arrays args s ++ staticLocs frame_1_statics s) 601024 7293000 := h
theorem lw_limb (L : Cond) (hL : ∀ (args : Array Value) (s t : State), L.after args s (.returned (some (.int 1))) t = true) :
    ArmFor flags0 classFile x code maxLocals ret World_1 tables_1 room_1 Calls_1 rest_1 Pre_1
      (fun tb e a s o t => postC L tb e a s o t ∧ Framed s o t (fieldLocs frame_1_writes a s ++ arrayLocs frame_1_arrays a s ++ staticLocs frame_1_statics s) 601024 7293000) := by
  intro l hfl _ _ p e ha hc hk s m args below hf hfit hheap happ hpre
  obtain ⟨k, o, h1, h2, h3, rfl, hF⟩ := lw_comes l (by unfold Launch.stackTraces; rw [hfl]; decide +kernel) p e ha hc hk s m args below hf hfit hheap happ hpre
  exact ⟨k, _, h1, h2, h3, hL args s _, lw_frame hF⟩
theorem i_vc : Claimed_1_1 ∧ Claimed_1_2 := ⟨lw_limb limb_1_1 (fun args s t => by simp [limb_1_1, Cond.after, Cond.holds, Cond.value]), lw_limb limb_1_2 (fun args s t => Cond.after_iff.mpr (by
  first | (rw [show limb_1_2 = Cond.eq .result (.int 1) from rfl, Cond.eq_ints (x := 1) (y := 1) rfl rfl]; simp; done) | (simp [limb_1_2, Cond.value, Term.eval]; done)))⟩


set_option maxHeartbeats 8000000 in
theorem pure_law (L : Nat) (xs : Nat → Int32) (hL : L ≤ 3073) : wp_ST L xs := by
  obtain ⟨room, hr0, hroom, er⟩ : ∃ room, 0 < room ∧ room ≤ 4096 ∧ (1 : Int32) + ((kc_v L xs - (1 : Int32)) &&& (4095 : Int32)) = nI room := by
    rw [pk_and (kc_v L xs - (1 : Int32)) (m := (4095 : Int32)) 12 (by decide), show (1 : Int32) = nI 1 from rfl, nI_add]
    have := Nat.mod_lt (kc_v L xs - nI 1).toBitVec.toNat (show 0 < 2 ^ 12 by decide)
    exact ⟨_, by omega, by omega, rfl⟩
  unfold wp_ST
  refine ⟨by omega, by omega, fun q1 => ⟨60, 400, by omega, by omega, ?_⟩⟩
  unfold wp_SE_new
  refine ⟨by omega, by omega, fun p1 => ⟨27, 180, by omega, by omega, ?_⟩⟩
  unfold wp_MA_new wp_RU_new
  refine ⟨by omega, by omega, fun a1 => ⟨by omega, by omega, fun a2 => ⟨by omega, by omega, fun a3 => ⟨by omega, by omega, fun a4 => ⟨5, 36, by omega, by omega, ?_⟩⟩⟩⟩⟩
  refine ⟨by omega, by omega, fun b1 => ⟨by omega, by omega, fun b2 => ⟨by omega, by omega, fun b3 => ⟨by omega, by omega, fun b4 => ⟨by omega, by omega, fun b5 => ?_⟩⟩⟩⟩⟩
  refine ⟨by omega, by omega, fun a5 => ⟨5, 36, by omega, by omega, ?_⟩⟩
  refine ⟨by omega, by omega, fun c1 => ⟨by omega, by omega, fun c2 => ⟨by omega, by omega, fun c3 => ⟨by omega, by omega, fun c4 => ⟨by omega, by omega, fun c5 => ?_⟩⟩⟩⟩⟩
  refine ⟨by omega, by omega, fun a6 => ⟨5, 36, by omega, by omega, ?_⟩⟩
  refine ⟨by omega, by omega, fun d1 => ⟨by omega, by omega, fun d2 => ⟨by omega, by omega, fun d3 => ⟨by omega, by omega, fun d4 => ⟨by omega, by omega, fun d5 => ?_⟩⟩⟩⟩⟩
  refine ⟨by omega, by omega, fun a7 => ⟨5, 36, by omega, by omega, ?_⟩⟩
  refine ⟨by omega, by omega, fun e1 => ⟨by omega, by omega, fun e2 => ⟨by omega, by omega, fun e3 => ⟨by omega, by omega, fun e4 => ⟨by omega, by omega, fun e5 => ?_⟩⟩⟩⟩⟩
  refine ⟨by omega, by omega, fun p2 => ⟨5, 1, by omega, by omega, ?_⟩⟩
  unfold wp_WA_new wp_TR_new
  refine ⟨by omega, by omega, fun f1 => ⟨1, 0, by omega, by omega, ⟨by omega, by omega, fun f2 => ⟨by omega, by omega, fun f3 => ⟨by omega, by omega, fun f4 => ⟨by omega, by omega, fun f5 => ?_⟩⟩⟩⟩⟩⟩
  refine ⟨by omega, by omega, fun p3 => ⟨4, 0, by omega, by omega, ?_⟩⟩
  unfold wp_GR_new
  refine ⟨by omega, by omega, fun g1 => ⟨by omega, by omega, fun g2 => ⟨by omega, by omega, fun g3 => ⟨by omega, by omega, fun g4 => ?_⟩⟩⟩⟩
  refine ⟨by omega, by omega, fun p4 => ⟨5, 1, by omega, by omega, ?_⟩⟩
  unfold wp_TE_new wp_TR_new
  refine ⟨by omega, by omega, fun h1 => ⟨1, 0, by omega, by omega, ⟨by omega, by omega, fun h2 => ⟨by omega, by omega, fun h3 => ⟨by omega, by omega, fun h4 => ⟨by omega, by omega, fun h5 => ?_⟩⟩⟩⟩⟩⟩
  refine q_fm _ ?_
  rintro _ rfl
  refine ⟨by omega, by omega, fun q5 => ⟨29, 200000, by omega, by omega, ?_⟩⟩
  unfold wp_MO_new
  refine ⟨by omega, by omega, fun m1 => ⟨by omega, by omega, fun m2 => ⟨by omega, by omega, fun m3 => ⟨by omega, by omega, fun m4 => ⟨by omega, by omega, fun m5 => ⟨by omega, by omega, fun m6 => ⟨by omega, by omega, fun m7 => ⟨by omega, by omega, fun m8 => ⟨by omega, by omega, fun m9 => ⟨by omega, by omega, fun m10 => ⟨by omega, by omega, fun m11 => ⟨by omega, by omega, fun m12 => ⟨by omega, by omega, fun m13 => ⟨by omega, by omega, fun m14 => ⟨by omega, by omega, fun m15 => ⟨by omega, by omega, fun m16 => ⟨by omega, by omega, fun m17 => ⟨by omega, by omega, fun m18 => ⟨by omega, by omega, fun m19 => ⟨by omega, by omega, fun m20 => ⟨by omega, by omega, fun m21 => ⟨by omega, by omega, fun m22 => ⟨by omega, by omega, fun m23 => ⟨by omega, by omega, fun m24 => ⟨by omega, by omega, fun m25 => ⟨by omega, by omega, fun m26 => ⟨by omega, by omega, fun m27 => ⟨by omega, by omega, fun m28 => ⟨by omega, by omega, fun m29 => ?_⟩⟩⟩⟩⟩⟩⟩⟩⟩⟩⟩⟩⟩⟩⟩⟩⟩⟩⟩⟩⟩⟩⟩⟩⟩⟩⟩⟩⟩
  rintro _ rfl
  rw [er]
  refine ⟨by omega, by omega, fun q9 => ⟨fun j hj => ?_, L + 1, ?_⟩⟩
  · have h4 : j = 0 ∨ j = 1 ∨ j = 2 ∨ j = 3 := by omega
    rcases h4 with rfl | rfl | rfl | rfl
    · rfl
    · rfl
    · rfl
    · rfl
  · exact l_LL hr0 hroom hL L 1 _ _ _ _ _ _ _ _ _ _ _ _ _ _ _ _ _ _ _ _ _ _ _ _ _ _ _ _ _ _ _ _ _ _ _ _ _ _ _ _ _ _ _ _ _ _ _ _ _ _ _ _ _ _ _ _ _ _ _ _ _ _ _ _ _ _ _ _ _ _ _ _ _ _ _ _ _ _ _ _ _ _ _ _ _ _ _ _ _ _ _ _ _ _ _ _ _ _ _ _ _ _ _ _ _ _ _ (by omega) (by omega) ⟨0, 0, 0, 0, 0, 0, 0, ⟨rfl, rfl, rfl, rfl, rfl, rfl, ⟨by omega, by omega, fun r hr => absurd hr (by omega)⟩, ⟨by omega, fun i hi => ⟨0, by omega, rfl, fun _ => rfl⟩, fun i hi => absurd hi (by omega)⟩, fun r hr => absurd hr (by omega), fun i hi => absurd hi (by omega), fun i _ _ => rfl, by decide⟩, fun i hi => absurd hi (by omega), rfl, rfl, by decide, ⟨Or.inl rfl, rfl, rfl, rfl, rfl, fun z => absurd rfl z⟩, ⟨Or.inl rfl, rfl, rfl, rfl, rfl, fun z => absurd rfl z⟩, ⟨Or.inl rfl, rfl, rfl, rfl, rfl, fun z => absurd rfl z⟩, fun z => absurd rfl z, by omega, by omega⟩

theorem q_msb (x : Int32) : (0 : Int32) ≤ (x ^^^ (4096 : Int32)) ↔ ¬ x < 0 := by
  have a : (x ^^^ (4096 : Int32)).toBitVec.msb = x.toBitVec.msb := by
    rw [Int32.toBitVec_xor, BitVec.msb_xor]
    rw [show (4096 : Int32).toBitVec.msb = false by decide]
    exact Bool.xor_false _
  rw [BitVec.msb_eq_toInt, BitVec.msb_eq_toInt] at a
  have a2 : ((x ^^^ (4096 : Int32)).toBitVec.toInt < 0) ↔ (x.toBitVec.toInt < 0) := by
    have := decide_eq_decide.mp a
    exact this
  rw [q_le, q_lt]
  have e0 : (0 : Int32).toInt = 0 := rfl
  have e1 : (x ^^^ (4096 : Int32)).toInt = (x ^^^ (4096 : Int32)).toBitVec.toInt := rfl
  have e2 : x.toInt = x.toBitVec.toInt := rfl
  rw [e0, e1, e2]
  omega
theorem q_fm (x : Int32) {post : Int32 → Prop} (hp : post (x &&& (4095 : Int32))) : wp_JM_floorMod x 4096 post := by
  unfold wp_JM_floorMod
  refine ⟨by decide, ?_⟩
  rintro _ rfl
  rw [q_msb]
  have hand := pk_and x (m := (4095 : Int32)) 12 (by decide)
  rw [hand] at hp
  by_cases hx : x < 0
  · refine ⟨fun z => absurd hx z, fun _ => ?_⟩
    have hN := x.toBitVec.isLt
    have e0 : (0 : Int32).toInt = 0 := rfl
    have hxi : x.toInt = (x.toBitVec.toNat : Int) - 2 ^ 32 := by
      rw [q_lt, e0] at hx
      have e2 : x.toInt = x.toBitVec.toInt := rfl
      rw [e2] at hx ⊢
      rw [BitVec.toInt_eq_toNat_cond] at hx ⊢
      split at hx
      · omega
      · rename_i hc; rw [if_neg hc]; rfl
    obtain ⟨m, hm⟩ : ∃ m : Nat, x.toInt = -(m : Int) ∧ 0 < m ∧ m ≤ 2 ^ 31 ∧ (m : Int) + x.toBitVec.toNat = 2 ^ 32 := by
      rw [q_lt, e0] at hx
      have := Int32.le_toInt x
      exact ⟨(-x.toInt).toNat, by omega, by omega, by omega, by omega⟩
    have hd : (x / (4096 : Int32)).toInt = -((m / 4096 : Nat) : Int) := by
      rw [Int32.toInt_div, hm.1, show (4096 : Int32).toInt = 4096 by decide, Int.neg_tdiv]
      rw [show (m : Int).tdiv 4096 = ((m / 4096 : Nat) : Int) from (Int.ofNat_tdiv m 4096).symm]
      rw [Int.bmod_def]; split <;> omega
    have hy : (x - x / (4096 : Int32) * (4096 : Int32)).toInt = -((m % 4096 : Nat) : Int) := by
      rw [Int32.toInt_sub, Int32.toInt_mul, hd, hm.1, show (4096 : Int32).toInt = 4096 by decide]
      rw [Int.bmod_def, Int.bmod_def]
      split <;> split <;> omega
    refine ⟨fun z => ?_, fun z => ?_⟩
    · have ez : m % 4096 = 0 := by rw [z, e0] at hy; omega
      rw [z]
      have : x.toBitVec.toNat % 2 ^ 12 = 0 := by omega
      rw [this] at hp
      exact hp
    · have nz : m % 4096 ≠ 0 := fun q => z (q_ext (by rw [hy, e0, q]; rfl))
      have e : x - x / (4096 : Int32) * (4096 : Int32) + (4096 : Int32) = nI (x.toBitVec.toNat % 2 ^ 12) := by
        apply q_ext
        rw [Int32.toInt_add, hy, show (4096 : Int32).toInt = 4096 by decide, nI_toInt (by omega)]
        rw [Int.bmod_def]; split <;> omega
      rw [e]; exact hp
  · refine ⟨fun _ => ?_, fun z => absurd hx z⟩
    obtain ⟨k, hk, rfl⟩ := nI_of hx
    rw [show (4096 : Int32) = nI 4096 from rfl, pk_rem hk (by omega) (by omega)]
    rw [q_bv (by omega)] at hp
    exact hp

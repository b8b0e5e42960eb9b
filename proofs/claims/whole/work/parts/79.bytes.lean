/-! ===== bytes of a word ===== -/
theorem sshr_sh : ∀ s, s < 64 → (((Int32.ofInt ((s : Nat) : Int)).toInt64 &&& 63).toBitVec.smod 64#64).toNat = s := by decide +kernel
theorem lshr_bt {x : Int} {s b : Nat} (hs : s < 64) (h : s + b < 64) : bt (op_lshr x s) b = bt x (s + b) := by
  unfold bt op_lshr
  rw [Int64.ofInt_toInt]
  have e : (Int64.ofInt x >>> ((Int32.ofInt (s : Int)).toInt64 &&& 63)).toBitVec = (Int64.ofInt x).toBitVec.sshiftRight s := by
    show (Int64.ofInt x).toBitVec.sshiftRight (((Int32.ofInt (s : Int)).toInt64 &&& 63).toBitVec.smod 64#64).toNat = _
    rw [sshr_sh s hs]
  rw [e, BitVec.getLsbD_sshiftRight, if_pos h]
  have hb : b < 64 := by omega
  simp
  omega
theorem lushr_bt {x : Int} {s b : Nat} (hs : s < 64) : bt (op_lushr x s) b = bt x (s + b) := by
  unfold bt op_lushr
  rw [Int64.ofInt_toInt]
  have h1 : (((Int64.ofInt x).toUInt64 >>> ((Int32.ofInt (s : Int)).toInt64.toUInt64 &&& Int64.toUInt64 63)).toInt64).toBitVec = (Int64.ofInt x).toBitVec >>> (((Int32.ofInt (s : Int)).toInt64.toUInt64 &&& Int64.toUInt64 63).toBitVec.toNat % 64) := by
    show ((Int64.ofInt x).toUInt64 >>> ((Int32.ofInt (s : Int)).toInt64.toUInt64 &&& Int64.toUInt64 63)).toBitVec = _
    rw [UInt64.toBitVec_shiftRight]
    rfl
  rw [h1, shr_sh s hs, Nat.mod_eq_of_lt hs, BitVec.getLsbD_ushiftRight]
theorem bt_255 : ∀ b, b < 64 → bt 255 b = decide (b < 8) := by decide +kernel
theorem bi_255 : ∀ b, b < 32 → (Int32.ofInt 255).toBitVec.getLsbD b = decide (b < 8) := by decide +kernel
theorem i32_bt {z : Int} {b : Nat} (hb : b < 32) : (Int32.ofInt z).toBitVec.getLsbD b = bt z b := by
  have e : (Int64.ofInt z).toInt32 = Int32.ofInt z := Int64.toInt32_ofInt
  rw [← e]
  show ((Int64.ofInt z).toBitVec.signExtend 32).getLsbD b = _
  rw [BitVec.getLsbD_signExtend]
  unfold bt
  have h2 : b < 64 := by omega
  rw [if_pos h2]
  simp
  intro hh
  omega
theorem by_bits {x : Int} {s : Nat} (hs : s ≤ 56) : ∀ b, b < 64 → bt (op_land (op_lshr x s) 255) b = (decide (b < 8) && bt x (s + b)) := fun b hb => by
  rw [bt_and, bt_255 b hb]
  by_cases z : b < 8
  · rw [lshr_bt (by omega) (by omega)]
    cases bt x (s + b) <;> simp [z]
  · simp [z]
theorem byte_eq {x : Int} {s : Nat} (hs : s ≤ 56) : op_iand (op_lushr x s) 255 = op_land (op_lshr x s) 255 := by
  have hA := by_bits (x := x) hs
  generalize hB : (Int32.ofInt (op_lushr x s) &&& Int32.ofInt 255) = B
  have hBb : ∀ b, b < 32 → B.toBitVec.getLsbD b = (decide (b < 8) && bt x (s + b)) := fun b hb => by
    rw [← hB, Int32.toBitVec_and, BitVec.getLsbD_and, bi_255 b hb, i32_bt hb, lushr_bt (by omega)]
    cases bt x (s + b) <;> cases decide (b < 8) <;> rfl
  have hmsb : B.toBitVec.msb = false := by
    rw [BitVec.msb_eq_getLsbD_last]
    exact hBb 31 (by decide)
  have h64 : ∀ b, b < 64 → B.toInt64.toBitVec.getLsbD b = (decide (b < 8) && bt x (s + b)) := fun b hb => by
    show (B.toBitVec.signExtend 64).getLsbD b = _
    rw [BitVec.getLsbD_signExtend]
    by_cases z : b < 32
    · rw [if_pos z, hBb b z]
      simp [hb]
    · rw [if_neg z, hmsb]
      have : ¬ b < 8 := by omega
      simp [this]
  have e : B.toInt64 = Int64.ofInt (op_lshr x s) &&& Int64.ofInt 255 := by
    apply Int64.toBitVec_inj.mp
    apply BitVec.eq_of_getLsbD_eq
    intro i hi
    have h1 := hA i hi
    unfold bt at h1
    unfold op_land at h1
    rw [Int64.ofInt_toInt] at h1
    rw [h64 i hi, h1]
    rfl
  unfold op_iand op_land
  rw [hB, ← e, Int32.toInt_toInt64]

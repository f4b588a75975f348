/-! ===== four bytes in a word ===== -/
theorem i32_v {a : Int} (h0 : 0 ≤ a) (h1 : a < 2147483648) : (Int32.ofInt a).toInt = a := by
  rw [Int32.toInt_ofInt, Int.bmod_def]
  simp only [Int32.size]
  rw [if_pos (by omega)]
  omega
theorem i32_sh {a : Int} (k : Nat) (hk : k < 32) (hk2 : ((Int32.ofInt (k : Int)) &&& 31).toBitVec.smod 32 = BitVec.ofNat 32 k) (h0 : 0 ≤ a) (h1 : a < 2147483648) : Int32.ofInt a >>> (Int32.ofInt (k : Int) &&& 31) = Int32.ofInt (a / (2 ^ k : Nat)) := by
  apply Int32.toInt_inj.mp
  have hd : 0 ≤ a / (2 ^ k : Nat) := Int.ediv_nonneg h0 (Int.natCast_nonneg _)
  have hd2 : a / (2 ^ k : Nat) ≤ a := Int.ediv_le_self _ h0
  rw [i32_v hd (by omega)]
  show (Int32.ofInt a >>> (Int32.ofInt (k : Int) &&& 31)).toBitVec.toInt = _
  rw [Int32.toBitVec_shiftRight, hk2]
  show ((Int32.ofInt a).toBitVec.sshiftRight (BitVec.ofNat 32 k).toNat).toInt = _
  rw [BitVec.toInt_sshiftRight, Int.shiftRight_eq_div_pow]
  have : (Int32.ofInt a).toBitVec.toInt = a := i32_v h0 h1
  rw [this, BitVec.toNat_ofNat, Nat.mod_eq_of_lt (by omega)]
theorem i32_b {a : Int} (h0 : 0 ≤ a) (h1 : a < 2147483648) (h2 : a % 256 < 128) : (Int32.ofInt a).toInt8.toInt32 = Int32.ofInt (a % 256) := by
  apply Int32.toInt_inj.mp
  rw [Int8.toInt_toInt32, Int32.toInt_toInt8, i32_v h0 h1, i32_v (by omega) (by omega), Int.bmod_def]
  simp only [Int.reducePow, Nat.reducePow]
  rw [if_pos (by omega)]
  rfl
theorem i32_or {a b : Int} (h0 : 0 ≤ a) (h1 : a < 8388608) (b0 : 0 ≤ b) (b1 : b < 256) : (Int32.ofInt a <<< (Int32.ofInt 8 &&& 31)) ||| Int32.ofInt b = Int32.ofInt (a * 256 + b) := by
  obtain ⟨n, rfl⟩ := Int.eq_ofNat_of_zero_le h0
  obtain ⟨m, rfl⟩ := Int.eq_ofNat_of_zero_le b0
  apply Int32.toBitVec_inj.mp
  rw [Int32.toBitVec_or, Int32.toBitVec_shiftLeft, Int32.toBitVec_ofInt, Int32.toBitVec_ofInt, Int32.toBitVec_ofInt]
  have e8 : (Int32.ofInt 8 &&& 31).toBitVec.smod 32 = BitVec.ofNat 32 8 := by decide +kernel
  rw [e8]
  apply BitVec.eq_of_toNat_eq
  have hs := Nat.shiftLeft_add_eq_or_of_lt (show m < 2 ^ 8 by omega) n
  rw [Nat.shiftLeft_eq] at hs
  have e1 : (BitVec.ofInt 32 (n : Int)).toNat = n := by
    rw [BitVec.toNat_ofInt]
    omega
  have e2 : (BitVec.ofInt 32 (m : Int)).toNat = m := by
    rw [BitVec.toNat_ofInt]
    omega
  have e3 : (BitVec.ofInt 32 ((n : Int) * 256 + m)).toNat = n * 256 + m := by
    rw [BitVec.toNat_ofInt]
    omega
  rw [BitVec.toNat_or, e2, e3]
  show (BitVec.ofInt 32 (n : Int) <<< (BitVec.ofNat 32 8)).toNat ||| m = _
  rw [BitVec.shiftLeft_eq', BitVec.toNat_shiftLeft, e1, Nat.shiftLeft_eq]
  simp only [BitVec.toNat_ofNat, Nat.reducePow, Nat.reduceMod]
  rw [Nat.mod_eq_of_lt (by omega)]
  exact hs.symm

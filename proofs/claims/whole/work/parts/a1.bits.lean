/-! shifts and masks -/
theorem z64_shr {a : Int} {c : Int64} (k : Nat) (hc : c.toBitVec.smod 64 = BitVec.ofNat 64 k) (hk : k < 64) (h : -9223372036854775808 ≤ a ∧ a ≤ 9223372036854775807) : (Int64.ofInt a >>> c).toInt = a / 2 ^ k := by
  show (Int64.ofInt a >>> c).toBitVec.toInt = _
  rw [Int64.toBitVec_shiftRight, hc]
  show (BitVec.sshiftRight (Int64.ofInt a).toBitVec (BitVec.ofNat 64 k).toNat).toInt = _
  rw [BitVec.toInt_sshiftRight, Int.shiftRight_eq_div_pow, BitVec.toNat_ofNat, Nat.mod_eq_of_lt (by omega)]
  have : (Int64.ofInt a).toBitVec.toInt = a := by
    show (Int64.ofInt a).toInt = a
    rw [zx_ofInt, zx_id h]
  rw [this]
  simp
theorem z32_shr {a : Int} {c : Int32} (k : Nat) (hc : c.toBitVec.smod 32 = BitVec.ofNat 32 k) (hk : k < 32) (h : -2147483648 ≤ a ∧ a ≤ 2147483647) : (Int32.ofInt a >>> c).toInt = a / 2 ^ k := by
  show (Int32.ofInt a >>> c).toBitVec.toInt = _
  rw [Int32.toBitVec_shiftRight, hc]
  show (BitVec.sshiftRight (Int32.ofInt a).toBitVec (BitVec.ofNat 32 k).toNat).toInt = _
  rw [BitVec.toInt_sshiftRight, Int.shiftRight_eq_div_pow, BitVec.toNat_ofNat, Nat.mod_eq_of_lt (by omega)]
  have : (Int32.ofInt a).toBitVec.toInt = a := by
    show (Int32.ofInt a).toInt = a
    rw [zw_ofInt, zw_id h]
  rw [this]
  simp
theorem z_shr3 (a : Int) (h : -9223372036854775808 ≤ a ∧ a ≤ 9223372036854775807) : Int64.toInt (Int64.ofInt a >>> ((Int32.ofInt 3).toInt64 &&& 63)) = a / 8 := z64_shr 3 (by decide) (by decide) h
theorem z_lshr24 (a : Int) (h : -9223372036854775808 ≤ a ∧ a ≤ 9223372036854775807) : Int64.toInt (Int64.ofInt a >>> ((Int32.ofInt 24).toInt64 &&& 63)) = a / 16777216 := z64_shr 24 (by decide) (by decide) h
theorem z_lshr16 (a : Int) (h : -9223372036854775808 ≤ a ∧ a ≤ 9223372036854775807) : Int64.toInt (Int64.ofInt a >>> ((Int32.ofInt 16).toInt64 &&& 63)) = a / 65536 := z64_shr 16 (by decide) (by decide) h
theorem z_lshr8 (a : Int) (h : -9223372036854775808 ≤ a ∧ a ≤ 9223372036854775807) : Int64.toInt (Int64.ofInt a >>> ((Int32.ofInt 8).toInt64 &&& 63)) = a / 256 := z64_shr 8 (by decide) (by decide) h
theorem z_lshr0 (a : Int) (h : -9223372036854775808 ≤ a ∧ a ≤ 9223372036854775807) : Int64.toInt (Int64.ofInt a >>> ((Int32.ofInt 0).toInt64 &&& 63)) = a / 1 := z64_shr 0 (by decide) (by decide) h
theorem z_ishr24 (a : Int) (h : -2147483648 ≤ a ∧ a ≤ 2147483647) : Int32.toInt (Int32.ofInt a >>> (Int32.ofInt 24 &&& 31)) = a / 16777216 := z32_shr 24 (by decide) (by decide) h
theorem z_ishr16 (a : Int) (h : -2147483648 ≤ a ∧ a ≤ 2147483647) : Int32.toInt (Int32.ofInt a >>> (Int32.ofInt 16 &&& 31)) = a / 65536 := z32_shr 16 (by decide) (by decide) h
theorem z_ishr8 (a : Int) (h : -2147483648 ≤ a ∧ a ≤ 2147483647) : Int32.toInt (Int32.ofInt a >>> (Int32.ofInt 8 &&& 31)) = a / 256 := z32_shr 8 (by decide) (by decide) h
theorem z_land (a : Int) (n : Nat) (hn : n < 63) : (Int64.ofInt a &&& Int64.ofInt (2 ^ n - 1)).toInt = a % 2 ^ n := by
  have hp : (2 : Int) ^ n ≤ 2 ^ 62 := by exact_mod_cast Nat.pow_le_pow_right (show 0 < 2 by decide) (show n ≤ 62 by omega)
  have hp0 : (0 : Int) < 2 ^ n := Int.pow_pos (by decide)
  have h0 := Int.emod_nonneg a (show (2 : Int) ^ n ≠ 0 by omega)
  have h1 := Int.emod_lt_of_pos a hp0
  have key : (Int64.ofInt a &&& Int64.ofInt (2 ^ n - 1)) = Int64.ofInt (a % 2 ^ n) := by
    apply Int64.toBitVec_inj.mp
    apply BitVec.eq_of_toNat_eq
    show (BitVec.ofInt 64 a &&& BitVec.ofInt 64 (2 ^ n - 1)).toNat = (BitVec.ofInt 64 (a % 2 ^ n)).toNat
    rw [BitVec.toNat_and, BitVec.toNat_ofInt, BitVec.toNat_ofInt, BitVec.toNat_ofInt]
    have hc : ((2 ^ 64 : Nat) : Int) = 18446744073709551616 := by decide
    have e1 : ((2 : Int) ^ n - 1) % ((2 ^ 64 : Nat) : Int) = 2 ^ n - 1 := Int.emod_eq_of_lt (by omega) (by omega)
    have e2 : (a % 2 ^ n) % ((2 ^ 64 : Nat) : Int) = a % 2 ^ n := Int.emod_eq_of_lt h0 (by omega)
    rw [e1, e2]
    have e3 : ((2 : Int) ^ n - 1).toNat = 2 ^ n - 1 := by
      have : ((2 : Int) ^ n) = ((2 ^ n : Nat) : Int) := by simp
      omega
    rw [e3, Nat.and_two_pow_sub_one_eq_mod]
    have h64 : (0 : Int) ≤ a % ((2 ^ 64 : Nat) : Int) := Int.emod_nonneg _ (by decide)
    have e4 : (((a % ((2 ^ 64 : Nat) : Int)).toNat % 2 ^ n : Nat) : Int) = a % 2 ^ n := by
      rw [Int.natCast_emod, Int.toNat_of_nonneg h64]
      have hd : ((2 ^ n : Nat) : Int) ∣ ((2 ^ 64 : Nat) : Int) := by
        exact_mod_cast Nat.pow_dvd_pow 2 (show n ≤ 64 by omega)
      rw [Int.emod_emod_of_dvd _ hd]
      simp
    omega
  rw [key, zx_ofInt, zx_id]
  omega
theorem z_and7 (a : Int) : Int64.toInt (Int64.ofInt a &&& Int64.ofInt 7) = a % 8 := z_land a 3 (by decide)
theorem z_land255 (a : Int) : Int64.toInt (Int64.ofInt a &&& Int64.ofInt 255) = a % 256 := z_land a 8 (by decide)
theorem z_landF (a : Int) : Int64.toInt (Int64.ofInt a &&& Int64.ofInt 4294967295) = a % 4294967296 := z_land a 32 (by decide)
theorem z_shl3 (a : Int) (h : -1000000000000000000 ≤ a ∧ a ≤ 1000000000000000000) : Int64.toInt (Int64.ofInt a <<< ((Int32.ofInt 3).toInt64 &&& 63)) = a * 8 := by
  have e : Int64.ofInt a <<< ((Int32.ofInt 3).toInt64 &&& 63) = Int64.ofInt (a * 8) := by
    apply Int64.toBitVec_inj.mp
    rw [Int64.toBitVec_shiftLeft]
    have e1 : ((Int32.ofInt 3).toInt64 &&& 63).toBitVec.smod 64 = BitVec.ofNat 64 3 := by decide
    rw [e1]
    show (Int64.ofInt a).toBitVec <<< (BitVec.ofNat 64 3).toNat = (Int64.ofInt (a * 8)).toBitVec
    apply BitVec.eq_of_toNat_eq
    show (BitVec.ofInt 64 a <<< 3).toNat = (BitVec.ofInt 64 (a * 8)).toNat
    rw [BitVec.toNat_shiftLeft, BitVec.toNat_ofInt, BitVec.toNat_ofInt, Nat.shiftLeft_eq]
    have h1 := Int.emod_nonneg a (show ((2 ^ 64 : Nat) : Int) ≠ 0 by decide)
    have h2 := Int.emod_nonneg (a * 8) (show ((2 ^ 64 : Nat) : Int) ≠ 0 by decide)
    have hc : ((2 ^ 64 : Nat) : Int) = 18446744073709551616 := by decide
    rw [hc] at h1 h2 ⊢
    omega
  rw [e, zx_ofInt, zx_id (by omega)]

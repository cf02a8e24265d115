/-! THE PURE WALK: numbers as integers -/
def zi (a : Int) : Value := .int (Int32.ofInt a)
def zl (a : Int) : Value := .long (Int64.ofInt a)
def zw (a : Int) : Int := Int.bmod a 4294967296
def zx (a : Int) : Int := Int.bmod a 18446744073709551616
theorem zw_ofInt (a : Int) : (Int32.ofInt a).toInt = zw a := Int32.toInt_ofInt
theorem zx_ofInt (a : Int) : (Int64.ofInt a).toInt = zx a := Int64.toInt_ofInt
theorem zw_id {a : Int} (h : -2147483648 ≤ a ∧ a ≤ 2147483647) : zw a = a := by
  unfold zw
  exact Int.bmod_eq_of_le (by omega) (by omega)
theorem zx_id {a : Int} (h : -9223372036854775808 ≤ a ∧ a ≤ 9223372036854775807) : zx a = a := by
  unfold zx
  exact Int.bmod_eq_of_le (by omega) (by omega)
theorem zw_rng (a : Int) : -2147483648 ≤ zw a ∧ zw a ≤ 2147483647 := by
  unfold zw
  have h1 := Int.le_bmod (x := a) (m := 4294967296) (by decide)
  have h2 := Int.bmod_lt (x := a) (m := 4294967296) (by decide)
  constructor <;> omega
theorem zx_rng (a : Int) : -9223372036854775808 ≤ zx a ∧ zx a ≤ 9223372036854775807 := by
  unfold zx
  have h1 := Int.le_bmod (x := a) (m := 18446744073709551616) (by decide)
  have h2 := Int.bmod_lt (x := a) (m := 18446744073709551616) (by decide)
  constructor <;> omega
theorem zi_zw (a : Int) : zi (zw a) = zi a := by
  unfold zi
  rw [← zw_ofInt, Int32.ofInt_toInt]
theorem zl_zx (a : Int) : zl (zx a) = zl a := by
  unfold zl
  rw [← zx_ofInt, Int64.ofInt_toInt]
theorem zi_toInt (x : Int32) : zi x.toInt = .int x := by
  unfold zi
  rw [Int32.ofInt_toInt]
theorem zl_toInt (x : Int64) : zl x.toInt = .long x := by
  unfold zl
  rw [Int64.ofInt_toInt]
theorem z32_lt (a b : Int) : (Int32.ofInt a < Int32.ofInt b) = (zw a < zw b) := by
  rw [Int32.lt_iff_toInt_lt, zw_ofInt, zw_ofInt]
theorem z32_le (a b : Int) : (Int32.ofInt a ≤ Int32.ofInt b) = (zw a ≤ zw b) := by
  rw [Int32.le_iff_toInt_le, zw_ofInt, zw_ofInt]
theorem z32_eq (a b : Int) : (Int32.ofInt a = Int32.ofInt b) = (zw a = zw b) := by
  rw [← Int32.toInt_inj, zw_ofInt, zw_ofInt]
theorem z64_lt (a b : Int) : (Int64.ofInt a < Int64.ofInt b) = (zx a < zx b) := by
  rw [Int64.lt_iff_toInt_lt, zx_ofInt, zx_ofInt]
theorem z64_le (a b : Int) : (Int64.ofInt a ≤ Int64.ofInt b) = (zx a ≤ zx b) := by
  rw [Int64.le_iff_toInt_le, zx_ofInt, zx_ofInt]
theorem z64_eq (a b : Int) : (Int64.ofInt a = Int64.ofInt b) = (zx a = zx b) := by
  rw [← Int64.toInt_inj, zx_ofInt, zx_ofInt]
theorem z32_div (a b : Int) : Int32.ofInt a / Int32.ofInt b = Int32.ofInt ((zw a).tdiv (zw b)) := by
  rw [← Int32.toInt_inj, Int32.toInt_div, zw_ofInt, zw_ofInt, Int32.toInt_ofInt]
theorem z64_div (a b : Int) : Int64.ofInt a / Int64.ofInt b = Int64.ofInt ((zx a).tdiv (zx b)) := by
  rw [← Int64.toInt_inj, Int64.toInt_div, zx_ofInt, zx_ofInt, Int64.toInt_ofInt]
theorem z32_self (a : Int) : Int32.ofInt a = Int32.ofInt (zw a) := by
  rw [← zw_ofInt, Int32.ofInt_toInt]
theorem z64_self (a : Int) : Int64.ofInt a = Int64.ofInt (zx a) := by
  rw [← zx_ofInt, Int64.ofInt_toInt]
theorem z32_rem (a b : Int) : Int32.ofInt a - Int32.ofInt a / Int32.ofInt b * Int32.ofInt b = Int32.ofInt ((zw a).tmod (zw b)) := by
  rw [z32_div]
  conv => lhs; rw [z32_self a, z32_self b]
  rw [← Int32.ofInt_mul, ← Int32.ofInt_sub, Int.tmod_def, Int.mul_comm]
theorem z64_rem (a b : Int) : Int64.ofInt a - Int64.ofInt a / Int64.ofInt b * Int64.ofInt b = Int64.ofInt ((zx a).tmod (zx b)) := by
  rw [z64_div]
  conv => lhs; rw [z64_self a, z64_self b]
  rw [← Int64.ofInt_mul, ← Int64.ofInt_sub, Int.tmod_def, Int.mul_comm]
def zcmp (a b : Int) : Int := if a < b then -1 else if a = b then 0 else 1
theorem z_cmp (a b : Int) : lg_cmp (Int64.ofInt a) (Int64.ofInt b) = Int32.ofInt (zcmp (zx a) (zx b)) := by
  unfold lg_cmp zcmp
  simp only [z64_lt, z64_eq]
  repeat' split
  all_goals first | rfl | omega
theorem zcmp_lt (a b : Int) : (zw (zcmp a b) < 0) = (a < b) := by
  unfold zcmp
  repeat' split
  all_goals (rw [zw_id (by omega)]; apply propext; omega)
theorem zcmp_le (a b : Int) : (zw (zcmp a b) ≤ 0) = (a ≤ b) := by
  unfold zcmp
  repeat' split
  all_goals (rw [zw_id (by omega)]; apply propext; omega)
theorem zcmp_ge (a b : Int) : (0 ≤ zw (zcmp a b)) = (b ≤ a) := by
  unfold zcmp
  repeat' split
  all_goals (rw [zw_id (by omega)]; apply propext; omega)
theorem zcmp_gt (a b : Int) : (0 < zw (zcmp a b)) = (b < a) := by
  unfold zcmp
  repeat' split
  all_goals (rw [zw_id (by omega)]; apply propext; omega)
theorem zcmp_eq (a b : Int) : (zw (zcmp a b) = 0) = (a = b) := by
  unfold zcmp
  repeat' split
  all_goals (rw [zw_id (by omega)]; apply propext; omega)
theorem z_i2l (a : Int) : (Int32.ofInt a).toInt64 = Int64.ofInt (zw a) := by
  rw [← Int64.toInt_inj, Int32.toInt_toInt64, zw_ofInt, zx_ofInt, zx_id]
  have := zw_rng a
  omega
theorem z_l2i (a : Int) : (Int64.ofInt a).toInt32 = Int32.ofInt a := by
  rw [← Int32.toInt_inj, Int64.toInt_toInt32, zx_ofInt, zw_ofInt]
  unfold zx zw
  exact Int.bmod_bmod_of_dvd (by decide)
theorem z_i2b (a : Int) : (Int32.ofInt a).toInt8.toInt32 = Int32.ofInt (Int.bmod a 256) := by
  rw [← Int32.toInt_inj, Int8.toInt_toInt32, Int32.toInt_toInt8, zw_ofInt, zw_ofInt]
  have h1 := Int.le_bmod (x := a) (m := 256) (by decide)
  have h2 := Int.bmod_lt (x := a) (m := 256) (by decide)
  rw [zw_id (a := Int.bmod a 256) (by constructor <;> omega)]
  unfold zw
  exact Int.bmod_bmod_of_dvd (by decide)
theorem z_i2c (a : Int) : ((Int32.ofInt a).toUInt32 % 65536).toInt32 = Int32.ofInt (a % 65536) := by
  have h0 := Int.emod_nonneg a (show (65536 : Int) ≠ 0 by decide)
  have h00 := Int.emod_lt_of_pos a (show (0 : Int) < 65536 by decide)
  apply Int32.toBitVec_inj.mp
  apply BitVec.eq_of_toNat_eq
  show ((Int32.ofInt a).toBitVec % 65536#32).toNat = (BitVec.ofInt 32 (a % 65536)).toNat
  rw [BitVec.toNat_umod]
  show (BitVec.ofInt 32 a).toNat % 65536 = _
  rw [BitVec.toNat_ofInt, BitVec.toNat_ofInt]
  have h3 : a % 65536 % ((2 ^ 32 : Nat) : Int) = a % 65536 := Int.emod_eq_of_lt h0 (by omega)
  rw [h3]
  have h4 := Int.emod_nonneg a (show ((2 ^ 32 : Nat) : Int) ≠ 0 by decide)
  have h5 : ((2 ^ 32 : Nat) : Int) = 4294967296 := by decide
  rw [h5] at h4 ⊢
  omega

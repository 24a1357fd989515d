/-! bits of longs and ints, as whole numbers -/
theorem tnL (a : Int) : (Int64.ofInt a).toBitVec.toNat = (a % 18446744073709551616).toNat := BitVec.toNat_ofInt a
theorem tnJ (a : Int) : (Int32.ofInt a).toBitVec.toNat = (a % 4294967296).toNat := BitVec.toNat_ofInt a
theorem toI_small {x : Int64} {n : Nat} (h : x.toBitVec.toNat = n) (hn : n < 9223372036854775808) : x.toInt = n := by
  show x.toBitVec.toInt = n
  rw [BitVec.toInt_eq_toNat_of_lt (by rw [h]; omega), h]
theorem toJ_small {x : Int32} {n : Nat} (h : x.toBitVec.toNat = n) (hn : n < 2147483648) : x.toInt = n := by
  show x.toBitVec.toInt = n
  rw [BitVec.toInt_eq_toNat_of_lt (by rw [h]; omega), h]
theorem and_mask (n k : Nat) : n &&& (2 ^ k - 1) = n % 2 ^ k := Nat.and_two_pow_sub_one_eq_mod n k
theorem bAnd_mask {a : Int} (k : Nat) {m : Int} (hm : m = (2 : Int) ^ k - 1) (hk : k ≤ 62) : bAnd a m = a % (2 : Int) ^ k := by
  have hp : (2 : Nat) ^ k ≤ 2 ^ 62 := Nat.pow_le_pow_right (by decide) hk
  have hpi : ((2 ^ k : Nat) : Int) = (2 : Int) ^ k := by simp
  have h0 : 0 < (2 : Nat) ^ k := Nat.pow_pos (by decide)
  have hm2 : (m % 18446744073709551616).toNat = 2 ^ k - 1 := by omega
  have h1 : (Int64.ofInt a &&& Int64.ofInt m).toBitVec.toNat = (a % 18446744073709551616).toNat % 2 ^ k := by
    show ((Int64.ofInt a).toBitVec &&& (Int64.ofInt m).toBitVec).toNat = _
    rw [BitVec.toNat_and, tnL, tnL, hm2, and_mask]
  have h2 := Nat.mod_lt (a % 18446744073709551616).toNat h0
  unfold bAnd
  rw [toI_small h1 (by omega), ← hpi]
  have h3 : (2 ^ k : Nat) ∣ 18446744073709551616 := by
    have : (18446744073709551616 : Nat) = 2 ^ k * 2 ^ (64 - k) := by rw [← Nat.pow_add, show k + (64 - k) = 64 by omega]
    rw [this]
    exact Nat.dvd_mul_right _ _
  have h4 : (a % 18446744073709551616) % ((2 ^ k : Nat) : Int) = a % ((2 ^ k : Nat) : Int) := Int.emod_emod_of_dvd a (show ((2 ^ k : Nat) : Int) ∣ ((18446744073709551616 : Nat) : Int) from Int.natCast_dvd_natCast.mpr h3)
  rw [← h4, Int.natCast_emod, Int.toNat_of_nonneg (by omega)]
theorem bAnd_1 {a : Int} : bAnd a 1 = a % 2 := bAnd_mask 1 (by decide) (by decide)
theorem bAnd_32 {a : Int} : bAnd a 4294967295 = a % 4294967296 := bAnd_mask 32 (by decide) (by decide)
theorem bAnd_16 {a : Int} : bAnd a 65535 = a % 65536 := bAnd_mask 16 (by decide) (by decide)
theorem shc : ∀ k : Nat, k < 64 → ((Int32.ofInt (k : Int)).toInt64 &&& 63).toBitVec.smod 64 = BitVec.ofNat 64 k ∧ ((Int32.ofInt (k : Int)).toInt64.toUInt64 &&& Int64.toUInt64 63).toBitVec % 64 = BitVec.ofNat 64 k := by decide +kernel
theorem bShr_v {a : Int} {k : Nat} (c : -9223372036854775808 ≤ a ∧ a ≤ 9223372036854775807) (hk : k < 64) : bShr a k = a / (2 : Int) ^ k := by
  unfold bShr
  show (BitVec.sshiftRight' (Int64.ofInt a).toBitVec (((Int32.ofInt (k : Int)).toInt64 &&& 63).toBitVec.smod 64)).toInt = _
  rw [(shc k hk).1]
  unfold BitVec.sshiftRight'
  rw [BitVec.toInt_sshiftRight, BitVec.toNat_ofNat, Nat.mod_eq_of_lt (by omega)]
  show (Int64.ofInt a).toInt >>> k = _
  rw [i64 c.1 c.2, Int.shiftRight_eq_div_pow]
  simp
theorem bUsh_v {a : Int} {k : Nat} (hk : k < 64) (h1 : 1 ≤ k) : bUsh a k = (a % 18446744073709551616) / (2 : Int) ^ k := by
  have h : ((Int64.ofInt a).toUInt64 >>> ((Int32.ofInt (k : Int)).toInt64.toUInt64 &&& Int64.toUInt64 63)).toInt64.toBitVec.toNat = (a % 18446744073709551616).toNat / 2 ^ k := by
    show ((Int64.ofInt a).toBitVec >>> (((Int32.ofInt (k : Int)).toInt64.toUInt64 &&& Int64.toUInt64 63).toBitVec % 64)).toNat = _
    rw [(shc k hk).2, BitVec.ushiftRight_eq', BitVec.toNat_ushiftRight, BitVec.toNat_ofNat, Nat.mod_eq_of_lt (by omega), tnL, Nat.shiftRight_eq_div_pow]
  unfold bUsh
  have hp : 2 ≤ (2 : Nat) ^ k := Nat.le_trans (by decide) (Nat.pow_le_pow_right (by decide) h1)
  have hq : (a % 18446744073709551616).toNat / 2 ^ k ≤ (a % 18446744073709551616).toNat / 2 := Nat.div_le_div_left hp (by decide)
  rw [toI_small h (by omega)]
  rw [Int.natCast_ediv, Int.toNat_of_nonneg (by omega)]
  simp
theorem bShl_v {a : Int} {k : Nat} (hk : k < 64) : vl (bShl a k) = vl (a * (2 : Int) ^ k) := by
  unfold vl bShl
  rw [Int64.ofInt_toInt]
  congr 1
  apply Int64.toBitVec.inj
  show (Int64.ofInt a).toBitVec <<< (((Int32.ofInt (k : Int)).toInt64 &&& 63).toBitVec.smod 64) = (Int64.ofInt (a * (2 : Int) ^ k)).toBitVec
  rw [(shc k hk).1]
  apply BitVec.eq_of_toNat_eq
  rw [BitVec.shiftLeft_eq', BitVec.toNat_shiftLeft, BitVec.toNat_ofNat, Nat.mod_eq_of_lt (a := k) (by omega), tnL, tnL, Nat.shiftLeft_eq]
  have e : ((2 ^ k : Nat) : Int) = (2 : Int) ^ k := by simp
  rw [← e]
  apply Int.ofNat.inj
  show (((a % 18446744073709551616).toNat * 2 ^ k % 2 ^ 64 : Nat) : Int) = ((a * ((2 ^ k : Nat) : Int) % 18446744073709551616).toNat : Int)
  rw [Int.natCast_emod, Int.natCast_mul, Int.toNat_of_nonneg (by omega), Int.toNat_of_nonneg (by omega)]
  show (a % 18446744073709551616 * _) % 18446744073709551616 = _
  rw [Int.mul_emod, Int.emod_emod, ← Int.mul_emod]

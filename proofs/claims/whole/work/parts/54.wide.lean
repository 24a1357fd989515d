/-! Wide: a whole number V of 128 bits is kept as V / 2^64 and V, cut to longs -/
abbrev cW (V : Int) : AC := cO 7 [vl (V / 18446744073709551616), vl V]
theorem ofI_bOr (a b : Int) : Int64.ofInt (bOr a b) = Int64.ofInt a ||| Int64.ofInt b := Int64.ofInt_toInt _
theorem ofI_bAnd (a b : Int) : Int64.ofInt (bAnd a b) = Int64.ofInt a &&& Int64.ofInt b := Int64.ofInt_toInt _
theorem ofI_bXor (a b : Int) : Int64.ofInt (bXor a b) = Int64.ofInt a ^^^ Int64.ofInt b := Int64.ofInt_toInt _
theorem msb_ge (x : BitVec 64) : x.msb = decide (9223372036854775808 ≤ x.toNat) := BitVec.msb_eq_decide x
theorem carry_v (V X : Int) : bUsh (bOr (bAnd V X) (bAnd (bOr V X) (bXor (V + X) (-1)))) 63 = (V % 18446744073709551616 + X % 18446744073709551616) / 18446744073709551616 := by
  have h0 := bUsh_v (a := bOr (bAnd V X) (bAnd (bOr V X) (bXor (V + X) (-1)))) (k := 63) (by decide) (by decide)
  rw [show ((63 : Nat) : Int) = 63 from rfl] at h0
  rw [h0]
  have h1 : (bOr (bAnd V X) (bAnd (bOr V X) (bXor (V + X) (-1))) % 18446744073709551616).toNat = (((Int64.ofInt V).toBitVec &&& (Int64.ofInt X).toBitVec) ||| (((Int64.ofInt V).toBitVec ||| (Int64.ofInt X).toBitVec) &&& ((Int64.ofInt (V + X)).toBitVec ^^^ (Int64.ofInt (-1)).toBitVec))).toNat := by
    rw [← tnL, ofI_bOr, ofI_bAnd, ofI_bAnd, ofI_bOr, ofI_bXor]
    rfl
  generalize hT : (((Int64.ofInt V).toBitVec &&& (Int64.ofInt X).toBitVec) ||| (((Int64.ofInt V).toBitVec ||| (Int64.ofInt X).toBitVec) &&& ((Int64.ofInt (V + X)).toBitVec ^^^ (Int64.ofInt (-1)).toBitVec))) = T at h1
  have h2 : T.msb = (((Int64.ofInt V).toBitVec.msb && (Int64.ofInt X).toBitVec.msb) || (((Int64.ofInt V).toBitVec.msb || (Int64.ofInt X).toBitVec.msb) && !(Int64.ofInt (V + X)).toBitVec.msb)) := by
    rw [← hT, BitVec.msb_or, BitVec.msb_and, BitVec.msb_and, BitVec.msb_or, BitVec.msb_xor, show (Int64.ofInt (-1)).toBitVec.msb = true by decide, Bool.xor_true]
  rw [msb_ge, msb_ge, msb_ge, msb_ge, tnL, tnL, tnL] at h2
  have h3 := T.isLt
  have e1 : (2 : Int) ^ 63 = 9223372036854775808 := by decide
  rw [e1]
  have h4 := Int.emod_nonneg V (show (18446744073709551616 : Int) ≠ 0 by decide)
  have h5 := Int.emod_nonneg X (show (18446744073709551616 : Int) ≠ 0 by decide)
  by_cases c1 : 9223372036854775808 ≤ (V % 18446744073709551616).toNat <;> by_cases c2 : 9223372036854775808 ≤ (X % 18446744073709551616).toNat <;> by_cases c3 : 9223372036854775808 ≤ ((V + X) % 18446744073709551616).toNat <;> by_cases c4 : 9223372036854775808 ≤ T.toNat <;> simp only [c1, c2, c3, c4, decide_true, decide_false, Bool.and_true, Bool.and_false, Bool.or_true, Bool.or_false, Bool.not_true, Bool.not_false, reduceCtorEq] at h2 <;> omega
theorem bShl_32 {a : Int} : Int64.ofInt (bShl a 32) = Int64.ofInt (a * 4294967296) := by
  have h := bShl_v (a := a) (k := 32) (by decide)
  exact Value.long.inj h
theorem or_add {x b : Int} (h : x % 4294967296 = 0) (hb : 0 ≤ b ∧ b < 4294967296) : Int64.ofInt (bOr x b) = Int64.ofInt (x + b) := by
  rw [ofI_bOr]
  apply Int64.toBitVec.inj
  apply BitVec.eq_of_toNat_eq
  show ((Int64.ofInt x).toBitVec ||| (Int64.ofInt b).toBitVec).toNat = _
  rw [BitVec.toNat_or, tnL, tnL, tnL]
  have e1 : (x % 18446744073709551616).toNat = ((x % 18446744073709551616).toNat / 2 ^ 32) <<< 32 := by
    rw [Nat.shiftLeft_eq]
    omega
  have e2 : (b % 18446744073709551616).toNat < 2 ^ 32 := by omega
  rw [e1, ← Nat.shiftLeft_add_eq_or_of_lt e2, ← e1]
  omega
theorem shlor {a b : Int} (hb : 0 ≤ b ∧ b < 4294967296) : Int64.ofInt (bOr (bShl a 32) b) = Int64.ofInt (a * 4294967296 + b) := by
  rw [← or_add (x := a * 4294967296) (by omega) hb, ofI_bOr, ofI_bOr, bShl_32]
theorem shlorI {a b : Int} (hb : 0 ≤ b ∧ b < 4294967296) (hr : -2147483648 ≤ a ∧ a ≤ 2147483647) : bOr (bShl a 32) b = a * 4294967296 + b := by
  have h := congrArg Int64.toInt (shlor (a := a) hb)
  rw [i64 (x := a * 4294967296 + b) (by omega) (by omega)] at h
  rw [← h]
  unfold bOr
  rw [Int64.ofInt_toInt]
theorem bUsh_32 {a : Int} : bUsh a 32 = (a % 18446744073709551616) / 4294967296 := bUsh_v (k := 32) (by decide) (by decide)
theorem bShr_32 {a : Int} (c : -9223372036854775808 ≤ a ∧ a ≤ 9223372036854775807) : bShr a 32 = a / 4294967296 := bShr_v (k := 32) c (by decide)
theorem bShr_63 {a : Int} (c : -9223372036854775808 ≤ a ∧ a ≤ 9223372036854775807) : bShr a 63 = a / 18446744073709551616 := by
  have h := bShr_v (k := 63) c (by decide)
  have e : ((63 : Nat) : Int) = 63 := rfl
  rw [e] at h
  rw [h, show (2 : Int) ^ 63 = 9223372036854775808 by decide]
  omega
section SPEC
variable {H : HP} {Q : Option Value → HP → Prop} {s : Nat} {V : Int}
theorem sp_clear {u w : Int} (hs : hget H s = cO 7 [vl u, vl w]) (h0 : s ≠ 0) : Go 64 0 [some (.ref s)] [] H Q ↔ Q none (hput H s (cW 0)) := by
  simp (disch := omega) only [gX7_clear_0, gX7_clear_1, gX7_clear_2, pf_7_0, gX7_clear_5, gX7_clear_6, gX7_clear_7, pf_7_1, gX7_clear_10, Rd_some, Wr_some, Cont_some, Cont_none, iso_O, true_and, hg_s, hg_n, hput_hput, hs]
  rfl
theorem sp_addPair (hs : hget H s = cW V) (h0 : s ≠ 0) {X : Int} : Go 66 0 [some (.ref s), some (vl (X / 18446744073709551616)), none, some (vl X), none, none, none, none, none] [] H Q ↔ Q none (hput H s (cW (V + X))) := by
  simp (disch := omega) only [gX7_addPair_0, gX7_addPair_1, fl_7_1, gX7_addPair_4, gX7_addPair_5, gX7_addPair_6, gX7_addPair_8, gX7_addPair_9, gX7_addPair_12, gX7_addPair_13, gX7_addPair_14, gX7_addPair_15, gX7_addPair_18, gX7_addPair_19, gX7_addPair_20, gX7_addPair_22, gX7_addPair_25, gX7_addPair_26, gX7_addPair_27, gX7_addPair_28, gX7_addPair_30, gX7_addPair_31, gX7_addPair_33, gX7_addPair_34, gX7_addPair_36, pf_7_1, gX7_addPair_39, gX7_addPair_40, gX7_addPair_41, fl_7_0, gX7_addPair_44, gX7_addPair_45, gX7_addPair_46, gX7_addPair_48, gX7_addPair_49, pf_7_0, gX7_addPair_52, Rd_some, Wr_some, Cont_some, Cont_none, iso_O, true_and, hg_s, hg_n, hput_hput, hs, carry_v]
  rw [show V / 18446744073709551616 + X / 18446744073709551616 + (V % 18446744073709551616 + X % 18446744073709551616) / 18446744073709551616 = (V + X) / 18446744073709551616 by omega]
theorem sp_addW (hs : hget H s = cW V) (h0 : s ≠ 0) {X : Int} (c : -9223372036854775808 ≤ X ∧ X ≤ 9223372036854775807) : Go 65 0 [some (.ref s), some (vl X), none] [] H Q ↔ Q none (hput H s (cW (V + X))) := by
  simp (disch := omega) only [gX7_add_0, gX7_add_1, gX7_add_2, gX7_add_4, gX7_add_5, gX7_add_6, gX7_add_9, Rd_some, Wr_some, Cont_some, Cont_none, iso_O, true_and, hg_s, hg_n, hput_hput, hs, bShr_63, sp_addPair hs h0]
theorem sp_addProduct (hs : hget H s = cW V) (h0 : s ≠ 0) {x y : Int} (c : -1073741824 ≤ x ∧ x ≤ 1073741824 ∧ 0 ≤ y ∧ y < 4611686018427387904) : Go 67 0 [some (.ref s), some (vl x), none, some (vl y), none, none, none] [] H Q ↔ Q none (hput H s (cW (V + x * y))) := by
  have e1 : bUsh y 32 = y / 4294967296 := by rw [bUsh_32, Int.emod_eq_of_lt (by omega) (by omega)]
  have b1 : 0 ≤ y / 4294967296 ∧ y / 4294967296 ≤ 1073741824 := by omega
  have b2 : 0 ≤ y % 4294967296 ∧ y % 4294967296 < 4294967296 := by omega
  have m1 : -(1073741824 * 1073741824) ≤ x * (y / 4294967296) ∧ x * (y / 4294967296) ≤ 1073741824 * 1073741824 := by
    generalize y / 4294967296 = w at b1
    constructor
    · have := Int.mul_le_mul_of_nonneg_right (show -1073741824 ≤ x by omega) b1.1
      omega
    · have := Int.mul_le_mul_of_nonneg_right (show x ≤ 1073741824 by omega) b1.1
      omega
  have m2 : -(1073741824 * 4294967296) ≤ x * (y % 4294967296) ∧ x * (y % 4294967296) ≤ 1073741824 * 4294967296 := by
    generalize y % 4294967296 = w at b2
    constructor
    · have := Int.mul_le_mul_of_nonneg_right (show -1073741824 ≤ x by omega) b2.1
      omega
    · have := Int.mul_le_mul_of_nonneg_right (show x ≤ 1073741824 by omega) b2.1
      omega
  have e2 : bShr (x * (y / 4294967296)) 32 = x * (y / 4294967296) * 4294967296 / 18446744073709551616 := by
    rw [bShr_32 (by omega)]
    omega
  simp (disch := omega) only [gX7_addProduct_0, gX7_addProduct_1, gX7_addProduct_2, gX7_addProduct_4, gX7_addProduct_5, gX7_addProduct_6, gX7_addProduct_8, gX7_addProduct_9, gX7_addProduct_11, gX7_addProduct_13, gX7_addProduct_14, gX7_addProduct_16, gX7_addProduct_18, gX7_addProduct_19, Rd_some, Wr_some, Cont_some, Cont_none, iso_O, true_and, hg_s, hg_n, hput_hput, hs, e1, e2]
  rw [bShl_32]
  simp (disch := omega) only [gX7_addProduct_22, gX7_addProduct_23, gX7_addProduct_24, gX7_addProduct_25, gX7_addProduct_28, gX7_addProduct_29, gX7_addProduct_30, gX7_addProduct_33, Rd_some, Wr_some, Cont_some, Cont_none, iso_O, true_and, hg_s, hg_n, hput_hput, sp_addPair hs h0, bAnd_32, sp_addW hg_s h0]
  have e3 : V + x * (y / 4294967296) * 4294967296 + x * (y % 4294967296) = V + x * y := by
    have : x * y = x * (y / 4294967296) * 4294967296 + x * (y % 4294967296) := by
      rw [Int.mul_assoc, ← Int.mul_add, show y / 4294967296 * 4294967296 + y % 4294967296 = y by omega]
    omega
  rw [e3]
theorem sp_takeDigit (hs : hget H s = cW V) (h0 : s ≠ 0) {m : Int} (c : (0 ≤ V ∧ V < 85070591730234615865843651857942052864) ∧ 2 ≤ m ∧ m ≤ 10000) : Go 68 0 [some (.ref s), some (vi m), none, none, none, none, none, none] [] H Q ↔ Q (some (vl (V % m))) (hput H s (cW (V / m))) := by
  have hu : 0 ≤ V / 18446744073709551616 ∧ V / 18446744073709551616 ≤ 9223372036854775807 := by omega
  have hm : (0 : Int) < m := by omega
  have e1 : (V / 18446744073709551616).tmod m = (V / 18446744073709551616) % m := Int.tmod_eq_emod_of_nonneg hu.1
  have e2 : (V / 18446744073709551616).tdiv m = (V / 18446744073709551616) / m := Int.tdiv_eq_ediv_of_nonneg hu.1
  have q1 := em hm (V / 18446744073709551616)
  have hh : 0 ≤ (V % 18446744073709551616) / 4294967296 ∧ (V % 18446744073709551616) / 4294967296 < 4294967296 := by omega
  have hw : 0 ≤ V % 4294967296 ∧ V % 4294967296 < 4294967296 := by omega
  generalize hU : V / 18446744073709551616 = U at *
  generalize hA : U % m = A at *
  generalize hB : (V % 18446744073709551616) / 4294967296 = B at *
  generalize hC : V % 4294967296 = C at *
  have e3 : bOr (bShl A 32) (bUsh V 32) = A * 4294967296 + B := by rw [bUsh_32, hB]; exact shlorI hh (by omega)
  have r3 : 0 ≤ A * 4294967296 + B ∧ A * 4294967296 + B ≤ 42949672960000 := by omega
  have e4 : (A * 4294967296 + B).tmod m = (A * 4294967296 + B) % m := Int.tmod_eq_emod_of_nonneg r3.1
  have e5 : (A * 4294967296 + B).tdiv m = (A * 4294967296 + B) / m := Int.tdiv_eq_ediv_of_nonneg r3.1
  have q2 := em hm (A * 4294967296 + B)
  have d2 := Int.emod_add_mul_ediv (A * 4294967296 + B) m
  have d1 := Int.emod_add_mul_ediv U m
  generalize hE : (A * 4294967296 + B) % m = E at *
  have e6 : bOr (bShl E 32) (bAnd V 4294967295) = E * 4294967296 + C := by rw [bAnd_32, hC]; exact shlorI hw (by omega)
  have r6 : 0 ≤ E * 4294967296 + C ∧ E * 4294967296 + C ≤ 42949672960000 := by omega
  have e7 : (E * 4294967296 + C).tmod m = (E * 4294967296 + C) % m := Int.tmod_eq_emod_of_nonneg r6.1
  have e8 : (E * 4294967296 + C).tdiv m = (E * 4294967296 + C) / m := Int.tdiv_eq_ediv_of_nonneg r6.1
  have q3 := em hm (E * 4294967296 + C)
  have d3 := Int.emod_add_mul_ediv (E * 4294967296 + C) m
  have lt4 : 0 ≤ (E * 4294967296 + C) / m ∧ (E * 4294967296 + C) / m < 4294967296 := by
    refine ⟨Int.ediv_nonneg r6.1 (by omega), Int.ediv_lt_of_lt_mul hm ?_⟩
    have : (E + 1) * 4294967296 ≤ m * 4294967296 := Int.mul_le_mul_of_nonneg_right (by omega) (by decide)
    rw [Int.mul_comm 4294967296]
    omega
  have lt5 : 0 ≤ (A * 4294967296 + B) / m ∧ (A * 4294967296 + B) / m < 4294967296 := by
    refine ⟨Int.ediv_nonneg r3.1 (by omega), Int.ediv_lt_of_lt_mul hm ?_⟩
    have : (A + 1) * 4294967296 ≤ m * 4294967296 := Int.mul_le_mul_of_nonneg_right (by omega) (by decide)
    rw [Int.mul_comm 4294967296]
    omega
  have hs' : hget H s = cO 7 [vl U, vl V] := by rw [hs]; unfold cW; rw [hU]
  simp (disch := omega) only [gX7_takeDigit_0, gX7_takeDigit_1, gX7_takeDigit_2T, gX7_takeDigit_2F, gX7_takeDigit_5, gX7_takeDigit_6, gX7_takeDigit_7, gX7_takeDigit_8, fl_7_0, gX7_takeDigit_11, gX7_takeDigit_12, gX7_takeDigit_13, gX7_takeDigit_14, gX7_takeDigit_15, gX7_takeDigit_16, gX7_takeDigit_17, gX7_takeDigit_20, gX7_takeDigit_21, gX7_takeDigit_22, gX7_takeDigit_23, pf_7_0, gX7_takeDigit_26, gX7_takeDigit_27, gX7_takeDigit_29, gX7_takeDigit_30, gX7_takeDigit_31, fl_7_1, gX7_takeDigit_34, gX7_takeDigit_36, gX7_takeDigit_37, gX7_takeDigit_38, gX7_takeDigit_40, gX7_takeDigit_42, gX7_takeDigit_43, gX7_takeDigit_44, gX7_takeDigit_45, gX7_takeDigit_47, gX7_takeDigit_48, gX7_takeDigit_49, gX7_takeDigit_52, gX7_takeDigit_55, gX7_takeDigit_56, gX7_takeDigit_57, gX7_takeDigit_59, gX7_takeDigit_60, gX7_takeDigit_62, gX7_takeDigit_63, gX7_takeDigit_64, gX7_takeDigit_65, gX7_takeDigit_67, gX7_takeDigit_68, gX7_takeDigit_70, gX7_takeDigit_71, gX7_takeDigit_72, gX7_takeDigit_73, gX7_takeDigit_74, pf_7_1, gX7_takeDigit_77, gX7_takeDigit_79, gX7_takeDigit_80, gX7_takeDigit_81, gX7_takeDigit_82, Rd_some, Wr_some, Cont_some, Cont_none, iso_O, true_and, hg_s, hg_n, hput_hput, hs', e1, e2, e3, e4, e5, e6, e7, e8]
  rw [shlor lt4]
  have hV : V = U * 18446744073709551616 + B * 4294967296 + C := by omega
  generalize hF : (E * 4294967296 + C) / m = F at *
  generalize hG : (A * 4294967296 + B) / m = G at *
  generalize hK : U / m = K at *
  generalize hN : (E * 4294967296 + C) % m = N at *
  have hV2 : V = N + m * (K * 18446744073709551616 + G * 4294967296 + F) := by
    rw [Int.mul_add, Int.mul_add, ← Int.mul_assoc, ← Int.mul_assoc]
    generalize m * K = mk at *
    generalize m * G = mg at *
    generalize m * F = mf at *
    omega
  have hq : V / m = K * 18446744073709551616 + G * 4294967296 + F := by
    rw [hV2, Int.add_mul_ediv_left _ _ (by omega), Int.ediv_eq_zero_of_lt q3.1 q3.2, Int.zero_add]
  have hr : V % m = N := by
    rw [hV2, Int.add_mul_emod_self_left, Int.emod_eq_of_lt q3.1 q3.2]
  unfold cW
  rw [hr, hq, show (K * 18446744073709551616 + G * 4294967296 + F) / 18446744073709551616 = K by omega]
  have hl : vl (K * 18446744073709551616 + G * 4294967296 + F) = vl (G * 4294967296 + F) := by
    unfold vl
    congr 1
    apply Int64.toBitVec.inj
    apply BitVec.eq_of_toNat_eq
    rw [tnL, tnL]
    congr 1
    omega
  rw [hl]
end SPEC

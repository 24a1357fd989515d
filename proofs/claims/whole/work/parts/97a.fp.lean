/-! doubles: bits, powers of two, exact acts -/
theorem toI_big {x : Int64} {n : Nat} (h : x.toBitVec.toNat = n) (hn : 9223372036854775808 ≤ n) : x.toInt = (n : Int) - 18446744073709551616 := by
  show x.toBitVec.toInt = _
  have := x.toBitVec.isLt
  rw [BitVec.toInt_eq_toNat_cond, if_neg (by rw [h]; omega), h]
  rfl
theorem bAnd_63 {v : Int} : bAnd v 9223372036854775807 = v % 9223372036854775808 := by
  have h1 : (Int64.ofInt v &&& Int64.ofInt 9223372036854775807).toBitVec.toNat = (v % 18446744073709551616).toNat % 9223372036854775808 := by
    show ((Int64.ofInt v).toBitVec &&& (Int64.ofInt 9223372036854775807).toBitVec).toNat = _
    rw [BitVec.toNat_and, tnL, show (Int64.ofInt 9223372036854775807).toBitVec.toNat = 2 ^ 63 - 1 from rfl, and_mask]
  unfold bAnd
  rw [toI_small h1 (by omega)]
  omega
theorem bAnd_52 {v : Int} : bAnd v 4503599627370495 = v % 4503599627370496 := bAnd_mask 52 (by decide) (by decide)
theorem nE (n : Nat) : (n &&& 9218868437227405312) >>> 52 = n / 4503599627370496 % 2048 := by
  rw [Nat.shiftRight_and_distrib, show (9218868437227405312 : Nat) >>> 52 = 2 ^ 11 - 1 from rfl, and_mask, Nat.shiftRight_eq_div_pow]
theorem bE {v : Int} : bUsh (bAnd v 9218868437227405312) 52 = v % 9223372036854775808 / 4503599627370496 := by
  have e : Int64.ofInt (bAnd v 9218868437227405312) = Int64.ofInt v &&& Int64.ofInt 9218868437227405312 := by unfold bAnd; rw [Int64.ofInt_toInt]
  have h : ((Int64.ofInt (bAnd v 9218868437227405312)).toUInt64 >>> ((Int32.ofInt ((52 : Nat) : Int)).toInt64.toUInt64 &&& Int64.toUInt64 63)).toInt64.toBitVec.toNat = (v % 18446744073709551616).toNat / 4503599627370496 % 2048 := by
    show ((Int64.ofInt (bAnd v 9218868437227405312)).toBitVec >>> (((Int32.ofInt ((52 : Nat) : Int)).toInt64.toUInt64 &&& Int64.toUInt64 63).toBitVec % 64)).toNat = _
    rw [(shc 52 (by decide)).2, BitVec.ushiftRight_eq', BitVec.toNat_ushiftRight, BitVec.toNat_ofNat, Nat.mod_eq_of_lt (by decide), e]
    show ((Int64.ofInt v).toBitVec &&& (Int64.ofInt 9218868437227405312).toBitVec).toNat >>> 52 = _
    rw [BitVec.toNat_and, tnL, show (Int64.ofInt 9218868437227405312).toBitVec.toNat = 9218868437227405312 from rfl, nE]
  unfold bUsh
  rw [show (52 : Int) = ((52 : Nat) : Int) from rfl, toI_small h (by omega)]
  omega
theorem or_ad {t : Nat} (k : Nat) (h : t < 2 ^ k) : t ||| 2 ^ k = 2 ^ k + t := by
  have := Nat.two_pow_add_eq_or_of_lt h 1
  rw [Nat.mul_one] at this
  rw [this, Nat.or_comm]
theorem bOr_n (a b : Int) : (Int64.ofInt a ||| Int64.ofInt b).toBitVec.toNat = (a % 18446744073709551616).toNat ||| (b % 18446744073709551616).toNat := by
  show ((Int64.ofInt a).toBitVec ||| (Int64.ofInt b).toBitVec).toNat = _
  rw [BitVec.toNat_or, tnL, tnL]
theorem bOr_52 {t : Int} (h : 0 ≤ t ∧ t < 4503599627370496) : bOr t 4503599627370496 = t + 4503599627370496 := by
  have h1 := bOr_n t 4503599627370496
  rw [show ((4503599627370496 : Int) % 18446744073709551616).toNat = 2 ^ 52 from rfl, or_ad 52 (by omega)] at h1
  unfold bOr
  rw [toI_small h1 (by omega)]
  omega
theorem and_pw (n k : Nat) : n &&& 2 ^ k = if n.testBit k = true then 2 ^ k else 0 := by
  apply Nat.eq_of_testBit_eq
  intro i
  rw [Nat.testBit_and, Nat.testBit_two_pow]
  by_cases h : k = i
  · subst h; cases hn : n.testBit k <;> simp
  · cases hn : n.testBit k <;> simp [h, Nat.testBit_two_pow]
theorem bAnd_s0 {v : Int} (h : 0 ≤ v ∧ v ≤ 9223372036854775807) : bAnd v (-9223372036854775808) = 0 := by
  have h1 : (Int64.ofInt v &&& Int64.ofInt (-9223372036854775808)).toBitVec.toNat = 0 := by
    show ((Int64.ofInt v).toBitVec &&& (Int64.ofInt (-9223372036854775808)).toBitVec).toNat = _
    rw [BitVec.toNat_and, tnL, show (Int64.ofInt (-9223372036854775808)).toBitVec.toNat = 2 ^ 63 from rfl, and_pw, Nat.testBit_lt_two_pow (by omega)]
    rfl
  unfold bAnd
  rw [toI_small h1 (by omega)]
  rfl
theorem bAnd_s1 {v : Int} (h : -9223372036854775808 ≤ v ∧ v < 0) : bAnd v (-9223372036854775808) = -9223372036854775808 := by
  have h2 : ((v % 18446744073709551616).toNat).testBit 63 = true := by
    rw [Nat.testBit_eq_decide_div_mod_eq]
    exact decide_eq_true (by omega)
  have h1 : (Int64.ofInt v &&& Int64.ofInt (-9223372036854775808)).toBitVec.toNat = 9223372036854775808 := by
    show ((Int64.ofInt v).toBitVec &&& (Int64.ofInt (-9223372036854775808)).toBitVec).toNat = _
    rw [BitVec.toNat_and, tnL, show (Int64.ofInt (-9223372036854775808)).toBitVec.toNat = 2 ^ 63 from rfl, and_pw, h2]
    rfl
  unfold bAnd
  rw [toI_big h1 (by omega)]
  rfl
theorem bOr_s0 {t : Int} (h : 0 ≤ t ∧ t ≤ 9223372036854775807) : bOr 0 t = t := by
  have h1 := bOr_n 0 t
  rw [show ((0 : Int) % 18446744073709551616).toNat = 0 from rfl, Nat.zero_or] at h1
  unfold bOr
  rw [toI_small h1 (by omega)]
  omega
theorem bOr_s1 {t : Int} (h : 0 ≤ t ∧ t ≤ 9223372036854775807) : bOr (-9223372036854775808) t = t - 9223372036854775808 := by
  have h1 := bOr_n (-9223372036854775808) t
  rw [show ((-9223372036854775808 : Int) % 18446744073709551616).toNat = 2 ^ 63 from rfl, Nat.or_comm, or_ad 63 (by omega)] at h1
  unfold bOr
  rw [toI_big h1 (by omega)]
  omega
theorem bOr_ET {E t : Int} (hE : 0 ≤ E ∧ E < 2048) (h : 0 ≤ t ∧ t < 4503599627370496) : bOr (E * 4503599627370496) t = E * 4503599627370496 + t := by
  have h1 := bOr_n (E * 4503599627370496) t
  have e : (E * 4503599627370496 % 18446744073709551616).toNat = 2 ^ 52 * E.toNat := by omega
  rw [e, show (t % 18446744073709551616).toNat = t.toNat by omega, ← Nat.two_pow_add_eq_or_of_lt (by omega) E.toNat] at h1
  unfold bOr
  rw [toI_small h1 (by omega)]
  omega
/-- the bits of a long as those of a double -/
def uB (v : Int) : UInt64 := (Int64.ofInt v).toUInt64
theorem uB_n {v : Int} : (uB v).toNat = (v % 18446744073709551616).toNat := tnL v
theorem uB_u (u : UInt64) : uB (u.toInt64).toInt = u := by
  unfold uB
  rw [Int64.ofInt_toInt]
  exact UInt64.toUInt64_toInt64 u
abbrev vD (a : UInt64) : FP.Core.Datum := FP.Core.val64 a
theorem vf_of {a : UInt64} (h : vD a ≠ .nan) : vf_n64 a := by
  have h1 := (FP.Core.ne_nan a).mp h
  unfold vf_n64
  rw [UInt64.le_iff_toNat_le, FP.Core.mask_toNat]
  exact h1
theorem sn_of {v : Int} (h : vD (uB v) ≠ .nan) : vn_snl2d (Int64.ofInt v) = false := by
  have h1 := vf_of h
  unfold vf_n64 uB at h1
  unfold vn_snl2d
  rw [decide_eq_false (UInt64.not_lt.mpr h1)]
  rfl
def Dq (c : Nat) (q : Int) : UInt64 := FP.Core.of64 (FP.Core.roundRatio FP.Core.b64 false c 1 q)
theorem Dq_v {c : Nat} {q : Int} : vD (Dq c q) = FP.Core.roundRatio FP.Core.b64 false c 1 q := FP.Core.val64_of64 (FP.Core.roundRatio_fits FP.Core.good_b64 false c (by decide) q)
theorem Dq_n {c : Nat} {q : Int} : vD (Dq c q) ≠ .nan := by rw [Dq_v]; exact FP.Core.roundRatio_ne_nan _ _ _ _ _
theorem Dq_of {a : UInt64} {c : Nat} {q : Int} (h : vD a = .fin false c q) : Dq c q = a := by
  refine FP.Core.val64_inj Dq_n ?_
  rw [show FP.Core.val64 (Dq c q) = _ from Dq_v, show FP.Core.val64 a = _ from h]
  have hf := FP.Core.val64_fits a
  rw [show FP.Core.val64 a = _ from h] at hf
  exact FP.Core.round_of_fits FP.Core.good_b64 hf
theorem pow_bal {A B x y : Nat} (h : A * 2 ^ x = B * 2 ^ y) : A * 2 ^ ((x : Int) - y).toNat = B * 2 ^ ((y : Int) - x).toNat := by
  by_cases hxy : x ≤ y
  · rw [show ((x : Int) - y).toNat = 0 by omega, show ((y : Int) - x).toNat = y - x by omega]
    have e : 2 ^ y = 2 ^ (y - x) * 2 ^ x := by rw [← Nat.pow_add]; congr 1; omega
    rw [e, ← Nat.mul_assoc] at h
    rw [Nat.pow_zero, Nat.mul_one]
    exact Nat.eq_of_mul_eq_mul_right (Nat.two_pow_pos x) h
  · rw [show ((y : Int) - x).toNat = 0 by omega, show ((x : Int) - y).toNat = x - y by omega]
    have e : 2 ^ x = 2 ^ (x - y) * 2 ^ y := by rw [← Nat.pow_add]; congr 1; omega
    rw [e, ← Nat.mul_assoc] at h
    rw [Nat.pow_zero, Nat.mul_one]
    exact Nat.eq_of_mul_eq_mul_right (Nat.two_pow_pos y) h
theorem P2 : ∀ k : Nat, k < 10 → vD (pw2 (k : Int)) = .fin false 4503599627370496 (((2 ^ k : Nat) : Int) - 52) := by decide +kernel
theorem Dq_c {c : Nat} {q : Int} (hc : c < 9007199254740992) (h1 : -1074 ≤ q) (h2 : q ≤ 971) : ∃ (c' : Nat) (q' : Int), FP.Core.roundRatio FP.Core.b64 false c 1 q = .fin false c' q' ∧ -1074 ≤ q' ∧ c' * 2 ^ (q' + 1074).toNat = c * 2 ^ (q + 1074).toNat := by
  obtain ⟨c', q', e1, e2⟩ := FP.Core.round_exact FP.Core.good_b64 false (c := c) (q := q) hc h1 h2
  have e3 : FP.Core.roundRatio FP.Core.b64 false c 1 q = .fin false c' q' := e1
  have hf := FP.Core.roundRatio_fits FP.Core.good_b64 false c (B := 1) (by decide) q
  rw [e3] at hf
  refine ⟨c', q', e3, hf.2.1, ?_⟩
  unfold FP.Core.inUnits at e2
  rw [FP.Core.qmin_b64] at e2
  rw [show q' + 1074 = q' - -1074 by omega, show q + 1074 = q - -1074 by omega]
  exact e2
theorem Dq_mul {c : Nat} {q : Int} {k : Nat} (hc : c < 9007199254740992) (h1 : -1074 ≤ q) (h2 : q ≤ 971) (hk : k < 10) : FP.dmul (Dq c q) (pw2 (k : Int)) = Dq c (q + ((2 ^ k : Nat) : Int)) := by
  refine (FP.Core.val64_inj Dq_n ?_).symm
  obtain ⟨c', q', e1, e2, e3⟩ := Dq_c hc h1 h2
  rw [show FP.Core.val64 (Dq c _) = _ from Dq_v, FP.Core.val64_dmul, show FP.Core.val64 (Dq c q) = _ from Dq_v, e1, show FP.Core.val64 (pw2 _) = _ from P2 k hk]
  show _ = FP.Core.roundRatio FP.Core.b64 false (c' * 4503599627370496) 1 (q' + (((2 ^ k : Nat) : Int) - 52))
  refine (FP.Core.roundRatio_congr (by decide) (by decide) ?_).symm
  generalize ((2 ^ k : Nat) : Int) = j
  have h := pow_bal (A := c' * 4503599627370496) (B := c) (x := (q' + 1074).toNat) (y := (q + 1074).toNat + 52) (by
    rw [Nat.pow_add, ← Nat.mul_assoc, ← e3, Nat.mul_right_comm])
  rw [Nat.mul_one, Nat.mul_one, show q' + (j - 52) - (q + j) = ((q' + 1074).toNat : Int) - ((q + 1074).toNat + 52 : Nat) by omega, show q + j - (q' + (j - 52)) = (((q + 1074).toNat + 52 : Nat) : Int) - ((q' + 1074).toNat : Int) by omega]
  exact h
theorem Dq_div {c : Nat} {q : Int} {k : Nat} (hc : c < 9007199254740992) (h1 : -1074 ≤ q) (h2 : q ≤ 971) (hk : k < 10) : FP.ddiv (Dq c q) (pw2 (k : Int)) = Dq c (q - ((2 ^ k : Nat) : Int)) := by
  refine (FP.Core.val64_inj Dq_n ?_).symm
  obtain ⟨c', q', e1, e2, e3⟩ := Dq_c hc h1 h2
  rw [show FP.Core.val64 (Dq c _) = _ from Dq_v, FP.Core.val64_ddiv, show FP.Core.val64 (Dq c q) = _ from Dq_v, e1, show FP.Core.val64 (pw2 _) = _ from P2 k hk]
  show _ = FP.Core.roundRatio FP.Core.b64 false c' 4503599627370496 (q' - (((2 ^ k : Nat) : Int) - 52))
  refine (FP.Core.roundRatio_congr (by decide) (by decide) ?_).symm
  generalize ((2 ^ k : Nat) : Int) = j
  have h := pow_bal (A := c') (B := c * 4503599627370496) (x := (q' + 1074).toNat + 52) (y := (q + 1074).toNat) (by
    rw [Nat.pow_add, ← Nat.mul_assoc, e3, Nat.mul_right_comm])
  rw [Nat.mul_one, show q' - (j - 52) - (q - j) = (((q' + 1074).toNat + 52 : Nat) : Int) - ((q + 1074).toNat : Int) by omega, show q - j - (q' - (j - 52)) = (((q + 1074).toNat : Nat) : Int) - (((q' + 1074).toNat + 52 : Nat) : Int) by omega]
  exact h
theorem Dq_inf {c : Nat} {q : Int} (hc : 4503599627370496 ≤ c) (h : 972 ≤ q) : Dq c q = 9218868437227405312 := by
  refine FP.Core.val64_inj Dq_n ?_
  rw [show FP.Core.val64 (Dq c q) = _ from Dq_v, show FP.Core.val64 9218868437227405312 = .inf false by decide +kernel]
  rw [FP.Core.roundRatio_inf FP.Core.good_b64 (e0 := -1075) (by decide) (by decide) (by omega)]
  unfold FP.Core.inUnits
  rw [show (FP.Core.b64.qmax - 1 - -1075).toNat = 2045 by decide, show (2 : Nat) ^ (FP.Core.b64.p + 1) - 1 = 18014398509481983 by decide, show (q - -1075).toNat = 2045 + (q - 970).toNat by omega, Nat.pow_add, Nat.mul_one]
  have h4 : 4 ≤ 2 ^ (q - 970).toNat := Nat.le_trans (by decide : 4 ≤ 2 ^ 2) (Nat.pow_le_pow_right (by decide) (by omega))
  generalize 2 ^ (q - 970).toNat = X at h4
  generalize 2 ^ 2045 = Y
  rw [Nat.mul_comm Y X, ← Nat.mul_assoc]
  refine Nat.mul_le_mul_right _ (Nat.le_trans ?_ (Nat.mul_le_mul hc h4))
  decide
theorem infM : ∀ k : Nat, k < 10 → FP.dmul 9218868437227405312 (pw2 (k : Int)) = 9218868437227405312 := by decide +kernel
theorem Dq_mulI {c : Nat} {q : Int} {k : Nat} (hc : 4503599627370496 ≤ c) (h : 972 ≤ q) (hk : k < 10) : FP.dmul (Dq c q) (pw2 (k : Int)) = Dq c (q + ((2 ^ k : Nat) : Int)) := by
  have := Nat.two_pow_pos k
  rw [Dq_inf hc h, Dq_inf hc (by omega), infM k hk]
theorem Dq_l {t : Nat} (h : t < 9007199254740992) : FP.l2d (Int64.ofInt (t : Int)) = Dq t 0 := by
  refine (FP.Core.val64_inj Dq_n ?_).symm
  rw [show FP.Core.val64 (Dq t 0) = _ from Dq_v, FP.Core.val64_l2d, i64 (by omega) (by omega)]
  show _ = FP.Core.round FP.Core.b64 (.fin (decide ((t : Int) < 0)) (t : Int).natAbs 0)
  rw [decide_eq_false (by omega), Int.natAbs_natCast]
  rfl
theorem vD_n {u : UInt64} {E t : Nat} (h : u.toNat = E * 4503599627370496 + t) (hE : E < 2047) (ht : t < 4503599627370496) : vD u = if E = 0 then .fin false t (-1074) else .fin false (4503599627370496 + t) ((E : Int) - 1075) := by
  have h1 := FP.Core.decode_assemble FP.Core.b64 false E t (by show E < 2048; omega) ht
  have h2 : FP.Core.assemble FP.Core.b64 false E t = u.toNat := by
    rw [h]
    show (0 * 2048 + E) * 4503599627370496 + t = _
    omega
  rw [h2, if_neg (by show ¬ E = 2047; omega)] at h1
  refine Eq.trans h1 ?_
  split
  · rfl
  · show FP.Core.Datum.fin false (4503599627370496 + t) (-1074 + ((E : Int) - 1)) = _
    rw [show -1074 + ((E : Int) - 1) = (E : Int) - 1075 by omega]
/-- a finite one above 0, from its fields -/
theorem Dq_b {u : UInt64} {E t : Nat} (h : u.toNat = E * 4503599627370496 + t) (hE : E < 2047) (ht : t < 4503599627370496) : u = if E = 0 then Dq t (-1074) else Dq (4503599627370496 + t) ((E : Int) - 1075) := by
  have h1 := vD_n h hE ht
  split
  · rename_i e; rw [if_pos e] at h1; exact (Dq_of h1).symm
  · rename_i e; rw [if_neg e] at h1; exact (Dq_of h1).symm
theorem neg1 {a : UInt64} (h : vD a ≠ .nan) (ha : a.toNat < 9223372036854775808) : FP.dmul a 13830554455654793216 = UInt64.ofNat (a.toNat + 9223372036854775808) := by
  have e : (13830554455654793216 : UInt64) = FP.Core.dneg 4607182418800017408 := by decide +kernel
  have hb : (UInt64.ofNat (a.toNat + 9223372036854775808)).toNat = a.toNat + 9223372036854775808 := by rw [UInt64.toNat_ofNat']; omega
  have hv := FP.Core.val64_neg_bits (a := a) (b := UInt64.ofNat (a.toNat + 9223372036854775808)) (Or.inr hb)
  show FP.Core.dmul a _ = _
  rw [FP.Core.dmul_comm, e, FP.Core.dmul_dneg, FP.Core.one_dmul ((FP.Core.notNaN_iff a).mpr h)]
  refine (FP.Core.val64_inj ?_ ?_).symm
  · rw [hv]; exact FP.Core.negate_ne_nan h
  · rw [hv, FP.Core.val64_dneg]

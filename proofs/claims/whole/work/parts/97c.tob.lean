/-! doubles: from bits and to bits -/
/-- the double of these bits; of what is no number an infinite one -/
def fb (v : Int) : UInt64 := if v % 9223372036854775808 ≤ 9218868437227405312 then uB v else if v < 0 then 18442240474082181120 else 9218868437227405312
theorem tdiv2 (p : Int) : (0 ≤ p ∧ 2 * p.tdiv 2 ≤ p ∧ p ≤ 2 * p.tdiv 2 + 1) ∨ (p < 0 ∧ p ≤ 2 * p.tdiv 2 ∧ 2 * p.tdiv 2 ≤ p + 1) := by
  by_cases h : 0 ≤ p
  · refine Or.inl ?_
    rw [Int.tdiv_eq_ediv_of_nonneg h]
    omega
  · refine Or.inr ?_
    have e : p.tdiv 2 = -((-p) / 2) := by rw [← Int.tdiv_eq_ediv_of_nonneg (by omega), Int.neg_tdiv, Int.neg_neg]
    rw [e]
    omega
theorem ofN {n : Nat} (h : n < 18446744073709551616) : (UInt64.ofNat n).toNat = n := by rw [UInt64.toNat_ofNat']; exact Nat.mod_eq_of_lt h
theorem Dq_bits {c : Nat} {q : Int} (hc : 4503599627370496 ≤ c ∧ c < 9007199254740992) (hq : -1074 ≤ q ∧ q ≤ 971) : (Dq c q).toNat = (q + 1075).toNat * 4503599627370496 + (c - 4503599627370496) := by
  have h := Dq_b (u := UInt64.ofNat ((q + 1075).toNat * 4503599627370496 + (c - 4503599627370496))) (E := (q + 1075).toNat) (t := c - 4503599627370496) (ofN (by omega)) (by omega) (by omega)
  rw [if_neg (by omega), show 4503599627370496 + (c - 4503599627370496) = c by omega, show (((q + 1075).toNat : Nat) : Int) - 1075 = q by omega] at h
  rw [← h, ofN (by omega)]
theorem dk_small {a : UInt64} (h : a.toNat < 9223372036854775808) : dk a = a.toNat := by
  have := dk_mg a
  unfold mg at this
  omega
theorem Dq_dk {c : Nat} {q : Int} (hc : 4503599627370496 ≤ c ∧ c < 9007199254740992) (hq : -1074 ≤ q ∧ q ≤ 971) : dk (Dq c q) = (q + 1075) * 4503599627370496 + ((c : Int) - 4503599627370496) := by
  have h := Dq_bits hc hq
  rw [dk_small (by omega), h]
  omega
theorem pk : ∀ k : Nat, k < 10 → dk (pw2 (k : Int)) = (1023 + ((2 ^ k : Nat) : Int)) * 4503599627370496 ∧ vD (pw2 (k : Int)) ≠ .nan := by decide +kernel
theorem jShl_2 : ∀ e : Nat, e < 10 → jShl 1 e = ((2 ^ e : Nat) : Int) := by decide +kernel
theorem Dq_52 {c : Nat} (hc : c < 9007199254740992) : FP.dmul (Dq c (-52)) 4841369599423283200 = Dq c 0 := by
  refine (FP.Core.val64_inj Dq_n ?_).symm
  obtain ⟨c', q', e1, e2, e3⟩ := Dq_c (q := -52) hc (by omega) (by omega)
  rw [show FP.Core.val64 (Dq c 0) = _ from Dq_v, FP.Core.val64_dmul, show FP.Core.val64 (Dq c (-52)) = _ from Dq_v, e1, show FP.Core.val64 4841369599423283200 = .fin false 4503599627370496 0 by decide +kernel]
  show _ = FP.Core.roundRatio FP.Core.b64 false (c' * 4503599627370496) 1 (q' + 0)
  refine (FP.Core.roundRatio_congr (by decide) (by decide) ?_).symm
  have h := pow_bal (A := c' * 4503599627370496) (B := c) (x := (q' + 1074).toNat) (y := (-52 + 1074 : Int).toNat + 52) (by
    rw [Nat.pow_add, ← Nat.mul_assoc, ← e3, Nat.mul_right_comm])
  rw [Nat.mul_one, Nat.mul_one, show q' + 0 - 0 = ((q' + 1074).toNat : Int) - (((-52 + 1074 : Int).toNat + 52 : Nat) : Int) by omega, show 0 - (q' + 0) = (((-52 + 1074 : Int).toNat + 52 : Nat) : Int) - ((q' + 1074).toNat : Int) by omega]
  exact h
theorem d2l_Dq {t : Nat} (h : t < 9007199254740992) : (FP.d2l (Dq t 0)).toInt = t := by
  rw [← Dq_l h]
  have e : (Int64.ofInt (t : Int)).toInt = t := i64 (by omega) (by omega)
  show (FP.Core.d2l (FP.Core.l2d _)).toInt = _
  rw [FP.Core.d2l_l2d (by rw [e]; omega), e]
theorem shl52 {X : Int} : vl (bShl X 52) = vl (X * 4503599627370496) := bShl_v (k := 52) (by decide)
section DTB
variable {H : HP} {Q : Option Value → HP → Prop}
theorem fb_mid {c : Nat} {P : Int} (h8 : hget H 8 = cO 0 [.ref 9, .ref 10, .ref 11, .ref 12, .ref 13]) (h9 : hget H 9 = cD 10 pw2) (hc : c < 9007199254740992) (hP : -1074 ≤ P ∧ P ≤ 972) (h : 4503599627370496 ≤ c ∨ P ≤ 971) {l1 l2 l3 l4 l5 : Option Value} : Go 8 51 [some (.ref 8), l1, l2, l3, l4, l5, some (.double (Dq c 0)), none, some (vi P)] [] H Q ↔ Go 8 74 [some (.ref 8), l1, l2, l3, l4, l5, some (.double (Dq c P)), none, some (vi P)] [] H Q := by
  have ht := tdiv2 P
  have s1 := fun Q => sp_sc (Q := Q) (c := c) (q := 0) (p := P.tdiv 2) h8 h9 (by omega) hc (by omega) (by omega)
  have s2 := fun Q => sp_sc (Q := Q) (c := c) (q := 0 + P.tdiv 2) (p := P - P.tdiv 2) h8 h9 (by omega) hc (by omega) (by omega)
  rw [gX0_fromBits_51]
  simp (disch := omega) only [gX0_fromBits_52, gX0_fromBits_53, gX0_fromBits_55, gX0_fromBits_57, gX0_fromBits_58, gX0_fromBits_59, gX0_fromBits_62, gX0_fromBits_64, gX0_fromBits_66, gX0_fromBits_67, gX0_fromBits_68, gX0_fromBits_69, gX0_fromBits_72, Rd_some, Wr_some, Cont_some, Cont_none, iso_O, true_and, hg_s, hg_n, hput_hput, s1, s2, h8]
  rw [show 0 + P.tdiv 2 + (P - P.tdiv 2) = P by omega]
theorem fb_end {a : UInt64} {v : Int} (hv : -9223372036854775808 ≤ v ∧ v ≤ 9223372036854775807) (h : vD a ≠ .nan) (ha : a.toNat < 9223372036854775808) {l0 l3 l4 l5 l8 : Option Value} : Go 8 74 [l0, some (vl v), none, l3, l4, l5, some (.double a), none, l8] [] H Q ↔ Q (some (.double (if v < 0 then UInt64.ofNat (a.toNat + 9223372036854775808) else a))) H := by
  rw [gX0_fromBits_74]
  by_cases c1 : v < 0
  · have hn : vf_n64 (FP.dmul a 13830554455654793216) := by
      rw [neg1 h ha]
      refine vf_of (num_mg.mpr ?_)
      have := num_mg.mp h
      unfold mg at this ⊢
      rw [ofN (by omega)]
      omega
    have e := bAnd_s1 (v := v) (by omega)
    rw [if_pos c1, ← neg1 h ha]
    simp (disch := first | omega | assumption) only [gX0_fromBits_75, gX0_fromBits_78, gX0_fromBits_79, gX0_fromBits_80T, gX0_fromBits_80F, gX0_fromBits_81T, gX0_fromBits_81F, gX0_fromBits_84, gX0_fromBits_86, gX0_fromBits_89, gX0_fromBits_90, gX0_fromBits_93, gX0_fromBits_95, Rd_some, Wr_some, Cont_some, Cont_none, iso_O, true_and, hg_s, hg_n, hput_hput, e]
  · have e := bAnd_s0 (v := v) (by omega)
    rw [if_neg c1]
    simp (disch := first | omega | assumption) only [gX0_fromBits_75, gX0_fromBits_78, gX0_fromBits_79, gX0_fromBits_80T, gX0_fromBits_80F, gX0_fromBits_81T, gX0_fromBits_81F, gX0_fromBits_84, gX0_fromBits_86, gX0_fromBits_89, gX0_fromBits_90, gX0_fromBits_93, gX0_fromBits_95, Rd_some, Wr_some, Cont_some, Cont_none, iso_O, true_and, hg_s, hg_n, hput_hput, e]
theorem fb_v {v : Int} {a : UInt64} (hv : -9223372036854775808 ≤ v ∧ v ≤ 9223372036854775807) (h : (a.toNat : Int) = min (v % 9223372036854775808) 9218868437227405312) : (if v < 0 then UInt64.ofNat (a.toNat + 9223372036854775808) else a) = fb v := by
  unfold fb
  by_cases c1 : v % 9223372036854775808 ≤ 9218868437227405312
  · rw [if_pos c1]
    refine UInt64.toNat.inj ?_
    rw [uB_n]
    split
    · rw [ofN (by omega)]; omega
    · omega
  · rw [if_neg c1]
    split
    · refine UInt64.toNat.inj ?_
      rw [ofN (by omega)]
      show _ = 18442240474082181120
      omega
    · refine UInt64.toNat.inj ?_
      show _ = 9218868437227405312
      omega
theorem sp_fb {v : Int} (h8 : hget H 8 = cO 0 [.ref 9, .ref 10, .ref 11, .ref 12, .ref 13]) (h9 : hget H 9 = cD 10 pw2) (hv : -9223372036854775808 ≤ v ∧ v ≤ 9223372036854775807) : Go 8 0 [some (.ref 8), some (vl v), none, none, none, none, none, none, none] [] H Q ↔ Q (some (.double (fb v))) H := by
  have e1 := bE (v := v)
  have e2 := bAnd_52 (v := v)
  generalize hE : v % 9223372036854775808 / 4503599627370496 = E at e1
  generalize hT : v % 4503599627370496 = T at e2
  have hT' : T = ((T.toNat : Nat) : Int) := by omega
  have e3 := bOr_52 (t := T) (by omega)
  by_cases c0 : E = 0
  · have el : FP.l2d (Int64.ofInt T) = Dq T.toNat 0 := by rw [hT']; exact Dq_l (by omega)
    have b := Dq_b (u := UInt64.ofNat T.toNat) (E := 0) (t := T.toNat) (by rw [ofN (by omega)]; omega) (by omega) (by omega)
    rw [if_pos rfl] at b
    subst c0
    simp (disch := omega) only [gX0_fromBits_0, gX0_fromBits_1, gX0_fromBits_4, gX0_fromBits_5, gX0_fromBits_7, gX0_fromBits_8, gX0_fromBits_9, gX0_fromBits_10, gX0_fromBits_11, gX0_fromBits_14, gX0_fromBits_15, gX0_fromBits_17, gX0_fromBits_18T, gX0_fromBits_18F, gX0_fromBits_21, gX0_fromBits_23, gX0_fromBits_24, gX0_fromBits_27, gX0_fromBits_29, gX0_fromBits_32, gX0_fromBits_33, gX0_fromBits_34, gX0_fromBits_36, gX0_fromBits_37T, gX0_fromBits_37F, gX0_fromBits_40, gX0_fromBits_41, gX0_fromBits_44, gX0_fromBits_45, gX0_fromBits_48, gX0_fromBits_49, Rd_some, Wr_some, Cont_some, Cont_none, iso_O, true_and, hg_s, hg_n, hput_hput, e1, e2, el]
    rw [show (1 : Int) - 1075 = -1074 from rfl, fb_mid h8 h9 (by omega) (by omega) (by omega), fb_end hv Dq_n (by rw [← b, ofN (by omega)]; omega), fb_v hv (by rw [← b, ofN (by omega)]; omega)]
  · have el : FP.l2d (Int64.ofInt (T + 4503599627370496)) = Dq (4503599627370496 + T.toNat) 0 := by
      rw [show T + 4503599627370496 = ((4503599627370496 + T.toNat : Nat) : Int) by omega]
      exact Dq_l (by omega)
    simp (disch := omega) only [gX0_fromBits_0, gX0_fromBits_1, gX0_fromBits_4, gX0_fromBits_5, gX0_fromBits_7, gX0_fromBits_8, gX0_fromBits_9, gX0_fromBits_10, gX0_fromBits_11, gX0_fromBits_14, gX0_fromBits_15, gX0_fromBits_17, gX0_fromBits_18T, gX0_fromBits_18F, gX0_fromBits_21, gX0_fromBits_23, gX0_fromBits_24, gX0_fromBits_27, gX0_fromBits_29, gX0_fromBits_32, gX0_fromBits_33, gX0_fromBits_34, gX0_fromBits_36, gX0_fromBits_37T, gX0_fromBits_37F, gX0_fromBits_40, gX0_fromBits_41, gX0_fromBits_44, gX0_fromBits_45, gX0_fromBits_48, gX0_fromBits_49, Rd_some, Wr_some, Cont_some, Cont_none, iso_O, true_and, hg_s, hg_n, hput_hput, e1, e2, e3, el]
    rw [fb_mid h8 h9 (by omega) (by omega) (by omega)]
    by_cases c1 : E = 2047
    · have i := Dq_inf (c := 4503599627370496 + T.toNat) (q := E - 1075) (by omega) (by omega)
      have i2 : (Dq (4503599627370496 + T.toNat) (E - 1075)).toNat = 9218868437227405312 := by rw [i]; rfl
      rw [fb_end hv Dq_n (by omega), fb_v hv (by omega)]
    · have i2 := Dq_bits (c := 4503599627370496 + T.toNat) (q := E - 1075) (by omega) (by omega)
      rw [fb_end hv Dq_n (by omega), fb_v hv (by omega)]
theorem lp_nb1 {c : Nat} {e0 : Int} (h8 : hget H 8 = cO 0 [.ref 9, .ref 10, .ref 11, .ref 12, .ref 13]) (h9 : hget H 9 = cD 10 pw2) (hc : 4503599627370496 ≤ c ∧ c < 9007199254740992) (h0 : -1022 ≤ e0 ∧ e0 ≤ 1023) {l1 l2 : Option Value} : ∀ (k : Nat) (e : Int), k ≤ 10 → e < ((2 ^ k : Nat) : Int) → (e0 < 0 → e = e0) → (0 ≤ e0 → 0 ≤ e) → e ≤ 1023 → (Go 10 11 [some (.ref 8), l1, l2, some (.double (Dq c (e - 52))), none, some (vi (1023 + e0 - e)), some (vi ((k : Int) - 1))] [] H Q ↔ Go 10 53 [some (.ref 8), l1, l2, some (.double (Dq c (min e0 0 - 52))), none, some (vi (1023 + e0 - min e0 0)), some (vi (-1))] [] H Q) := by
  intro k
  induction k with
  | zero =>
    intro e hk h1 h2 h3 h4
    rw [show ((0 : Nat) : Int) - 1 = -1 from rfl, gX0_normalBits_11]
    simp (disch := omega) only [gX0_normalBits_13T, gX0_normalBits_13F, Rd_some, Wr_some, Cont_some, Cont_none, iso_O, true_and, hg_s, hg_n, hput_hput]
    rw [show min e0 0 = e by omega]
  | succ k ih =>
    intro e hk h1 h2 h3 h4
    have hp := Nat.pow_succ (n := 2) (m := k)
    have hpp := Nat.two_pow_pos k
    have hd := Dq_dk (q := e - 52) hc (by omega)
    have hpk := pk k (by omega)
    have hj := jShl_2 k (by omega)
    have hm : 2 ^ k ≤ 2 ^ 9 := Nat.pow_le_pow_right (by decide) (by omega)
    rw [show ((k + 1 : Nat) : Int) - 1 = (k : Int) by omega, gX0_normalBits_11]
    by_cases hc1 : e < ((2 ^ k : Nat) : Int)
    · have t : dck .l .lt (Dq c (e - 52)) (pw2 (k : Int)) = true := dck_T Dq_n hpk.2 (by show _ < _; omega)
      simp (disch := first | omega | assumption) only [gX0_normalBits_13T, gX0_normalBits_13F, gX0_normalBits_16, gX0_normalBits_17, gX0_normalBits_18, fl_0_0, gX0_normalBits_21, gX0_normalBits_23, aD_g, gX0_normalBits_24T, gX0_normalBits_24F, gX0_normalBits_25T, gX0_normalBits_25F, gX0_normalBits_28, gX0_normalBits_29, gX0_normalBits_30, gX0_normalBits_33, gX0_normalBits_35, gX0_normalBits_36, gX0_normalBits_37, gX0_normalBits_38, gX0_normalBits_40, gX0_normalBits_41, gX0_normalBits_43, gX0_normalBits_44, gX0_normalBits_45, gX0_normalBits_47, gX0_normalBits_50, Rd_some, Wr_some, Cont_some, Cont_none, iso_O, true_and, hg_s, hg_n, hput_hput, h8, h9, aD_g]
      exact ih e (by omega) hc1 h2 h3 h4
    · have t : dck .l .lt (Dq c (e - 52)) (pw2 (k : Int)) = false := dck_F Dq_n hpk.2 (by show ¬ (_ < _); omega)
      have em := Dq_div (q := e - 52) (k := k) hc.2 (by omega) (by omega) (by omega)
      have hv : vf_n64 (FP.ddiv (Dq c (e - 52)) (pw2 (k : Int))) := by rw [em]; exact vf_of Dq_n
      simp (disch := first | omega | assumption) only [gX0_normalBits_13T, gX0_normalBits_13F, gX0_normalBits_16, gX0_normalBits_17, gX0_normalBits_18, fl_0_0, gX0_normalBits_21, gX0_normalBits_23, aD_g, gX0_normalBits_24T, gX0_normalBits_24F, gX0_normalBits_25T, gX0_normalBits_25F, gX0_normalBits_28, gX0_normalBits_29, gX0_normalBits_30, gX0_normalBits_33, gX0_normalBits_35, gX0_normalBits_36, gX0_normalBits_37, gX0_normalBits_38, gX0_normalBits_40, gX0_normalBits_41, gX0_normalBits_43, gX0_normalBits_44, gX0_normalBits_45, gX0_normalBits_47, gX0_normalBits_50, Rd_some, Wr_some, Cont_some, Cont_none, iso_O, true_and, hg_s, hg_n, hput_hput, h8, h9, aD_g, hj]
      rw [em, show e - 52 - ((2 ^ k : Nat) : Int) = e - ((2 ^ k : Nat) : Int) - 52 by omega, show 1023 + e0 - e + ((2 ^ k : Nat) : Int) = 1023 + e0 - (e - ((2 ^ k : Nat) : Int)) by omega]
      exact ih (e - ((2 ^ k : Nat) : Int)) (by omega) (by omega) (by omega) (by omega) (by omega)
theorem lp_nb2 {c : Nat} {e0 : Int} (h8 : hget H 8 = cO 0 [.ref 9, .ref 10, .ref 11, .ref 12, .ref 13]) (h9 : hget H 9 = cD 10 pw2) (hc : 4503599627370496 ≤ c ∧ c < 9007199254740992) (h0 : -1022 ≤ e0 ∧ e0 ≤ 1023) {l1 l2 : Option Value} : ∀ (k : Nat) (e : Int), k ≤ 10 → -((2 ^ k : Nat) : Int) < e → -1022 ≤ e → e ≤ 0 → (Go 10 57 [some (.ref 8), l1, l2, some (.double (Dq c (e - 52))), none, some (vi (1023 + e0 - e)), some (vi ((k : Int) - 1))] [] H Q ↔ Q (some (vl ((1023 + e0) * 4503599627370496 + ((c : Int) - 4503599627370496)))) H) := by
  intro k
  induction k with
  | zero =>
    intro e hk h1 h2 h3
    have he : e = 0 := by omega
    subst he
    have hv : vf_n64 (FP.dmul (Dq c (0 - 52)) 4841369599423283200) := by rw [show (0 : Int) - 52 = -52 from rfl, Dq_52 hc.2]; exact vf_of Dq_n
    have em := Dq_52 hc.2
    have ed := d2l_Dq hc.2
    have e2 := bAnd_52 (v := (c : Int))
    have e3 := bOr_ET (E := 1023 + e0) (t := (c : Int) % 4503599627370496) (by omega) (by omega)
    rw [show ((0 : Nat) : Int) - 1 = -1 from rfl, gX0_normalBits_57]
    simp (disch := first | omega | assumption) only [gX0_normalBits_59T, gX0_normalBits_59F, gX0_normalBits_103, gX0_normalBits_105, gX0_normalBits_106, gX0_normalBits_108, gX0_normalBits_109, gX0_normalBits_110, gX0_normalBits_113, Rd_some, Wr_some, Cont_some, Cont_none, iso_O, true_and, hg_s, hg_n, hput_hput]
    rw [show (0 : Int) - 52 = -52 from rfl, em, show 1023 + e0 - 0 = 1023 + e0 by omega, shl52]
    simp (disch := first | omega | assumption) only [gX0_normalBits_114, gX0_normalBits_115, gX0_normalBits_118, gX0_normalBits_119, gX0_normalBits_120, Rd_some, Wr_some, Cont_some, Cont_none, iso_O, true_and, hg_s, hg_n, hput_hput, ed, e2, e3]
    rw [show (c : Int) % 4503599627370496 = (c : Int) - 4503599627370496 by omega]
  | succ k ih =>
    intro e hk h1 h2 h3
    have hp := Nat.pow_succ (n := 2) (m := k)
    have hpp := Nat.two_pow_pos k
    have hm : 2 ^ k ≤ 2 ^ 9 := Nat.pow_le_pow_right (by decide) (by omega)
    have em := Dq_mul (q := e - 52) (k := k) hc.2 (by omega) (by omega) (by omega)
    have hv : vf_n64 (FP.dmul (Dq c (e - 52)) (pw2 (k : Int))) := by rw [em]; exact vf_of Dq_n
    have hd := Dq_dk (q := e - 52 + ((2 ^ k : Nat) : Int)) hc (by omega)
    have hj := jShl_2 k (by omega)
    have k2 : dk 4611686018427387904 = 4611686018427387904 ∧ vD 4611686018427387904 ≠ .nan := by decide +kernel
    rw [show ((k + 1 : Nat) : Int) - 1 = (k : Int) by omega, gX0_normalBits_57]
    by_cases hc1 : e + ((2 ^ k : Nat) : Int) ≤ 0
    · have t : dck .g .ge (Dq c (e - 52 + ((2 ^ k : Nat) : Int))) 4611686018427387904 = false := dck_F Dq_n k2.2 (by show ¬ (_ ≤ _); omega)
      simp (disch := first | omega | assumption) only [gX0_normalBits_59T, gX0_normalBits_59F, gX0_normalBits_62, gX0_normalBits_63, gX0_normalBits_64, fl_0_0, gX0_normalBits_67, gX0_normalBits_69, aD_g, gX0_normalBits_70, Rd_some, Wr_some, Cont_some, Cont_none, iso_O, true_and, hg_s, hg_n, hput_hput, h8, h9, aD_g]
      rw [em]
      simp (disch := first | omega | assumption) only [gX0_normalBits_71, gX0_normalBits_74T, gX0_normalBits_74F, gX0_normalBits_75T, gX0_normalBits_75F, gX0_normalBits_78, gX0_normalBits_79, gX0_normalBits_80, fl_0_0, gX0_normalBits_83, gX0_normalBits_85, aD_g, Rd_some, Wr_some, Cont_some, Cont_none, iso_O, true_and, hg_s, hg_n, hput_hput, h8, h9, aD_g]
      simp (disch := first | omega | assumption) only [gX0_normalBits_86, Rd_some, Wr_some, Cont_some, Cont_none, iso_O, true_and, hg_s, hg_n, hput_hput]
      rw [em]
      simp (disch := first | omega | assumption) only [gX0_normalBits_87, gX0_normalBits_88, gX0_normalBits_90, gX0_normalBits_91, gX0_normalBits_93, gX0_normalBits_94, gX0_normalBits_95, gX0_normalBits_97, gX0_normalBits_100, Rd_some, Wr_some, Cont_some, Cont_none, iso_O, true_and, hg_s, hg_n, hput_hput, hj]
      rw [show e - 52 + ((2 ^ k : Nat) : Int) = e + ((2 ^ k : Nat) : Int) - 52 by omega, show 1023 + e0 - e - ((2 ^ k : Nat) : Int) = 1023 + e0 - (e + ((2 ^ k : Nat) : Int)) by omega]
      exact ih (e + ((2 ^ k : Nat) : Int)) (by omega) (by omega) (by omega) (by omega)
    · have t : dck .g .ge (Dq c (e - 52 + ((2 ^ k : Nat) : Int))) 4611686018427387904 = true := dck_T Dq_n k2.2 (by show _ ≤ _; omega)
      simp (disch := first | omega | assumption) only [gX0_normalBits_59T, gX0_normalBits_59F, gX0_normalBits_62, gX0_normalBits_63, gX0_normalBits_64, fl_0_0, gX0_normalBits_67, gX0_normalBits_69, aD_g, gX0_normalBits_70, Rd_some, Wr_some, Cont_some, Cont_none, iso_O, true_and, hg_s, hg_n, hput_hput, h8, h9, aD_g]
      rw [em]
      simp (disch := first | omega | assumption) only [gX0_normalBits_71, gX0_normalBits_74T, gX0_normalBits_74F, gX0_normalBits_97, gX0_normalBits_100, Rd_some, Wr_some, Cont_some, Cont_none, iso_O, true_and, hg_s, hg_n, hput_hput]
      exact ih e (by omega) (by omega) (by omega) (by omega)
theorem sp_nb {y : UInt64} (h8 : hget H 8 = cO 0 [.ref 9, .ref 10, .ref 11, .ref 12, .ref 13]) (h9 : hget H 9 = cD 10 pw2) (hy : 4503599627370496 ≤ y.toNat ∧ y.toNat < 9218868437227405312) : Go 10 0 [some (.ref 8), some (.double y), none, none, none, none, none] [] H Q ↔ Q (some (vl (y.toNat : Int))) H := by
  have b := Dq_b (u := y) (E := y.toNat / 4503599627370496) (t := y.toNat % 4503599627370496) (by omega) (by omega) (by omega)
  rw [if_neg (by omega)] at b
  generalize hc : 4503599627370496 + y.toNat % 4503599627370496 = c at b
  generalize he : ((y.toNat / 4503599627370496 : Nat) : Int) = E at b
  simp (disch := omega) only [gX0_normalBits_0, gX0_normalBits_1, gX0_normalBits_2, gX0_normalBits_5, gX0_normalBits_7, gX0_normalBits_9, Rd_some, Wr_some, Cont_some, Cont_none, iso_O, true_and, hg_s, hg_n, hput_hput]
  have h1 := lp_nb1 (Q := Q) (e0 := E - 1023) (l1 := some (.double y)) (l2 := none) h8 h9 (c := c) (by omega) (by omega) 10 (E - 1023) (by omega) (by show E - 1023 < 1024; omega) (by omega) (by omega) (by omega)
  have h2 := lp_nb2 (Q := Q) (e0 := E - 1023) (l1 := some (.double y)) (l2 := none) h8 h9 (c := c) (by omega) (by omega) 10 (min (E - 1023) 0) (by omega) (by show -1024 < _; omega) (by omega) (by omega)
  rw [show E - 1023 - 52 = E - 1075 by omega, ← b, show 1023 + (E - 1023) - (E - 1023) = 1023 by omega] at h1
  refine h1.trans ?_
  simp (disch := omega) only [gX0_normalBits_53, gX0_normalBits_55, Rd_some, Wr_some, Cont_some, Cont_none, iso_O, true_and, hg_s, hg_n, hput_hput]
  refine h2.trans ?_
  rw [show (1023 + (E - 1023)) * 4503599627370496 + ((c : Int) - 4503599627370496) = (y.toNat : Int) by omega]
/-- 0 less what is below 0 -/
theorem neg0 {x : UInt64} (h : vD x ≠ .nan) (hx : 9223372036854775808 < x.toNat) : FP.dsub 0 x = UInt64.ofNat (x.toNat - 9223372036854775808) := by
  have h1 := x.toNat_lt
  have hb : (UInt64.ofNat (x.toNat - 9223372036854775808)).toNat = x.toNat - 9223372036854775808 := ofN (by omega)
  have hv : FP.Core.val64 (UInt64.ofNat (x.toNat - 9223372036854775808)) = FP.Core.negate (FP.Core.val64 x) := FP.Core.val64_neg_bits (Or.inl (by omega))
  have e : FP.Core.dneg x = UInt64.ofNat (x.toNat - 9223372036854775808) := by
    refine (FP.Core.val64_inj ?_ ?_).symm
    · rw [hv]; exact FP.Core.negate_ne_nan h
    · rw [hv, FP.Core.val64_dneg]
  show FP.Core.dsub 0 x = _
  rw [FP.Core.dsub_eq, FP.Core.dadd_comm, e]
  refine FP.Core.dadd_zero ?_ ?_
  · rw [hv]; exact FP.Core.negate_ne_nan h
  · intro hz
    have := congrArg UInt64.toNat hz
    rw [hb] at this
    have e2 : FP.Core.dzeroNeg.toNat = 9223372036854775808 := rfl
    omega
theorem tb_mid {y : UInt64} {s : Int} (h8 : hget H 8 = cO 0 [.ref 9, .ref 10, .ref 11, .ref 12, .ref 13]) (h9 : hget H 9 = cD 10 pw2) (hn : vD y ≠ .nan) (hy : y.toNat < 9223372036854775808) {l1 l2 : Option Value} : Go 9 29 [some (.ref 8), l1, l2, some (vl s), none, some (.double y), none] [] H Q ↔ Q (some (vl (bOr s (y.toNat : Int)))) H := by
  have hm := num_mg.mp hn
  have hd := dk_small hy
  have em : mg y = (y.toNat : Int) := by unfold mg; omega
  have k2 : dk 4503599627370496 = 4503599627370496 ∧ vD 4503599627370496 ≠ .nan := by decide +kernel
  rw [gX0_toBits_29]
  by_cases c1 : mg y = 9218868437227405312
  · simp (disch := first | omega | assumption) only [gX0_toBits_31, gX0_toBits_34T, gX0_toBits_34F, gX0_toBits_37, gX0_toBits_38, gX0_toBits_41, gX0_toBits_42, Rd_some, Wr_some, Cont_some, Cont_none, iso_O, true_and, hg_s, hg_n, hput_hput, sp_inf hn, if_pos c1]
    rw [← em, c1]
  · by_cases c2 : dk y < 4503599627370496
    · have t : dck .g .ge y 4503599627370496 = false := dck_F hn k2.2 (by show ¬ (_ ≤ _); omega)
      have b := Dq_b (u := y) (E := 0) (t := y.toNat) (by omega) (by omega) (by omega)
      rw [if_pos rfl] at b
      have s1 := fun Q => sp_sc (Q := Q) (c := y.toNat) (q := -1074) (p := 537) h8 h9 (by omega) (by omega) (by omega) (by omega)
      have s2 := fun Q => sp_sc (Q := Q) (c := y.toNat) (q := -1074 + 537) (p := 537) h8 h9 (by omega) (by omega) (by omega) (by omega)
      rw [← b] at s1
      have ed := d2l_Dq (t := y.toNat) (by omega)
      simp (disch := first | omega | assumption) only [gX0_toBits_31, gX0_toBits_34T, gX0_toBits_34F, gX0_toBits_37, gX0_toBits_38, gX0_toBits_41, gX0_toBits_42, gX0_toBits_43, gX0_toBits_45, gX0_toBits_48T, gX0_toBits_48F, gX0_toBits_49T, gX0_toBits_49F, gX0_toBits_52, gX0_toBits_53, gX0_toBits_54, gX0_toBits_55, gX0_toBits_57, gX0_toBits_60, gX0_toBits_63, gX0_toBits_66, gX0_toBits_69, gX0_toBits_70, gX0_toBits_71, Rd_some, Wr_some, Cont_some, Cont_none, iso_O, true_and, hg_s, hg_n, hput_hput, sp_inf hn, if_neg c1, h8, s1, s2]
      rw [show -1074 + 537 + 537 = (0 : Int) from rfl, ed]
    · have t : dck .g .ge y 4503599627370496 = true := dck_T hn k2.2 (by show _ ≤ _; omega)
      have s1 := fun Q => sp_nb (Q := Q) (y := y) h8 h9 (by omega)
      simp (disch := first | omega | assumption) only [gX0_toBits_31, gX0_toBits_34T, gX0_toBits_34F, gX0_toBits_37, gX0_toBits_38, gX0_toBits_41, gX0_toBits_42, gX0_toBits_43, gX0_toBits_45, gX0_toBits_48T, gX0_toBits_48F, gX0_toBits_49T, gX0_toBits_49F, gX0_toBits_52, gX0_toBits_53, gX0_toBits_54, gX0_toBits_55, gX0_toBits_57, gX0_toBits_60, gX0_toBits_63, gX0_toBits_66, gX0_toBits_69, gX0_toBits_70, gX0_toBits_71, gX0_toBits_72, gX0_toBits_73, gX0_toBits_74, gX0_toBits_76, gX0_toBits_79, gX0_toBits_80, Rd_some, Wr_some, Cont_some, Cont_none, iso_O, true_and, hg_s, hg_n, hput_hput, sp_inf hn, if_neg c1, h8, s1]
theorem tI_u {x : UInt64} : x.toInt64.toInt = if x.toNat < 9223372036854775808 then (x.toNat : Int) else (x.toNat : Int) - 18446744073709551616 := by
  split
  · exact toI_small (n := x.toNat) rfl (by assumption)
  · exact toI_big (n := x.toNat) rfl (by omega)
theorem sp_2b {x : UInt64} (h8 : hget H 8 = cO 0 [.ref 9, .ref 10, .ref 11, .ref 12, .ref 13]) (h9 : hget H 9 = cD 10 pw2) (hn : vD x ≠ .nan) (hx : x.toNat ≠ 9223372036854775808) : Go 9 0 [some (.ref 8), some (.double x), none, none, none, none, none] [] H Q ↔ Q (some (vl x.toInt64.toInt)) H := by
  have hl := x.toNat_lt
  have hd := dk_mg x
  have hm := num_mg.mp hn
  have em : mg x = ((x.toNat % 9223372036854775808 : Nat) : Int) := rfl
  have k0 := k_c.2.2.1
  rw [tI_u]
  by_cases c : x.toNat < 9223372036854775808
  · have t : dck .g .ge x 0 = true := dck_T hn n_c.2.2.1 (by show _ ≤ _; omega)
    rw [if_pos c]
    simp (disch := first | omega | assumption) only [gX0_toBits_0, gX0_toBits_1, gX0_toBits_2T, gX0_toBits_2F, gX0_toBits_3T, gX0_toBits_3F, gX0_toBits_6, gX0_toBits_9, gX0_toBits_12, gX0_toBits_13, gX0_toBits_14, gX0_toBits_15, gX0_toBits_16T, gX0_toBits_16F, gX0_toBits_17T, gX0_toBits_17F, gX0_toBits_20, gX0_toBits_21, gX0_toBits_22, gX0_toBits_23, gX0_toBits_26, gX0_toBits_27, Rd_some, Wr_some, Cont_some, Cont_none, iso_O, true_and, hg_s, hg_n, hput_hput, dc0]
    rw [tb_mid h8 h9 hn c, bOr_s0 (by omega)]
  · have t : dck .g .ge x 0 = false := dck_F hn n_c.2.2.1 (by show ¬ (_ ≤ _); omega)
    have e := neg0 hn (by omega)
    have hb : (UInt64.ofNat (x.toNat - 9223372036854775808)).toNat = x.toNat - 9223372036854775808 := ofN (by omega)
    have hn2 : vD (UInt64.ofNat (x.toNat - 9223372036854775808)) ≠ .nan := num_mg.mpr (by unfold mg at hm ⊢; rw [hb]; omega)
    have hv : vf_n64 (FP.dsub 0 x) := by rw [e]; exact vf_of hn2
    rw [if_neg c]
    simp (disch := first | omega | assumption) only [gX0_toBits_0, gX0_toBits_1, gX0_toBits_2T, gX0_toBits_2F, gX0_toBits_3T, gX0_toBits_3F, gX0_toBits_6, gX0_toBits_9, gX0_toBits_12, gX0_toBits_13, gX0_toBits_14, gX0_toBits_15, gX0_toBits_16T, gX0_toBits_16F, gX0_toBits_17T, gX0_toBits_17F, gX0_toBits_20, gX0_toBits_21, gX0_toBits_22, gX0_toBits_23, gX0_toBits_26, gX0_toBits_27, Rd_some, Wr_some, Cont_some, Cont_none, iso_O, true_and, hg_s, hg_n, hput_hput, dc0]
    rw [e, tb_mid h8 h9 hn2 (by omega), hb, bOr_s1 (by omega), show ((x.toNat - 9223372036854775808 : Nat) : Int) - 9223372036854775808 = (x.toNat : Int) - 18446744073709551616 by omega]
end DTB

/-! doubles: tests and scaling -/
abbrev mg (a : UInt64) : Int := ((a.toNat % 9223372036854775808 : Nat) : Int)
abbrev dk (a : UInt64) : Int := FP.Core.dkey a
theorem dc0 : FP.dconst0 = 0 := rfl
theorem dk_mg (a : UInt64) : 0 ≤ mg a ∧ ((a.toNat < 9223372036854775808 ∧ dk a = mg a) ∨ (9223372036854775808 ≤ a.toNat ∧ dk a = - mg a)) := by
  have := a.toNat_lt
  unfold dk FP.Core.dkey mg
  refine ⟨by omega, ?_⟩
  split <;> omega
theorem num_mg {a : UInt64} : vD a ≠ .nan ↔ mg a ≤ 9218868437227405312 := by
  rw [show (vD a ≠ .nan ↔ _) from FP.Core.ne_nan a]
  unfold mg
  omega
theorem cmpI_0 {op : CmpOp} {k : ClassFile.Cond} {a b : Int} : cI k (Op.cmpValue (some (compare a b)) op) 0 = true ↔ cmp k a b := by
  rw [FP.Core.compare_ite]
  by_cases h1 : a < b
  · rw [if_pos h1]
    cases op <;> cases k <;> unfold cmp <;> dsimp only <;> first | exact iff_of_true (by decide) (by omega) | exact iff_of_false (by decide) (by omega)
  · rw [if_neg h1]
    by_cases h2 : a = b
    · rw [if_pos h2]
      cases op <;> cases k <;> unfold cmp <;> dsimp only <;> first | exact iff_of_true (by decide) (by omega) | exact iff_of_false (by decide) (by omega)
    · rw [if_neg h2]
      cases op <;> cases k <;> unfold cmp <;> dsimp only <;> first | exact iff_of_true (by decide) (by omega) | exact iff_of_false (by decide) (by omega)
theorem dck_k {op : CmpOp} {k : ClassFile.Cond} {x y : UInt64} (hx : vD x ≠ .nan) (hy : vD y ≠ .nan) : dck op k x y = true ↔ cmp k (dk x) (dk y) := by
  unfold dck
  rw [show FP.dcmp x y = _ from FP.Core.dcmp_key hx hy]
  exact cmpI_0
theorem dck_T {op : CmpOp} {k : ClassFile.Cond} {x y : UInt64} (hx : vD x ≠ .nan) (hy : vD y ≠ .nan) (h : cmp k (dk x) (dk y)) : dck op k x y = true := (dck_k hx hy).mpr h
theorem dck_F {op : CmpOp} {k : ClassFile.Cond} {x y : UInt64} (hx : vD x ≠ .nan) (hy : vD y ≠ .nan) (h : ¬ cmp k (dk x) (dk y)) : dck op k x y = false := Bool.eq_false_iff.mpr (fun e => h ((dck_k hx hy).mp e))
theorem n_c : vD 9218868437227405311 ≠ .nan ∧ vD 18442240474082181119 ≠ .nan ∧ vD 0 ≠ .nan ∧ vD 9218868437227405312 ≠ .nan ∧ vD 18442240474082181120 ≠ .nan := by decide +kernel
theorem k_c : dk 9218868437227405311 = 9218868437227405311 ∧ dk 18442240474082181119 = -9218868437227405311 ∧ dk 0 = 0 ∧ dk 9218868437227405312 = 9218868437227405312 ∧ dk 18442240474082181120 = -9218868437227405312 := by decide +kernel
section DSP
variable {H : HP} {Q : Option Value → HP → Prop}
theorem sp_inf {u : UInt64} (h : vD u ≠ .nan) : Go 7 0 [some (.double u), none] [] H Q ↔ Q (some (vi (if mg u = 9218868437227405312 then 1 else 0))) H := by
  have h1 := num_mg.mp h
  have h2 := dk_mg u
  have k1 := k_c.1
  have k2 := k_c.2.1
  by_cases c1 : 9218868437227405311 < dk u
  · have t : dck .l .gt u 9218868437227405311 = true := dck_T h n_c.1 (by show _ < _; omega)
    rw [if_pos (by omega)]
    simp (disch := first | omega | assumption) only [gX0_isInfinite_0, gX0_isInfinite_1, gX0_isInfinite_4T, gX0_isInfinite_4F, gX0_isInfinite_5T, gX0_isInfinite_5F, gX0_isInfinite_8, gX0_isInfinite_9, gX0_isInfinite_12T, gX0_isInfinite_12F, gX0_isInfinite_13T, gX0_isInfinite_13F, gX0_isInfinite_16, gX0_isInfinite_17, gX0_isInfinite_20, gX0_isInfinite_21, Rd_some, Wr_some, Cont_some, Cont_none, iso_O, true_and, hg_s, hg_n, hput_hput]
  · have t : dck .l .gt u 9218868437227405311 = false := dck_F h n_c.1 (by show ¬ (_ < _); omega)
    by_cases c2 : dk u < -9218868437227405311
    · have t2 : dck .g .ge u 18442240474082181119 = false := dck_F h n_c.2.1 (by show ¬ (_ ≤ _); omega)
      rw [if_pos (by omega)]
      simp (disch := first | omega | assumption) only [gX0_isInfinite_0, gX0_isInfinite_1, gX0_isInfinite_4T, gX0_isInfinite_4F, gX0_isInfinite_5T, gX0_isInfinite_5F, gX0_isInfinite_8, gX0_isInfinite_9, gX0_isInfinite_12T, gX0_isInfinite_12F, gX0_isInfinite_13T, gX0_isInfinite_13F, gX0_isInfinite_16, gX0_isInfinite_17, gX0_isInfinite_20, gX0_isInfinite_21, Rd_some, Wr_some, Cont_some, Cont_none, iso_O, true_and, hg_s, hg_n, hput_hput]
    · have t2 : dck .g .ge u 18442240474082181119 = true := dck_T h n_c.2.1 (by show _ ≤ _; omega)
      rw [if_neg (by omega)]
      simp (disch := first | omega | assumption) only [gX0_isInfinite_0, gX0_isInfinite_1, gX0_isInfinite_4T, gX0_isInfinite_4F, gX0_isInfinite_5T, gX0_isInfinite_5F, gX0_isInfinite_8, gX0_isInfinite_9, gX0_isInfinite_12T, gX0_isInfinite_12F, gX0_isInfinite_13T, gX0_isInfinite_13F, gX0_isInfinite_16, gX0_isInfinite_17, gX0_isInfinite_20, gX0_isInfinite_21, Rd_some, Wr_some, Cont_some, Cont_none, iso_O, true_and, hg_s, hg_n, hput_hput]
/-- no product; no sum -/
def nop (x y : UInt64) : Bool := decide ((mg x = 0 ∧ mg y = 9218868437227405312) ∨ (mg x = 9218868437227405312 ∧ mg y = 0))
def nos (x y : UInt64) : Bool := decide ((dk x = 9218868437227405312 ∧ dk y = -9218868437227405312) ∨ (dk x = -9218868437227405312 ∧ dk y = 9218868437227405312))
theorem sp_nop {x y : UInt64} (hx : vD x ≠ .nan) (hy : vD y ≠ .nan) : Go 5 0 [some (.double x), none, some (.double y), none] [] H Q ↔ Q (some (vi (if nop x y = true then 1 else 0))) H := by
  have hx1 := dk_mg x
  have hy1 := dk_mg y
  have k1 := k_c.2.2.1
  unfold nop
  by_cases c1 : mg x = 0
  · have t : dck .l .ne x 0 = false := dck_F hx n_c.2.2.1 (by show ¬ (¬ _ = _); omega)
    by_cases c2 : mg y = 9218868437227405312
    · rw [if_pos (decide_eq_true (by omega))]
      simp (disch := first | omega | assumption) only [gX0_isNoProduct_0, gX0_isNoProduct_1, gX0_isNoProduct_2T, gX0_isNoProduct_2F, gX0_isNoProduct_3T, gX0_isNoProduct_3F, gX0_isNoProduct_6, gX0_isNoProduct_7, gX0_isNoProduct_10T, gX0_isNoProduct_10F, gX0_isNoProduct_13, gX0_isNoProduct_14, gX0_isNoProduct_17T, gX0_isNoProduct_17F, gX0_isNoProduct_20, gX0_isNoProduct_21, gX0_isNoProduct_22T, gX0_isNoProduct_22F, gX0_isNoProduct_23T, gX0_isNoProduct_23F, gX0_isNoProduct_26, gX0_isNoProduct_27, gX0_isNoProduct_30, gX0_isNoProduct_31, Rd_some, Wr_some, Cont_some, Cont_none, iso_O, true_and, hg_s, hg_n, hput_hput, dc0, sp_inf hx, sp_inf hy, if_pos c2]
    · rw [if_neg (by rw [decide_eq_true_eq]; omega)]
      simp (disch := first | omega | assumption) only [gX0_isNoProduct_0, gX0_isNoProduct_1, gX0_isNoProduct_2T, gX0_isNoProduct_2F, gX0_isNoProduct_3T, gX0_isNoProduct_3F, gX0_isNoProduct_6, gX0_isNoProduct_7, gX0_isNoProduct_10T, gX0_isNoProduct_10F, gX0_isNoProduct_13, gX0_isNoProduct_14, gX0_isNoProduct_17T, gX0_isNoProduct_17F, gX0_isNoProduct_20, gX0_isNoProduct_21, gX0_isNoProduct_22T, gX0_isNoProduct_22F, gX0_isNoProduct_23T, gX0_isNoProduct_23F, gX0_isNoProduct_26, gX0_isNoProduct_27, gX0_isNoProduct_30, gX0_isNoProduct_31, Rd_some, Wr_some, Cont_some, Cont_none, iso_O, true_and, hg_s, hg_n, hput_hput, dc0, sp_inf hx, sp_inf hy, if_neg c2, if_neg (show ¬ mg x = 9218868437227405312 by omega)]
  · have t : dck .l .ne x 0 = true := dck_T hx n_c.2.2.1 (by show ¬ _ = _; omega)
    by_cases c2 : mg x = 9218868437227405312
    · by_cases c3 : mg y = 0
      · have t2 : dck .l .ne y 0 = false := dck_F hy n_c.2.2.1 (by show ¬ (¬ _ = _); omega)
        rw [if_pos (decide_eq_true (by omega))]
        simp (disch := first | omega | assumption) only [gX0_isNoProduct_0, gX0_isNoProduct_1, gX0_isNoProduct_2T, gX0_isNoProduct_2F, gX0_isNoProduct_3T, gX0_isNoProduct_3F, gX0_isNoProduct_6, gX0_isNoProduct_7, gX0_isNoProduct_10T, gX0_isNoProduct_10F, gX0_isNoProduct_13, gX0_isNoProduct_14, gX0_isNoProduct_17T, gX0_isNoProduct_17F, gX0_isNoProduct_20, gX0_isNoProduct_21, gX0_isNoProduct_22T, gX0_isNoProduct_22F, gX0_isNoProduct_23T, gX0_isNoProduct_23F, gX0_isNoProduct_26, gX0_isNoProduct_27, gX0_isNoProduct_30, gX0_isNoProduct_31, Rd_some, Wr_some, Cont_some, Cont_none, iso_O, true_and, hg_s, hg_n, hput_hput, dc0, sp_inf hx, if_pos c2]
      · have t2 : dck .l .ne y 0 = true := dck_T hy n_c.2.2.1 (by show ¬ _ = _; omega)
        rw [if_neg (by rw [decide_eq_true_eq]; omega)]
        simp (disch := first | omega | assumption) only [gX0_isNoProduct_0, gX0_isNoProduct_1, gX0_isNoProduct_2T, gX0_isNoProduct_2F, gX0_isNoProduct_3T, gX0_isNoProduct_3F, gX0_isNoProduct_6, gX0_isNoProduct_7, gX0_isNoProduct_10T, gX0_isNoProduct_10F, gX0_isNoProduct_13, gX0_isNoProduct_14, gX0_isNoProduct_17T, gX0_isNoProduct_17F, gX0_isNoProduct_20, gX0_isNoProduct_21, gX0_isNoProduct_22T, gX0_isNoProduct_22F, gX0_isNoProduct_23T, gX0_isNoProduct_23F, gX0_isNoProduct_26, gX0_isNoProduct_27, gX0_isNoProduct_30, gX0_isNoProduct_31, Rd_some, Wr_some, Cont_some, Cont_none, iso_O, true_and, hg_s, hg_n, hput_hput, dc0, sp_inf hx, if_pos c2]
    · rw [if_neg (by rw [decide_eq_true_eq]; omega)]
      simp (disch := first | omega | assumption) only [gX0_isNoProduct_0, gX0_isNoProduct_1, gX0_isNoProduct_2T, gX0_isNoProduct_2F, gX0_isNoProduct_3T, gX0_isNoProduct_3F, gX0_isNoProduct_6, gX0_isNoProduct_7, gX0_isNoProduct_10T, gX0_isNoProduct_10F, gX0_isNoProduct_13, gX0_isNoProduct_14, gX0_isNoProduct_17T, gX0_isNoProduct_17F, gX0_isNoProduct_20, gX0_isNoProduct_21, gX0_isNoProduct_22T, gX0_isNoProduct_22F, gX0_isNoProduct_23T, gX0_isNoProduct_23F, gX0_isNoProduct_26, gX0_isNoProduct_27, gX0_isNoProduct_30, gX0_isNoProduct_31, Rd_some, Wr_some, Cont_some, Cont_none, iso_O, true_and, hg_s, hg_n, hput_hput, dc0, sp_inf hx, if_neg c2]
theorem sp_nos {x y : UInt64} (hx : vD x ≠ .nan) (hy : vD y ≠ .nan) : Go 6 0 [some (.double x), none, some (.double y), none] [] H Q ↔ Q (some (vi (if nos x y = true then 1 else 0))) H := by
  have hx1 := dk_mg x
  have hy1 := dk_mg y
  have k1 := k_c.2.2.1
  unfold nos
  by_cases c1 : mg x = 9218868437227405312
  · by_cases c2 : mg y = 9218868437227405312
    · by_cases c3 : 0 < dk x
      · have t : dck .l .le x 0 = false := dck_F hx n_c.2.2.1 (by show ¬ (_ ≤ _); omega)
        by_cases c4 : 0 < dk y
        · have t2 : dck .l .le y 0 = false := dck_F hy n_c.2.2.1 (by show ¬ (_ ≤ _); omega)
          rw [if_neg (by rw [decide_eq_true_eq]; omega)]
          simp (disch := first | omega | assumption) only [gX0_isNoSum_0, gX0_isNoSum_1, gX0_isNoSum_4T, gX0_isNoSum_4F, gX0_isNoSum_7, gX0_isNoSum_8, gX0_isNoSum_11T, gX0_isNoSum_11F, gX0_isNoSum_14, gX0_isNoSum_15, gX0_isNoSum_16T, gX0_isNoSum_16F, gX0_isNoSum_17T, gX0_isNoSum_17F, gX0_isNoSum_20, gX0_isNoSum_21, gX0_isNoSum_24, gX0_isNoSum_25, gX0_isNoSum_26, gX0_isNoSum_27T, gX0_isNoSum_27F, gX0_isNoSum_28T, gX0_isNoSum_28F, gX0_isNoSum_31, gX0_isNoSum_32, gX0_isNoSum_35, gX0_isNoSum_36T, gX0_isNoSum_36F, gX0_isNoSum_39, gX0_isNoSum_40, gX0_isNoSum_43, gX0_isNoSum_44, Rd_some, Wr_some, Cont_some, Cont_none, iso_O, true_and, hg_s, hg_n, hput_hput, dc0, sp_inf hx, sp_inf hy, if_pos c1, if_pos c2]
        · have t2 : dck .l .le y 0 = true := dck_T hy n_c.2.2.1 (by show _ ≤ _; omega)
          rw [if_pos (decide_eq_true (by omega))]
          simp (disch := first | omega | assumption) only [gX0_isNoSum_0, gX0_isNoSum_1, gX0_isNoSum_4T, gX0_isNoSum_4F, gX0_isNoSum_7, gX0_isNoSum_8, gX0_isNoSum_11T, gX0_isNoSum_11F, gX0_isNoSum_14, gX0_isNoSum_15, gX0_isNoSum_16T, gX0_isNoSum_16F, gX0_isNoSum_17T, gX0_isNoSum_17F, gX0_isNoSum_20, gX0_isNoSum_21, gX0_isNoSum_24, gX0_isNoSum_25, gX0_isNoSum_26, gX0_isNoSum_27T, gX0_isNoSum_27F, gX0_isNoSum_28T, gX0_isNoSum_28F, gX0_isNoSum_31, gX0_isNoSum_32, gX0_isNoSum_35, gX0_isNoSum_36T, gX0_isNoSum_36F, gX0_isNoSum_39, gX0_isNoSum_40, gX0_isNoSum_43, gX0_isNoSum_44, Rd_some, Wr_some, Cont_some, Cont_none, iso_O, true_and, hg_s, hg_n, hput_hput, dc0, sp_inf hx, sp_inf hy, if_pos c1, if_pos c2]
      · have t : dck .l .le x 0 = true := dck_T hx n_c.2.2.1 (by show _ ≤ _; omega)
        by_cases c4 : 0 < dk y
        · have t2 : dck .l .le y 0 = false := dck_F hy n_c.2.2.1 (by show ¬ (_ ≤ _); omega)
          rw [if_pos (decide_eq_true (by omega))]
          simp (disch := first | omega | assumption) only [gX0_isNoSum_0, gX0_isNoSum_1, gX0_isNoSum_4T, gX0_isNoSum_4F, gX0_isNoSum_7, gX0_isNoSum_8, gX0_isNoSum_11T, gX0_isNoSum_11F, gX0_isNoSum_14, gX0_isNoSum_15, gX0_isNoSum_16T, gX0_isNoSum_16F, gX0_isNoSum_17T, gX0_isNoSum_17F, gX0_isNoSum_20, gX0_isNoSum_21, gX0_isNoSum_24, gX0_isNoSum_25, gX0_isNoSum_26, gX0_isNoSum_27T, gX0_isNoSum_27F, gX0_isNoSum_28T, gX0_isNoSum_28F, gX0_isNoSum_31, gX0_isNoSum_32, gX0_isNoSum_35, gX0_isNoSum_36T, gX0_isNoSum_36F, gX0_isNoSum_39, gX0_isNoSum_40, gX0_isNoSum_43, gX0_isNoSum_44, Rd_some, Wr_some, Cont_some, Cont_none, iso_O, true_and, hg_s, hg_n, hput_hput, dc0, sp_inf hx, sp_inf hy, if_pos c1, if_pos c2]
        · have t2 : dck .l .le y 0 = true := dck_T hy n_c.2.2.1 (by show _ ≤ _; omega)
          rw [if_neg (by rw [decide_eq_true_eq]; omega)]
          simp (disch := first | omega | assumption) only [gX0_isNoSum_0, gX0_isNoSum_1, gX0_isNoSum_4T, gX0_isNoSum_4F, gX0_isNoSum_7, gX0_isNoSum_8, gX0_isNoSum_11T, gX0_isNoSum_11F, gX0_isNoSum_14, gX0_isNoSum_15, gX0_isNoSum_16T, gX0_isNoSum_16F, gX0_isNoSum_17T, gX0_isNoSum_17F, gX0_isNoSum_20, gX0_isNoSum_21, gX0_isNoSum_24, gX0_isNoSum_25, gX0_isNoSum_26, gX0_isNoSum_27T, gX0_isNoSum_27F, gX0_isNoSum_28T, gX0_isNoSum_28F, gX0_isNoSum_31, gX0_isNoSum_32, gX0_isNoSum_35, gX0_isNoSum_36T, gX0_isNoSum_36F, gX0_isNoSum_39, gX0_isNoSum_40, gX0_isNoSum_43, gX0_isNoSum_44, Rd_some, Wr_some, Cont_some, Cont_none, iso_O, true_and, hg_s, hg_n, hput_hput, dc0, sp_inf hx, sp_inf hy, if_pos c1, if_pos c2]
    · rw [if_neg (by rw [decide_eq_true_eq]; omega)]
      simp (disch := first | omega | assumption) only [gX0_isNoSum_0, gX0_isNoSum_1, gX0_isNoSum_4T, gX0_isNoSum_4F, gX0_isNoSum_7, gX0_isNoSum_8, gX0_isNoSum_11T, gX0_isNoSum_11F, gX0_isNoSum_14, gX0_isNoSum_15, gX0_isNoSum_16T, gX0_isNoSum_16F, gX0_isNoSum_17T, gX0_isNoSum_17F, gX0_isNoSum_20, gX0_isNoSum_21, gX0_isNoSum_24, gX0_isNoSum_25, gX0_isNoSum_26, gX0_isNoSum_27T, gX0_isNoSum_27F, gX0_isNoSum_28T, gX0_isNoSum_28F, gX0_isNoSum_31, gX0_isNoSum_32, gX0_isNoSum_35, gX0_isNoSum_36T, gX0_isNoSum_36F, gX0_isNoSum_39, gX0_isNoSum_40, gX0_isNoSum_43, gX0_isNoSum_44, Rd_some, Wr_some, Cont_some, Cont_none, iso_O, true_and, hg_s, hg_n, hput_hput, dc0, sp_inf hx, sp_inf hy, if_pos c1, if_neg c2]
  · rw [if_neg (by rw [decide_eq_true_eq]; omega)]
    simp (disch := first | omega | assumption) only [gX0_isNoSum_0, gX0_isNoSum_1, gX0_isNoSum_4T, gX0_isNoSum_4F, gX0_isNoSum_7, gX0_isNoSum_8, gX0_isNoSum_11T, gX0_isNoSum_11F, gX0_isNoSum_14, gX0_isNoSum_15, gX0_isNoSum_16T, gX0_isNoSum_16F, gX0_isNoSum_17T, gX0_isNoSum_17F, gX0_isNoSum_20, gX0_isNoSum_21, gX0_isNoSum_24, gX0_isNoSum_25, gX0_isNoSum_26, gX0_isNoSum_27T, gX0_isNoSum_27F, gX0_isNoSum_28T, gX0_isNoSum_28F, gX0_isNoSum_31, gX0_isNoSum_32, gX0_isNoSum_35, gX0_isNoSum_36T, gX0_isNoSum_36F, gX0_isNoSum_39, gX0_isNoSum_40, gX0_isNoSum_43, gX0_isNoSum_44, Rd_some, Wr_some, Cont_some, Cont_none, iso_O, true_and, hg_s, hg_n, hput_hput, dc0, sp_inf hx, if_neg c1]
theorem jSA : ∀ i : Nat, i < 10 → ∀ n : Nat, n < 1024 → jAnd (jShr n i) 1 = ((n / 2 ^ i % 2 : Nat) : Int) := by decide +kernel
theorem mod_s (n i : Nat) : n % 2 ^ (i + 1) = n % 2 ^ i + 2 ^ i * (n / 2 ^ i % 2) := by rw [Nat.pow_succ, Nat.mod_mul]
theorem lp_scP {c : Nat} {q : Int} {p : Nat} (h8 : hget H 8 = cO 0 [.ref 9, .ref 10, .ref 11, .ref 12, .ref 13]) (h9 : hget H 9 = cD 10 pw2) (hp : p < 1024) (hc : c < 9007199254740992) (h1 : -1074 ≤ q) (h2 : 4503599627370496 ≤ c ∨ q + p ≤ 971) {l1 l2 : Option Value} : ∀ (e i : Nat), i + e = 10 → (Go 11 12 [some (.ref 8), l1, l2, some (vi (p : Int)), some (vi (p : Int)), some (.double (Dq c (q + ((p % 2 ^ i : Nat) : Int)))), none, some (vi (i : Int))] [] H Q ↔ Q (some (.double (Dq c (q + (p : Int))))) H) := by
  intro e
  induction e with
  | zero =>
    intro i hi
    have hi : i = 10 := by omega
    subst hi
    rw [Nat.mod_eq_of_lt hp, gX0_scaled_12]
    simp (disch := omega) only [gX0_scaled_14, gX0_scaled_16T, gX0_scaled_16F, gX0_scaled_64, gX0_scaled_66, Rd_some, Wr_some, Cont_some, Cont_none, iso_O, true_and, hg_s, hg_n, hput_hput]
  | succ e ih =>
    intro i hi
    have ih := ih (i + 1) (by omega)
    have hm := mod_s p i
    have hs := jSA i (by omega) p hp
    have hle := Nat.mod_le p (2 ^ i)
    have hle2 := Nat.mod_le p (2 ^ (i + 1))
    rw [gX0_scaled_12]
    by_cases hb : p / 2 ^ i % 2 = 1
    · rw [hb] at hs
      rw [hb, Nat.mul_one] at hm
      have em : FP.dmul (Dq c (q + ((p % 2 ^ i : Nat) : Int))) (pw2 (i : Int)) = Dq c (q + ((p % 2 ^ (i + 1) : Nat) : Int)) := by
        rw [hm, Int.natCast_add, ← Int.add_assoc]
        by_cases hq : q + ((p % 2 ^ i : Nat) : Int) ≤ 971
        · exact Dq_mul hc (by omega) hq (by omega)
        · exact Dq_mulI (by omega) (by omega) (by omega)
      have hv : vf_n64 (FP.dmul (Dq c (q + ((p % 2 ^ i : Nat) : Int))) (pw2 (i : Int))) := by rw [em]; exact vf_of Dq_n
      simp (disch := first | omega | assumption) only [gX0_scaled_14, gX0_scaled_16T, gX0_scaled_16F, gX0_scaled_19, gX0_scaled_21, gX0_scaled_23, gX0_scaled_24, gX0_scaled_25, gX0_scaled_26T, gX0_scaled_26F, gX0_scaled_29, gX0_scaled_30T, gX0_scaled_30F, gX0_scaled_33, gX0_scaled_35, gX0_scaled_36, fl_0_0, gX0_scaled_39, gX0_scaled_41, aD_g, gX0_scaled_42, gX0_scaled_43, gX0_scaled_46, gX0_scaled_48, gX0_scaled_49, gX0_scaled_52, gX0_scaled_54, gX0_scaled_55, gX0_scaled_56, gX0_scaled_58, gX0_scaled_61, Rd_some, Wr_some, Cont_some, Cont_none, iso_O, true_and, hg_s, hg_n, hput_hput, hs, h8, h9, aD_g]
      rw [em]
      exact ih
    · have hb0 : p / 2 ^ i % 2 = 0 := by omega
      rw [hb0] at hs
      rw [hb0, Nat.mul_zero, Nat.add_zero] at hm
      simp (disch := first | omega | assumption) only [gX0_scaled_14, gX0_scaled_16T, gX0_scaled_16F, gX0_scaled_19, gX0_scaled_21, gX0_scaled_23, gX0_scaled_24, gX0_scaled_25, gX0_scaled_26T, gX0_scaled_26F, gX0_scaled_29, gX0_scaled_30T, gX0_scaled_30F, gX0_scaled_33, gX0_scaled_35, gX0_scaled_36, fl_0_0, gX0_scaled_39, gX0_scaled_41, aD_g, gX0_scaled_42, gX0_scaled_43, gX0_scaled_46, gX0_scaled_48, gX0_scaled_49, gX0_scaled_52, gX0_scaled_54, gX0_scaled_55, gX0_scaled_56, gX0_scaled_58, gX0_scaled_61, Rd_some, Wr_some, Cont_some, Cont_none, iso_O, true_and, hg_s, hg_n, hput_hput, hs]
      rw [hm] at ih
      exact ih
theorem lp_scN {c : Nat} {q : Int} {p : Nat} (h8 : hget H 8 = cO 0 [.ref 9, .ref 10, .ref 11, .ref 12, .ref 13]) (h9 : hget H 9 = cD 10 pw2) (hp : 0 < p ∧ p < 1024) (hc : c < 9007199254740992) (h1 : -1074 ≤ q - p) (h2 : q ≤ 971) {l1 l2 : Option Value} : ∀ (e i : Nat), i + e = 10 → (Go 11 12 [some (.ref 8), l1, l2, some (vi (-(p : Int))), some (vi (p : Int)), some (.double (Dq c (q - ((p % 2 ^ i : Nat) : Int)))), none, some (vi (i : Int))] [] H Q ↔ Q (some (.double (Dq c (q - (p : Int))))) H) := by
  intro e
  induction e with
  | zero =>
    intro i hi
    have hi : i = 10 := by omega
    subst hi
    rw [Nat.mod_eq_of_lt hp.2, gX0_scaled_12]
    simp (disch := omega) only [gX0_scaled_14, gX0_scaled_16T, gX0_scaled_16F, gX0_scaled_64, gX0_scaled_66, Rd_some, Wr_some, Cont_some, Cont_none, iso_O, true_and, hg_s, hg_n, hput_hput]
  | succ e ih =>
    intro i hi
    have ih := ih (i + 1) (by omega)
    have hm := mod_s p i
    have hs := jSA i (by omega) p hp.2
    have hle := Nat.mod_le p (2 ^ i)
    have hle2 := Nat.mod_le p (2 ^ (i + 1))
    rw [gX0_scaled_12]
    by_cases hb : p / 2 ^ i % 2 = 1
    · rw [hb] at hs
      rw [hb, Nat.mul_one] at hm
      have em : FP.ddiv (Dq c (q - ((p % 2 ^ i : Nat) : Int))) (pw2 (i : Int)) = Dq c (q - ((p % 2 ^ (i + 1) : Nat) : Int)) := by
        rw [hm, Int.natCast_add, ← Int.sub_sub]
        exact Dq_div hc (by omega) (by omega) (by omega)
      have hv : vf_n64 (FP.ddiv (Dq c (q - ((p % 2 ^ i : Nat) : Int))) (pw2 (i : Int))) := by rw [em]; exact vf_of Dq_n
      simp (disch := first | omega | assumption) only [gX0_scaled_14, gX0_scaled_16T, gX0_scaled_16F, gX0_scaled_19, gX0_scaled_21, gX0_scaled_23, gX0_scaled_24, gX0_scaled_25, gX0_scaled_26T, gX0_scaled_26F, gX0_scaled_29, gX0_scaled_30T, gX0_scaled_30F, gX0_scaled_33, gX0_scaled_35, gX0_scaled_36, fl_0_0, gX0_scaled_39, gX0_scaled_41, aD_g, gX0_scaled_42, gX0_scaled_43, gX0_scaled_46, gX0_scaled_48, gX0_scaled_49, gX0_scaled_52, gX0_scaled_54, gX0_scaled_55, gX0_scaled_56, gX0_scaled_58, gX0_scaled_61, Rd_some, Wr_some, Cont_some, Cont_none, iso_O, true_and, hg_s, hg_n, hput_hput, hs, h8, h9, aD_g]
      rw [em]
      exact ih
    · have hb0 : p / 2 ^ i % 2 = 0 := by omega
      rw [hb0] at hs
      rw [hb0, Nat.mul_zero, Nat.add_zero] at hm
      simp (disch := first | omega | assumption) only [gX0_scaled_14, gX0_scaled_16T, gX0_scaled_16F, gX0_scaled_19, gX0_scaled_21, gX0_scaled_23, gX0_scaled_24, gX0_scaled_25, gX0_scaled_26T, gX0_scaled_26F, gX0_scaled_29, gX0_scaled_30T, gX0_scaled_30F, gX0_scaled_33, gX0_scaled_35, gX0_scaled_36, fl_0_0, gX0_scaled_39, gX0_scaled_41, aD_g, gX0_scaled_42, gX0_scaled_43, gX0_scaled_46, gX0_scaled_48, gX0_scaled_49, gX0_scaled_52, gX0_scaled_54, gX0_scaled_55, gX0_scaled_56, gX0_scaled_58, gX0_scaled_61, Rd_some, Wr_some, Cont_some, Cont_none, iso_O, true_and, hg_s, hg_n, hput_hput, hs]
      rw [hm] at ih
      exact ih
theorem sp_sc {c : Nat} {q p : Int} (h8 : hget H 8 = cO 0 [.ref 9, .ref 10, .ref 11, .ref 12, .ref 13]) (h9 : hget H 9 = cD 10 pw2) (hp : -1024 < p ∧ p < 1024) (hc : c < 9007199254740992) (h1 : -1074 ≤ q ∧ -1074 ≤ q + p) (h2 : (4503599627370496 ≤ c ∧ 0 ≤ p) ∨ (q + p ≤ 971 ∧ q ≤ 971)) : Go 11 0 [some (.ref 8), some (.double (Dq c q)), none, some (vi p), none, none, none, none] [] H Q ↔ Q (some (.double (Dq c (q + p)))) H := by
  simp (disch := omega) only [gX0_scaled_0, gX0_scaled_1, gX0_scaled_4, gX0_scaled_6, gX0_scaled_7, gX0_scaled_9, gX0_scaled_10, Rd_some, Wr_some, Cont_some, Cont_none, iso_O, true_and, hg_s, hg_n, hput_hput, sp_absI]
  by_cases h0 : 0 ≤ p
  · have h := lp_scP (Q := Q) (q := q) (l1 := some (.double (Dq c q))) (l2 := none) h8 h9 (p := p.natAbs) (by omega) hc h1.1 (by omega) 10 0 rfl
    rw [show ((p.natAbs : Nat) : Int) = p by omega] at h
    rw [show (p.natAbs : Int) = p by omega]
    rw [show q + ((p.natAbs % 2 ^ 0 : Nat) : Int) = q by rw [Nat.pow_zero, Nat.mod_one]; omega] at h
    exact h
  · have h := lp_scN (Q := Q) (q := q) (l1 := some (.double (Dq c q))) (l2 := none) h8 h9 (p := p.natAbs) (by omega) hc (by omega) (by omega) 10 0 rfl
    rw [show q - ((p.natAbs % 2 ^ 0 : Nat) : Int) = q by rw [Nat.pow_zero, Nat.mod_one]; omega, show -((p.natAbs : Nat) : Int) = p by omega, show q - ((p.natAbs : Nat) : Int) = q + p by omega] at h
    exact h
end DSP

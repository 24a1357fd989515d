/-! products of doubles: the sums, on x -/
def xv (d : RD) (i : Int) : UInt64 := if d.1 = 4 then fb (d.2.2 i) else FP.l2d (Int64.ofInt (d.2.2 i))
def xn (d : RD) (i : Int) : Bool := decide (d.1 = 4 ∧ 9218868437227405312 < d.2.2 i % 9223372036854775808)
def rst (d e : RD) (k i : Int) (s : UInt64) : Option UInt64 := if xn d i = true ∨ xn e (k - i) = true ∨ nop (xv d i) (xv e (k - i)) = true then none else if nos s (FP.dmul (xv d i) (xv e (k - i))) = true then none else some (FP.dadd s (FP.dmul (xv d i) (xv e (k - i))))
def rsm (d e : RD) (k : Int) : Nat → Option UInt64
  | 0 => some 0
  | i + 1 => match rsm d e k i with
    | none => none
    | some s => if 0 ≤ k - i ∧ k - i < e.2.1 then rst d e k i s else some s
def rl (d e : RD) (k : Int) : Int := match rsm d e k d.2.1.toNat with
  | none => 9221120237041090560
  | some s => s.toInt64.toInt
theorem fb_n {v : Int} : vD (fb v) ≠ .nan := by
  unfold fb
  split
  · refine num_mg.mpr ?_
    unfold mg
    rw [uB_n]
    omega
  · split
    · exact n_c.2.2.2.2
    · exact n_c.2.2.2.1
theorem xv_n {d : RD} {i : Int} : vD (xv d i) ≠ .nan := by
  unfold xv
  split
  · exact fb_n
  · exact (FP.Core.l2d_fin _).ne_nan
theorem inf_mg {a : UInt64} {s : Bool} (h : vD a = .inf s) : mg a = 9218868437227405312 ∧ (s = true ↔ 9223372036854775808 ≤ a.toNat) := by
  refine ⟨?_, FP.Core.sign_bits (Or.inr h)⟩
  have h1 : mg a ≤ 9218868437227405312 := num_mg.mp (by rw [h]; exact FP.Core.Datum.noConfusion)
  have h2 : ¬ FP.Core.DFin a := by
    rintro ⟨s', c, q, h3⟩
    rw [show FP.Core.val64 a = _ from h] at h3
    cases h3
  rw [FP.Core.fin_bits] at h2
  unfold mg at h1 ⊢
  omega
theorem zero_mg {a : UInt64} (h : FP.Core.DZero a) : mg a = 0 := by
  have := (FP.Core.zero_bits2 a).mp h
  unfold mg
  omega
theorem dm_n {x y : UInt64} (hx : vD x ≠ .nan) (hy : vD y ≠ .nan) (h : ¬ nop x y = true) : vD (FP.dmul x y) ≠ .nan := by
  unfold nop at h
  rw [decide_eq_true_eq] at h
  intro hn
  have h1 := (FP.Core.dmul_nan_iff x y).mp ((FP.Core.dIsNaN_iff _).mpr hn)
  rcases h1 with h1 | h1 | ⟨s, h1, h2⟩ | ⟨s, h1, h2⟩
  · exact hx h1
  · exact hy h1
  · exact h (Or.inr ⟨(inf_mg h1).1, zero_mg h2⟩)
  · exact h (Or.inl ⟨zero_mg h1, (inf_mg h2).1⟩)
theorem da_n {x y : UInt64} (hx : vD x ≠ .nan) (hy : vD y ≠ .nan) (h : ¬ nos x y = true) : vD (FP.dadd x y) ≠ .nan := by
  unfold nos at h
  rw [decide_eq_true_eq] at h
  have k1 := dk_mg x
  have k2 := dk_mg y
  intro hn
  have h1 := (FP.Core.dadd_nan_iff x y).mp ((FP.Core.dIsNaN_iff _).mpr hn)
  rcases h1 with h1 | h1 | ⟨s, h1, h2⟩
  · exact hx h1
  · exact hy h1
  · have i1 := inf_mg h1
    have i2 := inf_mg h2
    cases s
    · have j1 := i1.2
      have j2 := i2.2.mp rfl
      have j3 : ¬ 9223372036854775808 ≤ x.toNat := fun t => by have := j1.mpr t; cases this
      omega
    · have j1 := i1.2.mp rfl
      have j2 := i2.2
      have j3 : ¬ 9223372036854775808 ≤ y.toNat := fun t => by have := j2.mpr t; cases this
      omega
theorem da_z {a b : UInt64} (ha : vD a ≠ .nan) (hb : vD b ≠ .nan) (hz : a.toNat ≠ 9223372036854775808) : (FP.dadd a b).toNat ≠ 9223372036854775808 := by
  intro h
  have e : FP.Core.dadd a b = FP.Core.dzeroNeg := UInt64.toNat.inj h
  have hv := FP.Core.val64_dadd a b
  rw [e, FP.Core.val64_dzeroNeg] at hv
  cases ea : FP.Core.val64 a with
  | nan => exact ha ea
  | inf s =>
    rw [ea] at hv
    cases eb : FP.Core.val64 b with
    | nan => exact hb eb
    | inf t =>
      rw [eb] at hv
      by_cases hs : s = t
      · rw [show FP.Core.exactSum (.inf s) (.inf t) = .inf s from if_pos hs] at hv
        cases hv
      · rw [show FP.Core.exactSum (.inf s) (.inf t) = .nan from if_neg hs] at hv
        cases hv
    | fin t d r =>
      rw [eb] at hv
      cases hv
  | fin s c q =>
    rw [ea] at hv
    have fa := FP.Core.val64_fits a
    rw [ea] at fa
    cases eb : FP.Core.val64 b with
    | nan => exact hb eb
    | inf t =>
      rw [eb] at hv
      cases hv
    | fin t d r =>
      rw [eb] at hv
      have fbb := FP.Core.val64_fits b
      rw [eb] at fbb
      generalize hV : FP.Core.sumUnits s c q t d r (min q r) = v
      have hv2 : FP.Core.Datum.fin true 0 FP.Core.b64.qmin = FP.Core.roundRatio FP.Core.b64 (FP.Core.sumSign s t v) v.natAbs 1 (min q r) := by rw [← hV]; exact hv
      by_cases hv0 : v = 0
      · have hs := FP.Core.sgn_roundRatio FP.Core.b64 (FP.Core.sumSign s t v) v.natAbs 1 (min q r)
        rw [← hv2] at hs
        unfold FP.Core.sumSign at hs
        rw [if_pos hv0] at hs
        have hs : true = (s && t) := hs
        cases s <;> cases t <;> try (cases hs)
        unfold FP.Core.sumUnits FP.Core.signed at hV
        rw [if_pos rfl, if_pos rfl] at hV
        have hc : FP.Core.inUnits c q (min q r) = 0 := by omega
        unfold FP.Core.inUnits at hc
        have hc0 : c = 0 := by
          rcases Nat.mul_eq_zero.mp hc with h | h
          · exact h
          · have := Nat.two_pow_pos (q - min q r).toNat; omega
        subst hc0
        have z1 := (FP.Core.zero_bits2 a).mp ⟨true, q, ea⟩
        have z2 := (FP.Core.sign_bits (a := a) (Or.inl ⟨0, q, ea⟩)).mp rfl
        have := a.toNat_lt
        omega
      · have hf : FP.Core.fits FP.Core.b64 (.fin true 1 FP.Core.b64.qmin) := ⟨by decide, Int.le_refl _, by decide, Or.inl rfl⟩
        have hge := FP.Core.zmag_roundRatio_ge FP.Core.good_b64 (s := FP.Core.sumSign s t v) (A := v.natAbs) (B := 1) (e := min q r) (e0 := FP.Core.b64.qmin) (V := .fin true 1 FP.Core.b64.qmin) (by decide) hf (Int.le_refl _) (by have := fa.2.1; have := fbb.2.1; omega) (by
          unfold FP.Core.zmag FP.Core.inUnits
          rw [Int.sub_self]
          have := Nat.two_pow_pos (min q r - FP.Core.b64.qmin).toNat
          exact Nat.mul_pos (by omega) this)
        rw [← hv2] at hge
        revert hge
        decide
theorem rst_n {d e : RD} {k i : Int} {s r : UInt64} (hs : vD s ≠ .nan ∧ s.toNat ≠ 9223372036854775808) (h : rst d e k i s = some r) : vD r ≠ .nan ∧ r.toNat ≠ 9223372036854775808 := by
  unfold rst at h
  split at h
  · cases h
  · rename_i h1
    have hm := dm_n (xv_n (d := d) (i := i)) (xv_n (d := e) (i := k - i)) (fun t => h1 (Or.inr (Or.inr t)))
    split at h
    · cases h
    · rename_i h2
      cases h
      exact ⟨da_n hs.1 hm h2, da_z hs.1 hm hs.2⟩
theorem rsm_n {d e : RD} {k : Int} : ∀ (i : Nat) {s : UInt64}, rsm d e k i = some s → vD s ≠ .nan ∧ s.toNat ≠ 9223372036854775808 := by
  intro i
  induction i with
  | zero => intro s h; cases h; exact ⟨n_c.2.2.1, by decide⟩
  | succ i ih =>
    intro s h
    rw [rsm] at h
    cases hr : rsm d e k i with
    | none => rw [hr] at h; cases h
    | some s' =>
      rw [hr] at h
      dsimp only at h
      split at h
      · exact rst_n (ih hr) h
      · cases h; exact ih hr
theorem rsm_none {d e : RD} {k : Int} {i n : Nat} (h : rsm d e k i = none) (hn : i ≤ n) : rsm d e k n = none := by
  induction n with
  | zero => rw [show i = 0 by omega] at h; exact h
  | succ n ih =>
    by_cases e' : i = n + 1
    · rw [← e']; exact h
    · rw [rsm, ih (by omega)]
theorem rsm_hi {d e : RD} {k : Int} {i n : Nat} {s : UInt64} (h : rsm d e k i = some s) (hk : k < i) (hn : i ≤ n) : rsm d e k n = some s := by
  induction n with
  | zero => rw [show i = 0 by omega] at h; exact h
  | succ n ih =>
    by_cases e' : i = n + 1
    · rw [← e']; exact h
    · rw [rsm, ih (by omega)]
      dsimp only
      rw [if_neg (by omega)]
theorem rsm_lo {d e : RD} {k : Int} {i : Nat} (hi : (i : Int) ≤ k - e.2.1 + 1) : rsm d e k i = some 0 := by
  induction i with
  | zero => rfl
  | succ i ih =>
    rw [rsm, ih (by omega)]
    dsimp only
    rw [if_neg (by omega)]
theorem rsm_in {d e : RD} {k : Int} {i : Nat} {s : UInt64} (h : rsm d e k i = some s) (hi : 0 ≤ k - i ∧ k - i < e.2.1) : rsm d e k (i + 1) = rst d e k i s := by
  rw [rsm, h]
  dsimp only
  rw [if_pos hi]
theorem rl_some {d e : RD} {k : Int} {s : UInt64} (h : rsm d e k d.2.1.toNat = some s) : rl d e k = s.toInt64.toInt := by
  unfold rl
  rw [h]
theorem rl_none {d e : RD} {k : Int} (h : rsm d e k d.2.1.toNat = none) : rl d e k = 9221120237041090560 := by
  unfold rl
  rw [h]
section DRS
variable {H : HP} {Q : Option Value → HP → Prop} {d e : RD} {n m k : Int}
def zb (b : Bool) : Int := if b = true then 1 else 0
def HL (H : HP) (A B : Nat) (g : Int → UInt64) (z : Int → Int) : HP := hput (hput H A (cD 64 g)) B (cZ 64 z)
theorem lp_ld {r cc A B : Nat} (h8 : hget H 8 = cO 0 [.ref 9, .ref 10, .ref 11, .ref 12, .ref 13]) (h9 : hget H 9 = cD 10 pw2) (R : RW H r cc d.1 d.2.1 d.2.2) (hl : 0 ≤ d.1 ∧ d.1 ≤ 4) (hA : 10 ≤ A ∧ A ≤ 11) (hB : 12 ≤ B ∧ B ≤ 13) {g0 : Int → UInt64} {z0 : Int → Int} : ∀ (f : Nat) (i : Int), i + f = d.2.1 → 0 ≤ i → (Go 3 3 [some (.ref 8), some (.ref r), some (.ref A), some (.ref B), some (vi i)] [] (HL H A B (mix (xv d) g0 i) (mix (fun j => zb (xn d j)) z0 i)) Q ↔ Q none (HL H A B (mix (xv d) g0 d.2.1) (mix (fun j => zb (xn d j)) z0 d.2.1))) := by
  have n1 := R.2.2.2.1
  have q1 := R.2.2.1
  have x8 : ∀ g z, hget (HL H A B g z) 8 = cO 0 [.ref 9, .ref 10, .ref 11, .ref 12, .ref 13] := fun g z => by unfold HL; rw [hg_n (by omega), hg_n (by omega)]; exact h8
  have x9 : ∀ g z, hget (HL H A B g z) 9 = cD 10 pw2 := fun g z => by unfold HL; rw [hg_n (by omega), hg_n (by omega)]; exact h9
  have xr : ∀ g z, hget (HL H A B g z) r = cO 5 [vi d.1, .ref cc] := fun g z => by unfold HL; rw [hg_n (by omega), hg_n (by omega)]; exact R.1
  have xc : ∀ g z, hget (HL H A B g z) cc = cL d.2.1 d.2.2 := fun g z => by unfold HL; rw [hg_n (by omega), hg_n (by omega)]; exact R.2.1
  have xA : ∀ g z, hget (HL H A B g z) A = cD 64 g := fun g z => by unfold HL; rw [hg_n (by omega), hg_s]
  have xB : ∀ g z, hget (HL H A B g z) B = cZ 64 z := fun g z => by unfold HL; rw [hg_s]
  have pA : ∀ g z g', hput (HL H A B g z) A (cD 64 g') = HL H A B g' z := fun g z g' => by unfold HL; rw [hput_comm (by omega), hput_hput]
  have pB : ∀ g z z', hput (HL H A B g z) B (cZ 64 z') = HL H A B g z' := fun g z z' => by unfold HL; rw [hput_hput]
  have ss := fun Q g z => sp_size (Q := Q) (xr g z) (xc g z) R.sz
  intro f
  induction f with
  | zero =>
    intro i hi h0
    rw [gX0_load_3]
    simp (disch := omega) only [gX0_load_5, gX0_load_6, gX0_load_9T, gX0_load_9F, gX0_load_82, Rd_some, Wr_some, Cont_some, Cont_none, iso_O, true_and, hg_s, hg_n, hput_hput, xr, ss]
    rw [show i = d.2.1 by omega]
  | succ f ih =>
    intro i hi h0
    have vr := R.2.2.2.2 i h0 (by omega)
    have hf := fun Q g z => sp_fb (Q := Q) (x8 g z) (x9 g z) vr
    have hnn := fun Q H => sp_isNone (H := H) (Q := Q) (v := d.2.2 i)
    rw [bAnd_63] at hnn
    rw [← ih (i + 1) (by omega) (by omega), gX0_load_3]
    have e2 : ∀ x, x = zb (xn d i) → up (mix (fun j => zb (xn d j)) z0 i) i x = mix (fun j => zb (xn d j)) z0 (i + 1) := fun x hx => mix_up h0 hx
    have e1 : ∀ x, x = xv d i → up (mix (xv d) g0 i) i x = mix (xv d) g0 (i + 1) := fun x hx => mix_up h0 hx
    by_cases c4 : d.1 = 4
    · have ev : xv d i = fb (d.2.2 i) := if_pos c4
      by_cases cn : 9218868437227405312 < d.2.2 i % 9223372036854775808
      · have en : xn d i = true := decide_eq_true ⟨c4, cn⟩
        simp (disch := omega) only [gX0_load_5, gX0_load_6, gX0_load_9T, gX0_load_9F, gX0_load_12, gX0_load_13, gX0_load_15, gX0_load_16, fl_5_0, gX0_load_19, gX0_load_20T, gX0_load_20F, gX0_load_23, gX0_load_24, fl_5_1, gX0_load_27, gX0_load_29, aL_g, gX0_load_30, gX0_load_33T, gX0_load_33F, gX0_load_36, gX0_load_37, gX0_load_40, gX0_load_41, sZ_p, gX0_load_42, gX0_load_43, gX0_load_45, gX0_load_46, gX0_load_49, gX0_load_50T, gX0_load_50F, gX0_load_53, gX0_load_54, gX0_load_55, gX0_load_58, gX0_load_60, gX0_load_61, gX0_load_64, gX0_load_67, gX0_load_68, gX0_load_71, gX0_load_73, gX0_load_74, gX0_load_75, sD_p, gX0_load_76, gX0_load_79, Rd_some, Wr_some, Cont_some, Cont_none, iso_O, true_and, hg_s, hg_n, hput_hput, xr, xc, xA, xB, ss, hnn, if_pos cn, c4, sZ_p, sD_p, aL_g, pA, pB, hf, x8]
        rw [e2 1 (by rw [en]; rfl), e1 _ ev.symm]
      · have en : xn d i = false := decide_eq_false (fun t => cn t.2)
        simp (disch := omega) only [gX0_load_5, gX0_load_6, gX0_load_9T, gX0_load_9F, gX0_load_12, gX0_load_13, gX0_load_15, gX0_load_16, fl_5_0, gX0_load_19, gX0_load_20T, gX0_load_20F, gX0_load_23, gX0_load_24, fl_5_1, gX0_load_27, gX0_load_29, aL_g, gX0_load_30, gX0_load_33T, gX0_load_33F, gX0_load_36, gX0_load_37, gX0_load_40, gX0_load_41, sZ_p, gX0_load_42, gX0_load_43, gX0_load_45, gX0_load_46, gX0_load_49, gX0_load_50T, gX0_load_50F, gX0_load_53, gX0_load_54, gX0_load_55, gX0_load_58, gX0_load_60, gX0_load_61, gX0_load_64, gX0_load_67, gX0_load_68, gX0_load_71, gX0_load_73, gX0_load_74, gX0_load_75, sD_p, gX0_load_76, gX0_load_79, Rd_some, Wr_some, Cont_some, Cont_none, iso_O, true_and, hg_s, hg_n, hput_hput, xr, xc, xA, xB, ss, hnn, if_neg cn, c4, sZ_p, sD_p, aL_g, pA, pB, hf, x8]
        rw [e2 0 (by rw [en]; rfl), e1 _ ev.symm]
    · have ev : xv d i = FP.l2d (Int64.ofInt (d.2.2 i)) := if_neg c4
      have en : xn d i = false := decide_eq_false (fun t => c4 t.1)
      simp (disch := omega) only [gX0_load_5, gX0_load_6, gX0_load_9T, gX0_load_9F, gX0_load_12, gX0_load_13, gX0_load_15, gX0_load_16, fl_5_0, gX0_load_19, gX0_load_20T, gX0_load_20F, gX0_load_23, gX0_load_24, fl_5_1, gX0_load_27, gX0_load_29, aL_g, gX0_load_30, gX0_load_33T, gX0_load_33F, gX0_load_36, gX0_load_37, gX0_load_40, gX0_load_41, sZ_p, gX0_load_42, gX0_load_43, gX0_load_45, gX0_load_46, gX0_load_49, gX0_load_50T, gX0_load_50F, gX0_load_53, gX0_load_54, gX0_load_55, gX0_load_58, gX0_load_60, gX0_load_61, gX0_load_64, gX0_load_67, gX0_load_68, gX0_load_71, gX0_load_73, gX0_load_74, gX0_load_75, sD_p, gX0_load_76, gX0_load_79, Rd_some, Wr_some, Cont_some, Cont_none, iso_O, true_and, hg_s, hg_n, hput_hput, xr, xc, xA, xB, ss, sZ_p, sD_p, aL_g, pA, pB]
      rw [e2 0 (by rw [en]; rfl), e1 _ ev.symm]
end DRS

/-! the constructors of what x is made of -/
theorem hn_at {H : HP} {c : AC} {k a : Nat} (h : a = H.1) : hget (hnew H c k) a = c := by subst h; exact hn_s
def NW (H H' : HP) (p k s : Nat) : Prop := H'.1 = H.1 + k ∧ H'.2.1 = H.2.1 + s ∧ ∀ a, a < H.1 → a ≠ p → hget H' a = hget H a
theorem inv01 : ((998244353 : Int) % 1004535809) ^ ((1004535809 : Int) - 2).toNat % 1004535809 = 669690699 := by
  rw [← pm_v (P := 1004535809) 30 ((998244353 : Int) % 1004535809) ((1004535809 : Int) - 2).toNat (by decide +kernel)]
  decide +kernel
theorem inv02 : ((1002772198720536577 : Int) % 469762049) ^ ((469762049 : Int) - 2).toNat % 469762049 = 354521948 := by
  rw [← pm_v (P := 469762049) 30 ((1002772198720536577 : Int) % 469762049) ((469762049 : Int) - 2).toNat (by decide +kernel)]
  decide +kernel
section CTO
variable {H : HP} {Q : Option Value → HP → Prop} {p q : Nat} {n v : Int}
theorem ni_shelf {m : Nat} (hm : H.1 = m) (hp : hget H p = cO 6 [.null, .int 0]) (h0 : p ≠ 0 ∧ p < m) (hn : 0 ≤ n ∧ n ≤ 1000) (hq : ∀ H', NW H H' p 1 n.toNat → hget H' p = cO 6 [.ref m, vi 0] → hget H' m = cL n (fun _ => 0) → Q none H') : Go 61 0 [some (.ref p), some (vi n)] [] H Q := by
  subst hm
  simp (disch := omega) only [gX6_init_0, gX6_init_1, gX6_init_4, gX6_init_5, gX6_init_6, pf_6_1, gX6_init_9, gX6_init_10, gX6_init_11, gX6_init_13, pf_6_0, gX6_init_16, Rd_some, Wr_some, Cont_some, Cont_none, iso_O, true_and, hg_s, hg_n, hput_hput, hp, hp_1, hn_hp]
  refine hq _ ⟨rfl, rfl, fun a a1 a2 => ?_⟩ ?_ ?_
  · rw [hg_n a2, hn_n (by omega)]
  · exact hg_s
  · rw [hg_n (by omega)]; exact hn_s
theorem ni_prime (hp : hget H p = cO 3 [.long 0]) (h0 : p ≠ 0) : Go 28 0 [some (.ref p), some (vl v), none] [] H Q ↔ Q none (hput H p (cO 3 [vl v])) := by
  simp (disch := omega) only [gX3_init_0, gX3_init_1, gX3_init_4, gX3_init_5, gX3_init_6, pf_3_0, gX3_init_9, Rd_some, Wr_some, Cont_some, Cont_none, iso_O, true_and, hg_s, hg_n, hput_hput, hp]
theorem ni_wide (hp : hget H p = cO 7 [.long 0, .long 0]) (h0 : p ≠ 0) : Go 63 0 [some (.ref p)] [] H Q ↔ Q none (hput H p (cO 7 [vl 0, vl 0])) := by
  simp (disch := omega) only [gX7_init_0, gX7_init_1, gX7_init_4, gX7_init_5, gX7_init_6, pf_7_0, gX7_init_9, gX7_init_10, gX7_init_11, pf_7_1, gX7_init_14, Rd_some, Wr_some, Cont_some, Cont_none, iso_O, true_and, hg_s, hg_n, hput_hput, hp]
theorem ni_poly {m : Nat} (hm : H.1 = m) (hp : hget H p = cO 2 [.null, .null, .null]) (h0 : p ≠ 0 ∧ p < m) (hq : ∀ H', NW H H' p 3 193 → hget H' p = cO 2 [.ref m, .ref (m + 1), .ref (m + 2)] → hget H' m = cL 64 (fun _ => 0) → hget H' (m + 1) = cL 64 (fun _ => 0) → hget H' (m + 2) = cL 65 (fun _ => 0) → Q none H') : Go 17 0 [some (.ref p)] [] H Q := by
  subst hm
  simp (disch := first | omega | (simp only [hn_1, hp_1]; omega)) only [gX2_init_0, gX2_init_1, gX2_init_4, gX2_init_5, gX2_init_7, gX2_init_9, pf_2_0, gX2_init_12, gX2_init_13, gX2_init_15, gX2_init_17, pf_2_1, gX2_init_20, gX2_init_21, gX2_init_23, gX2_init_25, pf_2_2, gX2_init_28, Rd_some, Wr_some, Cont_some, Cont_none, iso_O, true_and, hg_s, hg_n, hput_hput, hp, hp_1, hn_1, hn_hp, hn_n]
  refine hq _ ⟨rfl, rfl, fun a a1 a2 => ?_⟩ ?_ ?_ ?_ ?_
  · rw [hg_n a2, hn_n (by show a ≠ H.1 + 1 + 1; omega), hn_n (by show a ≠ H.1 + 1; omega), hn_n (by omega)]
  · exact hg_s
  · rw [hg_n (by omega), hn_n (by show H.1 ≠ H.1 + 1 + 1; omega), hn_n (by show H.1 ≠ H.1 + 1; omega)]; exact hn_at rfl
  · rw [hg_n (by omega), hn_n (by show H.1 + 1 ≠ H.1 + 1 + 1; omega)]; exact hn_at rfl
  · rw [hg_n (by omega)]; exact hn_at rfl
theorem ni_fast {m : Nat} (hm : H.1 = m) (hp : hget H p = cO 1 [.null, .null, .null]) (h0 : p ≠ 0 ∧ p < m) (hq : ∀ H', NW H H' p 2 256 → hget H' p = cO 1 [.ref q, .ref m, .ref (m + 1)] → hget H' m = cL 128 (fun _ => 0) → hget H' (m + 1) = cL 128 (fun _ => 0) → Q none H') : Go 12 0 [some (.ref p), some (.ref q)] [] H Q := by
  subst hm
  simp (disch := first | omega | (simp only [hn_1, hp_1]; omega)) only [gX1_init_0, gX1_init_1, gX1_init_4, gX1_init_5, gX1_init_8, gX1_init_10, pf_1_1, gX1_init_13, gX1_init_14, gX1_init_17, gX1_init_19, pf_1_2, gX1_init_22, gX1_init_23, gX1_init_24, pf_1_0, gX1_init_27, Rd_some, Wr_some, Cont_some, Cont_none, iso_O, true_and, hg_s, hg_n, hput_hput, hp, hp_1, hn_1, hn_hp, hn_n]
  refine hq _ ⟨rfl, rfl, fun a a1 a2 => ?_⟩ ?_ ?_ ?_
  · rw [hg_n a2, hn_n (by show a ≠ H.1 + 1; omega), hn_n (by omega)]
  · exact hg_s
  · rw [hg_n (by omega), hn_n (by show H.1 ≠ H.1 + 1; omega)]; exact hn_at rfl
  · rw [hg_n (by omega)]; exact hn_at rfl
/-- the powers of two, i of them laid -/
def pwi (i : Int) (j : Int) : UInt64 := if j < i then pw2 j else 0
theorem pwi_s : ∀ i : Nat, i < 10 → FP.dmul (pw2 ((i : Int) - 1)) (pw2 ((i : Int) - 1)) = if i = 0 then FP.dmul (pw2 (-1)) (pw2 (-1)) else pw2 (i : Int) := by decide +kernel
theorem cD_c {n : Int} {f g : Int → UInt64} (h : ∀ j, 0 ≤ j → f j = g j) : cD n f = cD n g := by
  unfold cD
  have : (fun j : Nat => f (j : Int)) = fun j : Nat => g (j : Int) := funext fun j => h j (by omega)
  rw [this]
theorem lp_dbl {A : Nat} {f1 f2 f3 f4 : Value} (hA : A ≠ p ∧ A ≠ 0 ∧ p ≠ 0) (h0 : hget H p = cO 0 [.ref A, f1, f2, f3, f4]) : ∀ (f : Nat) (i : Int), i + f = 10 → 1 ≤ i → (Go 0 55 [some (.ref p), some (vi i)] [] (hput H A (cD 10 (pwi i))) Q ↔ Q none (hput H A (cD 10 pw2))) := by
  have hx : ∀ c, hget (hput H A c) p = cO 0 [.ref A, f1, f2, f3, f4] := fun c => by rw [hg_n (fun e => hA.1 e.symm)]; exact h0
  intro f
  induction f with
  | zero =>
    intro i hi h1
    have e : i = 10 := by omega
    subst e
    have e1 : cD 10 (pwi 10) = cD 10 pw2 := cD_c (fun j _ => by
      unfold pwi pw2
      by_cases c : j < 10
      · rw [if_pos c]
      · rw [if_neg c, if_neg c])
    rw [gX0_init_55]
    simp (disch := omega) only [gX0_init_56, gX0_init_58T, gX0_init_58F, gX0_init_90, Rd_some, Wr_some, Cont_some, Cont_none, iso_O, true_and, hg_s, hg_n, hput_hput]
    rw [e1]
  | succ f ih =>
    intro i hi h1
    have hs := pwi_s i.toNat (by omega)
    rw [if_neg (by omega), show ((i.toNat : Nat) : Int) = i by omega] at hs
    have e0 : pwi i (i - 1) = pw2 (i - 1) := if_pos (by omega)
    have hv : vf_n64 (FP.dmul (pw2 (i - 1)) (pw2 (i - 1))) := by
      rw [hs]
      have := (show ∀ k : Nat, k < 10 → vf_n64 (pw2 (k : Int)) from fun k hk => vf_of (pk k hk).2) i.toNat (by omega)
      rw [show ((i.toNat : Nat) : Int) = i by omega] at this
      exact this
    have e1 : cD 10 (up (pwi i) i (pw2 i)) = cD 10 (pwi (i + 1)) := cD_c (fun j _ => by
      unfold up pwi
      by_cases c1 : j = i
      · rw [if_pos c1, if_pos (by omega), c1]
      · rw [if_neg c1]
        by_cases c2 : j < i
        · rw [if_pos c2, if_pos (by omega)]
        · rw [if_neg c2, if_neg (by omega)])
    rw [← ih (i + 1) (by omega) (by omega), gX0_init_55]
    simp (disch := first | omega | assumption) only [gX0_init_56, gX0_init_58T, gX0_init_58F, gX0_init_61, gX0_init_62, fl_0_0, gX0_init_65, gX0_init_66, gX0_init_67, gX0_init_70, gX0_init_71, gX0_init_72, gX0_init_73, aD_g, gX0_init_74, gX0_init_75, gX0_init_78, gX0_init_79, gX0_init_80, gX0_init_81, gX0_init_82, gX0_init_83, sD_p, gX0_init_84, gX0_init_87, Rd_some, Wr_some, Cont_some, Cont_none, iso_O, true_and, hg_s, hg_n, hput_hput, hx, e0, hs]
    rw [e1]
theorem ni_dbl {m : Nat} (hm : H.1 = m) (hp : hget H p = cO 0 [.null, .null, .null, .null, .null]) (h0 : p ≠ 0 ∧ p < m) (hq : ∀ H', NW H H' p 5 266 → hget H' p = cO 0 [.ref m, .ref (m + 1), .ref (m + 2), .ref (m + 3), .ref (m + 4)] → hget H' m = cD 10 pw2 → hget H' (m + 1) = cD 64 (fun _ => 0) → hget H' (m + 2) = cD 64 (fun _ => 0) → hget H' (m + 3) = cZ 64 (fun _ => 0) → hget H' (m + 4) = cZ 64 (fun _ => 0) → Q none H') : Go 0 0 [some (.ref p), none] [] H Q := by
  subst hm
  simp (disch := first | omega | (simp only [hn_1, hp_1]; omega)) only [gX0_init_0, gX0_init_1, gX0_init_4, gX0_init_5, gX0_init_7, gX0_init_9, pf_0_0, gX0_init_12, gX0_init_13, gX0_init_15, gX0_init_17, pf_0_1, gX0_init_20, gX0_init_21, gX0_init_23, gX0_init_25, pf_0_2, gX0_init_28, gX0_init_29, gX0_init_31, gX0_init_33, pf_0_3, gX0_init_36, gX0_init_37, gX0_init_39, gX0_init_41, pf_0_4, Rd_some, Wr_some, Cont_some, Cont_none, iso_O, true_and, hg_s, hg_n, hput_hput, hp, hp_1, hn_1, hn_hp, hn_n]
  have e1 : cD 10 (up (fun _ => 0) 0 4611686018427387904) = cD 10 (pwi 1) := cD_c (fun j j0 => by
    unfold up pwi
    by_cases c1 : j = 0
    · rw [if_pos c1, if_pos (by omega), c1]; decide +kernel
    · rw [if_neg c1, if_neg (by omega)])
  generalize hH : hnew (hnew (hnew (hnew (hnew H (cD 10 fun _ => 0) (10 : Int).toNat) (cD 64 fun _ => 0) (64 : Int).toNat) (cD 64 fun _ => 0) (64 : Int).toNat) (cZ 64 fun _ => 0) (64 : Int).toNat) (cZ 64 fun _ => 0) (64 : Int).toNat = H5
  have g0 : hget H5 H.1 = cD 10 fun _ => 0 := by rw [← hH, hn_n (by show H.1 ≠ H.1 + 1 + 1 + 1 + 1; omega), hn_n (by show H.1 ≠ H.1 + 1 + 1 + 1; omega), hn_n (by show H.1 ≠ H.1 + 1 + 1; omega), hn_n (by show H.1 ≠ H.1 + 1; omega)]; exact hn_at rfl
  have g1 : hget H5 (H.1 + 1) = cD 64 fun _ => 0 := by rw [← hH, hn_n (by show H.1 + 1 ≠ H.1 + 1 + 1 + 1 + 1; omega), hn_n (by show H.1 + 1 ≠ H.1 + 1 + 1 + 1; omega), hn_n (by show H.1 + 1 ≠ H.1 + 1 + 1; omega)]; exact hn_at rfl
  have g2 : hget H5 (H.1 + 2) = cD 64 fun _ => 0 := by rw [← hH, hn_n (by show H.1 + 2 ≠ H.1 + 1 + 1 + 1 + 1; omega), hn_n (by show H.1 + 2 ≠ H.1 + 1 + 1 + 1; omega)]; exact hn_at rfl
  have g3 : hget H5 (H.1 + 3) = cZ 64 fun _ => 0 := by rw [← hH, hn_n (by show H.1 + 3 ≠ H.1 + 1 + 1 + 1 + 1; omega)]; exact hn_at rfl
  have g4 : hget H5 (H.1 + 4) = cZ 64 fun _ => 0 := by rw [← hH]; exact hn_at rfl
  have gs : ∀ a, a < H.1 → hget H5 a = hget H a := fun a ha => by rw [← hH, hn_n (by show a ≠ H.1 + 1 + 1 + 1 + 1; omega), hn_n (by show a ≠ H.1 + 1 + 1 + 1; omega), hn_n (by show a ≠ H.1 + 1 + 1; omega), hn_n (by show a ≠ H.1 + 1; omega), hn_n (by omega)]
  have n1 : H5.1 = H.1 + 5 := by rw [← hH]; rfl
  have n2 : H5.2.1 = H.2.1 + 266 := by rw [← hH]; rfl
  have hp5 : ∀ c, hget (hput H5 p c) H.1 = cD 10 fun _ => 0 := fun c => by rw [hg_n (by omega)]; exact g0
  simp (disch := omega) only [gX0_init_44, gX0_init_45, fl_0_0, gX0_init_48, gX0_init_49, gX0_init_52, sD_p, gX0_init_53, gX0_init_54, Rd_some, Wr_some, Cont_some, Cont_none, iso_O, true_and, hg_s, hg_n, hput_hput, hp5, g0]
  rw [e1, lp_dbl (p := p) (A := H.1) ⟨by omega, by omega, by omega⟩ hg_s 9 1 (by omega) (by omega)]
  refine hq _ ⟨n1, n2, fun a a1 a2 => ?_⟩ ?_ ?_ ?_ ?_ ?_ ?_
  · rw [hg_n (by omega), hg_n a2]; exact gs a a1
  · rw [hg_n (by omega)]; exact hg_s
  · exact hg_s
  · rw [hg_n (by omega), hg_n (by omega)]; exact g1
  · rw [hg_n (by omega), hg_n (by omega)]; exact g2
  · rw [hg_n (by omega), hg_n (by omega)]; exact g3
  · rw [hg_n (by omega), hg_n (by omega)]; exact g4
end CTO

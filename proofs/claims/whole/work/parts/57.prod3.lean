/-! Products: signs, digits, one prime's bound; exponents and costs -/
/-- one of the first n is below 0 -/
def ng (V : Int → Int) (n : Int) : Prop := ∃ k : Int, 0 ≤ k ∧ k < n ∧ V k < 0
/-- what the product's entries may be -/
def Vr (V : Int → Int) (n : Int) : Prop := ∀ k : Int, 0 ≤ k → k < n → -75557863725914323419136 ≤ V k ∧ V k ≤ 75557863725914323419136
/-- the whole number's entry k -/
def vt (V : Int → Int) (n k : Int) : Int := if k < n then V k else 0
/-- what is carried to place k -/
def cr (V : Int → Int) (n m : Int) : Nat → Int
  | 0 => 0
  | k + 1 => (cr V n m k + vt V n k) / m
/-- the digit at place k -/
def dt (V : Int → Int) (n m : Int) (k : Nat) : Int := (cr V n m k + vt V n k) % m
/-- the last place below k whose digit isn't 0 -/
def ld' (V : Int → Int) (n m : Int) : Nat → Int
  | 0 => 0
  | k + 1 => if dt V n m k = 0 then ld' V n m k else k
theorem cr_r {V : Int → Int} {n m : Int} (hm : 2 ≤ m) (hr : Vr V n) (hg : ¬ ng V n) (k : Nat) : 0 ≤ cr V n m k ∧ cr V n m k ≤ 75557863725914323419136 := by
  induction k with
  | zero => exact ⟨Int.le_refl 0, by show (0 : Int) ≤ _; decide⟩
  | succ k ih =>
    have hv : 0 ≤ vt V n k ∧ vt V n k ≤ 75557863725914323419136 := by
      unfold vt
      split
      · rename_i h
        have h1 := hr k (by omega) h
        have h2 : ¬ V k < 0 := fun q => hg ⟨k, by omega, h, q⟩
        omega
      · decide
    rw [cr]
    refine ⟨Int.ediv_nonneg (by omega) (by omega), ?_⟩
    have h0 : 0 ≤ (cr V n m k + vt V n k) / m := Int.ediv_nonneg (by omega) (by omega)
    have h1 : m * ((cr V n m k + vt V n k) / m) ≤ cr V n m k + vt V n k := Int.mul_ediv_self_le (by omega)
    have h2 : 2 * ((cr V n m k + vt V n k) / m) ≤ m * ((cr V n m k + vt V n k) / m) := Int.mul_le_mul_of_nonneg_right hm h0
    omega
section SPEC
variable {H : HP} {Q : Option Value → HP → Prop} {i0 i1 : Int}
theorem lp_below {n : Int} {V : Int → Int} (hps : PS H n i0 i1 V n) (hn : 0 ≤ n ∧ n ≤ 127) (hr : Vr V n) : ∀ (d : Nat) (k : Int), k + d = n → 0 ≤ k → ¬ ng V k → (ng V n → (Go 43 2 [some (.ref 28), some (vi k)] [] H Q ↔ Q (some (vi 1)) H)) ∧ (¬ ng V n → (Go 43 2 [some (.ref 28), some (vi k)] [] H Q ↔ Q (some (vi 0)) H)) := by
  obtain ⟨hp, ⟨U, W, hU, hW, hV⟩, -⟩ := hps
  intro d
  induction d with
  | zero =>
    intro k hk h0 hg
    rw [show k = n by omega] at hg ⊢
    refine ⟨fun h => absurd h hg, fun _ => ?_⟩
    rw [gX4_anyBelowZero_2]
    simp (disch := omega) only [gX4_anyBelowZero_3, gX4_anyBelowZero_4, fl_4_2, gX4_anyBelowZero_7T, gX4_anyBelowZero_7F, gX4_anyBelowZero_10, gX4_anyBelowZero_11, fl_4_0, gX4_anyBelowZero_14, gX4_anyBelowZero_15, aL_g, gX4_anyBelowZero_16, gX4_anyBelowZero_17T, gX4_anyBelowZero_17F, gX4_anyBelowZero_18T, gX4_anyBelowZero_18F, gX4_anyBelowZero_21, gX4_anyBelowZero_22, gX4_anyBelowZero_23, gX4_anyBelowZero_26, gX4_anyBelowZero_29, gX4_anyBelowZero_30, Rd_some, Wr_some, Cont_some, Cont_none, iso_O, true_and, hg_s, hg_n, hput_hput, hp]
  | succ d ih =>
    intro k hk h0 hg
    have h1 := hr k h0 (by omega)
    have h2 := (hV k h0 (by omega)).1
    by_cases hb : V k < 0
    · refine ⟨fun _ => ?_, fun h => absurd ⟨k, h0, by omega, hb⟩ h⟩
      rw [gX4_anyBelowZero_2]
      simp (disch := omega) only [gX4_anyBelowZero_3, gX4_anyBelowZero_4, fl_4_2, gX4_anyBelowZero_7T, gX4_anyBelowZero_7F, gX4_anyBelowZero_10, gX4_anyBelowZero_11, fl_4_0, gX4_anyBelowZero_14, gX4_anyBelowZero_15, aL_g, gX4_anyBelowZero_16, gX4_anyBelowZero_17T, gX4_anyBelowZero_17F, gX4_anyBelowZero_18T, gX4_anyBelowZero_18F, gX4_anyBelowZero_21, gX4_anyBelowZero_22, gX4_anyBelowZero_23, gX4_anyBelowZero_26, Rd_some, Wr_some, Cont_some, Cont_none, iso_O, true_and, hg_s, hg_n, hput_hput, hp, hU, h2]
    · have hrun : Go 43 2 [some (.ref 28), some (vi k)] [] H Q ↔ Go 43 2 [some (.ref 28), some (vi (k + 1))] [] H Q := by
        rw [gX4_anyBelowZero_2]
        simp (disch := omega) only [gX4_anyBelowZero_3, gX4_anyBelowZero_4, fl_4_2, gX4_anyBelowZero_7T, gX4_anyBelowZero_7F, gX4_anyBelowZero_10, gX4_anyBelowZero_11, fl_4_0, gX4_anyBelowZero_14, gX4_anyBelowZero_15, aL_g, gX4_anyBelowZero_16, gX4_anyBelowZero_17T, gX4_anyBelowZero_17F, gX4_anyBelowZero_18T, gX4_anyBelowZero_18F, gX4_anyBelowZero_21, gX4_anyBelowZero_22, gX4_anyBelowZero_23, gX4_anyBelowZero_26, Rd_some, Wr_some, Cont_some, Cont_none, iso_O, true_and, hg_s, hg_n, hput_hput, hp, hU, h2]
      rw [hrun]
      refine ih (k + 1) (by omega) (by omega) ?_
      rintro ⟨j, j0, j1, j2⟩
      by_cases hj : j = k
      · rw [hj] at j2; exact hb j2
      · exact hg ⟨j, j0, by omega, j2⟩
theorem sp_below {n : Int} {V : Int → Int} (hps : PS H n i0 i1 V n) (hn : 0 ≤ n ∧ n ≤ 127) (hr : Vr V n) : (ng V n → (Go 43 0 [some (.ref 28), none] [] H Q ↔ Q (some (vi 1)) H)) ∧ (¬ ng V n → (Go 43 0 [some (.ref 28), none] [] H Q ↔ Q (some (vi 0)) H)) := by
  simp only [gX4_anyBelowZero_0, gX4_anyBelowZero_1, Rd_some, Wr_some, Cont_some, Cont_none, iso_O, true_and, hg_s, hg_n, hput_hput]
  exact lp_below hps hn hr n.toNat 0 (by omega) (by omega) (fun ⟨j, q⟩ => by omega)
theorem sp_fits {rx cx ry cy : Nat} {lx nx ly ny : Int} {x y : Int → Int} (Rx : RW H rx cx lx nx x) (Ry : RW H ry cy ly ny y) (hgx : 0 ≤ gs x nx.toNat 0 ∧ gs x nx.toNat 0 ≤ 2147483648) (hgy : 0 ≤ gs y ny.toNat 0 ∧ gs y ny.toNat 0 ≤ 2147483648) (sx : sml x nx) (sy : sml y ny) : Go 46 0 [some (.ref rx), some (.ref ry), none, none] [] H Q ↔ Q (some (vi (if gs x nx.toNat 0 * gs y ny.toNat 0 < 998244353 ∧ 2 * min nx ny * (gs x nx.toNat 0 * gs y ny.toNat 0) < 998244353 then 1 else 0))) H := by
  have b1 := Rx.2.2.2.1
  have b2 := Ry.2.2.2.1
  have gx := sp_greatest (Q := Cont 46 4 [some (.ref rx), some (.ref ry), none, none] [] Q) Rx.1 Rx.2.1 Rx.sz (fun j h0 h1 => by have := sx j h0 h1; omega)
  generalize gs x nx.toNat 0 = a at *
  have h1 : 0 ≤ a * gs y ny.toNat 0 := Int.mul_nonneg hgx.1 hgy.1
  have h2 : a * gs y ny.toNat 0 ≤ 2147483648 * 2147483648 := Int.mul_le_mul hgx.2 hgy.2 hgy.1 (by decide)
  simp (disch := omega) only [gX4_fitsOnePrime_0, gX4_fitsOnePrime_1, Rd_some, Wr_some, Cont_some, Cont_none, iso_O, true_and, hg_s, hg_n, hput_hput, Rx.1, gx]
  have gy := sp_greatest (Q := Cont 46 8 [some (.ref rx), some (.ref ry), none, none] [vl a] Q) Ry.1 Ry.2.1 Ry.sz (fun j h0 h1 => by have := sy j h0 h1; omega)
  generalize gs y ny.toNat 0 = c at *
  simp (disch := omega) only [gX4_fitsOnePrime_4, gX4_fitsOnePrime_5, Rd_some, Wr_some, Cont_some, Cont_none, iso_O, true_and, hg_s, hg_n, hput_hput, Ry.1, gy]
  by_cases hc : a * c < 998244353
  · have h3 : 0 ≤ 2 * min nx ny * (a * c) := Int.mul_nonneg (by omega) h1
    have h4 : 2 * min nx ny * (a * c) ≤ 128 * 998244353 := Int.mul_le_mul (by omega) (by omega) h1 (by decide)
    by_cases hd : 2 * min nx ny * (a * c) < 998244353
    · rw [if_pos ⟨hc, hd⟩]
      simp (disch := omega) only [gX4_fitsOnePrime_8, gX4_fitsOnePrime_9, gX4_fitsOnePrime_10, gX4_fitsOnePrime_11, gX4_fitsOnePrime_14T, gX4_fitsOnePrime_14F, gX4_fitsOnePrime_15T, gX4_fitsOnePrime_15F, gX4_fitsOnePrime_18, gX4_fitsOnePrime_21, gX4_fitsOnePrime_22, gX4_fitsOnePrime_25, gX4_fitsOnePrime_26, gX4_fitsOnePrime_29, gX4_fitsOnePrime_32, gX4_fitsOnePrime_33, gX4_fitsOnePrime_34, gX4_fitsOnePrime_35, gX4_fitsOnePrime_36, gX4_fitsOnePrime_39T, gX4_fitsOnePrime_39F, gX4_fitsOnePrime_40T, gX4_fitsOnePrime_40F, gX4_fitsOnePrime_43, gX4_fitsOnePrime_44, gX4_fitsOnePrime_47, gX4_fitsOnePrime_48, Rd_some, Wr_some, Cont_some, Cont_none, iso_O, true_and, hg_s, hg_n, hput_hput, Rx.1, Ry.1, sp_size Rx.1 Rx.2.1 Rx.sz, sp_size Ry.1 Ry.2.1 Ry.sz, sp_minI]
    · rw [if_neg (fun q => hd q.2)]
      simp (disch := omega) only [gX4_fitsOnePrime_8, gX4_fitsOnePrime_9, gX4_fitsOnePrime_10, gX4_fitsOnePrime_11, gX4_fitsOnePrime_14T, gX4_fitsOnePrime_14F, gX4_fitsOnePrime_15T, gX4_fitsOnePrime_15F, gX4_fitsOnePrime_18, gX4_fitsOnePrime_21, gX4_fitsOnePrime_22, gX4_fitsOnePrime_25, gX4_fitsOnePrime_26, gX4_fitsOnePrime_29, gX4_fitsOnePrime_32, gX4_fitsOnePrime_33, gX4_fitsOnePrime_34, gX4_fitsOnePrime_35, gX4_fitsOnePrime_36, gX4_fitsOnePrime_39T, gX4_fitsOnePrime_39F, gX4_fitsOnePrime_40T, gX4_fitsOnePrime_40F, gX4_fitsOnePrime_43, gX4_fitsOnePrime_44, gX4_fitsOnePrime_47, gX4_fitsOnePrime_48, Rd_some, Wr_some, Cont_some, Cont_none, iso_O, true_and, hg_s, hg_n, hput_hput, Rx.1, Ry.1, sp_size Rx.1 Rx.2.1 Rx.sz, sp_size Ry.1 Ry.2.1 Ry.sz, sp_minI]
  · rw [if_neg (fun q => hc q.1)]
    simp (disch := omega) only [gX4_fitsOnePrime_8, gX4_fitsOnePrime_9, gX4_fitsOnePrime_10, gX4_fitsOnePrime_11, gX4_fitsOnePrime_14T, gX4_fitsOnePrime_14F, gX4_fitsOnePrime_15T, gX4_fitsOnePrime_15F, gX4_fitsOnePrime_18, gX4_fitsOnePrime_21, gX4_fitsOnePrime_22, gX4_fitsOnePrime_25, gX4_fitsOnePrime_26, gX4_fitsOnePrime_29, gX4_fitsOnePrime_32, gX4_fitsOnePrime_33, gX4_fitsOnePrime_34, gX4_fitsOnePrime_35, gX4_fitsOnePrime_36, gX4_fitsOnePrime_39T, gX4_fitsOnePrime_39F, gX4_fitsOnePrime_40T, gX4_fitsOnePrime_40F, gX4_fitsOnePrime_43, gX4_fitsOnePrime_44, gX4_fitsOnePrime_47, gX4_fitsOnePrime_48, Rd_some, Wr_some, Cont_some, Cont_none, iso_O, true_and, hg_s, hg_n, hput_hput, Rx.1, Ry.1]
/-- the digits' row, filled up to k -/
def DG (H : HP) (V : Int → Int) (n m : Int) (k : Int) : Prop := ∃ D : Int → Int, hget H 24 = cL 64 D ∧ ∀ j : Nat, (j : Int) < k → j < 64 → D j = dt V n m j
theorem lp_digits {n m : Int} {V : Int → Int} (hm : 2 ≤ m ∧ m ≤ 10000) (hn : 0 ≤ n ∧ n ≤ 127) (hr : Vr V n) (hg : ¬ ng V n) {H0 : HP} (hq : ∀ (H' : HP), Fm 24 31 H0 H' → PS H' n i0 i1 V n → (∀ a, 24 < a → a < 31 → hget H' a = hget H0 a) → DG H' V n m 64 → Q (some (vi (if ld' V n m (n + 128).toNat < 64 then ld' V n m (n + 128).toNat + 1 else 0))) H') :
    ∀ (d k : Nat) (i : Int) (H : HP) (l5 l6 : Option Value), i = (k : Int) → n + 128 - k = d → Fm 24 31 H0 H → (∀ a, 24 < a → a < 31 → hget H a = hget H0 a) → PS H n i0 i1 V n → hget H 31 = cW (cr V n m k) → DG H V n m k → Go 53 12 [some (.ref 28), some (.ref 24), some (vi m), some (vi (ld' V n m k)), some (vi i), l5, l6] [] H Q := by
  have hlr : ∀ k : Nat, 0 ≤ ld' V n m k ∧ ld' V n m k ≤ k := by
    intro k
    induction k with
    | zero => exact ⟨Int.le_refl 0, Int.le_refl 0⟩
    | succ k ih => rw [ld']; split <;> omega
  intro d
  induction d with
  | zero =>
    intro k i H l5 l6 hi hk hf hfr hps hs hD
    have ek : (n + 128).toNat = k := by omega
    have h1 := hlr k
    obtain ⟨D, hD1, hD2⟩ := id hD
    have hq2 := hq H hf hps hfr ⟨D, hD1, fun j j0 j1 => hD2 j (by omega) j1⟩
    rw [ek] at hq2
    rw [gX4_digitsInto_12]
    by_cases hl : ld' V n m k < 64
    · rw [if_pos hl] at hq2
      simp (disch := omega) only [gX4_digitsInto_14, gX4_digitsInto_15, fl_4_2, gX4_digitsInto_18, gX4_digitsInto_21, gX4_digitsInto_22T, gX4_digitsInto_22F, gX4_digitsInto_94, gX4_digitsInto_95, gX4_digitsInto_96, aN_L, aN_J, gX4_digitsInto_97T, gX4_digitsInto_97F, gX4_digitsInto_100, gX4_digitsInto_101, gX4_digitsInto_102, gX4_digitsInto_103, gX4_digitsInto_106, gX4_digitsInto_107, Rd_some, Wr_some, Cont_some, Cont_none, iso_O, true_and, hg_s, hg_n, hput_hput, hps.1, hD1]
      exact hq2
    · rw [if_neg hl] at hq2
      simp (disch := omega) only [gX4_digitsInto_14, gX4_digitsInto_15, fl_4_2, gX4_digitsInto_18, gX4_digitsInto_21, gX4_digitsInto_22T, gX4_digitsInto_22F, gX4_digitsInto_94, gX4_digitsInto_95, gX4_digitsInto_96, aN_L, aN_J, gX4_digitsInto_97T, gX4_digitsInto_97F, gX4_digitsInto_100, gX4_digitsInto_101, gX4_digitsInto_102, gX4_digitsInto_103, gX4_digitsInto_106, gX4_digitsInto_107, Rd_some, Wr_some, Cont_some, Cont_none, iso_O, true_and, hg_s, hg_n, hput_hput, hps.1, hD1]
      exact hq2
  | succ d ih =>
    intro k i H l5 l6 hi hk hf hfr hps hs hD
    have h1 := hlr k
    obtain ⟨D, hD1, hD2⟩ := id hD
    obtain ⟨hp, ⟨U, W, hU, hW, hV⟩, -⟩ := id hps
    have c0 := cr_r hm.1 hr hg k
    have hv : 0 ≤ vt V n k ∧ vt V n k ≤ 75557863725914323419136 := by
      unfold vt
      split
      · rename_i h
        have h1 := hr k (by omega) h
        have h2 : ¬ V k < 0 := fun q => hg ⟨k, by omega, h, q⟩
        omega
      · decide
    have hdm := em (P := m) (by omega) (cr V n m k + vt V n k)
    have e31 : ∀ (c : AC), hget (hput H 31 c) 24 = cL 64 D := fun c => by rw [hg_n (by omega)]; exact hD1
    /- the sum before the digit is taken -/
    have step : Go 53 55 [some (.ref 28), some (.ref 24), some (vi m), some (vi (ld' V n m k)), some (vi i), l5, l6] [] (hput H 31 (cW (cr V n m k + vt V n k))) Q := by
      have hs2 : hget (hput H 31 (cW (cr V n m k + vt V n k))) 31 = cW (cr V n m k + vt V n k) := hg_s
      have hp2 : ∀ c, hget (hput H 31 c) 28 = cPr n i0 i1 := fun c => by rw [hg_n (by omega)]; exact hp
      simp (disch := omega) only [gX4_digitsInto_55, gX4_digitsInto_56, fl_4_3, gX4_digitsInto_59, gX4_digitsInto_60, gX4_digitsInto_63, Rd_some, Wr_some, Cont_some, Cont_none, iso_O, true_and, hg_s, hg_n, hput_hput, hp2, hs2, sp_takeDigit hs2 (by decide)]
      have cnt : ∀ (H2 : HP) (Z : Int), hget H2 31 = cW (cr V n m (k + 1)) → Fm 24 31 H H2 → (∀ a, 24 < a → a < 31 → hget H2 a = hget H a) → PS H2 n i0 i1 V n → DG H2 V n m (k + 1 : Nat) → Z = ld' V n m (k + 1) → ∀ (l6 l7 : Option Value), Go 53 12 [some (.ref 28), some (.ref 24), some (vi m), some (vi Z), some (vi (i + 1)), l6, l7] [] H2 Q := by
        intro H2 Z a1 a2 a3 a4 a5 a6 l6 l7
        subst a6
        exact ih (k + 1) (i + 1) H2 _ _ (by omega) (by omega) (hf.tr a2) (fun a b1 b2 => (a3 a b1 b2).trans (hfr a b1 b2)) a4 a1 a5
      by_cases h64 : i < 64
      · by_cases hz : (cr V n m k + vt V n k) % m = 0
        · simp (disch := omega) only [gX4_digitsInto_65, gX4_digitsInto_67, gX4_digitsInto_68, aN_L, aN_J, gX4_digitsInto_69T, gX4_digitsInto_69F, gX4_digitsInto_72, gX4_digitsInto_73, gX4_digitsInto_75, gX4_digitsInto_77, sL_p, gX4_digitsInto_78, gX4_digitsInto_80, gX4_digitsInto_81T, gX4_digitsInto_81F, gX4_digitsInto_82T, gX4_digitsInto_82F, gX4_digitsInto_85, gX4_digitsInto_87, gX4_digitsInto_88, gX4_digitsInto_91, Rd_some, Wr_some, Cont_some, Cont_none, iso_O, true_and, hg_s, hg_n, hput_hput, e31]
          refine cnt _ _ (by rw [hg_n (by omega), hg_s]; rfl) ((Fm.rf.put (by omega)).put (by omega)) (fun a b1 b2 => by rw [hg_n (by omega), hg_n (by omega)]) ⟨by rw [hg_n (by omega), hg_n (by omega)]; exact hp, ⟨U, W, by rw [hg_n (by omega), hg_n (by omega)]; exact hU, by rw [hg_n (by omega), hg_n (by omega)]; exact hW, hV⟩, ⟨_, _, by rw [hg_n (by omega), hg_s]⟩⟩ ⟨_, hg_s, fun j j0 j1 => ?_⟩ ?_ _ _
          · unfold up
            by_cases hj : (j : Int) = i
            · rw [if_pos hj, show j = k by omega]; rfl
            · rw [if_neg hj]; exact hD2 j (by omega) j1
          · show _ = if dt V n m k = 0 then _ else _
            rw [if_pos (show dt V n m k = 0 from hz)]
        · simp (disch := omega) only [gX4_digitsInto_65, gX4_digitsInto_67, gX4_digitsInto_68, aN_L, aN_J, gX4_digitsInto_69T, gX4_digitsInto_69F, gX4_digitsInto_72, gX4_digitsInto_73, gX4_digitsInto_75, gX4_digitsInto_77, sL_p, gX4_digitsInto_78, gX4_digitsInto_80, gX4_digitsInto_81T, gX4_digitsInto_81F, gX4_digitsInto_82T, gX4_digitsInto_82F, gX4_digitsInto_85, gX4_digitsInto_87, gX4_digitsInto_88, gX4_digitsInto_91, Rd_some, Wr_some, Cont_some, Cont_none, iso_O, true_and, hg_s, hg_n, hput_hput, e31]
          refine cnt _ _ (by rw [hg_n (by omega), hg_s]; rfl) ((Fm.rf.put (by omega)).put (by omega)) (fun a b1 b2 => by rw [hg_n (by omega), hg_n (by omega)]) ⟨by rw [hg_n (by omega), hg_n (by omega)]; exact hp, ⟨U, W, by rw [hg_n (by omega), hg_n (by omega)]; exact hU, by rw [hg_n (by omega), hg_n (by omega)]; exact hW, hV⟩, ⟨_, _, by rw [hg_n (by omega), hg_s]⟩⟩ ⟨_, hg_s, fun j j0 j1 => ?_⟩ ?_ _ _
          · unfold up
            by_cases hj : (j : Int) = i
            · rw [if_pos hj, show j = k by omega]; rfl
            · rw [if_neg hj]; exact hD2 j (by omega) j1
          · show _ = if dt V n m k = 0 then _ else _
            rw [if_neg (show ¬ dt V n m k = 0 from hz), hi]
      · by_cases hz : (cr V n m k + vt V n k) % m = 0
        · simp (disch := omega) only [gX4_digitsInto_65, gX4_digitsInto_67, gX4_digitsInto_68, aN_L, aN_J, gX4_digitsInto_69T, gX4_digitsInto_69F, gX4_digitsInto_72, gX4_digitsInto_73, gX4_digitsInto_75, gX4_digitsInto_77, sL_p, gX4_digitsInto_78, gX4_digitsInto_80, gX4_digitsInto_81T, gX4_digitsInto_81F, gX4_digitsInto_82T, gX4_digitsInto_82F, gX4_digitsInto_85, gX4_digitsInto_87, gX4_digitsInto_88, gX4_digitsInto_91, Rd_some, Wr_some, Cont_some, Cont_none, iso_O, true_and, hg_s, hg_n, hput_hput, e31]
          refine cnt _ _ hg_s (Fm.rf.put (by omega)) (fun a b1 b2 => by rw [hg_n (by omega)]) ⟨by rw [hg_n (by omega)]; exact hp, ⟨U, W, by rw [hg_n (by omega)]; exact hU, by rw [hg_n (by omega)]; exact hW, hV⟩, ⟨_, _, hg_s⟩⟩ ⟨D, e31 _, fun j j0 j1 => hD2 j (by omega) j1⟩ ?_ _ _
          show _ = if dt V n m k = 0 then _ else _
          rw [if_pos (show dt V n m k = 0 from hz)]
        · simp (disch := omega) only [gX4_digitsInto_65, gX4_digitsInto_67, gX4_digitsInto_68, aN_L, aN_J, gX4_digitsInto_69T, gX4_digitsInto_69F, gX4_digitsInto_72, gX4_digitsInto_73, gX4_digitsInto_75, gX4_digitsInto_77, sL_p, gX4_digitsInto_78, gX4_digitsInto_80, gX4_digitsInto_81T, gX4_digitsInto_81F, gX4_digitsInto_82T, gX4_digitsInto_82F, gX4_digitsInto_85, gX4_digitsInto_87, gX4_digitsInto_88, gX4_digitsInto_91, Rd_some, Wr_some, Cont_some, Cont_none, iso_O, true_and, hg_s, hg_n, hput_hput, e31]
          refine cnt _ _ hg_s (Fm.rf.put (by omega)) (fun a b1 b2 => by rw [hg_n (by omega)]) ⟨by rw [hg_n (by omega)]; exact hp, ⟨U, W, by rw [hg_n (by omega)]; exact hU, by rw [hg_n (by omega)]; exact hW, hV⟩, ⟨_, _, hg_s⟩⟩ ⟨D, e31 _, fun j j0 j1 => hD2 j (by omega) j1⟩ ?_ _ _
          show _ = if dt V n m k = 0 then _ else _
          rw [if_neg (show ¬ dt V n m k = 0 from hz), hi]
    rw [gX4_digitsInto_12]
    by_cases hin : i < n
    · have e1 := hV i (by omega) hin
      have e2 : vt V n k = V i := by unfold vt; rw [← hi, if_pos hin]
      simp (disch := omega) only [gX4_digitsInto_14, gX4_digitsInto_15, fl_4_2, gX4_digitsInto_18, gX4_digitsInto_21, gX4_digitsInto_22T, gX4_digitsInto_22F, gX4_digitsInto_25, gX4_digitsInto_27, gX4_digitsInto_28, gX4_digitsInto_31T, gX4_digitsInto_31F, gX4_digitsInto_34, gX4_digitsInto_35, fl_4_3, gX4_digitsInto_38, gX4_digitsInto_39, fl_4_0, gX4_digitsInto_42, gX4_digitsInto_44, aL_g, gX4_digitsInto_45, gX4_digitsInto_46, fl_4_1, gX4_digitsInto_49, gX4_digitsInto_51, gX4_digitsInto_52, Rd_some, Wr_some, Cont_some, Cont_none, iso_O, true_and, hg_s, hg_n, hput_hput, hp, hU, hW, hs, e1.1, e1.2, sp_addPair hs (by decide)]
      rw [← e2]
      exact step
    · have e2 : vt V n k = 0 := by unfold vt; rw [← hi, if_neg hin]
      simp (disch := omega) only [gX4_digitsInto_14, gX4_digitsInto_15, fl_4_2, gX4_digitsInto_18, gX4_digitsInto_21, gX4_digitsInto_22T, gX4_digitsInto_22F, gX4_digitsInto_25, gX4_digitsInto_27, gX4_digitsInto_28, gX4_digitsInto_31T, gX4_digitsInto_31F, Rd_some, Wr_some, Cont_some, Cont_none, iso_O, true_and, hg_s, hg_n, hput_hput, hp]
      rw [e2, Int.add_zero] at step
      rw [hput_same hs] at step
      exact step
theorem sp_digits {n m : Int} {V : Int → Int} (hm : 2 ≤ m ∧ m ≤ 10000) (hn : 0 ≤ n ∧ n ≤ 127) (hr : Vr V n) (hg : ¬ ng V n) (hps : PS H n i0 i1 V n) {D : Int → Int} (hD : hget H 24 = cL 64 D) (hq : ∀ (H' : HP), Fm 24 31 H H' → PS H' n i0 i1 V n → (∀ a, 24 < a → a < 31 → (a < 28 → hget H' a = hget H a)) → DG H' V n m 64 → Q (some (vi (if ld' V n m (n + 128).toNat < 64 then ld' V n m (n + 128).toNat + 1 else 0))) H') : Go 53 0 [some (.ref 28), some (.ref 24), some (vi m), none, none, none, none] [] H Q := by
  obtain ⟨u, w, hs⟩ := hps.2.2
  simp (disch := omega) only [gX4_digitsInto_0, gX4_digitsInto_1, gX4_digitsInto_2, gX4_digitsInto_3, fl_4_3, gX4_digitsInto_6, gX4_digitsInto_9, gX4_digitsInto_10, Rd_some, Wr_some, Cont_some, Cont_none, iso_O, true_and, hg_s, hg_n, hput_hput, hps.1, hs, sp_clear hs (by decide)]
  exact lp_digits hm hn hr hg (H0 := hput H 31 (cW 0)) (fun H' a1 a2 a3 a4 => hq H' ((Fm.rf.put (by omega)).tr a1) a2 (fun a b1 b2 b3 => by rw [a3 a b1 b2, hg_n (by omega)]) a4) (n + 128).toNat 0 0 _ _ _ rfl (by omega) Fm.rf (fun _ _ _ => rfl) hps.sum hg_s ⟨D, by rw [hg_n (by omega)]; exact hD, fun j j0 => by omega⟩
end SPEC

/-! x: more calls on rows; what is told -/
section OPS
variable {H : HP} {S : SS} {Q : Option Value → HP → Prop} {p q i ln n v w b : Int}
/-- what a call on x has, and gives -/
def CG (H : HP) (Q : Option Value → HP → Prop) (o : Value × SS) : Prop := ∀ H', CI H' o.2 → FX H H' → Q (some o.1) H'
theorem cx_at (hc : CI H S) (c : (-2147483648 ≤ p ∧ p ≤ 2147483647) ∧ (-2147483648 ≤ i ∧ i ≤ 2147483647)) (hq : CG H Q (o_at S p i)) : Go 74 0 [some (.ref 1), some (vi p), some (vi i)] [] H Q := by
  have hx := hc.x
  have h2 := hc.pl
  unfold o_at CG at hq
  by_cases h1 : 0 ≤ p ∧ p < 12
  · rw [if_pos h1] at hq
    have hc1 := hc.ft 0
    cases ho : S.1.1 p with
    | none =>
      rw [ho] at hq
      dsimp only at hq
      simp (disch := omega) only [gX8_at_0, gX8_at_1, gX8_at_2, pf_8_12, gX8_at_5, gX8_at_6, gX8_at_9T, gX8_at_9F, gX8_at_12, gX8_at_13, gX8_at_14, gX8_at_15, gX8_at_16, fl_8_0, gX8_at_19, gX8_at_20, aR_g, gX8_at_21, gX8_at_22, gX8_at_22N, gX8_at_25, Rd_some, Wr_some, Cont_some, Cont_none, iso_O, true_and, hg_s, hg_n, hput_hput, gX8_entryOf_0, gX8_entryOf_0N, gX8_entryOf_1T, gX8_entryOf_1F, gX8_entryOf_4, gX8_entryOf_5, gX8_entryOf_6, gX8_entryOf_9, Rd_some, Wr_some, Cont_some, Cont_none, iso_O, true_and, hg_s, hg_n, hput_hput, gX8_faultedLong_0, gX8_faultedLong_1, gX8_faultedLong_2, pf_8_12, gX8_faultedLong_5, gX8_faultedLong_6, Rd_some, Wr_some, Cont_some, Cont_none, iso_O, true_and, hg_s, hg_n, hput_hput, hx, h2, sp_plT, aR_g, ho, va_rf_n]
      exact hq _ (hc.ft 1) (FX.put (by decide))
    | some k =>
      rw [ho] at hq
      dsimp only at hq
      have hr1 : Rw (hput H 1 (cX (wFt S 0))) k (S.1.2 k) := hc1.rw' (S := wFt S 0) h1 ho
      have hw := hr1.RW
      simp (disch := omega) only [gX8_at_0, gX8_at_1, gX8_at_2, pf_8_12, gX8_at_5, gX8_at_6, gX8_at_9T, gX8_at_9F, gX8_at_12, gX8_at_13, gX8_at_14, gX8_at_15, gX8_at_16, fl_8_0, gX8_at_19, gX8_at_20, aR_g, gX8_at_21, gX8_at_22, gX8_at_22N, gX8_at_25, Rd_some, Wr_some, Cont_some, Cont_none, iso_O, true_and, hg_s, hg_n, hput_hput, hx, h2, sp_plT, aR_g, ho, va_rf_s]
      change Go _ _ _ _ (hput H 1 (cX (wFt S 0))) _
      by_cases h3 : 0 ≤ i ∧ i < (S.1.2 k).2.1
      · rw [if_pos h3] at hq
        simp (disch := omega) only [gX8_entryOf_0, gX8_entryOf_0N, gX8_entryOf_1T, gX8_entryOf_1F, gX8_entryOf_4, gX8_entryOf_5, gX8_entryOf_6, gX8_entryOf_9, gX8_entryOf_10, gX8_entryOf_10N, gX8_entryOf_11, gX8_entryOf_12, gX8_entryOf_15T, gX8_entryOf_15F, gX8_entryOf_18, gX8_entryOf_19, gX8_entryOf_20, gX8_entryOf_23, gX8_entryOf_24, gX8_entryOf_24N, gX8_entryOf_25, fl_5_1, gX8_entryOf_28, gX8_entryOf_29, aL_g, gX8_entryOf_30, Rd_some, Wr_some, Cont_some, Cont_none, iso_O, true_and, hg_s, hg_n, hput_hput, gX8_at_25, hr1.2.1, hr1.2.2.1, sp_has hr1.2.1 hr1.2.2.1 hw.sz, if_pos h3]
        exact hq _ hc1 (FX.put (by decide))
      · rw [if_neg h3] at hq
        simp (disch := omega) only [gX8_entryOf_0, gX8_entryOf_0N, gX8_entryOf_1T, gX8_entryOf_1F, gX8_entryOf_4, gX8_entryOf_5, gX8_entryOf_6, gX8_entryOf_9, gX8_entryOf_10, gX8_entryOf_10N, gX8_entryOf_11, gX8_entryOf_12, gX8_entryOf_15T, gX8_entryOf_15F, gX8_entryOf_18, gX8_entryOf_19, gX8_entryOf_20, gX8_entryOf_23, gX8_entryOf_24, gX8_entryOf_24N, gX8_entryOf_25, fl_5_1, gX8_entryOf_28, gX8_entryOf_29, aL_g, gX8_entryOf_30, Rd_some, Wr_some, Cont_some, Cont_none, iso_O, true_and, hg_s, hg_n, hput_hput, gX8_faultedLong_0, gX8_faultedLong_1, gX8_faultedLong_2, pf_8_12, gX8_faultedLong_5, gX8_faultedLong_6, Rd_some, Wr_some, Cont_some, Cont_none, iso_O, true_and, hg_s, hg_n, hput_hput, gX8_at_25, hr1.2.1, hr1.2.2.1, sp_has hr1.2.1 hr1.2.2.1 hw.sz, if_neg h3]
        exact hq _ (hc.ft 3) (FX.put (by decide))
  · rw [if_neg h1] at hq
    simp (disch := omega) only [gX8_at_0, gX8_at_1, gX8_at_2, pf_8_12, gX8_at_5, gX8_at_6, gX8_at_9T, gX8_at_9F, gX8_at_12, gX8_at_13, gX8_at_14, gX8_at_15, gX8_at_16, fl_8_0, gX8_at_19, gX8_at_20, aR_g, gX8_at_21, gX8_at_22, gX8_at_22N, gX8_at_25, Rd_some, Wr_some, Cont_some, Cont_none, iso_O, true_and, hg_s, hg_n, hput_hput, hx, sp_plF]
    exact hq _ (hc.ft 0) (FX.put (by decide))
theorem cx_as (hc : CI H S) (c : (-2147483648 ≤ p ∧ p ≤ 2147483647) ∧ (-2147483648 ≤ i ∧ i ≤ 2147483647) ∧ (-2147483648 ≤ ln ∧ ln ≤ 2147483647)) (hq : CG H Q (o_as S p i ln)) : Go 75 0 [some (.ref 1), some (vi p), some (vi i), some (vi ln), none] [] H Q := by
  have hx := hc.x
  have h2 := hc.pl
  unfold o_as CG at hq
  by_cases h1 : 0 ≤ p ∧ p < 12
  · by_cases h4 : 0 ≤ ln ∧ ln ≤ 4
    · rw [if_pos ⟨h1, h4⟩] at hq
      have hc1 := hc.ft 0
      cases ho : S.1.1 p with
      | none =>
        rw [ho] at hq
        dsimp only at hq
        simp (disch := omega) only [gX8_as_0, gX8_as_1, gX8_as_2, pf_8_12, gX8_as_5, gX8_as_6, gX8_as_9T, gX8_as_9F, gX8_as_12, gX8_as_13, gX8_as_16T, gX8_as_16F, gX8_as_19, gX8_as_20, gX8_as_21, gX8_as_22, fl_8_0, gX8_as_25, gX8_as_26, aR_g, gX8_as_27, gX8_as_27N, gX8_as_29, gX8_as_29N, gX8_as_31T, gX8_as_31F, gX8_as_34, gX8_as_34N, gX8_as_36, fl_5_0, gX8_as_39, gX8_as_40T, gX8_as_40F, gX8_as_43, gX8_as_44, gX8_as_45, gX8_as_48, gX8_as_49, gX8_as_50, gX8_as_50N, gX8_as_52, gX8_as_53, gX8_as_53N, gX8_as_56, Rd_some, Wr_some, Cont_some, Cont_none, iso_O, true_and, hg_s, hg_n, hput_hput, gX8_entryOf_0, gX8_entryOf_0N, gX8_entryOf_1T, gX8_entryOf_1F, gX8_entryOf_4, gX8_entryOf_5, gX8_entryOf_6, gX8_entryOf_9, Rd_some, Wr_some, Cont_some, Cont_none, iso_O, true_and, hg_s, hg_n, hput_hput, gX8_faultedLong_0, gX8_faultedLong_1, gX8_faultedLong_2, pf_8_12, gX8_faultedLong_5, gX8_faultedLong_6, Rd_some, Wr_some, Cont_some, Cont_none, iso_O, true_and, hg_s, hg_n, hput_hput, hx, h2, sp_plT, sp_lnT, aR_g, ho, va_rf_n]
        exact hq _ (hc.ft 1) (FX.put (by decide))
      | some k =>
        rw [ho] at hq
        dsimp only at hq
        have hr1 : Rw (hput H 1 (cX (wFt S 0))) k (S.1.2 k) := hc1.rw' (S := wFt S 0) h1 ho
        have hw := hr1.RW
        have hl := hr1.2.2.2.1
        simp (disch := omega) only [gX8_as_0, gX8_as_1, gX8_as_2, pf_8_12, gX8_as_5, gX8_as_6, gX8_as_9T, gX8_as_9F, gX8_as_12, gX8_as_13, gX8_as_16T, gX8_as_16F, gX8_as_19, gX8_as_20, gX8_as_21, gX8_as_22, fl_8_0, gX8_as_25, gX8_as_26, aR_g, gX8_as_27, gX8_as_27N, gX8_as_29, gX8_as_29N, gX8_as_31T, gX8_as_31F, Rd_some, Wr_some, Cont_some, Cont_none, iso_O, true_and, hg_s, hg_n, hput_hput, hx, h2, sp_plT, sp_lnT, aR_g, ho, va_rf_s]
        change Go _ _ _ _ (hput H 1 (cX (wFt S 0))) _
        by_cases h5 : (S.1.2 k).1 = ln
        · rw [if_pos h5] at hq
          by_cases h3 : 0 ≤ i ∧ i < (S.1.2 k).2.1
          · rw [if_pos h3] at hq
            simp (disch := omega) only [gX8_as_34, gX8_as_34N, gX8_as_36, fl_5_0, gX8_as_39, gX8_as_40T, gX8_as_40F, gX8_as_43, gX8_as_44, gX8_as_45, gX8_as_48, gX8_as_49, gX8_as_50, gX8_as_50N, gX8_as_52, gX8_as_53, gX8_as_53N, gX8_as_56, Rd_some, Wr_some, Cont_some, Cont_none, iso_O, true_and, hg_s, hg_n, hput_hput, gX8_entryOf_0, gX8_entryOf_0N, gX8_entryOf_1T, gX8_entryOf_1F, gX8_entryOf_4, gX8_entryOf_5, gX8_entryOf_6, gX8_entryOf_9, gX8_entryOf_10, gX8_entryOf_10N, gX8_entryOf_11, gX8_entryOf_12, gX8_entryOf_15T, gX8_entryOf_15F, gX8_entryOf_18, gX8_entryOf_19, gX8_entryOf_20, gX8_entryOf_23, gX8_entryOf_24, gX8_entryOf_24N, gX8_entryOf_25, fl_5_1, gX8_entryOf_28, gX8_entryOf_29, aL_g, gX8_entryOf_30, Rd_some, Wr_some, Cont_some, Cont_none, iso_O, true_and, hg_s, hg_n, hput_hput, hr1.2.1, hr1.2.2.1, sp_has hr1.2.1 hr1.2.2.1 hw.sz, if_pos h3]
            exact hq _ hc1 (FX.put (by decide))
          · rw [if_neg h3] at hq
            simp (disch := omega) only [gX8_as_34, gX8_as_34N, gX8_as_36, fl_5_0, gX8_as_39, gX8_as_40T, gX8_as_40F, gX8_as_43, gX8_as_44, gX8_as_45, gX8_as_48, gX8_as_49, gX8_as_50, gX8_as_50N, gX8_as_52, gX8_as_53, gX8_as_53N, gX8_as_56, Rd_some, Wr_some, Cont_some, Cont_none, iso_O, true_and, hg_s, hg_n, hput_hput, gX8_entryOf_0, gX8_entryOf_0N, gX8_entryOf_1T, gX8_entryOf_1F, gX8_entryOf_4, gX8_entryOf_5, gX8_entryOf_6, gX8_entryOf_9, gX8_entryOf_10, gX8_entryOf_10N, gX8_entryOf_11, gX8_entryOf_12, gX8_entryOf_15T, gX8_entryOf_15F, gX8_entryOf_18, gX8_entryOf_19, gX8_entryOf_20, gX8_entryOf_23, gX8_entryOf_24, gX8_entryOf_24N, gX8_entryOf_25, fl_5_1, gX8_entryOf_28, gX8_entryOf_29, aL_g, gX8_entryOf_30, Rd_some, Wr_some, Cont_some, Cont_none, iso_O, true_and, hg_s, hg_n, hput_hput, gX8_faultedLong_0, gX8_faultedLong_1, gX8_faultedLong_2, pf_8_12, gX8_faultedLong_5, gX8_faultedLong_6, Rd_some, Wr_some, Cont_some, Cont_none, iso_O, true_and, hg_s, hg_n, hput_hput, hr1.2.1, hr1.2.2.1, sp_has hr1.2.1 hr1.2.2.1 hw.sz, if_neg h3]
            exact hq _ (hc.ft 3) (FX.put (by decide))
        · rw [if_neg h5] at hq
          simp (disch := omega) only [gX8_as_34, gX8_as_34N, gX8_as_36, fl_5_0, gX8_as_39, gX8_as_40T, gX8_as_40F, gX8_as_43, gX8_as_44, gX8_as_45, gX8_as_48, gX8_as_49, gX8_as_50, gX8_as_50N, gX8_as_52, gX8_as_53, gX8_as_53N, gX8_as_56, Rd_some, Wr_some, Cont_some, Cont_none, iso_O, true_and, hg_s, hg_n, hput_hput, gX8_faultedLong_0, gX8_faultedLong_1, gX8_faultedLong_2, pf_8_12, gX8_faultedLong_5, gX8_faultedLong_6, Rd_some, Wr_some, Cont_some, Cont_none, iso_O, true_and, hg_s, hg_n, hput_hput, hr1.2.1]
          exact hq _ (hc.ft 2) (FX.put (by decide))
    · rw [if_neg (fun t => h4 t.2)] at hq
      simp (disch := omega) only [gX8_as_0, gX8_as_1, gX8_as_2, pf_8_12, gX8_as_5, gX8_as_6, gX8_as_9T, gX8_as_9F, gX8_as_12, gX8_as_13, gX8_as_16T, gX8_as_16F, gX8_as_19, gX8_as_20, gX8_as_21, gX8_as_22, fl_8_0, gX8_as_25, gX8_as_26, aR_g, gX8_as_27, gX8_as_27N, gX8_as_29, gX8_as_29N, gX8_as_31T, gX8_as_31F, gX8_as_34, gX8_as_34N, gX8_as_36, fl_5_0, gX8_as_39, gX8_as_40T, gX8_as_40F, gX8_as_43, gX8_as_44, gX8_as_45, gX8_as_48, gX8_as_49, gX8_as_50, gX8_as_50N, gX8_as_52, gX8_as_53, gX8_as_53N, gX8_as_56, Rd_some, Wr_some, Cont_some, Cont_none, iso_O, true_and, hg_s, hg_n, hput_hput, hx, sp_plT, sp_lnF]
      exact hq _ (hc.ft 0) (FX.put (by decide))
  · rw [if_neg (fun t => h1 t.1)] at hq
    simp (disch := omega) only [gX8_as_0, gX8_as_1, gX8_as_2, pf_8_12, gX8_as_5, gX8_as_6, gX8_as_9T, gX8_as_9F, gX8_as_12, gX8_as_13, gX8_as_16T, gX8_as_16F, gX8_as_19, gX8_as_20, gX8_as_21, gX8_as_22, fl_8_0, gX8_as_25, gX8_as_26, aR_g, gX8_as_27, gX8_as_27N, gX8_as_29, gX8_as_29N, gX8_as_31T, gX8_as_31F, gX8_as_34, gX8_as_34N, gX8_as_36, fl_5_0, gX8_as_39, gX8_as_40T, gX8_as_40F, gX8_as_43, gX8_as_44, gX8_as_45, gX8_as_48, gX8_as_49, gX8_as_50, gX8_as_50N, gX8_as_52, gX8_as_53, gX8_as_53N, gX8_as_56, Rd_some, Wr_some, Cont_some, Cont_none, iso_O, true_and, hg_s, hg_n, hput_hput, hx, sp_plF]
    exact hq _ (hc.ft 0) (FX.put (by decide))
theorem cx_rev (hc : CI H S) (c : -2147483648 ≤ p ∧ p ≤ 2147483647) (hq : CG H Q (o_rev S p)) : Go 76 0 [some (.ref 1), some (vi p), none] [] H Q := by
  have hx := hc.x
  have h2 := hc.pl
  unfold o_rev CG at hq
  by_cases h1 : 0 ≤ p ∧ p < 12
  · rw [if_pos h1] at hq
    have hc1 := hc.ft 0
    cases ho : S.1.1 p with
    | none =>
      rw [ho] at hq
      dsimp only at hq
      simp (disch := omega) only [gX8_reverse_0, gX8_reverse_1, gX8_reverse_2, pf_8_12, gX8_reverse_5, gX8_reverse_6, gX8_reverse_9T, gX8_reverse_9F, gX8_reverse_12, gX8_reverse_13, gX8_reverse_14, gX8_reverse_15, fl_8_0, gX8_reverse_18, gX8_reverse_19, aR_g, gX8_reverse_20, gX8_reverse_20N, gX8_reverse_21, gX8_reverse_21N, gX8_reverse_22T, gX8_reverse_22F, gX8_reverse_25, gX8_reverse_26, gX8_reverse_27, gX8_reverse_30, gX8_reverse_31, gX8_reverse_31N, gX8_reverse_32, gX8_reverse_33, gX8_reverse_33N, gX8_reverse_34, gX8_reverse_37, gX8_reverse_40, gX8_reverse_41, Rd_some, Wr_some, Cont_some, Cont_none, iso_O, true_and, hg_s, hg_n, hput_hput, gX8_faulted_0, gX8_faulted_1, gX8_faulted_2, pf_8_12, gX8_faulted_5, gX8_faulted_7, gX8_faulted_8, gX8_faulted_9, Rd_some, Wr_some, Cont_some, Cont_none, iso_O, true_and, hg_s, hg_n, hput_hput, hx, h2, sp_plT, aR_g, ho, va_rf_n]
      exact hq _ (hc.ft 1) (FX.put (by decide))
    | some k =>
      rw [ho] at hq
      dsimp only at hq
      have hr := hc.rw' h1 ho
      have hr1 : Rw (hput H 1 (cX (wFt S 0))) k (S.1.2 k) := hc1.rw' (S := wFt S 0) h1 ho
      have hw := hr1.RW
      have hb := hr1.1
      have hn := hw.2.2.2.1
      simp (disch := omega) only [gX8_reverse_0, gX8_reverse_1, gX8_reverse_2, pf_8_12, gX8_reverse_5, gX8_reverse_6, gX8_reverse_9T, gX8_reverse_9F, gX8_reverse_12, gX8_reverse_13, gX8_reverse_14, gX8_reverse_15, fl_8_0, gX8_reverse_18, gX8_reverse_19, aR_g, gX8_reverse_20, gX8_reverse_20N, gX8_reverse_21, gX8_reverse_21N, Rd_some, Wr_some, Cont_some, Cont_none, iso_O, true_and, hg_s, hg_n, hput_hput, hx, h2, sp_plT, aR_g, ho, va_rf_s]
      change Go _ _ _ _ (hput H 1 (cX (wFt S 0))) _
      simp (disch := omega) only [gX8_reverse_22T, gX8_reverse_22F, gX8_reverse_25, gX8_reverse_26, gX8_reverse_27, gX8_reverse_30, gX8_reverse_31, gX8_reverse_31N, gX8_reverse_32, gX8_reverse_33, gX8_reverse_33N, gX8_reverse_34, gX8_reverse_37, gX8_reverse_40, gX8_reverse_41, Rd_some, Wr_some, Cont_some, Cont_none, iso_O, true_and, hg_s, hg_n, hput_hput, hr1.2.1, sp_size hr1.2.1 hr1.2.2.1 hw.sz, sp_flip hr1.2.1 hr1.2.2.1 hw.2.2.1.2.2 (by omega) hw.sz ⟨Int.le_refl 0, Int.le_of_lt hn.1, Int.le_refl _⟩]
      refine hq _ (hc1.cells (S := wFt S 0) h1 ho (rok_rev hr.2.2.2)) ⟨⟨Nat.le_refl _, Nat.le_add_right _ _, Nat.le_add_right _ _⟩, fun a ha => by rw [hg_n (by omega), hg_n (by omega)]⟩
  · rw [if_neg h1] at hq
    simp (disch := omega) only [gX8_reverse_0, gX8_reverse_1, gX8_reverse_2, pf_8_12, gX8_reverse_5, gX8_reverse_6, gX8_reverse_9T, gX8_reverse_9F, gX8_reverse_12, gX8_reverse_13, gX8_reverse_14, gX8_reverse_15, fl_8_0, gX8_reverse_18, gX8_reverse_19, aR_g, gX8_reverse_20, gX8_reverse_20N, gX8_reverse_21, gX8_reverse_21N, gX8_reverse_22T, gX8_reverse_22F, gX8_reverse_25, gX8_reverse_26, gX8_reverse_27, gX8_reverse_30, gX8_reverse_31, gX8_reverse_31N, gX8_reverse_32, gX8_reverse_33, gX8_reverse_33N, gX8_reverse_34, gX8_reverse_37, gX8_reverse_40, gX8_reverse_41, Rd_some, Wr_some, Cont_some, Cont_none, iso_O, true_and, hg_s, hg_n, hput_hput, hx, sp_plF]
    exact hq _ (hc.ft 0) (FX.put (by decide))
theorem cx_shift (hc : CI H S) (c : (-2147483648 ≤ p ∧ p ≤ 2147483647) ∧ (-2147483648 ≤ b ∧ b ≤ 2147483647)) (hq : CG H Q (o_shift S p b)) : Go 77 0 [some (.ref 1), some (vi p), some (vi b), none] [] H Q := by
  have hx := hc.x
  have h2 := hc.pl
  unfold o_shift CG at hq
  by_cases h1 : 0 ≤ p ∧ p < 12
  · rw [if_pos h1] at hq
    have hc1 := hc.ft 0
    cases ho : S.1.1 p with
    | none =>
      rw [ho] at hq
      dsimp only at hq
      simp (disch := omega) only [gX8_shift_0, gX8_shift_1, gX8_shift_2, pf_8_12, gX8_shift_5, gX8_shift_6, gX8_shift_9T, gX8_shift_9F, gX8_shift_12, gX8_shift_13, gX8_shift_14, gX8_shift_15, fl_8_0, gX8_shift_18, gX8_shift_19, aR_g, gX8_shift_20, gX8_shift_20N, gX8_shift_21, gX8_shift_21N, gX8_shift_22T, gX8_shift_22F, gX8_shift_25, gX8_shift_26, gX8_shift_27, gX8_shift_30, gX8_shift_31, gX8_shift_31N, gX8_shift_32, gX8_shift_33, gX8_shift_36, gX8_shift_37, Rd_some, Wr_some, Cont_some, Cont_none, iso_O, true_and, hg_s, hg_n, hput_hput, gX8_faulted_0, gX8_faulted_1, gX8_faulted_2, pf_8_12, gX8_faulted_5, gX8_faulted_7, gX8_faulted_8, gX8_faulted_9, Rd_some, Wr_some, Cont_some, Cont_none, iso_O, true_and, hg_s, hg_n, hput_hput, hx, h2, sp_plT, aR_g, ho, va_rf_n]
      exact hq _ (hc.ft 1) (FX.put (by decide))
    | some k =>
      rw [ho] at hq
      dsimp only at hq
      have hr := hc.rw' h1 ho
      have hr1 : Rw (hput H 1 (cX (wFt S 0))) k (S.1.2 k) := hc1.rw' (S := wFt S 0) h1 ho
      have hw := hr1.RW
      have hb := hr1.1
      have hn := hw.2.2.2.1
      simp (disch := omega) only [gX8_shift_0, gX8_shift_1, gX8_shift_2, pf_8_12, gX8_shift_5, gX8_shift_6, gX8_shift_9T, gX8_shift_9F, gX8_shift_12, gX8_shift_13, gX8_shift_14, gX8_shift_15, fl_8_0, gX8_shift_18, gX8_shift_19, aR_g, gX8_shift_20, gX8_shift_20N, gX8_shift_21, gX8_shift_21N, Rd_some, Wr_some, Cont_some, Cont_none, iso_O, true_and, hg_s, hg_n, hput_hput, hx, h2, sp_plT, aR_g, ho, va_rf_s]
      change Go _ _ _ _ (hput H 1 (cX (wFt S 0))) _
      simp (disch := omega) only [gX8_shift_22T, gX8_shift_22F, gX8_shift_25, gX8_shift_26, gX8_shift_27, gX8_shift_30, gX8_shift_31, gX8_shift_31N, gX8_shift_32, gX8_shift_33, gX8_shift_36, gX8_shift_37, Rd_some, Wr_some, Cont_some, Cont_none, iso_O, true_and, hg_s, hg_n, hput_hput, hr1.2.1, sp_turn hr1.2.1 hr1.2.2.1 hw.2.2.1.2.2 (by omega) ⟨hn.1, hw.sz.2⟩ c.2]
      refine hq _ (hc1.cells (S := wFt S 0) h1 ho (rok_rot hr.2.2.2 b)) ⟨⟨Nat.le_refl _, Nat.le_add_right _ _, Nat.le_add_right _ _⟩, fun a ha => by rw [hg_n (by omega), hg_n (by omega)]⟩
  · rw [if_neg h1] at hq
    simp (disch := omega) only [gX8_shift_0, gX8_shift_1, gX8_shift_2, pf_8_12, gX8_shift_5, gX8_shift_6, gX8_shift_9T, gX8_shift_9F, gX8_shift_12, gX8_shift_13, gX8_shift_14, gX8_shift_15, fl_8_0, gX8_shift_18, gX8_shift_19, aR_g, gX8_shift_20, gX8_shift_20N, gX8_shift_21, gX8_shift_21N, gX8_shift_22T, gX8_shift_22F, gX8_shift_25, gX8_shift_26, gX8_shift_27, gX8_shift_30, gX8_shift_31, gX8_shift_31N, gX8_shift_32, gX8_shift_33, gX8_shift_36, gX8_shift_37, Rd_some, Wr_some, Cont_some, Cont_none, iso_O, true_and, hg_s, hg_n, hput_hput, hx, sp_plF]
    exact hq _ (hc.ft 0) (FX.put (by decide))
/-- a shelf's entry, or what stands for none -/
def o_sh (S : SS) (k : Nat) (i w : Int) : Value × SS := (if 0 ≤ i ∧ i < (S.2.2 k).1 then vl ((S.2.2 k).2 i) else vl w, S)
theorem cx_value (hc : CI H S) (c : -2147483648 ≤ i ∧ i ≤ 2147483647) (hq : CG H Q (o_sh S 0 i (-1))) : Go 81 0 [some (.ref 1), some (vi i)] [] H Q := by
  obtain ⟨g, h1, h2⟩ := hc.c 15 (by decide)
  have h0 : hget H 14 = cO 6 [.ref 15, vi (S.2.2 0).1] := hc.c 14 (by decide)
  have hn := hc.2.2.1.2.1
  have hq := hq H hc FX.rf
  simp (disch := omega) only [gX8_value_0, gX8_value_1, fl_8_5, gX8_value_4, gX8_value_5, gX8_value_8, gX8_value_11, Rd_some, Wr_some, Cont_some, Cont_none, iso_O, true_and, hg_s, hg_n, hput_hput, hc.x, h0, sp_get h0 h1 ⟨hn.1, hn.2, by decide⟩ c]
  unfold o_sh at hq
  dsimp only at hq
  split at hq
  · rename_i hi
    rw [if_pos hi, h2 i hi.1 hi.2]
    simp (disch := omega) only [gX8_value_0, gX8_value_1, fl_8_5, gX8_value_4, gX8_value_5, gX8_value_8, gX8_value_11, Rd_some, Wr_some, Cont_some, Cont_none, iso_O, true_and, hg_s, hg_n, hput_hput]
    exact hq
  · rename_i hi
    rw [if_neg hi]
    simp (disch := omega) only [gX8_value_0, gX8_value_1, fl_8_5, gX8_value_4, gX8_value_5, gX8_value_8, gX8_value_11, Rd_some, Wr_some, Cont_some, Cont_none, iso_O, true_and, hg_s, hg_n, hput_hput]
    exact hq
theorem cx_residue (hc : CI H S) (c : -2147483648 ≤ i ∧ i ≤ 2147483647) (hq : CG H Q (o_sh S 3 i (-1))) : Go 97 0 [some (.ref 1), some (vi i)] [] H Q := by
  obtain ⟨g, h1, h2⟩ := hc.c 17 (by decide)
  have h0 : hget H 16 = cO 6 [.ref 17, vi (S.2.2 3).1] := hc.c 16 (by decide)
  have hn := hc.2.2.1.2.2.2.1
  have hq := hq H hc FX.rf
  simp (disch := omega) only [gX8_residue_0, gX8_residue_1, fl_8_6, gX8_residue_4, gX8_residue_5, gX8_residue_8, gX8_residue_11, Rd_some, Wr_some, Cont_some, Cont_none, iso_O, true_and, hg_s, hg_n, hput_hput, hc.x, h0, sp_get h0 h1 ⟨hn.1, hn.2, by decide⟩ c]
  unfold o_sh at hq
  dsimp only at hq
  split at hq
  · rename_i hi
    rw [if_pos hi, h2 i hi.1 hi.2]
    simp (disch := omega) only [gX8_residue_0, gX8_residue_1, fl_8_6, gX8_residue_4, gX8_residue_5, gX8_residue_8, gX8_residue_11, Rd_some, Wr_some, Cont_some, Cont_none, iso_O, true_and, hg_s, hg_n, hput_hput]
    exact hq
  · rename_i hi
    rw [if_neg hi]
    simp (disch := omega) only [gX8_residue_0, gX8_residue_1, fl_8_6, gX8_residue_4, gX8_residue_5, gX8_residue_8, gX8_residue_11, Rd_some, Wr_some, Cont_some, Cont_none, iso_O, true_and, hg_s, hg_n, hput_hput]
    exact hq
theorem cx_rest (hc : CI H S) (c : -2147483648 ≤ i ∧ i ≤ 2147483647) (hq : CG H Q (o_sh S 4 i (-1))) : Go 98 0 [some (.ref 1), some (vi i)] [] H Q := by
  obtain ⟨g, h1, h2⟩ := hc.c 19 (by decide)
  have h0 : hget H 18 = cO 6 [.ref 19, vi (S.2.2 4).1] := hc.c 18 (by decide)
  have hn := hc.2.2.1.2.2.2.2.1
  have hq := hq H hc FX.rf
  simp (disch := omega) only [gX8_rest_0, gX8_rest_1, fl_8_7, gX8_rest_4, gX8_rest_5, gX8_rest_8, gX8_rest_11, Rd_some, Wr_some, Cont_some, Cont_none, iso_O, true_and, hg_s, hg_n, hput_hput, hc.x, h0, sp_get h0 h1 ⟨hn.1, hn.2, by decide⟩ c]
  unfold o_sh at hq
  dsimp only at hq
  split at hq
  · rename_i hi
    rw [if_pos hi, h2 i hi.1 hi.2]
    simp (disch := omega) only [gX8_rest_0, gX8_rest_1, fl_8_7, gX8_rest_4, gX8_rest_5, gX8_rest_8, gX8_rest_11, Rd_some, Wr_some, Cont_some, Cont_none, iso_O, true_and, hg_s, hg_n, hput_hput]
    exact hq
  · rename_i hi
    rw [if_neg hi]
    simp (disch := omega) only [gX8_rest_0, gX8_rest_1, fl_8_7, gX8_rest_4, gX8_rest_5, gX8_rest_8, gX8_rest_11, Rd_some, Wr_some, Cont_some, Cont_none, iso_O, true_and, hg_s, hg_n, hput_hput]
    exact hq
theorem cx_realAt (hc : CI H S) (c : -2147483648 ≤ i ∧ i ≤ 2147483647) (hq : CG H Q (o_sh S 6 i 9221120237041090560)) : Go 102 0 [some (.ref 1), some (vi i)] [] H Q := by
  obtain ⟨g, h1, h2⟩ := hc.c 23 (by decide)
  have h0 : hget H 22 = cO 6 [.ref 23, vi (S.2.2 6).1] := hc.c 22 (by decide)
  have hn := hc.2.2.1.2.2.2.2.2.2.1
  have hq := hq H hc FX.rf
  simp (disch := omega) only [gX8_realAt_0, gX8_realAt_1, fl_8_9, gX8_realAt_4, gX8_realAt_5, gX8_realAt_8, gX8_realAt_11, Rd_some, Wr_some, Cont_some, Cont_none, iso_O, true_and, hg_s, hg_n, hput_hput, hc.x, h0, sp_get h0 h1 ⟨hn.1, hn.2, by decide⟩ c]
  unfold o_sh at hq
  dsimp only at hq
  split at hq
  · rename_i hi
    rw [if_pos hi, h2 i hi.1 hi.2]
    simp (disch := omega) only [gX8_realAt_0, gX8_realAt_1, fl_8_9, gX8_realAt_4, gX8_realAt_5, gX8_realAt_8, gX8_realAt_11, Rd_some, Wr_some, Cont_some, Cont_none, iso_O, true_and, hg_s, hg_n, hput_hput]
    exact hq
  · rename_i hi
    rw [if_neg hi]
    simp (disch := omega) only [gX8_realAt_0, gX8_realAt_1, fl_8_9, gX8_realAt_4, gX8_realAt_5, gX8_realAt_8, gX8_realAt_11, Rd_some, Wr_some, Cont_some, Cont_none, iso_O, true_and, hg_s, hg_n, hput_hput]
    exact hq
def o_matchAt (S : SS) (i : Int) : Value × SS := (if 0 ≤ i ∧ i < (S.2.2 5).1 then vi ((S.2.2 5).2 i) else vi (-9), S)
theorem cx_matchAt (hc : CI H S) (c : -2147483648 ≤ i ∧ i ≤ 2147483647) (hq : CG H Q (o_matchAt S i)) : Go 100 0 [some (.ref 1), some (vi i)] [] H Q := by
  obtain ⟨g, h1, h2⟩ := hc.c 21 (by decide)
  have h0 : hget H 20 = cO 6 [.ref 21, vi (S.2.2 5).1] := hc.c 20 (by decide)
  have hn := hc.2.2.1.2.2.2.2.2.1
  have hq := hq H hc FX.rf
  simp (disch := omega) only [gX8_matchAt_0, gX8_matchAt_1, fl_8_8, gX8_matchAt_4, gX8_matchAt_5, gX8_matchAt_8, gX8_matchAt_11, gX8_matchAt_12, Rd_some, Wr_some, Cont_some, Cont_none, iso_O, true_and, hg_s, hg_n, hput_hput, hc.x, h0, sp_get h0 h1 ⟨hn.1, hn.2, by decide⟩ c]
  unfold o_matchAt at hq
  dsimp only at hq
  split at hq
  · rename_i hi
    rw [if_pos hi, h2 i hi.1 hi.2]
    simp (disch := omega) only [gX8_matchAt_0, gX8_matchAt_1, fl_8_8, gX8_matchAt_4, gX8_matchAt_5, gX8_matchAt_8, gX8_matchAt_11, gX8_matchAt_12, Rd_some, Wr_some, Cont_some, Cont_none, iso_O, true_and, hg_s, hg_n, hput_hput]
    exact hq
  · rename_i hi
    rw [if_neg hi]
    simp (disch := omega) only [gX8_matchAt_0, gX8_matchAt_1, fl_8_8, gX8_matchAt_4, gX8_matchAt_5, gX8_matchAt_8, gX8_matchAt_11, gX8_matchAt_12, Rd_some, Wr_some, Cont_some, Cont_none, iso_O, true_and, hg_s, hg_n, hput_hput]
    exact hq
def o_high (S : SS) (i : Int) : Value × SS := (if 0 ≤ i ∧ i < (S.2.2 2).1 then vl ((S.2.2 2).2 i / 18446744073709551616) else vl 0, S)
theorem cx_high (hc : CI H S) (c : -2147483648 ≤ i ∧ i ≤ 2147483647) (hq : CG H Q (o_high S i)) : Go 87 0 [some (.ref 1), some (vi i)] [] H Q := by
  obtain ⟨h0, ⟨U, W, h1, h2, h3⟩, -⟩ := hc.ps
  have hn := hc.2.2.1.2.2.1
  have hq := hq H hc FX.rf
  unfold o_high at hq
  dsimp only at hq
  split at hq
  · rename_i hi
    rw [← (h3 i hi.1 hi.2).1] at hq
    simp (disch := omega) only [gX8_high_0, gX8_high_1, fl_8_2, gX8_high_4, gX8_high_5, gX8_high_8T, gX8_high_8F, gX8_high_11, gX8_high_12, gX8_high_15, fl_4_0, gX8_high_18, gX8_high_19, aL_g, gX8_high_20, gX8_high_23, gX8_high_24, Rd_some, Wr_some, Cont_some, Cont_none, iso_O, true_and, hg_s, hg_n, hput_hput, hc.x, h0, h1, sp_pHas h0 hn c, if_pos hi]
    exact hq
  · rename_i hi
    simp (disch := omega) only [gX8_high_0, gX8_high_1, fl_8_2, gX8_high_4, gX8_high_5, gX8_high_8T, gX8_high_8F, gX8_high_11, gX8_high_12, gX8_high_15, fl_4_0, gX8_high_18, gX8_high_19, aL_g, gX8_high_20, gX8_high_23, gX8_high_24, Rd_some, Wr_some, Cont_some, Cont_none, iso_O, true_and, hg_s, hg_n, hput_hput, hc.x, h0, sp_pHas h0 hn c, if_neg hi]
    exact hq
theorem cx_low (hc : CI H S) (c : -2147483648 ≤ i ∧ i ≤ 2147483647) (hq : CG H Q (o_sh S 2 i 0)) : Go 88 0 [some (.ref 1), some (vi i)] [] H Q := by
  obtain ⟨h0, ⟨U, W, h1, h2, h3⟩, -⟩ := hc.ps
  have hn := hc.2.2.1.2.2.1
  have hq := hq H hc FX.rf
  unfold o_sh at hq
  dsimp only at hq
  split at hq
  · rename_i hi
    rw [← (h3 i hi.1 hi.2).2] at hq
    simp (disch := omega) only [gX8_low_0, gX8_low_1, fl_8_2, gX8_low_4, gX8_low_5, gX8_low_8T, gX8_low_8F, gX8_low_11, gX8_low_12, gX8_low_15, fl_4_1, gX8_low_18, gX8_low_19, aL_g, gX8_low_20, gX8_low_23, gX8_low_24, Rd_some, Wr_some, Cont_some, Cont_none, iso_O, true_and, hg_s, hg_n, hput_hput, hc.x, h0, h2, sp_pHas h0 hn c, if_pos hi]
    exact hq
  · rename_i hi
    simp (disch := omega) only [gX8_low_0, gX8_low_1, fl_8_2, gX8_low_4, gX8_low_5, gX8_low_8T, gX8_low_8F, gX8_low_11, gX8_low_12, gX8_low_15, fl_4_1, gX8_low_18, gX8_low_19, aL_g, gX8_low_20, gX8_low_23, gX8_low_24, Rd_some, Wr_some, Cont_some, Cont_none, iso_O, true_and, hg_s, hg_n, hput_hput, hc.x, h0, sp_pHas h0 hn c, if_neg hi]
    exact hq
theorem cx_fault (hc : CI H S) (hq : CG H Q (vi S.2.1.1, S)) : Go 103 0 [some (.ref 1)] [] H Q := by
  simp (disch := omega) only [gX8_fault_0, gX8_fault_1, fl_8_12, gX8_fault_4, Rd_some, Wr_some, Cont_some, Cont_none, iso_O, true_and, hg_s, hg_n, hput_hput, hc.x]
  exact hq H hc FX.rf
def o_told (S : SS) (i : Int) : Value × SS := (vi (if i = 0 then (S.2.2 0).1 else if i = 1 then S.2.1.2 else if i = 2 then (S.2.2 2).1 else if i = 3 then (S.2.2 3).1 else if i = 4 then (S.2.2 4).1 else if i = 5 then (S.2.2 5).1 else if i = 6 then (S.2.2 6).1 else -2), S)
theorem cx_told (hc : CI H S) (c : -2147483648 ≤ i ∧ i ≤ 2147483647) (hq : CG H Q (o_told S i)) : Go 104 0 [some (.ref 1), some (vi i)] [] H Q := by
  have a14 : hget H 14 = cO 6 [.ref 15, vi (S.2.2 0).1] := hc.c 14 (by decide)
  have a16 : hget H 16 = cO 6 [.ref 17, vi (S.2.2 3).1] := hc.c 16 (by decide)
  have a18 : hget H 18 = cO 6 [.ref 19, vi (S.2.2 4).1] := hc.c 18 (by decide)
  have a20 : hget H 20 = cO 6 [.ref 21, vi (S.2.2 5).1] := hc.c 20 (by decide)
  have a22 : hget H 22 = cO 6 [.ref 23, vi (S.2.2 6).1] := hc.c 22 (by decide)
  have h0 := hc.ps.1
  have hq := hq H hc FX.rf
  unfold o_told at hq
  dsimp only at hq
  by_cases e0 : i = 0
  · rw [if_pos e0] at hq
    simp (disch := omega) only [gX8_told_0, gX8_told_1O, gX8_told_1_0, gX8_told_1_1, gX8_told_1_2, gX8_told_1_3, gX8_told_1_4, gX8_told_1_5, gX8_told_1_6, gX8_told_44, gX8_told_45, fl_8_5, gX8_told_48, fl_6_1, gX8_told_51, gX8_told_52, gX8_told_53, fl_8_11, gX8_told_56, gX8_told_57, gX8_told_58, fl_8_2, gX8_told_61, fl_4_2, gX8_told_64, gX8_told_65, gX8_told_66, fl_8_6, gX8_told_69, gX8_told_72, gX8_told_73, gX8_told_74, fl_8_7, gX8_told_77, gX8_told_80, gX8_told_81, gX8_told_82, fl_8_8, gX8_told_85, gX8_told_88, gX8_told_89, gX8_told_90, fl_8_9, gX8_told_93, gX8_told_96, gX8_told_97, gX8_told_99, Rd_some, Wr_some, Cont_some, Cont_none, iso_O, true_and, hg_s, hg_n, hput_hput, hc.x, a14]
    exact hq
  · rw [if_neg e0] at hq
    by_cases e1 : i = 1
    · rw [if_pos e1] at hq
      simp (disch := omega) only [gX8_told_0, gX8_told_1O, gX8_told_1_0, gX8_told_1_1, gX8_told_1_2, gX8_told_1_3, gX8_told_1_4, gX8_told_1_5, gX8_told_1_6, gX8_told_44, gX8_told_45, fl_8_5, gX8_told_48, fl_6_1, gX8_told_51, gX8_told_52, gX8_told_53, fl_8_11, gX8_told_56, gX8_told_57, gX8_told_58, fl_8_2, gX8_told_61, fl_4_2, gX8_told_64, gX8_told_65, gX8_told_66, fl_8_6, gX8_told_69, gX8_told_72, gX8_told_73, gX8_told_74, fl_8_7, gX8_told_77, gX8_told_80, gX8_told_81, gX8_told_82, fl_8_8, gX8_told_85, gX8_told_88, gX8_told_89, gX8_told_90, fl_8_9, gX8_told_93, gX8_told_96, gX8_told_97, gX8_told_99, Rd_some, Wr_some, Cont_some, Cont_none, iso_O, true_and, hg_s, hg_n, hput_hput, hc.x]
      exact hq
    · rw [if_neg e1] at hq
      by_cases e2 : i = 2
      · rw [if_pos e2] at hq
        simp (disch := omega) only [gX8_told_0, gX8_told_1O, gX8_told_1_0, gX8_told_1_1, gX8_told_1_2, gX8_told_1_3, gX8_told_1_4, gX8_told_1_5, gX8_told_1_6, gX8_told_44, gX8_told_45, fl_8_5, gX8_told_48, fl_6_1, gX8_told_51, gX8_told_52, gX8_told_53, fl_8_11, gX8_told_56, gX8_told_57, gX8_told_58, fl_8_2, gX8_told_61, fl_4_2, gX8_told_64, gX8_told_65, gX8_told_66, fl_8_6, gX8_told_69, gX8_told_72, gX8_told_73, gX8_told_74, fl_8_7, gX8_told_77, gX8_told_80, gX8_told_81, gX8_told_82, fl_8_8, gX8_told_85, gX8_told_88, gX8_told_89, gX8_told_90, fl_8_9, gX8_told_93, gX8_told_96, gX8_told_97, gX8_told_99, Rd_some, Wr_some, Cont_some, Cont_none, iso_O, true_and, hg_s, hg_n, hput_hput, hc.x, h0]
        exact hq
      · rw [if_neg e2] at hq
        by_cases e3 : i = 3
        · rw [if_pos e3] at hq
          simp (disch := omega) only [gX8_told_0, gX8_told_1O, gX8_told_1_0, gX8_told_1_1, gX8_told_1_2, gX8_told_1_3, gX8_told_1_4, gX8_told_1_5, gX8_told_1_6, gX8_told_44, gX8_told_45, fl_8_5, gX8_told_48, fl_6_1, gX8_told_51, gX8_told_52, gX8_told_53, fl_8_11, gX8_told_56, gX8_told_57, gX8_told_58, fl_8_2, gX8_told_61, fl_4_2, gX8_told_64, gX8_told_65, gX8_told_66, fl_8_6, gX8_told_69, gX8_told_72, gX8_told_73, gX8_told_74, fl_8_7, gX8_told_77, gX8_told_80, gX8_told_81, gX8_told_82, fl_8_8, gX8_told_85, gX8_told_88, gX8_told_89, gX8_told_90, fl_8_9, gX8_told_93, gX8_told_96, gX8_told_97, gX8_told_99, Rd_some, Wr_some, Cont_some, Cont_none, iso_O, true_and, hg_s, hg_n, hput_hput, hc.x, a16]
          exact hq
        · rw [if_neg e3] at hq
          by_cases e4 : i = 4
          · rw [if_pos e4] at hq
            simp (disch := omega) only [gX8_told_0, gX8_told_1O, gX8_told_1_0, gX8_told_1_1, gX8_told_1_2, gX8_told_1_3, gX8_told_1_4, gX8_told_1_5, gX8_told_1_6, gX8_told_44, gX8_told_45, fl_8_5, gX8_told_48, fl_6_1, gX8_told_51, gX8_told_52, gX8_told_53, fl_8_11, gX8_told_56, gX8_told_57, gX8_told_58, fl_8_2, gX8_told_61, fl_4_2, gX8_told_64, gX8_told_65, gX8_told_66, fl_8_6, gX8_told_69, gX8_told_72, gX8_told_73, gX8_told_74, fl_8_7, gX8_told_77, gX8_told_80, gX8_told_81, gX8_told_82, fl_8_8, gX8_told_85, gX8_told_88, gX8_told_89, gX8_told_90, fl_8_9, gX8_told_93, gX8_told_96, gX8_told_97, gX8_told_99, Rd_some, Wr_some, Cont_some, Cont_none, iso_O, true_and, hg_s, hg_n, hput_hput, hc.x, a18]
            exact hq
          · rw [if_neg e4] at hq
            by_cases e5 : i = 5
            · rw [if_pos e5] at hq
              simp (disch := omega) only [gX8_told_0, gX8_told_1O, gX8_told_1_0, gX8_told_1_1, gX8_told_1_2, gX8_told_1_3, gX8_told_1_4, gX8_told_1_5, gX8_told_1_6, gX8_told_44, gX8_told_45, fl_8_5, gX8_told_48, fl_6_1, gX8_told_51, gX8_told_52, gX8_told_53, fl_8_11, gX8_told_56, gX8_told_57, gX8_told_58, fl_8_2, gX8_told_61, fl_4_2, gX8_told_64, gX8_told_65, gX8_told_66, fl_8_6, gX8_told_69, gX8_told_72, gX8_told_73, gX8_told_74, fl_8_7, gX8_told_77, gX8_told_80, gX8_told_81, gX8_told_82, fl_8_8, gX8_told_85, gX8_told_88, gX8_told_89, gX8_told_90, fl_8_9, gX8_told_93, gX8_told_96, gX8_told_97, gX8_told_99, Rd_some, Wr_some, Cont_some, Cont_none, iso_O, true_and, hg_s, hg_n, hput_hput, hc.x, a20]
              exact hq
            · rw [if_neg e5] at hq
              by_cases e6 : i = 6
              · rw [if_pos e6] at hq
                simp (disch := omega) only [gX8_told_0, gX8_told_1O, gX8_told_1_0, gX8_told_1_1, gX8_told_1_2, gX8_told_1_3, gX8_told_1_4, gX8_told_1_5, gX8_told_1_6, gX8_told_44, gX8_told_45, fl_8_5, gX8_told_48, fl_6_1, gX8_told_51, gX8_told_52, gX8_told_53, fl_8_11, gX8_told_56, gX8_told_57, gX8_told_58, fl_8_2, gX8_told_61, fl_4_2, gX8_told_64, gX8_told_65, gX8_told_66, fl_8_6, gX8_told_69, gX8_told_72, gX8_told_73, gX8_told_74, fl_8_7, gX8_told_77, gX8_told_80, gX8_told_81, gX8_told_82, fl_8_8, gX8_told_85, gX8_told_88, gX8_told_89, gX8_told_90, fl_8_9, gX8_told_93, gX8_told_96, gX8_told_97, gX8_told_99, Rd_some, Wr_some, Cont_some, Cont_none, iso_O, true_and, hg_s, hg_n, hput_hput, hc.x, a22]
                exact hq
              · rw [if_neg e6] at hq
                simp (disch := omega) only [gX8_told_0, gX8_told_1O, gX8_told_1_0, gX8_told_1_1, gX8_told_1_2, gX8_told_1_3, gX8_told_1_4, gX8_told_1_5, gX8_told_1_6, gX8_told_44, gX8_told_45, fl_8_5, gX8_told_48, fl_6_1, gX8_told_51, gX8_told_52, gX8_told_53, fl_8_11, gX8_told_56, gX8_told_57, gX8_told_58, fl_8_2, gX8_told_61, fl_4_2, gX8_told_64, gX8_told_65, gX8_told_66, fl_8_6, gX8_told_69, gX8_told_72, gX8_told_73, gX8_told_74, fl_8_7, gX8_told_77, gX8_told_80, gX8_told_81, gX8_told_82, fl_8_8, gX8_told_85, gX8_told_88, gX8_told_89, gX8_told_90, fl_8_9, gX8_told_93, gX8_told_96, gX8_told_97, gX8_told_99, Rd_some, Wr_some, Cont_some, Cont_none, iso_O, true_and, hg_s, hg_n, hput_hput, hc.x]
                exact hq
end OPS

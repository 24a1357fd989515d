/-! m: what is told; powers; roots and costs on both sides -/
section MTOLD
variable {H : HP} {S : SS} {T : TT} {Q : Option Value → HP → Prop} {p q i k n m v w b : Int}

theorem mx_value (hm : MJ H S) (c : -2147483648 ≤ i ∧ i ≤ 2147483647) (hq : MG H Q (o_sh S 0 i (-1))) : Go 146 0 [some (.ref 41), some (vi i)] [] H Q := by
  have hq := hq H hm Fm.rf
  obtain ⟨T, h1, -, hs, -⟩ := hm
  obtain ⟨g, g1, g2⟩ := h1 46 (by decide) (by decide)
  have hn := hs.2.1
  have hx := h1.v.1
  unfold o_sh at hq
  dsimp only at hq
  split at hq
  · rename_i hi
    rw [← g2 i hi.1 hi.2] at hq
    simp (disch := omega) only [gX9_value_0, gX9_value_1T, gX9_value_1F, gX9_value_4, gX9_value_5, gX9_value_6, fl_9_5, gX9_value_9T, gX9_value_9F, gX9_value_12, gX9_value_13, fl_9_7, gX9_value_16, gX9_value_17, aL_g, gX9_value_18, gX9_value_21, gX9_value_24, Rd_some, Wr_some, Cont_some, Cont_none, iso_O, true_and, hg_s, hg_n, hput_hput, hx, g1]
    exact hq
  · rename_i hi
    by_cases h0 : i < 0 <;> simp (disch := omega) only [gX9_value_0, gX9_value_1T, gX9_value_1F, gX9_value_4, gX9_value_5, gX9_value_6, fl_9_5, gX9_value_9T, gX9_value_9F, gX9_value_12, gX9_value_13, fl_9_7, gX9_value_16, gX9_value_17, aL_g, gX9_value_18, gX9_value_21, gX9_value_24, Rd_some, Wr_some, Cont_some, Cont_none, iso_O, true_and, hg_s, hg_n, hput_hput, hx] <;> exact hq
theorem mx_residue (hm : MJ H S) (c : -2147483648 ≤ i ∧ i ≤ 2147483647) (hq : MG H Q (o_sh S 3 i (-1))) : Go 171 0 [some (.ref 41), some (vi i)] [] H Q := by
  have hq := hq H hm Fm.rf
  obtain ⟨T, h1, -, hs, -⟩ := hm
  obtain ⟨g, g1, g2⟩ := h1 49 (by decide) (by decide)
  have hn := hs.2.2.2.1
  have hx := h1.v.1
  unfold o_sh at hq
  dsimp only at hq
  split at hq
  · rename_i hi
    rw [← g2 i hi.1 hi.2] at hq
    simp (disch := omega) only [gX9_residue_0, gX9_residue_1T, gX9_residue_1F, gX9_residue_4, gX9_residue_5, gX9_residue_6, fl_9_11, gX9_residue_9T, gX9_residue_9F, gX9_residue_12, gX9_residue_13, fl_9_12, gX9_residue_16, gX9_residue_17, aL_g, gX9_residue_18, gX9_residue_21, gX9_residue_24, Rd_some, Wr_some, Cont_some, Cont_none, iso_O, true_and, hg_s, hg_n, hput_hput, hx, g1]
    exact hq
  · rename_i hi
    by_cases h0 : i < 0 <;> simp (disch := omega) only [gX9_residue_0, gX9_residue_1T, gX9_residue_1F, gX9_residue_4, gX9_residue_5, gX9_residue_6, fl_9_11, gX9_residue_9T, gX9_residue_9F, gX9_residue_12, gX9_residue_13, fl_9_12, gX9_residue_16, gX9_residue_17, aL_g, gX9_residue_18, gX9_residue_21, gX9_residue_24, Rd_some, Wr_some, Cont_some, Cont_none, iso_O, true_and, hg_s, hg_n, hput_hput, hx] <;> exact hq
theorem mx_rest (hm : MJ H S) (c : -2147483648 ≤ i ∧ i ≤ 2147483647) (hq : MG H Q (o_sh S 4 i (-1))) : Go 172 0 [some (.ref 41), some (vi i)] [] H Q := by
  have hq := hq H hm Fm.rf
  obtain ⟨T, h1, -, hs, -⟩ := hm
  obtain ⟨g, g1, g2⟩ := h1 50 (by decide) (by decide)
  have hn := hs.2.2.2.2.1
  have hx := h1.v.1
  unfold o_sh at hq
  dsimp only at hq
  split at hq
  · rename_i hi
    rw [← g2 i hi.1 hi.2] at hq
    simp (disch := omega) only [gX9_rest_0, gX9_rest_1T, gX9_rest_1F, gX9_rest_4, gX9_rest_5, gX9_rest_6, fl_9_13, gX9_rest_9T, gX9_rest_9F, gX9_rest_12, gX9_rest_13, fl_9_14, gX9_rest_16, gX9_rest_17, aL_g, gX9_rest_18, gX9_rest_21, gX9_rest_24, Rd_some, Wr_some, Cont_some, Cont_none, iso_O, true_and, hg_s, hg_n, hput_hput, hx, g1]
    exact hq
  · rename_i hi
    by_cases h0 : i < 0 <;> simp (disch := omega) only [gX9_rest_0, gX9_rest_1T, gX9_rest_1F, gX9_rest_4, gX9_rest_5, gX9_rest_6, fl_9_13, gX9_rest_9T, gX9_rest_9F, gX9_rest_12, gX9_rest_13, fl_9_14, gX9_rest_16, gX9_rest_17, aL_g, gX9_rest_18, gX9_rest_21, gX9_rest_24, Rd_some, Wr_some, Cont_some, Cont_none, iso_O, true_and, hg_s, hg_n, hput_hput, hx] <;> exact hq
theorem mx_realAt (hm : MJ H S) (c : -2147483648 ≤ i ∧ i ≤ 2147483647) (hq : MG H Q (o_sh S 6 i (9221120237041090560))) : Go 178 0 [some (.ref 41), some (vi i)] [] H Q := by
  have hq := hq H hm Fm.rf
  obtain ⟨T, h1, -, hs, -⟩ := hm
  obtain ⟨g, g1, g2⟩ := h1 52 (by decide) (by decide)
  have hn := hs.2.2.2.2.2.2.1
  have hx := h1.v.1
  unfold o_sh at hq
  dsimp only at hq
  split at hq
  · rename_i hi
    rw [← g2 i hi.1 hi.2] at hq
    simp (disch := omega) only [gX9_realAt_0, gX9_realAt_1T, gX9_realAt_1F, gX9_realAt_4, gX9_realAt_5, gX9_realAt_6, fl_9_17, gX9_realAt_9T, gX9_realAt_9F, gX9_realAt_12, gX9_realAt_13, fl_9_18, gX9_realAt_16, gX9_realAt_17, aL_g, gX9_realAt_18, gX9_realAt_21, gX9_realAt_24, Rd_some, Wr_some, Cont_some, Cont_none, iso_O, true_and, hg_s, hg_n, hput_hput, hx, g1]
    exact hq
  · rename_i hi
    by_cases h0 : i < 0 <;> simp (disch := omega) only [gX9_realAt_0, gX9_realAt_1T, gX9_realAt_1F, gX9_realAt_4, gX9_realAt_5, gX9_realAt_6, fl_9_17, gX9_realAt_9T, gX9_realAt_9F, gX9_realAt_12, gX9_realAt_13, fl_9_18, gX9_realAt_16, gX9_realAt_17, aL_g, gX9_realAt_18, gX9_realAt_21, gX9_realAt_24, Rd_some, Wr_some, Cont_some, Cont_none, iso_O, true_and, hg_s, hg_n, hput_hput, hx] <;> exact hq
theorem mx_low (hm : MJ H S) (c : -2147483648 ≤ i ∧ i ≤ 2147483647) (hq : MG H Q (o_sh S 2 i (0))) : Go 157 0 [some (.ref 41), some (vi i)] [] H Q := by
  have hq := hq H hm Fm.rf
  obtain ⟨T, h1, -, hs, -⟩ := hm
  obtain ⟨g, g1, g2⟩ := h1 48 (by decide) (by decide)
  have hn := hs.2.2.1
  have hx := h1.v.1
  unfold o_sh at hq
  dsimp only at hq
  split at hq
  · rename_i hi
    rw [← g2 i hi.1 hi.2] at hq
    simp (disch := omega) only [gX9_low_0, gX9_low_1T, gX9_low_1F, gX9_low_4, gX9_low_5, gX9_low_6, fl_9_8, gX9_low_9T, gX9_low_9F, gX9_low_12, gX9_low_13, fl_9_10, gX9_low_16, gX9_low_17, aL_g, gX9_low_18, gX9_low_21, gX9_low_22, Rd_some, Wr_some, Cont_some, Cont_none, iso_O, true_and, hg_s, hg_n, hput_hput, hx, g1]
    exact hq
  · rename_i hi
    by_cases h0 : i < 0 <;> simp (disch := omega) only [gX9_low_0, gX9_low_1T, gX9_low_1F, gX9_low_4, gX9_low_5, gX9_low_6, fl_9_8, gX9_low_9T, gX9_low_9F, gX9_low_12, gX9_low_13, fl_9_10, gX9_low_16, gX9_low_17, aL_g, gX9_low_18, gX9_low_21, gX9_low_22, Rd_some, Wr_some, Cont_some, Cont_none, iso_O, true_and, hg_s, hg_n, hput_hput, hx] <;> exact hq
theorem mx_high (hm : MJ H S) (c : -2147483648 ≤ i ∧ i ≤ 2147483647) (hq : MG H Q (o_high S i)) : Go 156 0 [some (.ref 41), some (vi i)] [] H Q := by
  have hq := hq H hm Fm.rf
  obtain ⟨T, h1, -, hs, -⟩ := hm
  obtain ⟨g, g1, g2⟩ := h1 47 (by decide) (by decide)
  have hn := hs.2.2.1
  have hx := h1.v.1
  unfold o_high at hq
  dsimp only at hq
  split at hq
  · rename_i hi
    rw [← g2 i hi.1 hi.2] at hq
    simp (disch := omega) only [gX9_high_0, gX9_high_1T, gX9_high_1F, gX9_high_4, gX9_high_5, gX9_high_6, fl_9_8, gX9_high_9T, gX9_high_9F, gX9_high_12, gX9_high_13, fl_9_9, gX9_high_16, gX9_high_17, aL_g, gX9_high_18, gX9_high_21, gX9_high_22, Rd_some, Wr_some, Cont_some, Cont_none, iso_O, true_and, hg_s, hg_n, hput_hput, hx, g1]
    exact hq
  · rename_i hi
    by_cases h0 : i < 0 <;> simp (disch := omega) only [gX9_high_0, gX9_high_1T, gX9_high_1F, gX9_high_4, gX9_high_5, gX9_high_6, fl_9_8, gX9_high_9T, gX9_high_9F, gX9_high_12, gX9_high_13, fl_9_9, gX9_high_16, gX9_high_17, aL_g, gX9_high_18, gX9_high_21, gX9_high_22, Rd_some, Wr_some, Cont_some, Cont_none, iso_O, true_and, hg_s, hg_n, hput_hput, hx] <;> exact hq
theorem mx_matchAt (hm : MJ H S) (c : -2147483648 ≤ i ∧ i ≤ 2147483647) (hq : MG H Q (o_matchAt S i)) : Go 174 0 [some (.ref 41), some (vi i)] [] H Q := by
  have hq := hq H hm Fm.rf
  obtain ⟨T, h1, -, hs, -⟩ := hm
  obtain ⟨g, g1, g2⟩ := h1 51 (by decide) (by decide)
  have hn := hs.2.2.2.2.2.1
  have hx := h1.v.1
  unfold o_matchAt at hq
  dsimp only at hq
  split at hq
  · rename_i hi
    rw [← g2 i hi.1 hi.2] at hq
    simp (disch := omega) only [gX9_matchAt_0, gX9_matchAt_1T, gX9_matchAt_1F, gX9_matchAt_4, gX9_matchAt_5, gX9_matchAt_6, fl_9_15, gX9_matchAt_9T, gX9_matchAt_9F, gX9_matchAt_12, gX9_matchAt_13, fl_9_16, gX9_matchAt_16, gX9_matchAt_17, aJ_g, gX9_matchAt_18, gX9_matchAt_21, gX9_matchAt_23, Rd_some, Wr_some, Cont_some, Cont_none, iso_O, true_and, hg_s, hg_n, hput_hput, hx, g1]
    exact hq
  · rename_i hi
    by_cases h0 : i < 0 <;> simp (disch := omega) only [gX9_matchAt_0, gX9_matchAt_1T, gX9_matchAt_1F, gX9_matchAt_4, gX9_matchAt_5, gX9_matchAt_6, fl_9_15, gX9_matchAt_9T, gX9_matchAt_9F, gX9_matchAt_12, gX9_matchAt_13, fl_9_16, gX9_matchAt_16, gX9_matchAt_17, aJ_g, gX9_matchAt_18, gX9_matchAt_21, gX9_matchAt_23, Rd_some, Wr_some, Cont_some, Cont_none, iso_O, true_and, hg_s, hg_n, hput_hput, hx] <;> exact hq
theorem mx_fault (hm : MJ H S) (hq : MG H Q (vi S.2.1.1, S)) : Go 179 0 [some (.ref 41)] [] H Q := by
  have hq := hq H hm Fm.rf
  obtain ⟨T, h1, -, hs, -⟩ := hm
  simp (disch := omega) only [gX9_fault_0, gX9_fault_1, fl_9_0, gX9_fault_4, Rd_some, Wr_some, Cont_some, Cont_none, iso_O, true_and, hg_s, hg_n, hput_hput, h1.v.1]
  exact hq
theorem mx_told (hm : MJ H S) (c : -2147483648 ≤ i ∧ i ≤ 2147483647) (hq : MG H Q (o_told S i)) : Go 180 0 [some (.ref 41), some (vi i)] [] H Q := by
  have hq := hq H hm Fm.rf
  obtain ⟨T, h1, -, hs, -⟩ := hm
  have hx := h1.v.1
  unfold o_told at hq
  dsimp only at hq
  by_cases e0 : i = 0
  · rw [if_pos e0] at hq; simp (disch := omega) only [gX9_told_0, gX9_told_1O, gX9_told_1_0, gX9_told_1_1, gX9_told_1_2, gX9_told_1_3, gX9_told_1_4, gX9_told_1_5, gX9_told_1_6, gX9_told_44, gX9_told_45, fl_9_5, gX9_told_48, gX9_told_49, gX9_told_50, fl_9_6, gX9_told_53, gX9_told_54, gX9_told_55, fl_9_8, gX9_told_58, gX9_told_59, gX9_told_60, fl_9_11, gX9_told_63, gX9_told_64, gX9_told_65, fl_9_13, gX9_told_68, gX9_told_69, gX9_told_70, fl_9_15, gX9_told_73, gX9_told_74, gX9_told_75, fl_9_17, gX9_told_78, gX9_told_79, gX9_told_81, Rd_some, Wr_some, Cont_some, Cont_none, iso_O, true_and, hg_s, hg_n, hput_hput, hx]; exact hq
  · rw [if_neg e0] at hq
    by_cases e1 : i = 1
    · rw [if_pos e1] at hq; simp (disch := omega) only [gX9_told_0, gX9_told_1O, gX9_told_1_0, gX9_told_1_1, gX9_told_1_2, gX9_told_1_3, gX9_told_1_4, gX9_told_1_5, gX9_told_1_6, gX9_told_44, gX9_told_45, fl_9_5, gX9_told_48, gX9_told_49, gX9_told_50, fl_9_6, gX9_told_53, gX9_told_54, gX9_told_55, fl_9_8, gX9_told_58, gX9_told_59, gX9_told_60, fl_9_11, gX9_told_63, gX9_told_64, gX9_told_65, fl_9_13, gX9_told_68, gX9_told_69, gX9_told_70, fl_9_15, gX9_told_73, gX9_told_74, gX9_told_75, fl_9_17, gX9_told_78, gX9_told_79, gX9_told_81, Rd_some, Wr_some, Cont_some, Cont_none, iso_O, true_and, hg_s, hg_n, hput_hput, hx]; exact hq
    · rw [if_neg e1] at hq
      by_cases e2 : i = 2
      · rw [if_pos e2] at hq; simp (disch := omega) only [gX9_told_0, gX9_told_1O, gX9_told_1_0, gX9_told_1_1, gX9_told_1_2, gX9_told_1_3, gX9_told_1_4, gX9_told_1_5, gX9_told_1_6, gX9_told_44, gX9_told_45, fl_9_5, gX9_told_48, gX9_told_49, gX9_told_50, fl_9_6, gX9_told_53, gX9_told_54, gX9_told_55, fl_9_8, gX9_told_58, gX9_told_59, gX9_told_60, fl_9_11, gX9_told_63, gX9_told_64, gX9_told_65, fl_9_13, gX9_told_68, gX9_told_69, gX9_told_70, fl_9_15, gX9_told_73, gX9_told_74, gX9_told_75, fl_9_17, gX9_told_78, gX9_told_79, gX9_told_81, Rd_some, Wr_some, Cont_some, Cont_none, iso_O, true_and, hg_s, hg_n, hput_hput, hx]; exact hq
      · rw [if_neg e2] at hq
        by_cases e3 : i = 3
        · rw [if_pos e3] at hq; simp (disch := omega) only [gX9_told_0, gX9_told_1O, gX9_told_1_0, gX9_told_1_1, gX9_told_1_2, gX9_told_1_3, gX9_told_1_4, gX9_told_1_5, gX9_told_1_6, gX9_told_44, gX9_told_45, fl_9_5, gX9_told_48, gX9_told_49, gX9_told_50, fl_9_6, gX9_told_53, gX9_told_54, gX9_told_55, fl_9_8, gX9_told_58, gX9_told_59, gX9_told_60, fl_9_11, gX9_told_63, gX9_told_64, gX9_told_65, fl_9_13, gX9_told_68, gX9_told_69, gX9_told_70, fl_9_15, gX9_told_73, gX9_told_74, gX9_told_75, fl_9_17, gX9_told_78, gX9_told_79, gX9_told_81, Rd_some, Wr_some, Cont_some, Cont_none, iso_O, true_and, hg_s, hg_n, hput_hput, hx]; exact hq
        · rw [if_neg e3] at hq
          by_cases e4 : i = 4
          · rw [if_pos e4] at hq; simp (disch := omega) only [gX9_told_0, gX9_told_1O, gX9_told_1_0, gX9_told_1_1, gX9_told_1_2, gX9_told_1_3, gX9_told_1_4, gX9_told_1_5, gX9_told_1_6, gX9_told_44, gX9_told_45, fl_9_5, gX9_told_48, gX9_told_49, gX9_told_50, fl_9_6, gX9_told_53, gX9_told_54, gX9_told_55, fl_9_8, gX9_told_58, gX9_told_59, gX9_told_60, fl_9_11, gX9_told_63, gX9_told_64, gX9_told_65, fl_9_13, gX9_told_68, gX9_told_69, gX9_told_70, fl_9_15, gX9_told_73, gX9_told_74, gX9_told_75, fl_9_17, gX9_told_78, gX9_told_79, gX9_told_81, Rd_some, Wr_some, Cont_some, Cont_none, iso_O, true_and, hg_s, hg_n, hput_hput, hx]; exact hq
          · rw [if_neg e4] at hq
            by_cases e5 : i = 5
            · rw [if_pos e5] at hq; simp (disch := omega) only [gX9_told_0, gX9_told_1O, gX9_told_1_0, gX9_told_1_1, gX9_told_1_2, gX9_told_1_3, gX9_told_1_4, gX9_told_1_5, gX9_told_1_6, gX9_told_44, gX9_told_45, fl_9_5, gX9_told_48, gX9_told_49, gX9_told_50, fl_9_6, gX9_told_53, gX9_told_54, gX9_told_55, fl_9_8, gX9_told_58, gX9_told_59, gX9_told_60, fl_9_11, gX9_told_63, gX9_told_64, gX9_told_65, fl_9_13, gX9_told_68, gX9_told_69, gX9_told_70, fl_9_15, gX9_told_73, gX9_told_74, gX9_told_75, fl_9_17, gX9_told_78, gX9_told_79, gX9_told_81, Rd_some, Wr_some, Cont_some, Cont_none, iso_O, true_and, hg_s, hg_n, hput_hput, hx]; exact hq
            · rw [if_neg e5] at hq
              by_cases e6 : i = 6
              · rw [if_pos e6] at hq; simp (disch := omega) only [gX9_told_0, gX9_told_1O, gX9_told_1_0, gX9_told_1_1, gX9_told_1_2, gX9_told_1_3, gX9_told_1_4, gX9_told_1_5, gX9_told_1_6, gX9_told_44, gX9_told_45, fl_9_5, gX9_told_48, gX9_told_49, gX9_told_50, fl_9_6, gX9_told_53, gX9_told_54, gX9_told_55, fl_9_8, gX9_told_58, gX9_told_59, gX9_told_60, fl_9_11, gX9_told_63, gX9_told_64, gX9_told_65, fl_9_13, gX9_told_68, gX9_told_69, gX9_told_70, fl_9_15, gX9_told_73, gX9_told_74, gX9_told_75, fl_9_17, gX9_told_78, gX9_told_79, gX9_told_81, Rd_some, Wr_some, Cont_some, Cont_none, iso_O, true_and, hg_s, hg_n, hput_hput, hx]; exact hq
              · rw [if_neg e6] at hq; simp (disch := omega) only [gX9_told_0, gX9_told_1O, gX9_told_1_0, gX9_told_1_1, gX9_told_1_2, gX9_told_1_3, gX9_told_1_4, gX9_told_1_5, gX9_told_1_6, gX9_told_44, gX9_told_45, fl_9_5, gX9_told_48, gX9_told_49, gX9_told_50, fl_9_6, gX9_told_53, gX9_told_54, gX9_told_55, fl_9_8, gX9_told_58, gX9_told_59, gX9_told_60, fl_9_11, gX9_told_63, gX9_told_64, gX9_told_65, fl_9_13, gX9_told_68, gX9_told_69, gX9_told_70, fl_9_15, gX9_told_73, gX9_told_74, gX9_told_75, fl_9_17, gX9_told_78, gX9_told_79, gX9_told_81, Rd_some, Wr_some, Cont_some, Cont_none, iso_O, true_and, hg_s, hg_n, hput_hput, hx]; exact hq
/- powers over q -/
theorem lp_pow {P : Int} (hP : 1 < P ∧ P < 1073741824) : ∀ (f : Nat) (e r s : Int) (l0 l1 l2 l3 : Option Value), 0 ≤ e → e < (2 : Int) ^ f → e ≤ 4611686018427387904 → 0 ≤ r ∧ r < P → 0 ≤ s ∧ s < P → (Go 138 12 [l0, l1, l2, l3, some (vl P), none, some (vl r), none, some (vl s), none, some (vl e), none] [] H Q ↔ Q (some (vl (r * s ^ e.toNat % P))) H) := by
  intro f
  induction f with
  | zero =>
    intro e r s l0 l1 l2 l3 he he2 he3 hr hs
    have e0 : e = 0 := by
      have : (2 : Int) ^ 0 = 1 := rfl
      omega
    subst e0
    simp (disch := omega) only [gX9_powerOf_12, gX9_powerOf_14, gX9_powerOf_15T, gX9_powerOf_15F, gX9_powerOf_16T, gX9_powerOf_16F, gX9_powerOf_61, gX9_powerOf_63, Rd_some, Wr_some, Cont_some, Cont_none, iso_O, true_and, hg_s, hg_n, hput_hput]
    rw [show r * s ^ (0 : Int).toNat = r by simp, Int.emod_eq_of_lt hr.1 hr.2]
  | succ f ih =>
    intro e r s l0 l1 l2 l3 he he2 he3 hr hs
    by_cases e0 : e = 0
    · subst e0
      simp (disch := omega) only [gX9_powerOf_12, gX9_powerOf_14, gX9_powerOf_15T, gX9_powerOf_15F, gX9_powerOf_16T, gX9_powerOf_16F, gX9_powerOf_61, gX9_powerOf_63, Rd_some, Wr_some, Cont_some, Cont_none, iso_O, true_and, hg_s, hg_n, hput_hput]
      rw [show r * s ^ (0 : Int).toNat = r by simp, Int.emod_eq_of_lt hr.1 hr.2]
    · have b1 := mb (x := r) (y := s) (by omega)
      have b2 := mb (x := s) (y := s) (by omega)
      have h1 := em (P := P) (by omega) (r * s)
      have h2 := em (P := P) (by omega) (s * s)
      have t1 : (r * s).tmod P = r * s % P := Int.tmod_eq_emod_of_nonneg b1.1
      have t2 : (s * s).tmod P = s * s % P := Int.tmod_eq_emod_of_nonneg b2.1
      have t3 : e.tmod 2 = e % 2 := Int.tmod_eq_emod_of_nonneg he
      have t4 : e.tdiv 2 = e / 2 := Int.tdiv_eq_ediv_of_nonneg he
      have he4 : e / 2 < (2 : Int) ^ f := by
        rw [Int.pow_succ] at he2
        omega
      by_cases ho : e % 2 = 0
      · rw [gX9_powerOf_12]
        simp (disch := omega) only [gX9_powerOf_14, gX9_powerOf_15T, gX9_powerOf_15F, gX9_powerOf_16T, gX9_powerOf_16F, gX9_powerOf_19, gX9_powerOf_21, gX9_powerOf_24, gX9_powerOf_25, gX9_powerOf_26T, gX9_powerOf_26F, gX9_powerOf_27T, gX9_powerOf_27F, gX9_powerOf_30, gX9_powerOf_32, gX9_powerOf_34, gX9_powerOf_35, gX9_powerOf_37, gX9_powerOf_38, gX9_powerOf_40, gX9_powerOf_42, gX9_powerOf_44, gX9_powerOf_45, gX9_powerOf_47, gX9_powerOf_48, gX9_powerOf_50, gX9_powerOf_52, gX9_powerOf_55, gX9_powerOf_56, gX9_powerOf_58, Rd_some, Wr_some, Cont_some, Cont_none, iso_O, true_and, hg_s, hg_n, hput_hput, t1, t2, t3, t4]
        rw [ih (e / 2) r _ _ _ _ _ (by omega) he4 (by omega) hr h2]
        have e5 : e.toNat = 2 * (e / 2).toNat := by omega
        rw [e5, sq_pow, Int.mul_emod, pw_emod, ← Int.mul_emod]
      · rw [gX9_powerOf_12]
        simp (disch := omega) only [gX9_powerOf_14, gX9_powerOf_15T, gX9_powerOf_15F, gX9_powerOf_16T, gX9_powerOf_16F, gX9_powerOf_19, gX9_powerOf_21, gX9_powerOf_24, gX9_powerOf_25, gX9_powerOf_26T, gX9_powerOf_26F, gX9_powerOf_27T, gX9_powerOf_27F, gX9_powerOf_30, gX9_powerOf_32, gX9_powerOf_34, gX9_powerOf_35, gX9_powerOf_37, gX9_powerOf_38, gX9_powerOf_40, gX9_powerOf_42, gX9_powerOf_44, gX9_powerOf_45, gX9_powerOf_47, gX9_powerOf_48, gX9_powerOf_50, gX9_powerOf_52, gX9_powerOf_55, gX9_powerOf_56, gX9_powerOf_58, Rd_some, Wr_some, Cont_some, Cont_none, iso_O, true_and, hg_s, hg_n, hput_hput, t1, t2, t3, t4]
        rw [ih (e / 2) _ _ _ _ _ _ (by omega) he4 (by omega) h1 h2]
        have e5 : e.toNat = 2 * (e / 2).toNat + 1 := by omega
        rw [e5, Int.pow_succ, sq_pow, Int.mul_emod, pw_emod, Int.emod_emod, ← Int.mul_emod, Int.mul_assoc, Int.mul_comm s]
theorem sp_pow {P : Int} (hP : 1 < P ∧ P < 1073741824) (c : (0 ≤ v ∧ v ≤ 9223372036854775807) ∧ 0 ≤ k ∧ k < 1073741824) : Go 138 0 [some (vl v), none, some (vl k), none, some (vl P), none, none, none, none, none, none, none] [] H Q ↔ Q (some (vl (v ^ k.toNat % P))) H := by
  have t1 : v.tmod P = v % P := Int.tmod_eq_emod_of_nonneg c.1.1
  have h1 := em (P := P) (by omega) v
  simp (disch := omega) only [gX9_powerOf_0, gX9_powerOf_1, gX9_powerOf_3, gX9_powerOf_4, gX9_powerOf_6, gX9_powerOf_7, gX9_powerOf_9, gX9_powerOf_10, Rd_some, Wr_some, Cont_some, Cont_none, iso_O, true_and, hg_s, hg_n, hput_hput, t1]
  rw [lp_pow hP 30 k 1 (v % P) _ _ _ _ (by omega) (by show k < 1073741824; omega) (by omega) (by omega) h1, Int.one_mul, pw_emod]
theorem sp_inv {P : Int} (hP : 1 < P ∧ P < 1073741824) (c : 0 ≤ v ∧ v ≤ 9223372036854775807) : Go 139 0 [some (vl v), none, some (vl P), none] [] H Q ↔ Q (some (vl (v ^ (P - 2).toNat % P))) H := by
  simp (disch := omega) only [gX9_inverseOf_0, gX9_inverseOf_1, gX9_inverseOf_2, gX9_inverseOf_5, gX9_inverseOf_6, gX9_inverseOf_7, gX9_inverseOf_10, Rd_some, Wr_some, Cont_some, Cont_none, iso_O, true_and, hg_s, hg_n, hput_hput, sp_pow hP]
theorem sp_res {P : Int} (hP : 1 < P ∧ P < 1073741824) (c : -9223372036854775808 ≤ v ∧ v ≤ 9223372036854775807) : Go 137 0 [some (vl v), none, some (vl P), none, none, none] [] H Q ↔ Q (some (vl (v % P))) H := by
  obtain ⟨h3, h4⟩ := fm_val (x := v) (m := P) (by omega)
  have h5 := em (P := P) (by omega) v
  by_cases hx : 0 ≤ v
  · have e1 := h3 hx
    simp (disch := omega) only [gX9_residueOf_0, gX9_residueOf_1, gX9_residueOf_2, gX9_residueOf_3, gX9_residueOf_5, gX9_residueOf_7, gX9_residueOf_8T, gX9_residueOf_8F, gX9_residueOf_9T, gX9_residueOf_9F, gX9_residueOf_12, gX9_residueOf_14, gX9_residueOf_15, gX9_residueOf_16, gX9_residueOf_19, gX9_residueOf_21, Rd_some, Wr_some, Cont_some, Cont_none, iso_O, true_and, hg_s, hg_n, hput_hput, e1]
  · rcases h4 (by omega) with ⟨e1, e2⟩ | ⟨e1, e2⟩
    · simp (disch := omega) only [gX9_residueOf_0, gX9_residueOf_1, gX9_residueOf_2, gX9_residueOf_3, gX9_residueOf_5, gX9_residueOf_7, gX9_residueOf_8T, gX9_residueOf_8F, gX9_residueOf_9T, gX9_residueOf_9F, gX9_residueOf_12, gX9_residueOf_14, gX9_residueOf_15, gX9_residueOf_16, gX9_residueOf_19, gX9_residueOf_21, Rd_some, Wr_some, Cont_some, Cont_none, iso_O, true_and, hg_s, hg_n, hput_hput, e1, e2]
    · simp (disch := omega) only [gX9_residueOf_0, gX9_residueOf_1, gX9_residueOf_2, gX9_residueOf_3, gX9_residueOf_5, gX9_residueOf_7, gX9_residueOf_8T, gX9_residueOf_8F, gX9_residueOf_9T, gX9_residueOf_9F, gX9_residueOf_12, gX9_residueOf_14, gX9_residueOf_15, gX9_residueOf_16, gX9_residueOf_19, gX9_residueOf_21, Rd_some, Wr_some, Cont_some, Cont_none, iso_O, true_and, hg_s, hg_n, hput_hput, e2]
theorem PV_r (k : Int) : 1 < PV k ∧ PV k < 1073741824 := by
  unfold PV
  split
  · decide
  · split <;> decide
theorem PV_3 (k : Int) : PV k = 998244353 ∨ PV k = 1004535809 ∨ PV k = 469762049 := by
  unfold PV
  split
  · exact Or.inl rfl
  · split
    · exact Or.inr (Or.inl rfl)
    · exact Or.inr (Or.inr rfl)
theorem sp_mhasT (c : (0 ≤ k ∧ k ≤ 2) ∧ (0 < n ∧ n ≤ 2147483647) ∧ (PV k - 1) % n = 0) : Go 141 0 [some (vi k), some (vi n)] [] H Q ↔ Q (some (vi 1)) H := by
  have hP := PV_r k
  have t1 : (PV k - 1).tmod n = (PV k - 1) % n := Int.tmod_eq_emod_of_nonneg (by omega)
  simp (disch := omega) only [gX9_hasRoot_0, gX9_hasRoot_1, gX9_hasRoot_4, gX9_hasRoot_5, gX9_hasRoot_6, gX9_hasRoot_7, gX9_hasRoot_8, gX9_hasRoot_9, gX9_hasRoot_10T, gX9_hasRoot_10F, gX9_hasRoot_11T, gX9_hasRoot_11F, gX9_hasRoot_14, gX9_hasRoot_15, gX9_hasRoot_18, gX9_hasRoot_19, Rd_some, Wr_some, Cont_some, Cont_none, iso_O, true_and, hg_s, hg_n, hput_hput, sp_prime c.1, t1]
theorem sp_mhasF (c : (0 ≤ k ∧ k ≤ 2) ∧ (0 < n ∧ n ≤ 2147483647) ∧ ¬ (PV k - 1) % n = 0) : Go 141 0 [some (vi k), some (vi n)] [] H Q ↔ Q (some (vi 0)) H := by
  have hP := PV_r k
  have t1 : (PV k - 1).tmod n = (PV k - 1) % n := Int.tmod_eq_emod_of_nonneg (by omega)
  have h1 := em c.2.1.1 (PV k - 1)
  simp (disch := omega) only [gX9_hasRoot_0, gX9_hasRoot_1, gX9_hasRoot_4, gX9_hasRoot_5, gX9_hasRoot_6, gX9_hasRoot_7, gX9_hasRoot_8, gX9_hasRoot_9, gX9_hasRoot_10T, gX9_hasRoot_10F, gX9_hasRoot_11T, gX9_hasRoot_11F, gX9_hasRoot_14, gX9_hasRoot_15, gX9_hasRoot_18, gX9_hasRoot_19, Rd_some, Wr_some, Cont_some, Cont_none, iso_O, true_and, hg_s, hg_n, hput_hput, sp_prime c.1, t1]
theorem sp_mroot (c : (0 ≤ k ∧ k ≤ 2) ∧ (0 < n ∧ n ≤ 2147483647)) : Go 140 0 [some (vi k), some (vi n)] [] H Q ↔ Q (some (vl (3 ^ ((PV k - 1) / n).toNat % PV k))) H := by
  have hP := PV_r k
  have h1 : (PV k - 1).tdiv n = (PV k - 1) / n := Int.tdiv_eq_ediv_of_nonneg (by omega)
  have h2 : 0 ≤ (PV k - 1) / n := Int.ediv_nonneg (by omega) (by omega)
  have h3 : (PV k - 1) / n ≤ PV k - 1 := Int.ediv_le_self _ (by omega)
  simp (disch := omega) only [gX9_rootOf_0, gX9_rootOf_3, gX9_rootOf_4, gX9_rootOf_7, gX9_rootOf_8, gX9_rootOf_9, gX9_rootOf_10, gX9_rootOf_11, gX9_rootOf_12, gX9_rootOf_13, gX9_rootOf_16, gX9_rootOf_19, Rd_some, Wr_some, Cont_some, Cont_none, iso_O, true_and, hg_s, hg_n, hput_hput, sp_prime c.1, h1, sp_pow hP]
def o_root (S : SS) (k n : Int) : Value × SS := if (0 ≤ k ∧ k ≤ 2) ∧ 1 ≤ n ∧ n ≤ 64 then (if (PV k - 1) % n = 0 then (vl (3 ^ ((PV k - 1) / n).toNat % PV k), wFt S 0) else fol S 5) else (vl 0, wFt S 0)
theorem mx_root (hm : MJ H S) (c : (-2147483648 ≤ k ∧ k ≤ 2147483647) ∧ (-2147483648 ≤ n ∧ n ≤ 2147483647)) (hq : MG H Q (o_root S k n)) : Go 142 0 [some (.ref 41), some (vi k), some (vi n)] [] H Q := by
  obtain ⟨T, h1, h2, h3, h4⟩ := hm
  have hx := h1.v.1
  unfold o_root MG at hq
  by_cases c1 : 0 ≤ k ∧ k ≤ 2
  · by_cases c2 : 1 ≤ n ∧ n ≤ 64
    · rw [if_pos ⟨c1, c2⟩] at hq
      by_cases c3 : (PV k - 1) % n = 0
      · rw [if_pos c3] at hq
        simp (disch := omega) only [gX9_root_0, gX9_root_1, gX9_root_2, pf_9_0, gX9_root_5, gX9_root_6, gX9_root_9T, gX9_root_9F, gX9_root_12, gX9_root_13, gX9_root_14, gX9_root_16, gX9_root_19T, gX9_root_19F, gX9_root_22, gX9_root_23, gX9_root_24, gX9_root_25, gX9_root_26, gX9_root_29T, gX9_root_29F, gX9_root_32, gX9_root_33, gX9_root_34, gX9_root_37, gX9_root_38, gX9_root_39, gX9_root_40, gX9_root_41, gX9_root_42, gX9_root_45, Rd_some, Wr_some, Cont_some, Cont_none, iso_O, true_and, hg_s, hg_n, hput_hput, hx, sp_mprT, sp_wiT, sp_mhasT, sp_mroot]
        exact hq _ (MJ.ft h1 h2 h3 h4 0) (Fm.rf.put (by omega))
      · rw [if_neg c3] at hq
        simp (disch := first | omega | rfl) only [gX9_root_0, gX9_root_1, gX9_root_2, pf_9_0, gX9_root_5, gX9_root_6, gX9_root_9T, gX9_root_9F, gX9_root_12, gX9_root_13, gX9_root_14, gX9_root_16, gX9_root_19T, gX9_root_19F, gX9_root_22, gX9_root_23, gX9_root_24, gX9_root_25, gX9_root_26, gX9_root_29T, gX9_root_29F, gX9_root_32, gX9_root_33, gX9_root_34, gX9_root_37, gX9_root_38, gX9_root_39, gX9_root_40, gX9_root_41, gX9_root_42, gX9_root_45, Rd_some, Wr_some, Cont_some, Cont_none, iso_O, true_and, hg_s, hg_n, hput_hput, gX9_fails_0, gX9_fails_1, gX9_fails_2, pf_9_0, gX9_fails_5, gX9_fails_7, gX9_fails_8, gX9_fails_9, Rd_some, Wr_some, Cont_some, Cont_none, iso_O, true_and, hg_s, hg_n, hput_hput, hx, sp_mprT, sp_wiT, sp_mhasF]
        exact hq _ (MJ.ft h1 h2 h3 h4 5) (Fm.rf.put (by omega))
    · rw [if_neg (fun t => c2 t.2)] at hq
      simp (disch := omega) only [gX9_root_0, gX9_root_1, gX9_root_2, pf_9_0, gX9_root_5, gX9_root_6, gX9_root_9T, gX9_root_9F, gX9_root_12, gX9_root_13, gX9_root_14, gX9_root_16, gX9_root_19T, gX9_root_19F, gX9_root_22, gX9_root_23, gX9_root_24, gX9_root_25, gX9_root_26, gX9_root_29T, gX9_root_29F, gX9_root_32, gX9_root_33, gX9_root_34, gX9_root_37, gX9_root_38, gX9_root_39, gX9_root_40, gX9_root_41, gX9_root_42, gX9_root_45, Rd_some, Wr_some, Cont_some, Cont_none, iso_O, true_and, hg_s, hg_n, hput_hput, hx, sp_mprT, sp_wiF]
      exact hq _ (MJ.ft h1 h2 h3 h4 0) (Fm.rf.put (by omega))
  · rw [if_neg (fun t => c1 t.1)] at hq
    simp (disch := omega) only [gX9_root_0, gX9_root_1, gX9_root_2, pf_9_0, gX9_root_5, gX9_root_6, gX9_root_9T, gX9_root_9F, gX9_root_12, gX9_root_13, gX9_root_14, gX9_root_16, gX9_root_19T, gX9_root_19F, gX9_root_22, gX9_root_23, gX9_root_24, gX9_root_25, gX9_root_26, gX9_root_29T, gX9_root_29F, gX9_root_32, gX9_root_33, gX9_root_34, gX9_root_37, gX9_root_38, gX9_root_39, gX9_root_40, gX9_root_41, gX9_root_42, gX9_root_45, Rd_some, Wr_some, Cont_some, Cont_none, iso_O, true_and, hg_s, hg_n, hput_hput, hx, sp_mprF]
    exact hq _ (MJ.ft h1 h2 h3 h4 0) (Fm.rf.put (by omega))
theorem CI.pv (h : CI H S) (c : 0 ≤ k ∧ k ≤ 2) : hget H (25 + k.toNat) = cO 3 [vl (PV k)] := by
  have h3 : k = 0 ∨ k = 1 ∨ k = 2 := by omega
  rcases h3 with rfl | rfl | rfl
  · exact h.c 25 (by decide)
  · exact h.c 26 (by decide)
  · exact h.c 27 (by decide)
theorem cx_root (hc : CI H S) (c : (-2147483648 ≤ k ∧ k ≤ 2147483647) ∧ (-2147483648 ≤ n ∧ n ≤ 2147483647)) (hq : CG H Q (o_root S k n)) : Go 78 0 [some (.ref 1), some (vi k), some (vi n)] [] H Q := by
  have hx := hc.x
  unfold o_root CG at hq
  by_cases c1 : 0 ≤ k ∧ k ≤ 2
  · by_cases c2 : 1 ≤ n ∧ n ≤ 64
    · rw [if_pos ⟨c1, c2⟩] at hq
      have hc1 := hc.ft 0
      have hP := PV_r k
      have f1 : FX H (hput H 1 (cX (wFt S 0))) := FX.put (by decide)
      simp (disch := omega) only [gX8_root_0, gX8_root_1, gX8_root_2, pf_8_12, gX8_root_5, gX8_root_6, gX8_root_9T, gX8_root_9F, gX8_root_12, gX8_root_13, gX8_root_16T, gX8_root_16F, gX8_root_19, gX8_root_20, Rd_some, Wr_some, Cont_some, Cont_none, iso_O, true_and, hg_s, hg_n, hput_hput, hx, sp_prT, sp_cnT]
      change Go _ _ _ _ (hput H 1 (cX (wFt S 0))) _
      have hp := hc1.pv c1
      by_cases c3 : (PV k - 1) % n = 0
      · rw [if_pos c3] at hq
        simp (disch := omega) only [gX8_root_21, gX8_root_22, fl_8_1, gX8_root_25, gX8_root_26, aR_g, gX8_root_27, gX8_root_28, gX8_root_31T, gX8_root_31F, gX8_root_34, gX8_root_35, gX8_root_36, gX8_root_39, gX8_root_40, gX8_root_41, gX8_root_44, gX8_root_45, gX8_root_46, gX8_root_47, gX8_root_50, Rd_some, Wr_some, Cont_some, Cont_none, iso_O, true_and, hg_s, hg_n, hput_hput, hc1.x, hc1.pm, aR_g, va_rf_s, pmf_v, hp, sp_hasRoot hp hP, if_pos (show 0 < n ∧ (PV k - 1) % n = 0 from ⟨by omega, c3⟩), sp_rootFor hp hP]
        exact hq _ hc1 f1
      · rw [if_neg c3] at hq
        simp (disch := omega) only [gX8_root_21, gX8_root_22, fl_8_1, gX8_root_25, gX8_root_26, aR_g, gX8_root_27, gX8_root_28, gX8_root_31T, gX8_root_31F, gX8_root_34, gX8_root_35, gX8_root_36, gX8_root_39, gX8_root_40, gX8_root_41, gX8_root_44, gX8_root_45, gX8_root_46, gX8_root_47, gX8_root_50, Rd_some, Wr_some, Cont_some, Cont_none, iso_O, true_and, hg_s, hg_n, hput_hput, gX8_faultedLong_0, gX8_faultedLong_1, gX8_faultedLong_2, pf_8_12, gX8_faultedLong_5, gX8_faultedLong_6, Rd_some, Wr_some, Cont_some, Cont_none, iso_O, true_and, hg_s, hg_n, hput_hput, hc1.x, hc1.pm, aR_g, va_rf_s, pmf_v, hp, sp_hasRoot hp hP, if_neg (show ¬ (0 < n ∧ (PV k - 1) % n = 0) from fun t => c3 t.2)]
        exact hq _ (hc.ft 5) (FX.put (by decide))
    · rw [if_neg (fun t => c2 t.2)] at hq
      simp (disch := omega) only [gX8_root_0, gX8_root_1, gX8_root_2, pf_8_12, gX8_root_5, gX8_root_6, gX8_root_9T, gX8_root_9F, gX8_root_12, gX8_root_13, gX8_root_16T, gX8_root_16F, gX8_root_19, gX8_root_20, gX8_root_21, gX8_root_22, fl_8_1, gX8_root_25, gX8_root_26, aR_g, gX8_root_27, gX8_root_28, gX8_root_31T, gX8_root_31F, gX8_root_34, gX8_root_35, gX8_root_36, gX8_root_39, gX8_root_40, gX8_root_41, gX8_root_44, gX8_root_45, gX8_root_46, gX8_root_47, gX8_root_50, Rd_some, Wr_some, Cont_some, Cont_none, iso_O, true_and, hg_s, hg_n, hput_hput, hx, sp_prT, sp_cnF]
      exact hq _ (hc.ft 0) (FX.put (by decide))
  · rw [if_neg (fun t => c1 t.1)] at hq
    simp (disch := omega) only [gX8_root_0, gX8_root_1, gX8_root_2, pf_8_12, gX8_root_5, gX8_root_6, gX8_root_9T, gX8_root_9F, gX8_root_12, gX8_root_13, gX8_root_16T, gX8_root_16F, gX8_root_19, gX8_root_20, gX8_root_21, gX8_root_22, fl_8_1, gX8_root_25, gX8_root_26, aR_g, gX8_root_27, gX8_root_28, gX8_root_31T, gX8_root_31F, gX8_root_34, gX8_root_35, gX8_root_36, gX8_root_39, gX8_root_40, gX8_root_41, gX8_root_44, gX8_root_45, gX8_root_46, gX8_root_47, gX8_root_50, Rd_some, Wr_some, Cont_some, Cont_none, iso_O, true_and, hg_s, hg_n, hput_hput, hx, sp_prF]
    exact hq _ (hc.ft 0) (FX.put (by decide))
/- costs -/
def kone (n m : Int) : Int := (3 * ((2 ^ lg (n + m - 1) : Nat) : Int) * (lg (n + m - 1) : Nat)).tdiv 2 + 2 * ((2 ^ lg (n + m - 1) : Nat) : Int)
def kost (w n m : Int) : Int := if w = 0 then n * m else if w = 1 then kone n m else 3 * kone n m + 6 * (n + m - 1)
theorem lg_b (c : (1 ≤ n ∧ n ≤ 64) ∧ 1 ≤ m ∧ m ≤ 64) : (0 < 2 ^ lg (n + m - 1) ∧ 2 ^ lg (n + m - 1) ≤ 128) ∧ lg (n + m - 1) < 8 ∧ (0 ≤ 3 * ((2 ^ lg (n + m - 1) : Nat) : Int) * (lg (n + m - 1) : Nat) ∧ 3 * ((2 ^ lg (n + m - 1) : Nat) : Int) * (lg (n + m - 1) : Nat) ≤ 3000) := by
  obtain ⟨k1, k2⟩ := lg_ok (n + m - 1).toNat (by omega)
  rw [show (((n + m - 1).toNat : Nat) : Int) = n + m - 1 by omega] at k1 k2
  generalize lg (n + m - 1) = e at k1 k2
  have h2e : 2 ^ e ≤ 128 := Nat.pow_le_pow_right (n := 2) (by decide) (show e ≤ 7 by omega)
  have h2e0 : 0 < 2 ^ e := Nat.pow_pos (by decide)
  refine ⟨⟨h2e0, h2e⟩, k2, Int.mul_nonneg (by omega) (by omega), ?_⟩
  have : 3 * ((2 ^ e : Nat) : Int) * (e : Nat) ≤ 384 * 7 := Int.mul_le_mul (by omega) (by omega) (by omega) (by omega)
  omega
theorem kone_r (c : (1 ≤ n ∧ n ≤ 64) ∧ 1 ≤ m ∧ m ≤ 64) : 0 ≤ kone n m ∧ kone n m ≤ 4000 := by
  obtain ⟨h1, h2, h3⟩ := lg_b c
  unfold kone
  rw [Int.tdiv_eq_ediv_of_nonneg h3.1]
  omega
theorem kost_r (c : (1 ≤ n ∧ n ≤ 64) ∧ 1 ≤ m ∧ m ≤ 64) (w : Int) : 0 ≤ kost w n m ∧ kost w n m ≤ 20000 := by
  have h1 := kone_r c
  unfold kost
  split
  · have a := Int.mul_nonneg (show 0 ≤ n by omega) (show 0 ≤ m by omega)
    have b := Int.mul_le_mul c.1.2 c.2.2 (by omega) (show (0 : Int) ≤ 64 by decide)
    omega
  · split <;> omega
theorem sp_costOf (c : (1 ≤ n ∧ n ≤ 64) ∧ 1 ≤ m ∧ m ≤ 64) (hw : 0 ≤ w ∧ w ≤ 2) : Go 114 0 [some (vi w), some (vi n), some (vi m), none, none, none] [] H Q ↔ Q (some (vi (kost w n m))) H := by
  obtain ⟨h1, h2, h3⟩ := lg_b c
  unfold kost kone
  by_cases e0 : w = 0
  · rw [if_pos e0]
    simp (disch := omega) only [gX8_costOf_0, gX8_costOf_1T, gX8_costOf_1F, gX8_costOf_4, gX8_costOf_5, gX8_costOf_6, gX8_costOf_7, gX8_costOf_8, gX8_costOf_9, gX8_costOf_10, gX8_costOf_11, gX8_costOf_12, gX8_costOf_13, gX8_costOf_16, gX8_costOf_17, gX8_costOf_18, gX8_costOf_19, gX8_costOf_20, gX8_costOf_22, gX8_costOf_23, gX8_costOf_25, gX8_costOf_26, gX8_costOf_27, gX8_costOf_28, gX8_costOf_29, gX8_costOf_30, gX8_costOf_31, gX8_costOf_33, gX8_costOf_34, gX8_costOf_35, gX8_costOf_37, gX8_costOf_38, gX8_costOf_39T, gX8_costOf_39F, gX8_costOf_42, gX8_costOf_44, gX8_costOf_47, gX8_costOf_48, gX8_costOf_50, gX8_costOf_51, gX8_costOf_53, gX8_costOf_54, gX8_costOf_55, gX8_costOf_56, gX8_costOf_57, gX8_costOf_58, gX8_costOf_59, gX8_costOf_60, Rd_some, Wr_some, Cont_some, Cont_none, iso_O, true_and, hg_s, hg_n, hput_hput]
  · rw [if_neg e0]
    by_cases e1 : w = 1
    · rw [if_pos e1]
      simp (disch := omega) only [gX8_costOf_0, gX8_costOf_1T, gX8_costOf_1F, gX8_costOf_4, gX8_costOf_5, gX8_costOf_6, gX8_costOf_7, gX8_costOf_8, gX8_costOf_9, gX8_costOf_10, gX8_costOf_11, gX8_costOf_12, gX8_costOf_13, gX8_costOf_16, gX8_costOf_17, gX8_costOf_18, Rd_some, Wr_some, Cont_some, Cont_none, iso_O, true_and, hg_s, hg_n, hput_hput, sp_exp]
      simp (disch := omega) only [gX8_costOf_19, gX8_costOf_20, gX8_costOf_22, gX8_costOf_23, gX8_costOf_25, gX8_costOf_26, gX8_costOf_27, gX8_costOf_28, gX8_costOf_29, gX8_costOf_30, gX8_costOf_31, gX8_costOf_33, gX8_costOf_34, gX8_costOf_35, gX8_costOf_37, gX8_costOf_38, gX8_costOf_39T, gX8_costOf_39F, gX8_costOf_42, gX8_costOf_44, gX8_costOf_47, gX8_costOf_48, gX8_costOf_50, gX8_costOf_51, gX8_costOf_53, gX8_costOf_54, gX8_costOf_55, gX8_costOf_56, gX8_costOf_57, gX8_costOf_58, gX8_costOf_59, gX8_costOf_60, Rd_some, Wr_some, Cont_some, Cont_none, iso_O, true_and, hg_s, hg_n, hput_hput, jShl_1 _ h2]
    · rw [if_neg e1]
      simp (disch := omega) only [gX8_costOf_0, gX8_costOf_1T, gX8_costOf_1F, gX8_costOf_4, gX8_costOf_5, gX8_costOf_6, gX8_costOf_7, gX8_costOf_8, gX8_costOf_9, gX8_costOf_10, gX8_costOf_11, gX8_costOf_12, gX8_costOf_13, gX8_costOf_16, gX8_costOf_17, gX8_costOf_18, Rd_some, Wr_some, Cont_some, Cont_none, iso_O, true_and, hg_s, hg_n, hput_hput, sp_exp]
      simp (disch := omega) only [gX8_costOf_19, gX8_costOf_20, gX8_costOf_22, gX8_costOf_23, gX8_costOf_25, gX8_costOf_26, gX8_costOf_27, gX8_costOf_28, gX8_costOf_29, gX8_costOf_30, gX8_costOf_31, gX8_costOf_33, gX8_costOf_34, gX8_costOf_35, gX8_costOf_37, gX8_costOf_38, gX8_costOf_39T, gX8_costOf_39F, gX8_costOf_42, gX8_costOf_44, gX8_costOf_47, gX8_costOf_48, gX8_costOf_50, gX8_costOf_51, gX8_costOf_53, gX8_costOf_54, gX8_costOf_55, gX8_costOf_56, gX8_costOf_57, gX8_costOf_58, gX8_costOf_59, gX8_costOf_60, Rd_some, Wr_some, Cont_some, Cont_none, iso_O, true_and, hg_s, hg_n, hput_hput, jShl_1 _ h2]
theorem lp_mcost (c : (1 ≤ n ∧ n ≤ 64) ∧ 1 ≤ m ∧ m ≤ 64) {l0 : Option Value} : ∀ (f e : Nat), e + f = 7 → (Go 159 13 [l0, some (vi n), some (vi m), some (vi (e : Nat)), some (vi ((2 ^ e : Nat) : Int)), none] [] H Q ↔ Go 159 35 [l0, some (vi n), some (vi m), some (vi (lgf f e (n + m - 1) : Nat)), some (vi ((2 ^ lgf f e (n + m - 1) : Nat) : Int)), none] [] H Q) := by
  intro f
  induction f with
  | zero =>
    intro e he
    have e7 : e = 7 := by omega
    subst e7
    rw [gX9_costOf_13]
    simp (disch := omega) only [gX9_costOf_15, gX9_costOf_16, gX9_costOf_17, gX9_costOf_18, gX9_costOf_19, gX9_costOf_20T, gX9_costOf_20F, Rd_some, Wr_some, Cont_some, Cont_none, iso_O, true_and, hg_s, hg_n, hput_hput]
    rfl
  | succ f ih =>
    intro e he
    have h2e : 2 ^ e ≤ 128 := Nat.pow_le_pow_right (n := 2) (by decide) (show e ≤ 7 by omega)
    have h2e0 : 0 < 2 ^ e := Nat.pow_pos (by decide)
    rw [gX9_costOf_13, lgf]
    by_cases hlt : ((2 ^ e : Nat) : Int) < n + m - 1
    · rw [if_pos hlt, ← ih (e + 1) (by omega)]
      simp (disch := omega) only [gX9_costOf_15, gX9_costOf_16, gX9_costOf_17, gX9_costOf_18, gX9_costOf_19, gX9_costOf_20T, gX9_costOf_20F, gX9_costOf_23, gX9_costOf_25, gX9_costOf_26, gX9_costOf_27, gX9_costOf_29, gX9_costOf_32, Rd_some, Wr_some, Cont_some, Cont_none, iso_O, true_and, hg_s, hg_n, hput_hput]
      rw [show ((2 ^ (e + 1) : Nat) : Int) = ((2 ^ e : Nat) : Int) * 2 by rw [Nat.pow_succ]; omega]
      rfl
    · rw [if_neg hlt]
      simp (disch := omega) only [gX9_costOf_15, gX9_costOf_16, gX9_costOf_17, gX9_costOf_18, gX9_costOf_19, gX9_costOf_20T, gX9_costOf_20F, Rd_some, Wr_some, Cont_some, Cont_none, iso_O, true_and, hg_s, hg_n, hput_hput]
theorem sp_mcostOf (c : (1 ≤ n ∧ n ≤ 64) ∧ 1 ≤ m ∧ m ≤ 64) (hw : 0 ≤ w ∧ w ≤ 2) : Go 159 0 [some (vi w), some (vi n), some (vi m), none, none, none] [] H Q ↔ Q (some (vi (kost w n m))) H := by
  obtain ⟨h1, h2, h3⟩ := lg_b c
  unfold kost kone
  by_cases e0 : w = 0
  · rw [if_pos e0]
    simp (disch := omega) only [gX9_costOf_0, gX9_costOf_1T, gX9_costOf_1F, gX9_costOf_4, gX9_costOf_5, gX9_costOf_6, gX9_costOf_7, gX9_costOf_8, gX9_costOf_9, gX9_costOf_10, gX9_costOf_11, gX9_costOf_13, gX9_costOf_15, gX9_costOf_16, gX9_costOf_17, gX9_costOf_18, gX9_costOf_19, gX9_costOf_20T, gX9_costOf_20F, gX9_costOf_23, gX9_costOf_25, gX9_costOf_26, gX9_costOf_27, gX9_costOf_29, gX9_costOf_32, gX9_costOf_35, gX9_costOf_36, gX9_costOf_38, gX9_costOf_39, gX9_costOf_40, gX9_costOf_41, gX9_costOf_42, gX9_costOf_43, gX9_costOf_44, gX9_costOf_46, gX9_costOf_47, gX9_costOf_48, gX9_costOf_50, gX9_costOf_51, gX9_costOf_52T, gX9_costOf_52F, gX9_costOf_55, gX9_costOf_57, gX9_costOf_60, gX9_costOf_61, gX9_costOf_63, gX9_costOf_64, gX9_costOf_66, gX9_costOf_67, gX9_costOf_68, gX9_costOf_69, gX9_costOf_70, gX9_costOf_71, gX9_costOf_72, gX9_costOf_73, Rd_some, Wr_some, Cont_some, Cont_none, iso_O, true_and, hg_s, hg_n, hput_hput]
  · rw [if_neg e0]
    have lp := lp_mcost (H := H) (Q := Q) c (l0 := some (vi w)) 7 0 rfl
    have lp : Go 159 13 [some (vi w), some (vi n), some (vi m), some (vi 0), some (vi 1), none] [] H Q ↔ Go 159 35 [some (vi w), some (vi n), some (vi m), some (vi (lg (n + m - 1) : Nat)), some (vi ((2 ^ lg (n + m - 1) : Nat) : Int)), none] [] H Q := lp
    by_cases e1 : w = 1
    · rw [if_pos e1]
      simp (disch := omega) only [gX9_costOf_0, gX9_costOf_1T, gX9_costOf_1F, gX9_costOf_4, gX9_costOf_5, gX9_costOf_6, gX9_costOf_7, gX9_costOf_8, gX9_costOf_9, gX9_costOf_10, gX9_costOf_11, Rd_some, Wr_some, Cont_some, Cont_none, iso_O, true_and, hg_s, hg_n, hput_hput]
      rw [lp]
      simp (disch := omega) only [gX9_costOf_35, gX9_costOf_36, gX9_costOf_38, gX9_costOf_39, gX9_costOf_40, gX9_costOf_41, gX9_costOf_42, gX9_costOf_43, gX9_costOf_44, gX9_costOf_46, gX9_costOf_47, gX9_costOf_48, gX9_costOf_50, gX9_costOf_51, gX9_costOf_52T, gX9_costOf_52F, gX9_costOf_55, gX9_costOf_57, gX9_costOf_60, gX9_costOf_61, gX9_costOf_63, gX9_costOf_64, gX9_costOf_66, gX9_costOf_67, gX9_costOf_68, gX9_costOf_69, gX9_costOf_70, gX9_costOf_71, gX9_costOf_72, gX9_costOf_73, Rd_some, Wr_some, Cont_some, Cont_none, iso_O, true_and, hg_s, hg_n, hput_hput]
    · rw [if_neg e1]
      simp (disch := omega) only [gX9_costOf_0, gX9_costOf_1T, gX9_costOf_1F, gX9_costOf_4, gX9_costOf_5, gX9_costOf_6, gX9_costOf_7, gX9_costOf_8, gX9_costOf_9, gX9_costOf_10, gX9_costOf_11, Rd_some, Wr_some, Cont_some, Cont_none, iso_O, true_and, hg_s, hg_n, hput_hput]
      rw [lp]
      simp (disch := omega) only [gX9_costOf_35, gX9_costOf_36, gX9_costOf_38, gX9_costOf_39, gX9_costOf_40, gX9_costOf_41, gX9_costOf_42, gX9_costOf_43, gX9_costOf_44, gX9_costOf_46, gX9_costOf_47, gX9_costOf_48, gX9_costOf_50, gX9_costOf_51, gX9_costOf_52T, gX9_costOf_52F, gX9_costOf_55, gX9_costOf_57, gX9_costOf_60, gX9_costOf_61, gX9_costOf_63, gX9_costOf_64, gX9_costOf_66, gX9_costOf_67, gX9_costOf_68, gX9_costOf_69, gX9_costOf_70, gX9_costOf_71, gX9_costOf_72, gX9_costOf_73, Rd_some, Wr_some, Cont_some, Cont_none, iso_O, true_and, hg_s, hg_n, hput_hput]
def o_cost (S : SS) (w n m : Int) : Value × SS := (vi (if 0 ≤ w ∧ w ≤ 2 then (if (1 ≤ n ∧ n ≤ 64) ∧ 1 ≤ m ∧ m ≤ 64 then kost w n m else -2) else -1), S)
def o_plan (S : SS) (n m : Int) : Value × SS := (vi (if (1 ≤ n ∧ n ≤ 64) ∧ 1 ≤ m ∧ m ≤ 64 then (if kost 2 n m < kost 0 n m then 2 else 0) else -2), S)
theorem cx_cost (hc : CI H S) (c : (-2147483648 ≤ w ∧ w ≤ 2147483647) ∧ (-2147483648 ≤ n ∧ n ≤ 2147483647) ∧ (-2147483648 ≤ m ∧ m ≤ 2147483647)) (hq : CG H Q (o_cost S w n m)) : Go 90 0 [some (.ref 1), some (vi w), some (vi n), some (vi m)] [] H Q := by
  have hq := hq H hc FX.rf
  unfold o_cost at hq
  dsimp only at hq
  by_cases c1 : 0 ≤ w ∧ w ≤ 2
  · rw [if_pos c1] at hq
    by_cases c2 : 1 ≤ n ∧ n ≤ 64
    · by_cases c3 : 1 ≤ m ∧ m ≤ 64
      · rw [if_pos ⟨c2, c3⟩] at hq
        simp (disch := omega) only [gX8_cost_0, gX8_cost_1, gX8_cost_4T, gX8_cost_4F, gX8_cost_7, gX8_cost_8, gX8_cost_9, gX8_cost_10, gX8_cost_13T, gX8_cost_13F, gX8_cost_16, gX8_cost_17, gX8_cost_20T, gX8_cost_20F, gX8_cost_23, gX8_cost_25, gX8_cost_26, gX8_cost_27, gX8_cost_28, gX8_cost_29, gX8_cost_32, Rd_some, Wr_some, Cont_some, Cont_none, iso_O, true_and, hg_s, hg_n, hput_hput, sp_wyT, sp_cnT, sp_costOf ⟨c2, c3⟩ c1]
        exact hq
      · rw [if_neg (fun t => c3 t.2)] at hq
        simp (disch := omega) only [gX8_cost_0, gX8_cost_1, gX8_cost_4T, gX8_cost_4F, gX8_cost_7, gX8_cost_8, gX8_cost_9, gX8_cost_10, gX8_cost_13T, gX8_cost_13F, gX8_cost_16, gX8_cost_17, gX8_cost_20T, gX8_cost_20F, gX8_cost_23, gX8_cost_25, gX8_cost_26, gX8_cost_27, gX8_cost_28, gX8_cost_29, gX8_cost_32, Rd_some, Wr_some, Cont_some, Cont_none, iso_O, true_and, hg_s, hg_n, hput_hput, sp_wyT, sp_cnT, sp_cnF]
        exact hq
    · rw [if_neg (fun t => c2 t.1)] at hq
      simp (disch := omega) only [gX8_cost_0, gX8_cost_1, gX8_cost_4T, gX8_cost_4F, gX8_cost_7, gX8_cost_8, gX8_cost_9, gX8_cost_10, gX8_cost_13T, gX8_cost_13F, gX8_cost_16, gX8_cost_17, gX8_cost_20T, gX8_cost_20F, gX8_cost_23, gX8_cost_25, gX8_cost_26, gX8_cost_27, gX8_cost_28, gX8_cost_29, gX8_cost_32, Rd_some, Wr_some, Cont_some, Cont_none, iso_O, true_and, hg_s, hg_n, hput_hput, sp_wyT, sp_cnT, sp_cnF]
      exact hq
  · rw [if_neg c1] at hq
    simp (disch := omega) only [gX8_cost_0, gX8_cost_1, gX8_cost_4T, gX8_cost_4F, gX8_cost_7, gX8_cost_8, gX8_cost_9, gX8_cost_10, gX8_cost_13T, gX8_cost_13F, gX8_cost_16, gX8_cost_17, gX8_cost_20T, gX8_cost_20F, gX8_cost_23, gX8_cost_25, gX8_cost_26, gX8_cost_27, gX8_cost_28, gX8_cost_29, gX8_cost_32, Rd_some, Wr_some, Cont_some, Cont_none, iso_O, true_and, hg_s, hg_n, hput_hput, sp_wyF]
    exact hq
theorem cx_plan (hc : CI H S) (c : (-2147483648 ≤ n ∧ n ≤ 2147483647) ∧ (-2147483648 ≤ m ∧ m ≤ 2147483647)) (hq : CG H Q (o_plan S n m)) : Go 91 0 [some (.ref 1), some (vi n), some (vi m)] [] H Q := by
  have hq := hq H hc FX.rf
  unfold o_plan at hq
  dsimp only at hq
  by_cases c2 : 1 ≤ n ∧ n ≤ 64
  · by_cases c3 : 1 ≤ m ∧ m ≤ 64
    · rw [if_pos ⟨c2, c3⟩] at hq
      have k0 := kost_r ⟨c2, c3⟩ 0
      have k2 := kost_r ⟨c2, c3⟩ 2
      split at hq <;> simp (disch := omega) only [gX8_plan_0, gX8_plan_1, gX8_plan_4T, gX8_plan_4F, gX8_plan_7, gX8_plan_8, gX8_plan_11T, gX8_plan_11F, gX8_plan_14, gX8_plan_16, gX8_plan_17, gX8_plan_18, gX8_plan_19, gX8_plan_20, gX8_plan_23, gX8_plan_24, gX8_plan_25, gX8_plan_26, gX8_plan_29T, gX8_plan_29F, gX8_plan_32, gX8_plan_33, gX8_plan_36, gX8_plan_37, Rd_some, Wr_some, Cont_some, Cont_none, iso_O, true_and, hg_s, hg_n, hput_hput, sp_cnT, sp_costOf ⟨c2, c3⟩ (w := 0) (by decide), sp_costOf ⟨c2, c3⟩ (w := 2) (by decide)] <;> exact hq
    · rw [if_neg (fun t => c3 t.2)] at hq
      simp (disch := omega) only [gX8_plan_0, gX8_plan_1, gX8_plan_4T, gX8_plan_4F, gX8_plan_7, gX8_plan_8, gX8_plan_11T, gX8_plan_11F, gX8_plan_14, gX8_plan_16, gX8_plan_17, gX8_plan_18, gX8_plan_19, gX8_plan_20, gX8_plan_23, gX8_plan_24, gX8_plan_25, gX8_plan_26, gX8_plan_29T, gX8_plan_29F, gX8_plan_32, gX8_plan_33, gX8_plan_36, gX8_plan_37, Rd_some, Wr_some, Cont_some, Cont_none, iso_O, true_and, hg_s, hg_n, hput_hput, sp_cnT, sp_cnF]
      exact hq
  · rw [if_neg (fun t => c2 t.1)] at hq
    simp (disch := omega) only [gX8_plan_0, gX8_plan_1, gX8_plan_4T, gX8_plan_4F, gX8_plan_7, gX8_plan_8, gX8_plan_11T, gX8_plan_11F, gX8_plan_14, gX8_plan_16, gX8_plan_17, gX8_plan_18, gX8_plan_19, gX8_plan_20, gX8_plan_23, gX8_plan_24, gX8_plan_25, gX8_plan_26, gX8_plan_29T, gX8_plan_29F, gX8_plan_32, gX8_plan_33, gX8_plan_36, gX8_plan_37, Rd_some, Wr_some, Cont_some, Cont_none, iso_O, true_and, hg_s, hg_n, hput_hput, sp_cnT, sp_cnF]
    exact hq
theorem mx_cost (hm : MJ H S) (c : (-2147483648 ≤ w ∧ w ≤ 2147483647) ∧ (-2147483648 ≤ n ∧ n ≤ 2147483647) ∧ (-2147483648 ≤ m ∧ m ≤ 2147483647)) (hq : MG H Q (o_cost S w n m)) : Go 160 0 [some (.ref 41), some (vi w), some (vi n), some (vi m)] [] H Q := by
  have hq := hq H hm Fm.rf
  unfold o_cost at hq
  dsimp only at hq
  by_cases c1 : 0 ≤ w ∧ w ≤ 2
  · rw [if_pos c1] at hq
    by_cases c2 : 1 ≤ n ∧ n ≤ 64
    · by_cases c3 : 1 ≤ m ∧ m ≤ 64
      · rw [if_pos ⟨c2, c3⟩] at hq
        simp (disch := omega) only [gX9_cost_0, gX9_cost_1, gX9_cost_2, gX9_cost_3, gX9_cost_6T, gX9_cost_6F, gX9_cost_9, gX9_cost_10, gX9_cost_11, gX9_cost_12, gX9_cost_13, gX9_cost_15, gX9_cost_18T, gX9_cost_18F, gX9_cost_21, gX9_cost_22, gX9_cost_23, gX9_cost_25, gX9_cost_28T, gX9_cost_28F, gX9_cost_31, gX9_cost_32, gX9_cost_33, gX9_cost_34, gX9_cost_37, gX9_cost_40, gX9_cost_42, Rd_some, Wr_some, Cont_some, Cont_none, iso_O, true_and, hg_s, hg_n, hput_hput, sp_wiT, sp_mcostOf ⟨c2, c3⟩ c1]
        exact hq
      · rw [if_neg (fun t => c3 t.2)] at hq
        simp (disch := omega) only [gX9_cost_0, gX9_cost_1, gX9_cost_2, gX9_cost_3, gX9_cost_6T, gX9_cost_6F, gX9_cost_9, gX9_cost_10, gX9_cost_11, gX9_cost_12, gX9_cost_13, gX9_cost_15, gX9_cost_18T, gX9_cost_18F, gX9_cost_21, gX9_cost_22, gX9_cost_23, gX9_cost_25, gX9_cost_28T, gX9_cost_28F, gX9_cost_31, gX9_cost_32, gX9_cost_33, gX9_cost_34, gX9_cost_37, gX9_cost_40, gX9_cost_42, Rd_some, Wr_some, Cont_some, Cont_none, iso_O, true_and, hg_s, hg_n, hput_hput, sp_wiT, sp_wiF]
        exact hq
    · rw [if_neg (fun t => c2 t.1)] at hq
      simp (disch := omega) only [gX9_cost_0, gX9_cost_1, gX9_cost_2, gX9_cost_3, gX9_cost_6T, gX9_cost_6F, gX9_cost_9, gX9_cost_10, gX9_cost_11, gX9_cost_12, gX9_cost_13, gX9_cost_15, gX9_cost_18T, gX9_cost_18F, gX9_cost_21, gX9_cost_22, gX9_cost_23, gX9_cost_25, gX9_cost_28T, gX9_cost_28F, gX9_cost_31, gX9_cost_32, gX9_cost_33, gX9_cost_34, gX9_cost_37, gX9_cost_40, gX9_cost_42, Rd_some, Wr_some, Cont_some, Cont_none, iso_O, true_and, hg_s, hg_n, hput_hput, sp_wiT, sp_wiF]
      exact hq
  · rw [if_neg c1] at hq
    simp (disch := omega) only [gX9_cost_0, gX9_cost_1, gX9_cost_2, gX9_cost_3, gX9_cost_6T, gX9_cost_6F, gX9_cost_9, gX9_cost_10, gX9_cost_11, gX9_cost_12, gX9_cost_13, gX9_cost_15, gX9_cost_18T, gX9_cost_18F, gX9_cost_21, gX9_cost_22, gX9_cost_23, gX9_cost_25, gX9_cost_28T, gX9_cost_28F, gX9_cost_31, gX9_cost_32, gX9_cost_33, gX9_cost_34, gX9_cost_37, gX9_cost_40, gX9_cost_42, Rd_some, Wr_some, Cont_some, Cont_none, iso_O, true_and, hg_s, hg_n, hput_hput, sp_wiF]
    exact hq
theorem mx_plan (hm : MJ H S) (c : (-2147483648 ≤ n ∧ n ≤ 2147483647) ∧ (-2147483648 ≤ m ∧ m ≤ 2147483647)) (hq : MG H Q (o_plan S n m)) : Go 161 0 [some (.ref 41), some (vi n), some (vi m)] [] H Q := by
  have hq := hq H hm Fm.rf
  unfold o_plan at hq
  dsimp only at hq
  by_cases c2 : 1 ≤ n ∧ n ≤ 64
  · by_cases c3 : 1 ≤ m ∧ m ≤ 64
    · rw [if_pos ⟨c2, c3⟩] at hq
      have k0 := kost_r ⟨c2, c3⟩ 0
      have k2 := kost_r ⟨c2, c3⟩ 2
      split at hq <;> simp (disch := omega) only [gX9_plan_0, gX9_plan_1, gX9_plan_2, gX9_plan_4, gX9_plan_7T, gX9_plan_7F, gX9_plan_10, gX9_plan_11, gX9_plan_12, gX9_plan_14, gX9_plan_17T, gX9_plan_17F, gX9_plan_20, gX9_plan_22, gX9_plan_23, gX9_plan_24, gX9_plan_25, gX9_plan_26, gX9_plan_29, gX9_plan_30, gX9_plan_31, gX9_plan_32, gX9_plan_35T, gX9_plan_35F, gX9_plan_38, gX9_plan_39, gX9_plan_42, gX9_plan_43, Rd_some, Wr_some, Cont_some, Cont_none, iso_O, true_and, hg_s, hg_n, hput_hput, sp_wiT, sp_mcostOf ⟨c2, c3⟩ (w := 0) (by decide), sp_mcostOf ⟨c2, c3⟩ (w := 2) (by decide)] <;> exact hq
    · rw [if_neg (fun t => c3 t.2)] at hq
      simp (disch := omega) only [gX9_plan_0, gX9_plan_1, gX9_plan_2, gX9_plan_4, gX9_plan_7T, gX9_plan_7F, gX9_plan_10, gX9_plan_11, gX9_plan_12, gX9_plan_14, gX9_plan_17T, gX9_plan_17F, gX9_plan_20, gX9_plan_22, gX9_plan_23, gX9_plan_24, gX9_plan_25, gX9_plan_26, gX9_plan_29, gX9_plan_30, gX9_plan_31, gX9_plan_32, gX9_plan_35T, gX9_plan_35F, gX9_plan_38, gX9_plan_39, gX9_plan_42, gX9_plan_43, Rd_some, Wr_some, Cont_some, Cont_none, iso_O, true_and, hg_s, hg_n, hput_hput, sp_wiT, sp_wiF]
      exact hq
  · rw [if_neg (fun t => c2 t.1)] at hq
    simp (disch := omega) only [gX9_plan_0, gX9_plan_1, gX9_plan_2, gX9_plan_4, gX9_plan_7T, gX9_plan_7F, gX9_plan_10, gX9_plan_11, gX9_plan_12, gX9_plan_14, gX9_plan_17T, gX9_plan_17F, gX9_plan_20, gX9_plan_22, gX9_plan_23, gX9_plan_24, gX9_plan_25, gX9_plan_26, gX9_plan_29, gX9_plan_30, gX9_plan_31, gX9_plan_32, gX9_plan_35T, gX9_plan_35F, gX9_plan_38, gX9_plan_39, gX9_plan_42, gX9_plan_43, Rd_some, Wr_some, Cont_some, Cont_none, iso_O, true_and, hg_s, hg_n, hput_hput, sp_wiT, sp_wiF]
    exact hq
end MTOLD

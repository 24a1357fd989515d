/-! m: more calls on rows; what is told -/
section MOPS
variable {H : HP} {S : SS} {Q : Option Value → HP → Prop} {p q i ln n v w b : Int}
theorem sp_isNumT (c : ¬ 9218868437227405312 < bAnd v 9223372036854775807) : Go 129 0 [some (vl v), none] [] H Q ↔ Q (some (vi 1)) H := by
  have h1 := bA_r v 9223372036854775807
  simp (disch := omega) only [gX9_isNumber_0, gX9_isNumber_1, gX9_isNumber_4, gX9_isNumber_5, gX9_isNumber_8T, gX9_isNumber_8F, gX9_isNumber_9T, gX9_isNumber_9F, gX9_isNumber_12, gX9_isNumber_13, gX9_isNumber_16, gX9_isNumber_17, Rd_some, Wr_some, Cont_some, Cont_none, iso_O, true_and, hg_s, hg_n, hput_hput]
theorem sp_isNumF (c : 9218868437227405312 < bAnd v 9223372036854775807) : Go 129 0 [some (vl v), none] [] H Q ↔ Q (some (vi 0)) H := by
  have h1 := bA_r v 9223372036854775807
  simp (disch := omega) only [gX9_isNumber_0, gX9_isNumber_1, gX9_isNumber_4, gX9_isNumber_5, gX9_isNumber_8T, gX9_isNumber_8F, gX9_isNumber_9T, gX9_isNumber_9F, gX9_isNumber_12, gX9_isNumber_13, gX9_isNumber_16, gX9_isNumber_17, Rd_some, Wr_some, Cont_some, Cont_none, iso_O, true_and, hg_s, hg_n, hput_hput]
theorem sp_comes (hl : 0 ≤ ln ∧ ln ≤ 4) (cv : -9223372036854775808 ≤ v ∧ v ≤ 9223372036854775807) : Go 130 0 [some (vi ln), some (vl v), none] [] H Q ↔ Q (some (vl (nar ln v))) H := by
  have h1 := jB_r v
  have h2 := jS_r v
  have h3 := jI_r v
  unfold nar
  by_cases e0 : ln = 0
  · rw [if_pos e0]
    simp (disch := omega) only [gX9_comes_0, gX9_comes_1O, gX9_comes_1_0, gX9_comes_1_1, gX9_comes_1_2, gX9_comes_1_3, gX9_comes_32, gX9_comes_33, gX9_comes_34, gX9_comes_35, gX9_comes_36, gX9_comes_37, gX9_comes_38, gX9_comes_39, gX9_comes_40, gX9_comes_41, gX9_comes_42, gX9_comes_43, gX9_comes_44, gX9_comes_45, gX9_comes_46, gX9_comes_47, gX9_comes_48, gX9_comes_49, gX9_comes_52T, gX9_comes_52F, gX9_comes_55, gX9_comes_56, gX9_comes_59, gX9_comes_62, Rd_some, Wr_some, Cont_some, Cont_none, iso_O, true_and, hg_s, hg_n, hput_hput]
  · rw [if_neg e0]
    by_cases e1 : ln = 1
    · rw [if_pos e1]
      simp (disch := omega) only [gX9_comes_0, gX9_comes_1O, gX9_comes_1_0, gX9_comes_1_1, gX9_comes_1_2, gX9_comes_1_3, gX9_comes_32, gX9_comes_33, gX9_comes_34, gX9_comes_35, gX9_comes_36, gX9_comes_37, gX9_comes_38, gX9_comes_39, gX9_comes_40, gX9_comes_41, gX9_comes_42, gX9_comes_43, gX9_comes_44, gX9_comes_45, gX9_comes_46, gX9_comes_47, gX9_comes_48, gX9_comes_49, gX9_comes_52T, gX9_comes_52F, gX9_comes_55, gX9_comes_56, gX9_comes_59, gX9_comes_62, Rd_some, Wr_some, Cont_some, Cont_none, iso_O, true_and, hg_s, hg_n, hput_hput]
    · rw [if_neg e1]
      by_cases e2 : ln = 2
      · rw [if_pos e2]
        simp (disch := omega) only [gX9_comes_0, gX9_comes_1O, gX9_comes_1_0, gX9_comes_1_1, gX9_comes_1_2, gX9_comes_1_3, gX9_comes_32, gX9_comes_33, gX9_comes_34, gX9_comes_35, gX9_comes_36, gX9_comes_37, gX9_comes_38, gX9_comes_39, gX9_comes_40, gX9_comes_41, gX9_comes_42, gX9_comes_43, Rd_some, Wr_some, Cont_some, Cont_none, iso_O, true_and, hg_s, hg_n, hput_hput]
        rw [show vi v = vi (jI v) from vi_jI]
        simp (disch := omega) only [gX9_comes_44, gX9_comes_45, gX9_comes_46, Rd_some, Wr_some, Cont_some, Cont_none, iso_O, true_and, hg_s, hg_n, hput_hput]
      · rw [if_neg e2]
        by_cases e3 : ln = 3
        · rw [if_pos e3]
          simp (disch := omega) only [gX9_comes_0, gX9_comes_1O, gX9_comes_1_0, gX9_comes_1_1, gX9_comes_1_2, gX9_comes_1_3, gX9_comes_32, gX9_comes_33, gX9_comes_34, gX9_comes_35, gX9_comes_36, gX9_comes_37, gX9_comes_38, gX9_comes_39, gX9_comes_40, gX9_comes_41, gX9_comes_42, gX9_comes_43, gX9_comes_44, gX9_comes_45, gX9_comes_46, gX9_comes_47, gX9_comes_48, gX9_comes_49, gX9_comes_52T, gX9_comes_52F, gX9_comes_55, gX9_comes_56, gX9_comes_59, gX9_comes_62, Rd_some, Wr_some, Cont_some, Cont_none, iso_O, true_and, hg_s, hg_n, hput_hput]
        · rw [if_neg e3]
          split
          · rename_i hq
            simp (disch := omega) only [gX9_comes_0, gX9_comes_1O, gX9_comes_1_0, gX9_comes_1_1, gX9_comes_1_2, gX9_comes_1_3, gX9_comes_32, gX9_comes_33, gX9_comes_34, gX9_comes_35, gX9_comes_36, gX9_comes_37, gX9_comes_38, gX9_comes_39, gX9_comes_40, gX9_comes_41, gX9_comes_42, gX9_comes_43, gX9_comes_44, gX9_comes_45, gX9_comes_46, gX9_comes_47, gX9_comes_48, gX9_comes_49, gX9_comes_52T, gX9_comes_52F, gX9_comes_55, gX9_comes_56, gX9_comes_59, gX9_comes_62, Rd_some, Wr_some, Cont_some, Cont_none, iso_O, true_and, hg_s, hg_n, hput_hput, sp_isNumF hq]
          · rename_i hq
            simp (disch := omega) only [gX9_comes_0, gX9_comes_1O, gX9_comes_1_0, gX9_comes_1_1, gX9_comes_1_2, gX9_comes_1_3, gX9_comes_32, gX9_comes_33, gX9_comes_34, gX9_comes_35, gX9_comes_36, gX9_comes_37, gX9_comes_38, gX9_comes_39, gX9_comes_40, gX9_comes_41, gX9_comes_42, gX9_comes_43, gX9_comes_44, gX9_comes_45, gX9_comes_46, gX9_comes_47, gX9_comes_48, gX9_comes_49, gX9_comes_52T, gX9_comes_52F, gX9_comes_55, gX9_comes_56, gX9_comes_59, gX9_comes_62, Rd_some, Wr_some, Cont_some, Cont_none, iso_O, true_and, hg_s, hg_n, hput_hput, sp_isNumT hq]
/-- the row of the place p takes other entries -/
theorem MJ.cells {T : TT} {k : Nat} (h1 : MH H (wFt S 0) T) (h2 : MR S T) (h3 : SI S) (h4 : ∀ k, live S k → rok (S.1.2 k)) (hp : 0 ≤ p ∧ p < 12) (hk : S.1.1 p = some k) {g en : Int → Int} (hr : rok ((S.1.2 k).1, (S.1.2 k).2.1, g)) (e1 : ∀ j, 0 ≤ j → j < (S.1.2 k).2.1 → en (64 * T.1.1 p + j) = g j) (e2 : ∀ x, (x < 64 * T.1.1 p ∨ 64 * T.1.1 p + 64 ≤ x) → en x = T.2.2 x) {H' : HP} (hH : ∀ a, 41 ≤ a → a ≤ 60 → a ≠ 45 → a ≠ 53 → hget H' a = hget H a) (hd : ∃ f, hget H' 53 = cL 64 f) (he : hget H' 45 = cL 832 en) : MJ H' (wRd (wFt S 0) k ((S.1.2 k).1, (S.1.2 k).2.1, g)) := by
  refine ⟨(T.1, T.2.1, en), fun a a1 a2 => Mh_rd.mpr ?_, h2.cells (S := wFt S 0) h4 hp hk e1 e2, h3, fun l hl => ?_⟩
  · by_cases b1 : a = 45
    · subst b1; exact he
    · by_cases b2 : a = 53
      · subst b2; exact hd
      · rw [hH a a1 a2 b1 b2]
        have := h1 a a1 a2
        unfold Mh at this ⊢
        split at this <;> first | exact absurd rfl b1 | exact this
  · show rok (if l = k then _ else S.1.2 l)
    by_cases e : l = k
    · rw [if_pos e]; exact hr
    · rw [if_neg e]; exact h4 l hl
theorem mx_put (hm : MJ H S) (c : (-2147483648 ≤ p ∧ p ≤ 2147483647) ∧ (-2147483648 ≤ i ∧ i ≤ 2147483647) ∧ (-9223372036854775808 ≤ v ∧ v ≤ 9223372036854775807)) (hq : MG H Q (o_put S p i v)) : Go 131 0 [some (.ref 41), some (vi p), some (vi i), some (vl v), none] [] H Q := by
  obtain ⟨T, h1, h2, h3, h4⟩ := hm
  have hx := h1.v.1
  unfold o_put MG at hq
  by_cases c1 : 0 ≤ p ∧ p < 12
  · rw [if_pos c1] at hq
    have m1 := h1.ft 0
    cases ho : S.1.1 p with
    | none =>
      rw [ho] at hq
      dsimp only at hq
      have e := h2.no c1 ho
      simp (disch := omega) only [gX9_put_0, gX9_put_1, gX9_put_2, pf_9_0, gX9_put_5, gX9_put_6, gX9_put_9T, gX9_put_9F, gX9_put_12, gX9_put_13, gX9_put_14, gX9_put_15, fl_9_1, gX9_put_18, gX9_put_19, aJ_g, gX9_put_20, gX9_put_22T, gX9_put_22F, gX9_put_25, gX9_put_26, gX9_put_27, gX9_put_30, gX9_put_31, gX9_put_32T, gX9_put_32F, gX9_put_35, gX9_put_36, gX9_put_37, gX9_put_38, gX9_put_41T, gX9_put_41F, gX9_put_44, gX9_put_45, gX9_put_46, gX9_put_49, gX9_put_50, gX9_put_51, fl_9_4, gX9_put_54, gX9_put_56, gX9_put_57, gX9_put_60, gX9_put_61, gX9_put_62, gX9_put_63, gX9_put_64, gX9_put_65, gX9_put_66, gX9_put_67, gX9_put_70, gX9_put_71, gX9_put_74, sL_p, gX9_put_75, gX9_put_76, Rd_some, Wr_some, Cont_some, Cont_none, iso_O, true_and, hg_s, hg_n, hput_hput, gX9_fails_0, gX9_fails_1, gX9_fails_2, pf_9_0, gX9_fails_5, gX9_fails_7, gX9_fails_8, gX9_fails_9, Rd_some, Wr_some, Cont_some, Cont_none, iso_O, true_and, hg_s, hg_n, hput_hput, hx, sp_mplT, h1.v.2.1]
      exact hq _ (MJ.ft h1 h2 h3 h4 1) (Fm.rf.put (by omega))
    | some k =>
      rw [ho] at hq
      dsimp only at hq
      obtain ⟨r1, r2, r3, r4⟩ := h2.ro c1 ho
      have hk := h4 k ⟨p, c1.1, c1.2, ho⟩
      have hl := hk.1
      have hn := hk.2.1
      simp (disch := omega) only [gX9_put_0, gX9_put_1, gX9_put_2, pf_9_0, gX9_put_5, gX9_put_6, gX9_put_9T, gX9_put_9F, gX9_put_12, gX9_put_13, gX9_put_14, gX9_put_15, fl_9_1, gX9_put_18, gX9_put_19, aJ_g, gX9_put_20, gX9_put_22T, gX9_put_22F, Rd_some, Wr_some, Cont_some, Cont_none, iso_O, true_and, hg_s, hg_n, hput_hput, hx, sp_mplT, h1.v.2.1]
      change Go _ _ _ _ (hput H 41 (cM (wFt S 0))) _
      by_cases h6 : 0 ≤ i ∧ i < (S.1.2 k).2.1
      · rw [if_pos h6] at hq
        simp (disch := omega) only [gX9_put_25, gX9_put_26, gX9_put_27, gX9_put_30, gX9_put_31, gX9_put_32T, gX9_put_32F, gX9_put_35, gX9_put_36, gX9_put_37, gX9_put_38, gX9_put_41T, gX9_put_41F, gX9_put_44, gX9_put_45, gX9_put_46, gX9_put_49, gX9_put_50, gX9_put_51, fl_9_4, gX9_put_54, gX9_put_56, gX9_put_57, fl_9_1, gX9_put_60, gX9_put_61, aJ_g, gX9_put_62, gX9_put_63, gX9_put_64, gX9_put_65, gX9_put_66, gX9_put_67, gX9_put_70, gX9_put_71, gX9_put_74, sL_p, gX9_put_75, gX9_put_76, Rd_some, Wr_some, Cont_some, Cont_none, iso_O, true_and, hg_s, hg_n, hput_hput, m1.v.1, m1.v.2.1, m1.e, sp_cnt m1.v, sp_lan m1.v, r2, r3, sp_comes hl c.2.2]
        refine hq _ (MJ.cells m1 h2 h3 h4 c1 ho (rok_up hk c.2.2) (fun j j0 j1 => ?_) (fun x x1 => if_neg (by omega)) (fun a a1 a2 b1 b2 => hg_n b1) ?_ hg_s) ((Fm.rf.put (by omega)).put (by omega))
        · unfold up
          by_cases e : j = i
          · rw [if_pos (by omega), if_pos e]
          · rw [if_neg (by omega), if_neg e]; exact r4 j j0 j1
        · obtain ⟨f, hf⟩ := m1 53 (by decide) (by decide)
          exact ⟨f, by rw [hg_n (by omega)]; exact hf⟩
      · rw [if_neg h6] at hq
        by_cases h7 : i < 0 <;> simp (disch := omega) only [gX9_put_25, gX9_put_26, gX9_put_27, gX9_put_30, gX9_put_31, gX9_put_32T, gX9_put_32F, gX9_put_35, gX9_put_36, gX9_put_37, gX9_put_38, gX9_put_41T, gX9_put_41F, gX9_put_44, gX9_put_45, gX9_put_46, gX9_put_49, gX9_put_50, gX9_put_51, fl_9_4, gX9_put_54, gX9_put_56, gX9_put_57, fl_9_1, gX9_put_60, gX9_put_61, aJ_g, gX9_put_62, gX9_put_63, gX9_put_64, gX9_put_65, gX9_put_66, gX9_put_67, gX9_put_70, gX9_put_71, gX9_put_74, sL_p, gX9_put_75, gX9_put_76, Rd_some, Wr_some, Cont_some, Cont_none, iso_O, true_and, hg_s, hg_n, hput_hput, gX9_fails_0, gX9_fails_1, gX9_fails_2, pf_9_0, gX9_fails_5, gX9_fails_7, gX9_fails_8, gX9_fails_9, Rd_some, Wr_some, Cont_some, Cont_none, iso_O, true_and, hg_s, hg_n, hput_hput, m1.v.1, sp_cnt m1.v, r3] <;> exact hq _ (MJ.ft h1 h2 h3 h4 3) (Fm.rf.put (by omega))
  · rw [if_neg c1] at hq
    simp (disch := omega) only [gX9_put_0, gX9_put_1, gX9_put_2, pf_9_0, gX9_put_5, gX9_put_6, gX9_put_9T, gX9_put_9F, gX9_put_12, gX9_put_13, gX9_put_14, gX9_put_15, fl_9_1, gX9_put_18, gX9_put_19, aJ_g, gX9_put_20, gX9_put_22T, gX9_put_22F, gX9_put_25, gX9_put_26, gX9_put_27, gX9_put_30, gX9_put_31, gX9_put_32T, gX9_put_32F, gX9_put_35, gX9_put_36, gX9_put_37, gX9_put_38, gX9_put_41T, gX9_put_41F, gX9_put_44, gX9_put_45, gX9_put_46, gX9_put_49, gX9_put_50, gX9_put_51, fl_9_4, gX9_put_54, gX9_put_56, gX9_put_57, gX9_put_60, gX9_put_61, gX9_put_62, gX9_put_63, gX9_put_64, gX9_put_65, gX9_put_66, gX9_put_67, gX9_put_70, gX9_put_71, gX9_put_74, sL_p, gX9_put_75, gX9_put_76, Rd_some, Wr_some, Cont_some, Cont_none, iso_O, true_and, hg_s, hg_n, hput_hput, hx, sp_mplF]
    exact hq _ (MJ.ft h1 h2 h3 h4 0) (Fm.rf.put (by omega))
theorem mx_at (hm : MJ H S) (c : (-2147483648 ≤ p ∧ p ≤ 2147483647) ∧ (-2147483648 ≤ i ∧ i ≤ 2147483647)) (hq : MG H Q (o_at S p i)) : Go 132 0 [some (.ref 41), some (vi p), some (vi i)] [] H Q := by
  obtain ⟨T, h1, h2, h3, h4⟩ := hm
  have hx := h1.v.1
  unfold o_at MG at hq
  by_cases c1 : 0 ≤ p ∧ p < 12
  · rw [if_pos c1] at hq
    have m1 := h1.ft 0
    cases ho : S.1.1 p with
    | none =>
      rw [ho] at hq
      dsimp only at hq
      have e := h2.no c1 ho
      simp (disch := first | omega | rfl) only [gX9_at_0, gX9_at_1, gX9_at_2, pf_9_0, gX9_at_5, gX9_at_6, gX9_at_9T, gX9_at_9F, gX9_at_12, gX9_at_13, gX9_at_14, gX9_at_15, fl_9_1, gX9_at_18, gX9_at_19, aJ_g, gX9_at_20, gX9_at_22T, gX9_at_22F, gX9_at_25, gX9_at_26, gX9_at_27, gX9_at_30, gX9_at_31, gX9_at_32, gX9_at_33, gX9_at_34T, gX9_at_34F, gX9_at_37, gX9_at_38, gX9_at_39, gX9_at_40, gX9_at_43T, gX9_at_43F, gX9_at_46, gX9_at_47, gX9_at_48, gX9_at_51, gX9_at_52, gX9_at_53, gX9_at_54, gX9_at_55, gX9_at_56, gX9_at_57, gX9_at_60, Rd_some, Wr_some, Cont_some, Cont_none, iso_O, true_and, hg_s, hg_n, hput_hput, gX9_fails_0, gX9_fails_1, gX9_fails_2, pf_9_0, gX9_fails_5, gX9_fails_7, gX9_fails_8, gX9_fails_9, Rd_some, Wr_some, Cont_some, Cont_none, iso_O, true_and, hg_s, hg_n, hput_hput, hx, sp_mplT, h1.v.2.1]
      exact hq _ (MJ.ft h1 h2 h3 h4 1) (Fm.rf.put (by omega))
    | some k =>
      rw [ho] at hq
      dsimp only at hq
      obtain ⟨r1, r2, r3, r4⟩ := h2.ro c1 ho
      have hk := h4 k ⟨p, c1.1, c1.2, ho⟩
      have hn := hk.2.1
      simp (disch := omega) only [gX9_at_0, gX9_at_1, gX9_at_2, pf_9_0, gX9_at_5, gX9_at_6, gX9_at_9T, gX9_at_9F, gX9_at_12, gX9_at_13, gX9_at_14, gX9_at_15, fl_9_1, gX9_at_18, gX9_at_19, aJ_g, gX9_at_20, gX9_at_22T, gX9_at_22F, Rd_some, Wr_some, Cont_some, Cont_none, iso_O, true_and, hg_s, hg_n, hput_hput, hx, sp_mplT, h1.v.2.1]
      change Go _ _ _ _ (hput H 41 (cM (wFt S 0))) _
      by_cases h6 : 0 ≤ i ∧ i < (S.1.2 k).2.1
      · rw [if_pos h6] at hq
        simp (disch := omega) only [gX9_at_25, gX9_at_26, gX9_at_27, gX9_at_30, gX9_at_31, gX9_at_32, gX9_at_33, gX9_at_34T, gX9_at_34F, gX9_at_37, gX9_at_38, gX9_at_39, gX9_at_40, gX9_at_43T, gX9_at_43F, gX9_at_46, gX9_at_47, gX9_at_48, gX9_at_51, gX9_at_52, gX9_at_53, gX9_at_54, gX9_at_55, gX9_at_56, gX9_at_57, gX9_at_60, Rd_some, Wr_some, Cont_some, Cont_none, iso_O, true_and, hg_s, hg_n, hput_hput, m1.v.1, sp_cnt m1.v, sp_ent m1.v m1.e, r3, r4 i h6.1 h6.2]
        exact hq _ (MJ.ft h1 h2 h3 h4 0) (Fm.rf.put (by omega))
      · rw [if_neg h6] at hq
        by_cases h7 : i < 0 <;> simp (disch := first | omega | rfl) only [gX9_at_25, gX9_at_26, gX9_at_27, gX9_at_30, gX9_at_31, gX9_at_32, gX9_at_33, gX9_at_34T, gX9_at_34F, gX9_at_37, gX9_at_38, gX9_at_39, gX9_at_40, gX9_at_43T, gX9_at_43F, gX9_at_46, gX9_at_47, gX9_at_48, gX9_at_51, gX9_at_52, gX9_at_53, gX9_at_54, gX9_at_55, gX9_at_56, gX9_at_57, gX9_at_60, Rd_some, Wr_some, Cont_some, Cont_none, iso_O, true_and, hg_s, hg_n, hput_hput, gX9_fails_0, gX9_fails_1, gX9_fails_2, pf_9_0, gX9_fails_5, gX9_fails_7, gX9_fails_8, gX9_fails_9, Rd_some, Wr_some, Cont_some, Cont_none, iso_O, true_and, hg_s, hg_n, hput_hput, m1.v.1, sp_cnt m1.v, r3] <;> exact hq _ (MJ.ft h1 h2 h3 h4 3) (Fm.rf.put (by omega))
  · rw [if_neg c1] at hq
    simp (disch := omega) only [gX9_at_0, gX9_at_1, gX9_at_2, pf_9_0, gX9_at_5, gX9_at_6, gX9_at_9T, gX9_at_9F, gX9_at_12, gX9_at_13, gX9_at_14, gX9_at_15, fl_9_1, gX9_at_18, gX9_at_19, aJ_g, gX9_at_20, gX9_at_22T, gX9_at_22F, gX9_at_25, gX9_at_26, gX9_at_27, gX9_at_30, gX9_at_31, gX9_at_32, gX9_at_33, gX9_at_34T, gX9_at_34F, gX9_at_37, gX9_at_38, gX9_at_39, gX9_at_40, gX9_at_43T, gX9_at_43F, gX9_at_46, gX9_at_47, gX9_at_48, gX9_at_51, gX9_at_52, gX9_at_53, gX9_at_54, gX9_at_55, gX9_at_56, gX9_at_57, gX9_at_60, Rd_some, Wr_some, Cont_some, Cont_none, iso_O, true_and, hg_s, hg_n, hput_hput, hx, sp_mplF]
    exact hq _ (MJ.ft h1 h2 h3 h4 0) (Fm.rf.put (by omega))
theorem mx_as (hm : MJ H S) (c : (-2147483648 ≤ p ∧ p ≤ 2147483647) ∧ (-2147483648 ≤ i ∧ i ≤ 2147483647) ∧ (-2147483648 ≤ ln ∧ ln ≤ 2147483647)) (hq : MG H Q (o_as S p i ln)) : Go 133 0 [some (.ref 41), some (vi p), some (vi i), some (vi ln)] [] H Q := by
  obtain ⟨T, h1, h2, h3, h4⟩ := hm
  have hx := h1.v.1
  unfold o_as MG at hq
  by_cases c1 : 0 ≤ p ∧ p < 12
  · by_cases c2 : 0 ≤ ln ∧ ln ≤ 4
    · rw [if_pos ⟨c1, c2⟩] at hq
      have m1 := h1.ft 0
      cases ho : S.1.1 p with
      | none =>
        rw [ho] at hq
        dsimp only at hq
        have e := h2.no c1 ho
        simp (disch := first | omega | rfl) only [gX9_as_0, gX9_as_1, gX9_as_2, pf_9_0, gX9_as_5, gX9_as_6, gX9_as_9T, gX9_as_9F, gX9_as_12, gX9_as_13, gX9_as_14, gX9_as_15, gX9_as_18T, gX9_as_18F, gX9_as_21, gX9_as_22, gX9_as_23, gX9_as_24, fl_9_1, gX9_as_27, gX9_as_28, aJ_g, gX9_as_29, gX9_as_31T, gX9_as_31F, gX9_as_34, gX9_as_35, gX9_as_36, gX9_as_39, gX9_as_40, gX9_as_41, gX9_as_42, gX9_as_43, gX9_as_44, gX9_as_47, gX9_as_48T, gX9_as_48F, gX9_as_51, gX9_as_52, gX9_as_53, gX9_as_56, gX9_as_57, gX9_as_58, gX9_as_59, gX9_as_60T, gX9_as_60F, gX9_as_63, gX9_as_64, gX9_as_65, gX9_as_66, gX9_as_69T, gX9_as_69F, gX9_as_72, gX9_as_73, gX9_as_74, gX9_as_77, gX9_as_78, gX9_as_79, gX9_as_80, gX9_as_81, gX9_as_82, gX9_as_83, gX9_as_86, Rd_some, Wr_some, Cont_some, Cont_none, iso_O, true_and, hg_s, hg_n, hput_hput, gX9_fails_0, gX9_fails_1, gX9_fails_2, pf_9_0, gX9_fails_5, gX9_fails_7, gX9_fails_8, gX9_fails_9, Rd_some, Wr_some, Cont_some, Cont_none, iso_O, true_and, hg_s, hg_n, hput_hput, hx, sp_mplT, sp_wiT, h1.v.2.1]
        exact hq _ (MJ.ft h1 h2 h3 h4 1) (Fm.rf.put (by omega))
      | some k =>
        rw [ho] at hq
        dsimp only at hq
        obtain ⟨r1, r2, r3, r4⟩ := h2.ro c1 ho
        have hk := h4 k ⟨p, c1.1, c1.2, ho⟩
        have hn := hk.2.1
        have hl := hk.1
        simp (disch := omega) only [gX9_as_0, gX9_as_1, gX9_as_2, pf_9_0, gX9_as_5, gX9_as_6, gX9_as_9T, gX9_as_9F, gX9_as_12, gX9_as_13, gX9_as_14, gX9_as_15, gX9_as_18T, gX9_as_18F, gX9_as_21, gX9_as_22, gX9_as_23, gX9_as_24, fl_9_1, gX9_as_27, gX9_as_28, aJ_g, gX9_as_29, gX9_as_31T, gX9_as_31F, gX9_as_34, Rd_some, Wr_some, Cont_some, Cont_none, iso_O, true_and, hg_s, hg_n, hput_hput, hx, sp_mplT, sp_wiT, h1.v.2.1]
        change Go _ _ _ _ (hput H 41 (cM (wFt S 0))) _
        by_cases h5 : (S.1.2 k).1 = ln
        · rw [if_pos h5] at hq
          by_cases h6 : 0 ≤ i ∧ i < (S.1.2 k).2.1
          · rw [if_pos h6] at hq
            simp (disch := omega) only [gX9_as_35, gX9_as_36, gX9_as_39, gX9_as_40, gX9_as_41, gX9_as_42, gX9_as_43, gX9_as_44, gX9_as_47, gX9_as_48T, gX9_as_48F, gX9_as_51, gX9_as_52, gX9_as_53, gX9_as_56, gX9_as_57, gX9_as_58, gX9_as_59, gX9_as_60T, gX9_as_60F, gX9_as_63, gX9_as_64, gX9_as_65, gX9_as_66, gX9_as_69T, gX9_as_69F, gX9_as_72, gX9_as_73, gX9_as_74, gX9_as_77, gX9_as_78, gX9_as_79, gX9_as_80, gX9_as_81, gX9_as_82, gX9_as_83, gX9_as_86, Rd_some, Wr_some, Cont_some, Cont_none, iso_O, true_and, hg_s, hg_n, hput_hput, m1.v.1, sp_cnt m1.v, sp_lan m1.v, sp_ent m1.v m1.e, r2, r3, r4 i h6.1 h6.2]
            exact hq _ (MJ.ft h1 h2 h3 h4 0) (Fm.rf.put (by omega))
          · rw [if_neg h6] at hq
            by_cases h7 : i < 0 <;> simp (disch := first | omega | rfl) only [gX9_as_35, gX9_as_36, gX9_as_39, gX9_as_40, gX9_as_41, gX9_as_42, gX9_as_43, gX9_as_44, gX9_as_47, gX9_as_48T, gX9_as_48F, gX9_as_51, gX9_as_52, gX9_as_53, gX9_as_56, gX9_as_57, gX9_as_58, gX9_as_59, gX9_as_60T, gX9_as_60F, gX9_as_63, gX9_as_64, gX9_as_65, gX9_as_66, gX9_as_69T, gX9_as_69F, gX9_as_72, gX9_as_73, gX9_as_74, gX9_as_77, gX9_as_78, gX9_as_79, gX9_as_80, gX9_as_81, gX9_as_82, gX9_as_83, gX9_as_86, Rd_some, Wr_some, Cont_some, Cont_none, iso_O, true_and, hg_s, hg_n, hput_hput, gX9_fails_0, gX9_fails_1, gX9_fails_2, pf_9_0, gX9_fails_5, gX9_fails_7, gX9_fails_8, gX9_fails_9, Rd_some, Wr_some, Cont_some, Cont_none, iso_O, true_and, hg_s, hg_n, hput_hput, m1.v.1, sp_cnt m1.v, sp_lan m1.v, r2, r3] <;> exact hq _ (MJ.ft h1 h2 h3 h4 3) (Fm.rf.put (by omega))
        · rw [if_neg h5] at hq
          simp (disch := first | omega | rfl) only [gX9_as_35, gX9_as_36, gX9_as_39, gX9_as_40, gX9_as_41, gX9_as_42, gX9_as_43, gX9_as_44, gX9_as_47, gX9_as_48T, gX9_as_48F, gX9_as_51, gX9_as_52, gX9_as_53, gX9_as_56, gX9_as_57, gX9_as_58, gX9_as_59, gX9_as_60T, gX9_as_60F, gX9_as_63, gX9_as_64, gX9_as_65, gX9_as_66, gX9_as_69T, gX9_as_69F, gX9_as_72, gX9_as_73, gX9_as_74, gX9_as_77, gX9_as_78, gX9_as_79, gX9_as_80, gX9_as_81, gX9_as_82, gX9_as_83, gX9_as_86, Rd_some, Wr_some, Cont_some, Cont_none, iso_O, true_and, hg_s, hg_n, hput_hput, gX9_fails_0, gX9_fails_1, gX9_fails_2, pf_9_0, gX9_fails_5, gX9_fails_7, gX9_fails_8, gX9_fails_9, Rd_some, Wr_some, Cont_some, Cont_none, iso_O, true_and, hg_s, hg_n, hput_hput, m1.v.1, sp_lan m1.v, r2]
          exact hq _ (MJ.ft h1 h2 h3 h4 2) (Fm.rf.put (by omega))
    · rw [if_neg (fun t => c2 t.2)] at hq
      simp (disch := omega) only [gX9_as_0, gX9_as_1, gX9_as_2, pf_9_0, gX9_as_5, gX9_as_6, gX9_as_9T, gX9_as_9F, gX9_as_12, gX9_as_13, gX9_as_14, gX9_as_15, gX9_as_18T, gX9_as_18F, gX9_as_21, gX9_as_22, gX9_as_23, gX9_as_24, fl_9_1, gX9_as_27, gX9_as_28, aJ_g, gX9_as_29, gX9_as_31T, gX9_as_31F, gX9_as_34, gX9_as_35, gX9_as_36, gX9_as_39, gX9_as_40, gX9_as_41, gX9_as_42, gX9_as_43, gX9_as_44, gX9_as_47, gX9_as_48T, gX9_as_48F, gX9_as_51, gX9_as_52, gX9_as_53, gX9_as_56, gX9_as_57, gX9_as_58, gX9_as_59, gX9_as_60T, gX9_as_60F, gX9_as_63, gX9_as_64, gX9_as_65, gX9_as_66, gX9_as_69T, gX9_as_69F, gX9_as_72, gX9_as_73, gX9_as_74, gX9_as_77, gX9_as_78, gX9_as_79, gX9_as_80, gX9_as_81, gX9_as_82, gX9_as_83, gX9_as_86, Rd_some, Wr_some, Cont_some, Cont_none, iso_O, true_and, hg_s, hg_n, hput_hput, hx, sp_mplT, sp_wiF]
      exact hq _ (MJ.ft h1 h2 h3 h4 0) (Fm.rf.put (by omega))
  · rw [if_neg (fun t => c1 t.1)] at hq
    simp (disch := omega) only [gX9_as_0, gX9_as_1, gX9_as_2, pf_9_0, gX9_as_5, gX9_as_6, gX9_as_9T, gX9_as_9F, gX9_as_12, gX9_as_13, gX9_as_14, gX9_as_15, gX9_as_18T, gX9_as_18F, gX9_as_21, gX9_as_22, gX9_as_23, gX9_as_24, fl_9_1, gX9_as_27, gX9_as_28, aJ_g, gX9_as_29, gX9_as_31T, gX9_as_31F, gX9_as_34, gX9_as_35, gX9_as_36, gX9_as_39, gX9_as_40, gX9_as_41, gX9_as_42, gX9_as_43, gX9_as_44, gX9_as_47, gX9_as_48T, gX9_as_48F, gX9_as_51, gX9_as_52, gX9_as_53, gX9_as_56, gX9_as_57, gX9_as_58, gX9_as_59, gX9_as_60T, gX9_as_60F, gX9_as_63, gX9_as_64, gX9_as_65, gX9_as_66, gX9_as_69T, gX9_as_69F, gX9_as_72, gX9_as_73, gX9_as_74, gX9_as_77, gX9_as_78, gX9_as_79, gX9_as_80, gX9_as_81, gX9_as_82, gX9_as_83, gX9_as_86, Rd_some, Wr_some, Cont_some, Cont_none, iso_O, true_and, hg_s, hg_n, hput_hput, hx, sp_mplF]
    exact hq _ (MJ.ft h1 h2 h3 h4 0) (Fm.rf.put (by omega))
end MOPS

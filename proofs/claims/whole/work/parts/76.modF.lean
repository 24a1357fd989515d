/-! m: exact products (begun by program: wip/gen/modF.py) -/
section MPR
variable {H : HP} {S : SS} {T : TT} {Q : Option Value → HP → Prop} {p i a b w n v : Int}

theorem sp_agN (h : MH H S T) (hr : MR S T) (ha : 0 ≤ a ∧ a < 12) (hb : 0 ≤ b ∧ b < 12) (hn : S.1.1 a = none ∨ S.1.1 b = none) : Go 150 0 [some (.ref 41), some (vi a), some (vi b)] [] H Q ↔ Q (some (vi (-10 - 1))) (hput H 41 (cM (wFt S 1))) := by
  cases hoa : S.1.1 a with
  | none =>
    have e1 := hr.no ha hoa
    simp (disch := omega) only [gX9_against_0, gX9_against_1, fl_9_1, gX9_against_4, gX9_against_5, aJ_g, gX9_against_6, gX9_against_8T, gX9_against_8F, gX9_against_11, gX9_against_12, gX9_against_15, gX9_against_16, gX9_against_17, gX9_against_19T, gX9_against_19F, gX9_against_22, gX9_against_23, gX9_against_24, gX9_against_27, gX9_against_28, gX9_against_29, gX9_against_30, gX9_against_33, gX9_against_34T, gX9_against_34F, gX9_against_37, gX9_against_38, gX9_against_39, gX9_against_42, gX9_against_43T, gX9_against_43F, gX9_against_46, gX9_against_47, gX9_against_48, gX9_against_51, gX9_against_54, gX9_against_55, Rd_some, Wr_some, Cont_some, Cont_none, iso_O, true_and, hg_s, hg_n, hput_hput, gX9_fails_0, gX9_fails_1, gX9_fails_2, pf_9_0, gX9_fails_5, gX9_fails_7, gX9_fails_8, gX9_fails_9, Rd_some, Wr_some, Cont_some, Cont_none, iso_O, true_and, hg_s, hg_n, hput_hput, h.v.1, h.v.2.1]
    exact Iff.rfl
  | some k =>
    rcases hn with hn | hn
    · rw [hoa] at hn; cases hn
    · have e1 := (hr.ro ha hoa).1
      have e2 := hr.no hb hn
      simp (disch := omega) only [gX9_against_0, gX9_against_1, fl_9_1, gX9_against_4, gX9_against_5, aJ_g, gX9_against_6, gX9_against_8T, gX9_against_8F, gX9_against_11, gX9_against_12, gX9_against_15, gX9_against_16, gX9_against_17, gX9_against_19T, gX9_against_19F, gX9_against_22, gX9_against_23, gX9_against_24, gX9_against_27, gX9_against_28, gX9_against_29, gX9_against_30, gX9_against_33, gX9_against_34T, gX9_against_34F, gX9_against_37, gX9_against_38, gX9_against_39, gX9_against_42, gX9_against_43T, gX9_against_43F, gX9_against_46, gX9_against_47, gX9_against_48, gX9_against_51, gX9_against_54, gX9_against_55, Rd_some, Wr_some, Cont_some, Cont_none, iso_O, true_and, hg_s, hg_n, hput_hput, gX9_fails_0, gX9_fails_1, gX9_fails_2, pf_9_0, gX9_fails_5, gX9_fails_7, gX9_fails_8, gX9_fails_9, Rd_some, Wr_some, Cont_some, Cont_none, iso_O, true_and, hg_s, hg_n, hput_hput, h.v.1, h.v.2.1]
      exact Iff.rfl
theorem sp_agO (h : MH H S T) (hr : MR S T) (ha : 0 ≤ a ∧ a < 12) (hb : 0 ≤ b ∧ b < 12) {k l : Nat} (hoa : S.1.1 a = some k) (hob : S.1.1 b = some l) (la : 0 ≤ (S.1.2 k).1 ∧ (S.1.2 k).1 ≤ 4) (lb : 0 ≤ (S.1.2 l).1 ∧ (S.1.2 l).1 ≤ 4) (hl : (S.1.2 k).1 ≤ 2 ∧ (S.1.2 l).1 ≤ 2) : Go 150 0 [some (.ref 41), some (vi a), some (vi b)] [] H Q ↔ Q (some (vi 0)) H := by
  obtain ⟨a1, a2, -, -⟩ := hr.ro ha hoa
  obtain ⟨b1, b2, -, -⟩ := hr.ro hb hob
  simp (disch := omega) only [gX9_against_0, gX9_against_1, fl_9_1, gX9_against_4, gX9_against_5, aJ_g, gX9_against_6, gX9_against_8T, gX9_against_8F, gX9_against_11, gX9_against_12, gX9_against_15, gX9_against_16, gX9_against_17, gX9_against_19T, gX9_against_19F, gX9_against_22, gX9_against_23, gX9_against_24, gX9_against_27, gX9_against_28, gX9_against_29, gX9_against_30, gX9_against_33, gX9_against_34T, gX9_against_34F, gX9_against_37, gX9_against_38, gX9_against_39, gX9_against_42, gX9_against_43T, gX9_against_43F, gX9_against_46, gX9_against_47, gX9_against_48, gX9_against_51, gX9_against_54, gX9_against_55, Rd_some, Wr_some, Cont_some, Cont_none, iso_O, true_and, hg_s, hg_n, hput_hput, h.v.1, h.v.2.1, sp_lan h.v, a2, b2]
theorem sp_agC (h : MH H S T) (hr : MR S T) (ha : 0 ≤ a ∧ a < 12) (hb : 0 ≤ b ∧ b < 12) {k l : Nat} (hoa : S.1.1 a = some k) (hob : S.1.1 b = some l) (la : 0 ≤ (S.1.2 k).1 ∧ (S.1.2 k).1 ≤ 4) (lb : 0 ≤ (S.1.2 l).1 ∧ (S.1.2 l).1 ≤ 4) (hl : ¬ ((S.1.2 k).1 ≤ 2 ∧ (S.1.2 l).1 ≤ 2)) : Go 150 0 [some (.ref 41), some (vi a), some (vi b)] [] H Q ↔ Q (some (vi (-10 - 2))) (hput H 41 (cM (wFt S 2))) := by
  obtain ⟨a1, a2, -, -⟩ := hr.ro ha hoa
  obtain ⟨b1, b2, -, -⟩ := hr.ro hb hob
  by_cases hk : (S.1.2 k).1 ≤ 2 <;> simp (disch := omega) only [gX9_against_0, gX9_against_1, fl_9_1, gX9_against_4, gX9_against_5, aJ_g, gX9_against_6, gX9_against_8T, gX9_against_8F, gX9_against_11, gX9_against_12, gX9_against_15, gX9_against_16, gX9_against_17, gX9_against_19T, gX9_against_19F, gX9_against_22, gX9_against_23, gX9_against_24, gX9_against_27, gX9_against_28, gX9_against_29, gX9_against_30, gX9_against_33, gX9_against_34T, gX9_against_34F, gX9_against_37, gX9_against_38, gX9_against_39, gX9_against_42, gX9_against_43T, gX9_against_43F, gX9_against_46, gX9_against_47, gX9_against_48, gX9_against_51, gX9_against_54, gX9_against_55, Rd_some, Wr_some, Cont_some, Cont_none, iso_O, true_and, hg_s, hg_n, hput_hput, gX9_fails_0, gX9_fails_1, gX9_fails_2, pf_9_0, gX9_fails_5, gX9_fails_7, gX9_fails_8, gX9_fails_9, Rd_some, Wr_some, Cont_some, Cont_none, iso_O, true_and, hg_s, hg_n, hput_hput, h.v.1, h.v.2.1, sp_lan h.v, a2, b2] <;> exact Iff.rfl

theorem sp_a2N (h : MH H S T) (hr : MR S T) (ha : 0 ≤ a ∧ a < 12) (hb : 0 ≤ b ∧ b < 12) (hn : S.1.1 a = none ∨ S.1.1 b = none) : Go 164 0 [some (.ref 41), some (vi a), some (vi b)] [] H Q ↔ Q (some (vi (-10 - 1))) (hput H 41 (cM (wFt S 1))) := by
  cases hoa : S.1.1 a with
  | none =>
    have e1 := hr.no ha hoa
    simp (disch := omega) only [gX9_againstTwo_0, gX9_againstTwo_1, fl_9_1, gX9_againstTwo_4, gX9_againstTwo_5, aJ_g, gX9_againstTwo_6, gX9_againstTwo_8T, gX9_againstTwo_8F, gX9_againstTwo_11, gX9_againstTwo_12, gX9_againstTwo_15, gX9_againstTwo_16, gX9_againstTwo_17, gX9_againstTwo_19T, gX9_againstTwo_19F, gX9_againstTwo_22, gX9_againstTwo_23, gX9_againstTwo_24, gX9_againstTwo_27, gX9_againstTwo_28, gX9_againstTwo_29, gX9_againstTwo_30, gX9_againstTwo_33, gX9_againstTwo_34T, gX9_againstTwo_34F, gX9_againstTwo_37, gX9_againstTwo_38, gX9_againstTwo_39, gX9_againstTwo_42, gX9_againstTwo_43T, gX9_againstTwo_43F, gX9_againstTwo_46, gX9_againstTwo_47, gX9_againstTwo_48, gX9_againstTwo_51, gX9_againstTwo_54, gX9_againstTwo_55, Rd_some, Wr_some, Cont_some, Cont_none, iso_O, true_and, hg_s, hg_n, hput_hput, gX9_fails_0, gX9_fails_1, gX9_fails_2, pf_9_0, gX9_fails_5, gX9_fails_7, gX9_fails_8, gX9_fails_9, Rd_some, Wr_some, Cont_some, Cont_none, iso_O, true_and, hg_s, hg_n, hput_hput, h.v.1, h.v.2.1]
    exact Iff.rfl
  | some k =>
    rcases hn with hn | hn
    · rw [hoa] at hn; cases hn
    · have e1 := (hr.ro ha hoa).1
      have e2 := hr.no hb hn
      simp (disch := omega) only [gX9_againstTwo_0, gX9_againstTwo_1, fl_9_1, gX9_againstTwo_4, gX9_againstTwo_5, aJ_g, gX9_againstTwo_6, gX9_againstTwo_8T, gX9_againstTwo_8F, gX9_againstTwo_11, gX9_againstTwo_12, gX9_againstTwo_15, gX9_againstTwo_16, gX9_againstTwo_17, gX9_againstTwo_19T, gX9_againstTwo_19F, gX9_againstTwo_22, gX9_againstTwo_23, gX9_againstTwo_24, gX9_againstTwo_27, gX9_againstTwo_28, gX9_againstTwo_29, gX9_againstTwo_30, gX9_againstTwo_33, gX9_againstTwo_34T, gX9_againstTwo_34F, gX9_againstTwo_37, gX9_againstTwo_38, gX9_againstTwo_39, gX9_againstTwo_42, gX9_againstTwo_43T, gX9_againstTwo_43F, gX9_againstTwo_46, gX9_againstTwo_47, gX9_againstTwo_48, gX9_againstTwo_51, gX9_againstTwo_54, gX9_againstTwo_55, Rd_some, Wr_some, Cont_some, Cont_none, iso_O, true_and, hg_s, hg_n, hput_hput, gX9_fails_0, gX9_fails_1, gX9_fails_2, pf_9_0, gX9_fails_5, gX9_fails_7, gX9_fails_8, gX9_fails_9, Rd_some, Wr_some, Cont_some, Cont_none, iso_O, true_and, hg_s, hg_n, hput_hput, h.v.1, h.v.2.1]
      exact Iff.rfl
theorem sp_a2O (h : MH H S T) (hr : MR S T) (ha : 0 ≤ a ∧ a < 12) (hb : 0 ≤ b ∧ b < 12) {k l : Nat} (hoa : S.1.1 a = some k) (hob : S.1.1 b = some l) (la : 0 ≤ (S.1.2 k).1 ∧ (S.1.2 k).1 ≤ 4) (lb : 0 ≤ (S.1.2 l).1 ∧ (S.1.2 l).1 ≤ 4) (hl : (S.1.2 k).1 ≤ 3 ∧ (S.1.2 l).1 ≤ 3) : Go 164 0 [some (.ref 41), some (vi a), some (vi b)] [] H Q ↔ Q (some (vi 0)) H := by
  obtain ⟨a1, a2, -, -⟩ := hr.ro ha hoa
  obtain ⟨b1, b2, -, -⟩ := hr.ro hb hob
  simp (disch := omega) only [gX9_againstTwo_0, gX9_againstTwo_1, fl_9_1, gX9_againstTwo_4, gX9_againstTwo_5, aJ_g, gX9_againstTwo_6, gX9_againstTwo_8T, gX9_againstTwo_8F, gX9_againstTwo_11, gX9_againstTwo_12, gX9_againstTwo_15, gX9_againstTwo_16, gX9_againstTwo_17, gX9_againstTwo_19T, gX9_againstTwo_19F, gX9_againstTwo_22, gX9_againstTwo_23, gX9_againstTwo_24, gX9_againstTwo_27, gX9_againstTwo_28, gX9_againstTwo_29, gX9_againstTwo_30, gX9_againstTwo_33, gX9_againstTwo_34T, gX9_againstTwo_34F, gX9_againstTwo_37, gX9_againstTwo_38, gX9_againstTwo_39, gX9_againstTwo_42, gX9_againstTwo_43T, gX9_againstTwo_43F, gX9_againstTwo_46, gX9_againstTwo_47, gX9_againstTwo_48, gX9_againstTwo_51, gX9_againstTwo_54, gX9_againstTwo_55, Rd_some, Wr_some, Cont_some, Cont_none, iso_O, true_and, hg_s, hg_n, hput_hput, h.v.1, h.v.2.1, sp_lan h.v, a2, b2]
theorem sp_a2C (h : MH H S T) (hr : MR S T) (ha : 0 ≤ a ∧ a < 12) (hb : 0 ≤ b ∧ b < 12) {k l : Nat} (hoa : S.1.1 a = some k) (hob : S.1.1 b = some l) (la : 0 ≤ (S.1.2 k).1 ∧ (S.1.2 k).1 ≤ 4) (lb : 0 ≤ (S.1.2 l).1 ∧ (S.1.2 l).1 ≤ 4) (hl : ¬ ((S.1.2 k).1 ≤ 3 ∧ (S.1.2 l).1 ≤ 3)) : Go 164 0 [some (.ref 41), some (vi a), some (vi b)] [] H Q ↔ Q (some (vi (-10 - 2))) (hput H 41 (cM (wFt S 2))) := by
  obtain ⟨a1, a2, -, -⟩ := hr.ro ha hoa
  obtain ⟨b1, b2, -, -⟩ := hr.ro hb hob
  by_cases hk : (S.1.2 k).1 ≤ 3 <;> simp (disch := omega) only [gX9_againstTwo_0, gX9_againstTwo_1, fl_9_1, gX9_againstTwo_4, gX9_againstTwo_5, aJ_g, gX9_againstTwo_6, gX9_againstTwo_8T, gX9_againstTwo_8F, gX9_againstTwo_11, gX9_againstTwo_12, gX9_againstTwo_15, gX9_againstTwo_16, gX9_againstTwo_17, gX9_againstTwo_19T, gX9_againstTwo_19F, gX9_againstTwo_22, gX9_againstTwo_23, gX9_againstTwo_24, gX9_againstTwo_27, gX9_againstTwo_28, gX9_againstTwo_29, gX9_againstTwo_30, gX9_againstTwo_33, gX9_againstTwo_34T, gX9_againstTwo_34F, gX9_againstTwo_37, gX9_againstTwo_38, gX9_againstTwo_39, gX9_againstTwo_42, gX9_againstTwo_43T, gX9_againstTwo_43F, gX9_againstTwo_46, gX9_againstTwo_47, gX9_againstTwo_48, gX9_againstTwo_51, gX9_againstTwo_54, gX9_againstTwo_55, Rd_some, Wr_some, Cont_some, Cont_none, iso_O, true_and, hg_s, hg_n, hput_hput, gX9_fails_0, gX9_fails_1, gX9_fails_2, pf_9_0, gX9_fails_5, gX9_fails_7, gX9_fails_8, gX9_fails_9, Rd_some, Wr_some, Cont_some, Cont_none, iso_O, true_and, hg_s, hg_n, hput_hput, h.v.1, h.v.2.1, sp_lan h.v, a2, b2] <;> exact Iff.rfl

theorem MJ.mk' {H1 : HP} (h1 : MH H1 (wFt S 0) T) (h2 : MR S T) (h3 : SI S) (h4 : ∀ k, live S k → rok (S.1.2 k)) : MJ H1 (wFt S 0) := ⟨T, h1, h2, h3, h4⟩

theorem mx_mul (hm : MJ H S) (c : (-2147483648 ≤ a ∧ a ≤ 2147483647) ∧ (-2147483648 ≤ b ∧ b ≤ 2147483647) ∧ (-2147483648 ≤ w ∧ w ≤ 2147483647)) (hq : MG H Q (o_mul S a b w)) : Go 152 0 [some (.ref 41), some (vi a), some (vi b), some (vi w), none, none, none, none, none] [] H Q := by
  obtain ⟨T, h1, h2, h3, h4⟩ := hm
  have hx := h1.v.1
  unfold o_mul MG at hq
  by_cases ha : 0 ≤ a ∧ a < 12
  · by_cases hb : 0 ≤ b ∧ b < 12
    · rw [if_pos ⟨ha, hb⟩] at hq
      by_cases hv0 : 0 ≤ w ∧ w ≤ 2
      · rw [if_pos hv0] at hq
        have m1 := h1.ft 0
        unfold o_two at hq
        simp (disch := omega) only [gX9_multiply_0, gX9_multiply_1, gX9_multiply_2, pf_9_0, gX9_multiply_5, gX9_multiply_6, gX9_multiply_9T, gX9_multiply_9F, gX9_multiply_12, gX9_multiply_13, gX9_multiply_16T, gX9_multiply_16F, gX9_multiply_19, gX9_multiply_20, gX9_multiply_21, gX9_multiply_22, gX9_multiply_23, gX9_multiply_24, gX9_multiply_27T, gX9_multiply_27F, gX9_multiply_30, gX9_multiply_32, gX9_multiply_33, gX9_multiply_34, gX9_multiply_35, gX9_multiply_36, Rd_some, Wr_some, Cont_some, Cont_none, iso_O, true_and, hg_s, hg_n, hput_hput, hx, sp_mplT, sp_wiT]
        change Go _ _ _ _ (hput H 41 (cM (wFt S 0))) _
        cases hoa : S.1.1 a with
        | none =>
          cases hob : S.1.1 b with
          | none =>
            rw [hoa, hob] at hq
            dsimp only at hq
            rw [sp_agN (S := wFt S 0) m1 h2 ha hb (Or.inl hoa)]
            simp (disch := omega) only [gX9_multiply_39, gX9_multiply_41, gX9_multiply_43T, gX9_multiply_43F, gX9_multiply_46, gX9_multiply_48, Rd_some, Wr_some, Cont_some, Cont_none, iso_O, true_and, hg_s, hg_n, hput_hput]
            exact hq _ (MJ.ft h1 h2 h3 h4 1) (Fm.rf.put (by omega))
          | some l =>
            rw [hoa, hob] at hq
            dsimp only at hq
            rw [sp_agN (S := wFt S 0) m1 h2 ha hb (Or.inl hoa)]
            simp (disch := omega) only [gX9_multiply_39, gX9_multiply_41, gX9_multiply_43T, gX9_multiply_43F, gX9_multiply_46, gX9_multiply_48, Rd_some, Wr_some, Cont_some, Cont_none, iso_O, true_and, hg_s, hg_n, hput_hput]
            exact hq _ (MJ.ft h1 h2 h3 h4 1) (Fm.rf.put (by omega))
        | some k =>
          cases hob : S.1.1 b with
          | none =>
            rw [hoa, hob] at hq
            dsimp only at hq
            rw [sp_agN (S := wFt S 0) m1 h2 ha hb (Or.inr hob)]
            simp (disch := omega) only [gX9_multiply_39, gX9_multiply_41, gX9_multiply_43T, gX9_multiply_43F, gX9_multiply_46, gX9_multiply_48, Rd_some, Wr_some, Cont_some, Cont_none, iso_O, true_and, hg_s, hg_n, hput_hput]
            exact hq _ (MJ.ft h1 h2 h3 h4 1) (Fm.rf.put (by omega))
          | some l =>
            rw [hoa, hob] at hq
            dsimp only at hq
            have ka := h4 k ⟨a, ha.1, ha.2, hoa⟩
            have kb := h4 l ⟨b, hb.1, hb.2, hob⟩
            have la := ka.1
            have lb := kb.1
            by_cases hl : (S.1.2 k).1 ≤ 2 ∧ (S.1.2 l).1 ≤ 2
            · rw [if_pos hl] at hq
              rw [sp_agO (S := wFt S 0) m1 h2 ha hb hoa hob la lb hl]
              have va : VR (hput H 41 (cM (wFt S 0))) (wFt S 0) a (S.1.2 k) := m1.vr (S := wFt S 0) h2 h4 ha hoa
              have vb : VR (hput H 41 (cM (wFt S 0))) (wFt S 0) b (S.1.2 l) := m1.vr (S := wFt S 0) h2 h4 hb hob
              have f1 : Fm 41 60 H (hput H 41 (cM (wFt S 0))) := Fm.rf.put (by omega)
              generalize hput H 41 (cM (wFt S 0)) = H1 at m1 va vb f1
              simp (disch := omega) only [gX9_multiply_39, gX9_multiply_41, gX9_multiply_43T, gX9_multiply_43F, gX9_multiply_46, gX9_multiply_48, Rd_some, Wr_some, Cont_some, Cont_none, iso_O, true_and, hg_s, hg_n, hput_hput]
              have sA := ka.2.2.2 hl.1
              have sB := kb.2.2.2 hl.2
              have nA := ka.2.1
              have nB := kb.2.1
              have g1 := gs_r sA (S.1.2 k).2.1.toNat (by omega)
              have g2 := gs_r sB (S.1.2 l).2.1.toNat (by omega)
              have g3 : 0 ≤ gs (S.1.2 k).2.2 (S.1.2 k).2.1.toNat 0 * gs (S.1.2 l).2.2 (S.1.2 l).2.1.toNat 0 := Int.mul_nonneg g1.1 g2.1
              have g4 : gs (S.1.2 k).2.2 (S.1.2 k).2.1.toNat 0 * gs (S.1.2 l).2.2 (S.1.2 l).2.1.toNat 0 ≤ 2147483648 * 2147483648 := Int.mul_le_mul g1.2 g2.2 g2.1 (by decide)
              simp (disch := omega) only [gX9_multiply_49, gX9_multiply_50, gX9_multiply_51, gX9_multiply_54, gX9_multiply_55, gX9_multiply_56, gX9_multiply_59, gX9_multiply_60, Rd_some, Wr_some, Cont_some, Cont_none, iso_O, true_and, hg_s, hg_n, hput_hput, va.1, sp_great va sA, sp_great vb sB]
              generalize gs (S.1.2 k).2.2 (S.1.2 k).2.1.toNat 0 * gs (S.1.2 l).2.2 (S.1.2 l).2.1.toNat 0 = G at *
              have p0 : PV 0 = 998244353 := rfl
              by_cases hw1 : w = 1
              · by_cases hfit : G < 998244353 ∧ 2 * min (S.1.2 k).2.1 (S.1.2 l).2.1 * G < 998244353
                · rw [if_neg (fun t => t.2 hfit)] at hq
                  have g5 : 0 ≤ 2 * min (S.1.2 k).2.1 (S.1.2 l).2.1 * G := Int.mul_nonneg (by omega) g3
                  by_cases hmn : (S.1.2 k).2.1 < (S.1.2 l).2.1
                  · rw [Int.min_eq_left (by omega)] at hfit g5
                    simp (disch := omega) only [gX9_multiply_62, gX9_multiply_63, gX9_multiply_64T, gX9_multiply_64F, gX9_multiply_67, gX9_multiply_69, gX9_multiply_70, gX9_multiply_73T, gX9_multiply_73F, gX9_multiply_74T, gX9_multiply_74F, gX9_multiply_77, gX9_multiply_80, gX9_multiply_81, gX9_multiply_82, gX9_multiply_85, gX9_multiply_86, gX9_multiply_87, gX9_multiply_90T, gX9_multiply_90F, gX9_multiply_93, gX9_multiply_94, gX9_multiply_95, gX9_multiply_98, gX9_multiply_101, gX9_multiply_102, gX9_multiply_103, gX9_multiply_106, gX9_multiply_107, gX9_multiply_108, gX9_multiply_110, gX9_multiply_111, gX9_multiply_112, gX9_multiply_115T, gX9_multiply_115F, gX9_multiply_116T, gX9_multiply_116F, gX9_multiply_119, gX9_multiply_121, gX9_multiply_122, gX9_multiply_123, gX9_multiply_124, gX9_multiply_125, gX9_multiply_128, gX9_multiply_129, gX9_multiply_130, gX9_multiply_133, gX9_multiply_134, gX9_multiply_135, gX9_multiply_136, Rd_some, Wr_some, Cont_some, Cont_none, iso_O, true_and, hg_s, hg_n, hput_hput, va.1, vr_cnt va, vr_cnt vb, sp_prime, p0]
                    refine sp_clearP m1 (fun j => cv (S.1.2 k).2.2 (S.1.2 k).2.1 (S.1.2 l).2.2 (S.1.2 l).2.1 j) (by omega) (fun H2 s1 s2 e' z1 z2 => ?_)
                    have wA : ∀ H', Fm 47 48 H2 H' → VR H' (wSh (wFt S 0) 2 ((S.1.2 k).2.1 + (S.1.2 l).2.1 - 1) (fun j => cv (S.1.2 k).2.2 (S.1.2 k).2.1 (S.1.2 l).2.2 (S.1.2 l).2.1 j)) a (S.1.2 k) := fun H' f => m1.vr2 (S := wFt S 0) h2 h4 ha hoa (by rw [f.2.2 41 (by omega)]; exact z1) (fun x x1 x2 => by rw [f.2.2 x (by omega)]; exact e' x (by omega) (by omega) (by omega))
                    have wB : ∀ H', Fm 47 48 H2 H' → VR H' (wSh (wFt S 0) 2 ((S.1.2 k).2.1 + (S.1.2 l).2.1 - 1) (fun j => cv (S.1.2 k).2.2 (S.1.2 k).2.1 (S.1.2 l).2.2 (S.1.2 l).2.1 j)) b (S.1.2 l) := fun H' f => m1.vr2 (S := wFt S 0) h2 h4 hb hob (by rw [f.2.2 41 (by omega)]; exact z1) (fun x x1 x2 => by rw [f.2.2 x (by omega)]; exact e' x (by omega) (by omega) (by omega))
                    simp (disch := omega) only [gX9_multiply_139, gX9_multiply_140, Rd_some, Wr_some, Cont_some, Cont_none, iso_O, true_and, hg_s, hg_n, hput_hput]
                    refine lp_mul1 wA wB sA sB rfl (fun H' l7 l8 f' p' => ?_) (S.1.2 k).2.1.toNat 0 H2 _ (by omega) (by omega) Fm.rf (z2.cg (fun m _ _ => rfl))
                    simp (disch := omega) only [gX9_multiply_201, gX9_multiply_202, fl_9_8, gX9_multiply_205, Rd_some, Wr_some, Cont_some, Cont_none, iso_O, true_and, hg_s, hg_n, hput_hput, (wA H' f').1]
                    exact hq _ (MJ.prod (S1 := wFt S 0) m1 h2 h3 h4 (fun x x1 x2 y1 y2 y3 => (f'.2.2 x (by omega)).trans (e' x y1 y2 y3)) (by rw [f'.2.2 41 (by omega)]; exact z1) p' (by omega) (cv_V sA sB (by omega))) ⟨by rw [f'.1, s1, f1.1], by rw [f'.2.1, s2, f1.2.1], fun x hx => by rw [f'.2.2 x (by omega), e' x (by omega) (by omega) (by omega)]; exact f1.2.2 x hx⟩
                  · rw [Int.min_eq_right (by omega)] at hfit g5
                    simp (disch := omega) only [gX9_multiply_62, gX9_multiply_63, gX9_multiply_64T, gX9_multiply_64F, gX9_multiply_67, gX9_multiply_69, gX9_multiply_70, gX9_multiply_73T, gX9_multiply_73F, gX9_multiply_74T, gX9_multiply_74F, gX9_multiply_77, gX9_multiply_80, gX9_multiply_81, gX9_multiply_82, gX9_multiply_85, gX9_multiply_86, gX9_multiply_87, gX9_multiply_90T, gX9_multiply_90F, gX9_multiply_93, gX9_multiply_94, gX9_multiply_95, gX9_multiply_98, gX9_multiply_101, gX9_multiply_102, gX9_multiply_103, gX9_multiply_106, gX9_multiply_107, gX9_multiply_108, gX9_multiply_110, gX9_multiply_111, gX9_multiply_112, gX9_multiply_115T, gX9_multiply_115F, gX9_multiply_116T, gX9_multiply_116F, gX9_multiply_119, gX9_multiply_121, gX9_multiply_122, gX9_multiply_123, gX9_multiply_124, gX9_multiply_125, gX9_multiply_128, gX9_multiply_129, gX9_multiply_130, gX9_multiply_133, gX9_multiply_134, gX9_multiply_135, gX9_multiply_136, Rd_some, Wr_some, Cont_some, Cont_none, iso_O, true_and, hg_s, hg_n, hput_hput, va.1, vr_cnt va, vr_cnt vb, sp_prime, p0]
                    refine sp_clearP m1 (fun j => cv (S.1.2 k).2.2 (S.1.2 k).2.1 (S.1.2 l).2.2 (S.1.2 l).2.1 j) (by omega) (fun H2 s1 s2 e' z1 z2 => ?_)
                    have wA : ∀ H', Fm 47 48 H2 H' → VR H' (wSh (wFt S 0) 2 ((S.1.2 k).2.1 + (S.1.2 l).2.1 - 1) (fun j => cv (S.1.2 k).2.2 (S.1.2 k).2.1 (S.1.2 l).2.2 (S.1.2 l).2.1 j)) a (S.1.2 k) := fun H' f => m1.vr2 (S := wFt S 0) h2 h4 ha hoa (by rw [f.2.2 41 (by omega)]; exact z1) (fun x x1 x2 => by rw [f.2.2 x (by omega)]; exact e' x (by omega) (by omega) (by omega))
                    have wB : ∀ H', Fm 47 48 H2 H' → VR H' (wSh (wFt S 0) 2 ((S.1.2 k).2.1 + (S.1.2 l).2.1 - 1) (fun j => cv (S.1.2 k).2.2 (S.1.2 k).2.1 (S.1.2 l).2.2 (S.1.2 l).2.1 j)) b (S.1.2 l) := fun H' f => m1.vr2 (S := wFt S 0) h2 h4 hb hob (by rw [f.2.2 41 (by omega)]; exact z1) (fun x x1 x2 => by rw [f.2.2 x (by omega)]; exact e' x (by omega) (by omega) (by omega))
                    simp (disch := omega) only [gX9_multiply_139, gX9_multiply_140, Rd_some, Wr_some, Cont_some, Cont_none, iso_O, true_and, hg_s, hg_n, hput_hput]
                    refine lp_mul1 wA wB sA sB rfl (fun H' l7 l8 f' p' => ?_) (S.1.2 k).2.1.toNat 0 H2 _ (by omega) (by omega) Fm.rf (z2.cg (fun m _ _ => rfl))
                    simp (disch := omega) only [gX9_multiply_201, gX9_multiply_202, fl_9_8, gX9_multiply_205, Rd_some, Wr_some, Cont_some, Cont_none, iso_O, true_and, hg_s, hg_n, hput_hput, (wA H' f').1]
                    exact hq _ (MJ.prod (S1 := wFt S 0) m1 h2 h3 h4 (fun x x1 x2 y1 y2 y3 => (f'.2.2 x (by omega)).trans (e' x y1 y2 y3)) (by rw [f'.2.2 41 (by omega)]; exact z1) p' (by omega) (cv_V sA sB (by omega))) ⟨by rw [f'.1, s1, f1.1], by rw [f'.2.1, s2, f1.2.1], fun x hx => by rw [f'.2.2 x (by omega), e' x (by omega) (by omega) (by omega)]; exact f1.2.2 x hx⟩
                · rw [if_pos ⟨hw1, hfit⟩] at hq
                  by_cases hG : G < 998244353
                  · have g5 : 0 ≤ 2 * min (S.1.2 k).2.1 (S.1.2 l).2.1 * G := Int.mul_nonneg (by omega) g3
                    have g6 : 2 * min (S.1.2 k).2.1 (S.1.2 l).2.1 * G ≤ 128 * 998244353 := Int.mul_le_mul (by omega) (by omega) g3 (by decide)
                    have g7 : ¬ 2 * min (S.1.2 k).2.1 (S.1.2 l).2.1 * G < 998244353 := fun t => hfit ⟨hG, t⟩
                    by_cases hmn : (S.1.2 k).2.1 < (S.1.2 l).2.1
                    · rw [Int.min_eq_left (by omega)] at g5 g6 g7
                      simp (disch := omega) only [gX9_multiply_62, gX9_multiply_63, gX9_multiply_64T, gX9_multiply_64F, gX9_multiply_67, gX9_multiply_69, gX9_multiply_70, gX9_multiply_73T, gX9_multiply_73F, gX9_multiply_74T, gX9_multiply_74F, gX9_multiply_77, gX9_multiply_80, gX9_multiply_81, gX9_multiply_82, gX9_multiply_85, gX9_multiply_86, gX9_multiply_87, gX9_multiply_90T, gX9_multiply_90F, gX9_multiply_93, gX9_multiply_94, gX9_multiply_95, gX9_multiply_98, gX9_multiply_101, gX9_multiply_102, gX9_multiply_103, gX9_multiply_106, gX9_multiply_107, gX9_multiply_108, gX9_multiply_110, gX9_multiply_111, gX9_multiply_112, gX9_multiply_115T, gX9_multiply_115F, gX9_multiply_116T, gX9_multiply_116F, gX9_multiply_119, gX9_multiply_121, Rd_some, Wr_some, Cont_some, Cont_none, iso_O, true_and, hg_s, hg_n, hput_hput, va.1, vr_cnt va, vr_cnt vb, sp_prime, p0]
                      exact hq _ (MJ.mk' m1 h2 h3 h4) f1
                    · rw [Int.min_eq_right (by omega)] at g5 g6 g7
                      simp (disch := omega) only [gX9_multiply_62, gX9_multiply_63, gX9_multiply_64T, gX9_multiply_64F, gX9_multiply_67, gX9_multiply_69, gX9_multiply_70, gX9_multiply_73T, gX9_multiply_73F, gX9_multiply_74T, gX9_multiply_74F, gX9_multiply_77, gX9_multiply_80, gX9_multiply_81, gX9_multiply_82, gX9_multiply_85, gX9_multiply_86, gX9_multiply_87, gX9_multiply_90T, gX9_multiply_90F, gX9_multiply_93, gX9_multiply_94, gX9_multiply_95, gX9_multiply_98, gX9_multiply_101, gX9_multiply_102, gX9_multiply_103, gX9_multiply_106, gX9_multiply_107, gX9_multiply_108, gX9_multiply_110, gX9_multiply_111, gX9_multiply_112, gX9_multiply_115T, gX9_multiply_115F, gX9_multiply_116T, gX9_multiply_116F, gX9_multiply_119, gX9_multiply_121, Rd_some, Wr_some, Cont_some, Cont_none, iso_O, true_and, hg_s, hg_n, hput_hput, va.1, vr_cnt va, vr_cnt vb, sp_prime, p0]
                      exact hq _ (MJ.mk' m1 h2 h3 h4) f1
                  · simp (disch := omega) only [gX9_multiply_62, gX9_multiply_63, gX9_multiply_64T, gX9_multiply_64F, gX9_multiply_67, gX9_multiply_69, gX9_multiply_70, gX9_multiply_73T, gX9_multiply_73F, gX9_multiply_74T, gX9_multiply_74F, gX9_multiply_77, gX9_multiply_80, gX9_multiply_81, gX9_multiply_82, gX9_multiply_85, gX9_multiply_86, gX9_multiply_87, gX9_multiply_90T, gX9_multiply_90F, gX9_multiply_93, gX9_multiply_94, gX9_multiply_95, gX9_multiply_98, gX9_multiply_101, gX9_multiply_102, gX9_multiply_103, gX9_multiply_106, gX9_multiply_107, gX9_multiply_108, gX9_multiply_110, gX9_multiply_111, gX9_multiply_112, gX9_multiply_115T, gX9_multiply_115F, gX9_multiply_116T, gX9_multiply_116F, gX9_multiply_119, gX9_multiply_121, Rd_some, Wr_some, Cont_some, Cont_none, iso_O, true_and, hg_s, hg_n, hput_hput, va.1, sp_prime, p0]
                    exact hq _ (MJ.mk' m1 h2 h3 h4) f1
              · rw [if_neg (fun t => hw1 t.1)] at hq
                simp (disch := omega) only [gX9_multiply_62, gX9_multiply_63, gX9_multiply_64T, gX9_multiply_64F, gX9_multiply_67, gX9_multiply_69, gX9_multiply_70, gX9_multiply_73T, gX9_multiply_73F, gX9_multiply_74T, gX9_multiply_74F, gX9_multiply_77, gX9_multiply_80, gX9_multiply_81, gX9_multiply_82, gX9_multiply_85, gX9_multiply_86, gX9_multiply_87, gX9_multiply_90T, gX9_multiply_90F, gX9_multiply_93, gX9_multiply_94, gX9_multiply_95, gX9_multiply_98, gX9_multiply_101, gX9_multiply_102, gX9_multiply_103, gX9_multiply_106, gX9_multiply_107, gX9_multiply_108, gX9_multiply_110, gX9_multiply_111, gX9_multiply_112, gX9_multiply_115T, gX9_multiply_115F, gX9_multiply_116T, gX9_multiply_116F, gX9_multiply_119, gX9_multiply_121, gX9_multiply_122, gX9_multiply_123, gX9_multiply_124, gX9_multiply_125, gX9_multiply_128, gX9_multiply_129, gX9_multiply_130, gX9_multiply_133, gX9_multiply_134, gX9_multiply_135, gX9_multiply_136, Rd_some, Wr_some, Cont_some, Cont_none, iso_O, true_and, hg_s, hg_n, hput_hput, va.1, vr_cnt va, vr_cnt vb, sp_prime]
                refine sp_clearP m1 (fun j => cv (S.1.2 k).2.2 (S.1.2 k).2.1 (S.1.2 l).2.2 (S.1.2 l).2.1 j) (by omega) (fun H2 s1 s2 e' z1 z2 => ?_)
                have wA : ∀ H', Fm 47 48 H2 H' → VR H' (wSh (wFt S 0) 2 ((S.1.2 k).2.1 + (S.1.2 l).2.1 - 1) (fun j => cv (S.1.2 k).2.2 (S.1.2 k).2.1 (S.1.2 l).2.2 (S.1.2 l).2.1 j)) a (S.1.2 k) := fun H' f => m1.vr2 (S := wFt S 0) h2 h4 ha hoa (by rw [f.2.2 41 (by omega)]; exact z1) (fun x x1 x2 => by rw [f.2.2 x (by omega)]; exact e' x (by omega) (by omega) (by omega))
                have wB : ∀ H', Fm 47 48 H2 H' → VR H' (wSh (wFt S 0) 2 ((S.1.2 k).2.1 + (S.1.2 l).2.1 - 1) (fun j => cv (S.1.2 k).2.2 (S.1.2 k).2.1 (S.1.2 l).2.2 (S.1.2 l).2.1 j)) b (S.1.2 l) := fun H' f => m1.vr2 (S := wFt S 0) h2 h4 hb hob (by rw [f.2.2 41 (by omega)]; exact z1) (fun x x1 x2 => by rw [f.2.2 x (by omega)]; exact e' x (by omega) (by omega) (by omega))
                simp (disch := omega) only [gX9_multiply_139, gX9_multiply_140, Rd_some, Wr_some, Cont_some, Cont_none, iso_O, true_and, hg_s, hg_n, hput_hput]
                refine lp_mul1 wA wB sA sB rfl (fun H' l7 l8 f' p' => ?_) (S.1.2 k).2.1.toNat 0 H2 _ (by omega) (by omega) Fm.rf (z2.cg (fun m _ _ => rfl))
                simp (disch := omega) only [gX9_multiply_201, gX9_multiply_202, fl_9_8, gX9_multiply_205, Rd_some, Wr_some, Cont_some, Cont_none, iso_O, true_and, hg_s, hg_n, hput_hput, (wA H' f').1]
                exact hq _ (MJ.prod (S1 := wFt S 0) m1 h2 h3 h4 (fun x x1 x2 y1 y2 y3 => (f'.2.2 x (by omega)).trans (e' x y1 y2 y3)) (by rw [f'.2.2 41 (by omega)]; exact z1) p' (by omega) (cv_V sA sB (by omega))) ⟨by rw [f'.1, s1, f1.1], by rw [f'.2.1, s2, f1.2.1], fun x hx => by rw [f'.2.2 x (by omega), e' x (by omega) (by omega) (by omega)]; exact f1.2.2 x hx⟩
            · rw [if_neg hl] at hq
              rw [sp_agC (S := wFt S 0) m1 h2 ha hb hoa hob la lb hl]
              simp (disch := omega) only [gX9_multiply_39, gX9_multiply_41, gX9_multiply_43T, gX9_multiply_43F, gX9_multiply_46, gX9_multiply_48, Rd_some, Wr_some, Cont_some, Cont_none, iso_O, true_and, hg_s, hg_n, hput_hput]
              exact hq _ (MJ.ft h1 h2 h3 h4 2) (Fm.rf.put (by omega))
      · rw [if_neg hv0] at hq
        simp (disch := omega) only [gX9_multiply_0, gX9_multiply_1, gX9_multiply_2, pf_9_0, gX9_multiply_5, gX9_multiply_6, gX9_multiply_9T, gX9_multiply_9F, gX9_multiply_12, gX9_multiply_13, gX9_multiply_16T, gX9_multiply_16F, gX9_multiply_19, gX9_multiply_20, gX9_multiply_21, gX9_multiply_22, gX9_multiply_23, gX9_multiply_24, gX9_multiply_27T, gX9_multiply_27F, gX9_multiply_30, gX9_multiply_32, gX9_multiply_33, gX9_multiply_34, gX9_multiply_35, gX9_multiply_36, gX9_multiply_39, gX9_multiply_41, gX9_multiply_43T, gX9_multiply_43F, gX9_multiply_46, gX9_multiply_48, gX9_multiply_49, gX9_multiply_50, gX9_multiply_51, gX9_multiply_54, gX9_multiply_55, gX9_multiply_56, gX9_multiply_59, gX9_multiply_60, gX9_multiply_62, gX9_multiply_63, gX9_multiply_64T, gX9_multiply_64F, gX9_multiply_67, gX9_multiply_69, gX9_multiply_70, gX9_multiply_73T, gX9_multiply_73F, gX9_multiply_74T, gX9_multiply_74F, gX9_multiply_77, gX9_multiply_80, gX9_multiply_81, gX9_multiply_82, gX9_multiply_85, gX9_multiply_86, gX9_multiply_87, gX9_multiply_90T, gX9_multiply_90F, gX9_multiply_93, gX9_multiply_94, gX9_multiply_95, gX9_multiply_98, gX9_multiply_101, gX9_multiply_102, gX9_multiply_103, gX9_multiply_106, gX9_multiply_107, gX9_multiply_108, gX9_multiply_110, gX9_multiply_111, gX9_multiply_112, gX9_multiply_115T, gX9_multiply_115F, gX9_multiply_116T, gX9_multiply_116F, gX9_multiply_119, gX9_multiply_121, gX9_multiply_122, gX9_multiply_123, gX9_multiply_124, gX9_multiply_125, gX9_multiply_128, gX9_multiply_129, gX9_multiply_130, gX9_multiply_133, gX9_multiply_134, gX9_multiply_135, gX9_multiply_136, gX9_multiply_139, gX9_multiply_140, gX9_multiply_142, gX9_multiply_144, gX9_multiply_145, gX9_multiply_146, gX9_multiply_149T, gX9_multiply_149F, gX9_multiply_152, gX9_multiply_153, gX9_multiply_155, gX9_multiply_157, gX9_multiply_158, gX9_multiply_159, gX9_multiply_162T, gX9_multiply_162F, gX9_multiply_165, gX9_multiply_166, gX9_multiply_168, gX9_multiply_170, gX9_multiply_171, gX9_multiply_172, gX9_multiply_173, gX9_multiply_175, gX9_multiply_178, gX9_multiply_179, gX9_multiply_180, gX9_multiply_182, gX9_multiply_185, gX9_multiply_186, gX9_multiply_189, gX9_multiply_192, gX9_multiply_195, gX9_multiply_198, gX9_multiply_201, gX9_multiply_202, fl_9_8, gX9_multiply_205, Rd_some, Wr_some, Cont_some, Cont_none, iso_O, true_and, hg_s, hg_n, hput_hput, hx, sp_mplT, sp_wiT, sp_wiF]
        exact hq _ (MJ.ft h1 h2 h3 h4 0) (Fm.rf.put (by omega))
    · rw [if_neg (fun t => hb t.2)] at hq
      simp (disch := omega) only [gX9_multiply_0, gX9_multiply_1, gX9_multiply_2, pf_9_0, gX9_multiply_5, gX9_multiply_6, gX9_multiply_9T, gX9_multiply_9F, gX9_multiply_12, gX9_multiply_13, gX9_multiply_16T, gX9_multiply_16F, gX9_multiply_19, gX9_multiply_20, gX9_multiply_21, gX9_multiply_22, gX9_multiply_23, gX9_multiply_24, gX9_multiply_27T, gX9_multiply_27F, gX9_multiply_30, gX9_multiply_32, gX9_multiply_33, gX9_multiply_34, gX9_multiply_35, gX9_multiply_36, gX9_multiply_39, gX9_multiply_41, gX9_multiply_43T, gX9_multiply_43F, gX9_multiply_46, gX9_multiply_48, gX9_multiply_49, gX9_multiply_50, gX9_multiply_51, gX9_multiply_54, gX9_multiply_55, gX9_multiply_56, gX9_multiply_59, gX9_multiply_60, gX9_multiply_62, gX9_multiply_63, gX9_multiply_64T, gX9_multiply_64F, gX9_multiply_67, gX9_multiply_69, gX9_multiply_70, gX9_multiply_73T, gX9_multiply_73F, gX9_multiply_74T, gX9_multiply_74F, gX9_multiply_77, gX9_multiply_80, gX9_multiply_81, gX9_multiply_82, gX9_multiply_85, gX9_multiply_86, gX9_multiply_87, gX9_multiply_90T, gX9_multiply_90F, gX9_multiply_93, gX9_multiply_94, gX9_multiply_95, gX9_multiply_98, gX9_multiply_101, gX9_multiply_102, gX9_multiply_103, gX9_multiply_106, gX9_multiply_107, gX9_multiply_108, gX9_multiply_110, gX9_multiply_111, gX9_multiply_112, gX9_multiply_115T, gX9_multiply_115F, gX9_multiply_116T, gX9_multiply_116F, gX9_multiply_119, gX9_multiply_121, gX9_multiply_122, gX9_multiply_123, gX9_multiply_124, gX9_multiply_125, gX9_multiply_128, gX9_multiply_129, gX9_multiply_130, gX9_multiply_133, gX9_multiply_134, gX9_multiply_135, gX9_multiply_136, gX9_multiply_139, gX9_multiply_140, gX9_multiply_142, gX9_multiply_144, gX9_multiply_145, gX9_multiply_146, gX9_multiply_149T, gX9_multiply_149F, gX9_multiply_152, gX9_multiply_153, gX9_multiply_155, gX9_multiply_157, gX9_multiply_158, gX9_multiply_159, gX9_multiply_162T, gX9_multiply_162F, gX9_multiply_165, gX9_multiply_166, gX9_multiply_168, gX9_multiply_170, gX9_multiply_171, gX9_multiply_172, gX9_multiply_173, gX9_multiply_175, gX9_multiply_178, gX9_multiply_179, gX9_multiply_180, gX9_multiply_182, gX9_multiply_185, gX9_multiply_186, gX9_multiply_189, gX9_multiply_192, gX9_multiply_195, gX9_multiply_198, gX9_multiply_201, gX9_multiply_202, fl_9_8, gX9_multiply_205, Rd_some, Wr_some, Cont_some, Cont_none, iso_O, true_and, hg_s, hg_n, hput_hput, hx, sp_mplT, sp_wiT, sp_mplF]
      exact hq _ (MJ.ft h1 h2 h3 h4 0) (Fm.rf.put (by omega))
  · rw [if_neg (fun t => ha t.1)] at hq
    simp (disch := omega) only [gX9_multiply_0, gX9_multiply_1, gX9_multiply_2, pf_9_0, gX9_multiply_5, gX9_multiply_6, gX9_multiply_9T, gX9_multiply_9F, gX9_multiply_12, gX9_multiply_13, gX9_multiply_16T, gX9_multiply_16F, gX9_multiply_19, gX9_multiply_20, gX9_multiply_21, gX9_multiply_22, gX9_multiply_23, gX9_multiply_24, gX9_multiply_27T, gX9_multiply_27F, gX9_multiply_30, gX9_multiply_32, gX9_multiply_33, gX9_multiply_34, gX9_multiply_35, gX9_multiply_36, gX9_multiply_39, gX9_multiply_41, gX9_multiply_43T, gX9_multiply_43F, gX9_multiply_46, gX9_multiply_48, gX9_multiply_49, gX9_multiply_50, gX9_multiply_51, gX9_multiply_54, gX9_multiply_55, gX9_multiply_56, gX9_multiply_59, gX9_multiply_60, gX9_multiply_62, gX9_multiply_63, gX9_multiply_64T, gX9_multiply_64F, gX9_multiply_67, gX9_multiply_69, gX9_multiply_70, gX9_multiply_73T, gX9_multiply_73F, gX9_multiply_74T, gX9_multiply_74F, gX9_multiply_77, gX9_multiply_80, gX9_multiply_81, gX9_multiply_82, gX9_multiply_85, gX9_multiply_86, gX9_multiply_87, gX9_multiply_90T, gX9_multiply_90F, gX9_multiply_93, gX9_multiply_94, gX9_multiply_95, gX9_multiply_98, gX9_multiply_101, gX9_multiply_102, gX9_multiply_103, gX9_multiply_106, gX9_multiply_107, gX9_multiply_108, gX9_multiply_110, gX9_multiply_111, gX9_multiply_112, gX9_multiply_115T, gX9_multiply_115F, gX9_multiply_116T, gX9_multiply_116F, gX9_multiply_119, gX9_multiply_121, gX9_multiply_122, gX9_multiply_123, gX9_multiply_124, gX9_multiply_125, gX9_multiply_128, gX9_multiply_129, gX9_multiply_130, gX9_multiply_133, gX9_multiply_134, gX9_multiply_135, gX9_multiply_136, gX9_multiply_139, gX9_multiply_140, gX9_multiply_142, gX9_multiply_144, gX9_multiply_145, gX9_multiply_146, gX9_multiply_149T, gX9_multiply_149F, gX9_multiply_152, gX9_multiply_153, gX9_multiply_155, gX9_multiply_157, gX9_multiply_158, gX9_multiply_159, gX9_multiply_162T, gX9_multiply_162F, gX9_multiply_165, gX9_multiply_166, gX9_multiply_168, gX9_multiply_170, gX9_multiply_171, gX9_multiply_172, gX9_multiply_173, gX9_multiply_175, gX9_multiply_178, gX9_multiply_179, gX9_multiply_180, gX9_multiply_182, gX9_multiply_185, gX9_multiply_186, gX9_multiply_189, gX9_multiply_192, gX9_multiply_195, gX9_multiply_198, gX9_multiply_201, gX9_multiply_202, fl_9_8, gX9_multiply_205, Rd_some, Wr_some, Cont_some, Cont_none, iso_O, true_and, hg_s, hg_n, hput_hput, hx, sp_mplT, sp_wiT, sp_mplF]
    exact hq _ (MJ.ft h1 h2 h3 h4 0) (Fm.rf.put (by omega))

theorem mx_circ (hm : MJ H S) (c : (-2147483648 ≤ a ∧ a ≤ 2147483647) ∧ (-2147483648 ≤ b ∧ b ≤ 2147483647) ∧ (-2147483648 ≤ n ∧ n ≤ 2147483647)) (hq : MG H Q (o_circ S a b n)) : Go 153 0 [some (.ref 41), some (vi a), some (vi b), some (vi n), none, none, none] [] H Q := by
  obtain ⟨T, h1, h2, h3, h4⟩ := hm
  have hx := h1.v.1
  unfold o_circ MG at hq
  by_cases ha : 0 ≤ a ∧ a < 12
  · by_cases hb : 0 ≤ b ∧ b < 12
    · rw [if_pos ⟨ha, hb⟩] at hq
      by_cases hv0 : 1 ≤ n ∧ n ≤ 64
      · rw [if_pos hv0] at hq
        have m1 := h1.ft 0
        unfold o_two at hq
        simp (disch := omega) only [gX9_circular_0, gX9_circular_1, gX9_circular_2, pf_9_0, gX9_circular_5, gX9_circular_6, gX9_circular_9T, gX9_circular_9F, gX9_circular_12, gX9_circular_13, gX9_circular_16T, gX9_circular_16F, gX9_circular_19, gX9_circular_20, gX9_circular_21, gX9_circular_22, gX9_circular_23, gX9_circular_25, gX9_circular_28T, gX9_circular_28F, gX9_circular_31, gX9_circular_33, gX9_circular_34, gX9_circular_35, gX9_circular_36, gX9_circular_37, Rd_some, Wr_some, Cont_some, Cont_none, iso_O, true_and, hg_s, hg_n, hput_hput, hx, sp_mplT, sp_wiT]
        change Go _ _ _ _ (hput H 41 (cM (wFt S 0))) _
        cases hoa : S.1.1 a with
        | none =>
          cases hob : S.1.1 b with
          | none =>
            rw [hoa, hob] at hq
            dsimp only at hq
            rw [sp_agN (S := wFt S 0) m1 h2 ha hb (Or.inl hoa)]
            simp (disch := omega) only [gX9_circular_40, gX9_circular_42, gX9_circular_44T, gX9_circular_44F, gX9_circular_47, gX9_circular_49, Rd_some, Wr_some, Cont_some, Cont_none, iso_O, true_and, hg_s, hg_n, hput_hput]
            exact hq _ (MJ.ft h1 h2 h3 h4 1) (Fm.rf.put (by omega))
          | some l =>
            rw [hoa, hob] at hq
            dsimp only at hq
            rw [sp_agN (S := wFt S 0) m1 h2 ha hb (Or.inl hoa)]
            simp (disch := omega) only [gX9_circular_40, gX9_circular_42, gX9_circular_44T, gX9_circular_44F, gX9_circular_47, gX9_circular_49, Rd_some, Wr_some, Cont_some, Cont_none, iso_O, true_and, hg_s, hg_n, hput_hput]
            exact hq _ (MJ.ft h1 h2 h3 h4 1) (Fm.rf.put (by omega))
        | some k =>
          cases hob : S.1.1 b with
          | none =>
            rw [hoa, hob] at hq
            dsimp only at hq
            rw [sp_agN (S := wFt S 0) m1 h2 ha hb (Or.inr hob)]
            simp (disch := omega) only [gX9_circular_40, gX9_circular_42, gX9_circular_44T, gX9_circular_44F, gX9_circular_47, gX9_circular_49, Rd_some, Wr_some, Cont_some, Cont_none, iso_O, true_and, hg_s, hg_n, hput_hput]
            exact hq _ (MJ.ft h1 h2 h3 h4 1) (Fm.rf.put (by omega))
          | some l =>
            rw [hoa, hob] at hq
            dsimp only at hq
            have ka := h4 k ⟨a, ha.1, ha.2, hoa⟩
            have kb := h4 l ⟨b, hb.1, hb.2, hob⟩
            have la := ka.1
            have lb := kb.1
            by_cases hl : (S.1.2 k).1 ≤ 2 ∧ (S.1.2 l).1 ≤ 2
            · rw [if_pos hl] at hq
              rw [sp_agO (S := wFt S 0) m1 h2 ha hb hoa hob la lb hl]
              have va : VR (hput H 41 (cM (wFt S 0))) (wFt S 0) a (S.1.2 k) := m1.vr (S := wFt S 0) h2 h4 ha hoa
              have vb : VR (hput H 41 (cM (wFt S 0))) (wFt S 0) b (S.1.2 l) := m1.vr (S := wFt S 0) h2 h4 hb hob
              have f1 : Fm 41 60 H (hput H 41 (cM (wFt S 0))) := Fm.rf.put (by omega)
              generalize hput H 41 (cM (wFt S 0)) = H1 at m1 va vb f1
              simp (disch := omega) only [gX9_circular_40, gX9_circular_42, gX9_circular_44T, gX9_circular_44F, gX9_circular_47, gX9_circular_49, Rd_some, Wr_some, Cont_some, Cont_none, iso_O, true_and, hg_s, hg_n, hput_hput]
              have sA := ka.2.2.2 hl.1
              have sB := kb.2.2.2 hl.2
              have nA := ka.2.1
              have nB := kb.2.1
              simp (disch := omega) only [gX9_circular_50, gX9_circular_51, gX9_circular_52, Rd_some, Wr_some, Cont_some, Cont_none, iso_O, true_and, hg_s, hg_n, hput_hput, va.1]
              refine sp_clearP m1 (fun j => ci (S.1.2 k).2.2 (S.1.2 k).2.1 (S.1.2 l).2.2 (S.1.2 l).2.1 n j) (by omega) (fun H2 s1 s2 e' z1 z2 => ?_)
              have wA : ∀ H', Fm 47 48 H2 H' → VR H' (wSh (wFt S 0) 2 n (fun j => ci (S.1.2 k).2.2 (S.1.2 k).2.1 (S.1.2 l).2.2 (S.1.2 l).2.1 n j)) a (S.1.2 k) := fun H' f => m1.vr2 (S := wFt S 0) h2 h4 ha hoa (by rw [f.2.2 41 (by omega)]; exact z1) (fun x x1 x2 => by rw [f.2.2 x (by omega)]; exact e' x (by omega) (by omega) (by omega))
              have wB : ∀ H', Fm 47 48 H2 H' → VR H' (wSh (wFt S 0) 2 n (fun j => ci (S.1.2 k).2.2 (S.1.2 k).2.1 (S.1.2 l).2.2 (S.1.2 l).2.1 n j)) b (S.1.2 l) := fun H' f => m1.vr2 (S := wFt S 0) h2 h4 hb hob (by rw [f.2.2 41 (by omega)]; exact z1) (fun x x1 x2 => by rw [f.2.2 x (by omega)]; exact e' x (by omega) (by omega) (by omega))
              simp (disch := omega) only [gX9_circular_55, gX9_circular_56, Rd_some, Wr_some, Cont_some, Cont_none, iso_O, true_and, hg_s, hg_n, hput_hput]
              refine lp_cir1 wA wB sA sB (by omega) (fun H' f' p' => ?_) (S.1.2 k).2.1.toNat 0 H2 _ (by omega) (by omega) Fm.rf (z2.cg (fun m _ _ => rfl))
              exact hq _ (MJ.prod (S1 := wFt S 0) m1 h2 h3 h4 (fun x x1 x2 y1 y2 y3 => (f'.2.2 x (by omega)).trans (e' x y1 y2 y3)) (by rw [f'.2.2 41 (by omega)]; exact z1) p' (by omega) (ci_V sA sB (by omega) (by omega))) ⟨by rw [f'.1, s1, f1.1], by rw [f'.2.1, s2, f1.2.1], fun x hx => by rw [f'.2.2 x (by omega), e' x (by omega) (by omega) (by omega)]; exact f1.2.2 x hx⟩
            · rw [if_neg hl] at hq
              rw [sp_agC (S := wFt S 0) m1 h2 ha hb hoa hob la lb hl]
              simp (disch := omega) only [gX9_circular_40, gX9_circular_42, gX9_circular_44T, gX9_circular_44F, gX9_circular_47, gX9_circular_49, Rd_some, Wr_some, Cont_some, Cont_none, iso_O, true_and, hg_s, hg_n, hput_hput]
              exact hq _ (MJ.ft h1 h2 h3 h4 2) (Fm.rf.put (by omega))
      · rw [if_neg hv0] at hq
        simp (disch := omega) only [gX9_circular_0, gX9_circular_1, gX9_circular_2, pf_9_0, gX9_circular_5, gX9_circular_6, gX9_circular_9T, gX9_circular_9F, gX9_circular_12, gX9_circular_13, gX9_circular_16T, gX9_circular_16F, gX9_circular_19, gX9_circular_20, gX9_circular_21, gX9_circular_22, gX9_circular_23, gX9_circular_25, gX9_circular_28T, gX9_circular_28F, gX9_circular_31, gX9_circular_33, gX9_circular_34, gX9_circular_35, gX9_circular_36, gX9_circular_37, gX9_circular_40, gX9_circular_42, gX9_circular_44T, gX9_circular_44F, gX9_circular_47, gX9_circular_49, gX9_circular_50, gX9_circular_51, gX9_circular_52, gX9_circular_55, gX9_circular_56, gX9_circular_58, gX9_circular_60, gX9_circular_61, gX9_circular_62, gX9_circular_65T, gX9_circular_65F, gX9_circular_68, gX9_circular_69, gX9_circular_71, gX9_circular_73, gX9_circular_74, gX9_circular_75, gX9_circular_78T, gX9_circular_78F, gX9_circular_81, gX9_circular_82, gX9_circular_84, gX9_circular_86, gX9_circular_87, gX9_circular_88, gX9_circular_89, gX9_circular_90, gX9_circular_91, gX9_circular_93, gX9_circular_96, gX9_circular_97, gX9_circular_98, gX9_circular_100, gX9_circular_103, gX9_circular_104, gX9_circular_107, gX9_circular_110, gX9_circular_113, gX9_circular_116, gX9_circular_119, gX9_circular_120, Rd_some, Wr_some, Cont_some, Cont_none, iso_O, true_and, hg_s, hg_n, hput_hput, hx, sp_mplT, sp_wiT, sp_wiF]
        exact hq _ (MJ.ft h1 h2 h3 h4 0) (Fm.rf.put (by omega))
    · rw [if_neg (fun t => hb t.2)] at hq
      simp (disch := omega) only [gX9_circular_0, gX9_circular_1, gX9_circular_2, pf_9_0, gX9_circular_5, gX9_circular_6, gX9_circular_9T, gX9_circular_9F, gX9_circular_12, gX9_circular_13, gX9_circular_16T, gX9_circular_16F, gX9_circular_19, gX9_circular_20, gX9_circular_21, gX9_circular_22, gX9_circular_23, gX9_circular_25, gX9_circular_28T, gX9_circular_28F, gX9_circular_31, gX9_circular_33, gX9_circular_34, gX9_circular_35, gX9_circular_36, gX9_circular_37, gX9_circular_40, gX9_circular_42, gX9_circular_44T, gX9_circular_44F, gX9_circular_47, gX9_circular_49, gX9_circular_50, gX9_circular_51, gX9_circular_52, gX9_circular_55, gX9_circular_56, gX9_circular_58, gX9_circular_60, gX9_circular_61, gX9_circular_62, gX9_circular_65T, gX9_circular_65F, gX9_circular_68, gX9_circular_69, gX9_circular_71, gX9_circular_73, gX9_circular_74, gX9_circular_75, gX9_circular_78T, gX9_circular_78F, gX9_circular_81, gX9_circular_82, gX9_circular_84, gX9_circular_86, gX9_circular_87, gX9_circular_88, gX9_circular_89, gX9_circular_90, gX9_circular_91, gX9_circular_93, gX9_circular_96, gX9_circular_97, gX9_circular_98, gX9_circular_100, gX9_circular_103, gX9_circular_104, gX9_circular_107, gX9_circular_110, gX9_circular_113, gX9_circular_116, gX9_circular_119, gX9_circular_120, Rd_some, Wr_some, Cont_some, Cont_none, iso_O, true_and, hg_s, hg_n, hput_hput, hx, sp_mplT, sp_wiT, sp_mplF]
      exact hq _ (MJ.ft h1 h2 h3 h4 0) (Fm.rf.put (by omega))
  · rw [if_neg (fun t => ha t.1)] at hq
    simp (disch := omega) only [gX9_circular_0, gX9_circular_1, gX9_circular_2, pf_9_0, gX9_circular_5, gX9_circular_6, gX9_circular_9T, gX9_circular_9F, gX9_circular_12, gX9_circular_13, gX9_circular_16T, gX9_circular_16F, gX9_circular_19, gX9_circular_20, gX9_circular_21, gX9_circular_22, gX9_circular_23, gX9_circular_25, gX9_circular_28T, gX9_circular_28F, gX9_circular_31, gX9_circular_33, gX9_circular_34, gX9_circular_35, gX9_circular_36, gX9_circular_37, gX9_circular_40, gX9_circular_42, gX9_circular_44T, gX9_circular_44F, gX9_circular_47, gX9_circular_49, gX9_circular_50, gX9_circular_51, gX9_circular_52, gX9_circular_55, gX9_circular_56, gX9_circular_58, gX9_circular_60, gX9_circular_61, gX9_circular_62, gX9_circular_65T, gX9_circular_65F, gX9_circular_68, gX9_circular_69, gX9_circular_71, gX9_circular_73, gX9_circular_74, gX9_circular_75, gX9_circular_78T, gX9_circular_78F, gX9_circular_81, gX9_circular_82, gX9_circular_84, gX9_circular_86, gX9_circular_87, gX9_circular_88, gX9_circular_89, gX9_circular_90, gX9_circular_91, gX9_circular_93, gX9_circular_96, gX9_circular_97, gX9_circular_98, gX9_circular_100, gX9_circular_103, gX9_circular_104, gX9_circular_107, gX9_circular_110, gX9_circular_113, gX9_circular_116, gX9_circular_119, gX9_circular_120, Rd_some, Wr_some, Cont_some, Cont_none, iso_O, true_and, hg_s, hg_n, hput_hput, hx, sp_mplT, sp_wiT, sp_mplF]
    exact hq _ (MJ.ft h1 h2 h3 h4 0) (Fm.rf.put (by omega))

theorem mx_corr (hm : MJ H S) (c : (-2147483648 ≤ a ∧ a ≤ 2147483647) ∧ (-2147483648 ≤ b ∧ b ≤ 2147483647)) (hq : MG H Q (o_corr S a b)) : Go 154 0 [some (.ref 41), some (vi a), some (vi b), none, none, none, none, none] [] H Q := by
  obtain ⟨T, h1, h2, h3, h4⟩ := hm
  have hx := h1.v.1
  unfold o_corr MG at hq
  by_cases ha : 0 ≤ a ∧ a < 12
  · by_cases hb : 0 ≤ b ∧ b < 12
    · rw [if_pos ⟨ha, hb⟩] at hq
      have m1 := h1.ft 0
      unfold o_two at hq
      simp (disch := omega) only [gX9_correlate_0, gX9_correlate_1, gX9_correlate_2, pf_9_0, gX9_correlate_5, gX9_correlate_6, gX9_correlate_9T, gX9_correlate_9F, gX9_correlate_12, gX9_correlate_13, gX9_correlate_16T, gX9_correlate_16F, gX9_correlate_19, gX9_correlate_20, gX9_correlate_21, gX9_correlate_22, gX9_correlate_23, gX9_correlate_24, Rd_some, Wr_some, Cont_some, Cont_none, iso_O, true_and, hg_s, hg_n, hput_hput, hx, sp_mplT]
      change Go _ _ _ _ (hput H 41 (cM (wFt S 0))) _
      cases hoa : S.1.1 a with
      | none =>
        cases hob : S.1.1 b with
        | none =>
          rw [hoa, hob] at hq
          dsimp only at hq
          rw [sp_agN (S := wFt S 0) m1 h2 ha hb (Or.inl hoa)]
          simp (disch := omega) only [gX9_correlate_27, gX9_correlate_28, gX9_correlate_29T, gX9_correlate_29F, gX9_correlate_32, gX9_correlate_33, Rd_some, Wr_some, Cont_some, Cont_none, iso_O, true_and, hg_s, hg_n, hput_hput]
          exact hq _ (MJ.ft h1 h2 h3 h4 1) (Fm.rf.put (by omega))
        | some l =>
          rw [hoa, hob] at hq
          dsimp only at hq
          rw [sp_agN (S := wFt S 0) m1 h2 ha hb (Or.inl hoa)]
          simp (disch := omega) only [gX9_correlate_27, gX9_correlate_28, gX9_correlate_29T, gX9_correlate_29F, gX9_correlate_32, gX9_correlate_33, Rd_some, Wr_some, Cont_some, Cont_none, iso_O, true_and, hg_s, hg_n, hput_hput]
          exact hq _ (MJ.ft h1 h2 h3 h4 1) (Fm.rf.put (by omega))
      | some k =>
        cases hob : S.1.1 b with
        | none =>
          rw [hoa, hob] at hq
          dsimp only at hq
          rw [sp_agN (S := wFt S 0) m1 h2 ha hb (Or.inr hob)]
          simp (disch := omega) only [gX9_correlate_27, gX9_correlate_28, gX9_correlate_29T, gX9_correlate_29F, gX9_correlate_32, gX9_correlate_33, Rd_some, Wr_some, Cont_some, Cont_none, iso_O, true_and, hg_s, hg_n, hput_hput]
          exact hq _ (MJ.ft h1 h2 h3 h4 1) (Fm.rf.put (by omega))
        | some l =>
          rw [hoa, hob] at hq
          dsimp only at hq
          have ka := h4 k ⟨a, ha.1, ha.2, hoa⟩
          have kb := h4 l ⟨b, hb.1, hb.2, hob⟩
          have la := ka.1
          have lb := kb.1
          by_cases hl : (S.1.2 k).1 ≤ 2 ∧ (S.1.2 l).1 ≤ 2
          · rw [if_pos hl] at hq
            rw [sp_agO (S := wFt S 0) m1 h2 ha hb hoa hob la lb hl]
            have va : VR (hput H 41 (cM (wFt S 0))) (wFt S 0) a (S.1.2 k) := m1.vr (S := wFt S 0) h2 h4 ha hoa
            have vb : VR (hput H 41 (cM (wFt S 0))) (wFt S 0) b (S.1.2 l) := m1.vr (S := wFt S 0) h2 h4 hb hob
            have f1 : Fm 41 60 H (hput H 41 (cM (wFt S 0))) := Fm.rf.put (by omega)
            generalize hput H 41 (cM (wFt S 0)) = H1 at m1 va vb f1
            simp (disch := omega) only [gX9_correlate_27, gX9_correlate_28, gX9_correlate_29T, gX9_correlate_29F, gX9_correlate_32, gX9_correlate_33, Rd_some, Wr_some, Cont_some, Cont_none, iso_O, true_and, hg_s, hg_n, hput_hput]
            have sA := ka.2.2.2 hl.1
            have sB := kb.2.2.2 hl.2
            have nA := ka.2.1
            have nB := kb.2.1
            simp (disch := omega) only [gX9_correlate_34, gX9_correlate_35, gX9_correlate_36, gX9_correlate_39, gX9_correlate_41, gX9_correlate_42, gX9_correlate_43, gX9_correlate_44, gX9_correlate_47, gX9_correlate_49, gX9_correlate_50, gX9_correlate_51, gX9_correlate_52, Rd_some, Wr_some, Cont_some, Cont_none, iso_O, true_and, hg_s, hg_n, hput_hput, va.1, vr_cnt va, vr_cnt vb]
            refine sp_clearP m1 (fun j => co (S.1.2 k).2.2 (S.1.2 k).2.1 (S.1.2 l).2.2 (S.1.2 l).2.1 j) (by omega) (fun H2 s1 s2 e' z1 z2 => ?_)
            have wA : ∀ H', Fm 47 48 H2 H' → VR H' (wSh (wFt S 0) 2 ((S.1.2 k).2.1 + (S.1.2 l).2.1 - 1) (fun j => co (S.1.2 k).2.2 (S.1.2 k).2.1 (S.1.2 l).2.2 (S.1.2 l).2.1 j)) a (S.1.2 k) := fun H' f => m1.vr2 (S := wFt S 0) h2 h4 ha hoa (by rw [f.2.2 41 (by omega)]; exact z1) (fun x x1 x2 => by rw [f.2.2 x (by omega)]; exact e' x (by omega) (by omega) (by omega))
            have wB : ∀ H', Fm 47 48 H2 H' → VR H' (wSh (wFt S 0) 2 ((S.1.2 k).2.1 + (S.1.2 l).2.1 - 1) (fun j => co (S.1.2 k).2.2 (S.1.2 k).2.1 (S.1.2 l).2.2 (S.1.2 l).2.1 j)) b (S.1.2 l) := fun H' f => m1.vr2 (S := wFt S 0) h2 h4 hb hob (by rw [f.2.2 41 (by omega)]; exact z1) (fun x x1 x2 => by rw [f.2.2 x (by omega)]; exact e' x (by omega) (by omega) (by omega))
            simp (disch := omega) only [gX9_correlate_55, gX9_correlate_56, Rd_some, Wr_some, Cont_some, Cont_none, iso_O, true_and, hg_s, hg_n, hput_hput]
            refine lp_cor1 wA wB sA sB rfl rfl (fun H' f' p' => ?_) ((S.1.2 k).2.1 + (S.1.2 l).2.1 - 1).toNat 0 H2 _ _ (by omega) (by omega) Fm.rf (z2.cg (fun m m0 _ => if_neg (by omega)))
            exact hq _ (MJ.prod (S1 := wFt S 0) m1 h2 h3 h4 (fun x x1 x2 y1 y2 y3 => (f'.2.2 x (by omega)).trans (e' x y1 y2 y3)) (by rw [f'.2.2 41 (by omega)]; exact z1) p' (by omega) (co_V sA sB (by omega))) ⟨by rw [f'.1, s1, f1.1], by rw [f'.2.1, s2, f1.2.1], fun x hx => by rw [f'.2.2 x (by omega), e' x (by omega) (by omega) (by omega)]; exact f1.2.2 x hx⟩
          · rw [if_neg hl] at hq
            rw [sp_agC (S := wFt S 0) m1 h2 ha hb hoa hob la lb hl]
            simp (disch := omega) only [gX9_correlate_27, gX9_correlate_28, gX9_correlate_29T, gX9_correlate_29F, gX9_correlate_32, gX9_correlate_33, Rd_some, Wr_some, Cont_some, Cont_none, iso_O, true_and, hg_s, hg_n, hput_hput]
            exact hq _ (MJ.ft h1 h2 h3 h4 2) (Fm.rf.put (by omega))
    · rw [if_neg (fun t => hb t.2)] at hq
      simp (disch := omega) only [gX9_correlate_0, gX9_correlate_1, gX9_correlate_2, pf_9_0, gX9_correlate_5, gX9_correlate_6, gX9_correlate_9T, gX9_correlate_9F, gX9_correlate_12, gX9_correlate_13, gX9_correlate_16T, gX9_correlate_16F, gX9_correlate_19, gX9_correlate_20, gX9_correlate_21, gX9_correlate_22, gX9_correlate_23, gX9_correlate_24, gX9_correlate_27, gX9_correlate_28, gX9_correlate_29T, gX9_correlate_29F, gX9_correlate_32, gX9_correlate_33, gX9_correlate_34, gX9_correlate_35, gX9_correlate_36, gX9_correlate_39, gX9_correlate_41, gX9_correlate_42, gX9_correlate_43, gX9_correlate_44, gX9_correlate_47, gX9_correlate_49, gX9_correlate_50, gX9_correlate_51, gX9_correlate_52, gX9_correlate_55, gX9_correlate_56, gX9_correlate_58, gX9_correlate_60, gX9_correlate_61, fl_9_8, gX9_correlate_64T, gX9_correlate_64F, gX9_correlate_67, gX9_correlate_68, gX9_correlate_70, gX9_correlate_72, gX9_correlate_74T, gX9_correlate_74F, gX9_correlate_77, gX9_correlate_79, gX9_correlate_81, gX9_correlate_82, gX9_correlate_84, gX9_correlate_85, gX9_correlate_86, gX9_correlate_87, gX9_correlate_89, gX9_correlate_91T, gX9_correlate_91F, gX9_correlate_94, gX9_correlate_96, gX9_correlate_97, gX9_correlate_98, gX9_correlate_101T, gX9_correlate_101F, gX9_correlate_104, gX9_correlate_105, gX9_correlate_107, gX9_correlate_108, gX9_correlate_109, gX9_correlate_111, gX9_correlate_114, gX9_correlate_115, gX9_correlate_116, gX9_correlate_118, gX9_correlate_121, gX9_correlate_122, gX9_correlate_125, gX9_correlate_128, gX9_correlate_131, gX9_correlate_134, gX9_correlate_137, gX9_correlate_138, gX9_correlate_141, Rd_some, Wr_some, Cont_some, Cont_none, iso_O, true_and, hg_s, hg_n, hput_hput, hx, sp_mplT, sp_mplF]
      exact hq _ (MJ.ft h1 h2 h3 h4 0) (Fm.rf.put (by omega))
  · rw [if_neg (fun t => ha t.1)] at hq
    simp (disch := omega) only [gX9_correlate_0, gX9_correlate_1, gX9_correlate_2, pf_9_0, gX9_correlate_5, gX9_correlate_6, gX9_correlate_9T, gX9_correlate_9F, gX9_correlate_12, gX9_correlate_13, gX9_correlate_16T, gX9_correlate_16F, gX9_correlate_19, gX9_correlate_20, gX9_correlate_21, gX9_correlate_22, gX9_correlate_23, gX9_correlate_24, gX9_correlate_27, gX9_correlate_28, gX9_correlate_29T, gX9_correlate_29F, gX9_correlate_32, gX9_correlate_33, gX9_correlate_34, gX9_correlate_35, gX9_correlate_36, gX9_correlate_39, gX9_correlate_41, gX9_correlate_42, gX9_correlate_43, gX9_correlate_44, gX9_correlate_47, gX9_correlate_49, gX9_correlate_50, gX9_correlate_51, gX9_correlate_52, gX9_correlate_55, gX9_correlate_56, gX9_correlate_58, gX9_correlate_60, gX9_correlate_61, fl_9_8, gX9_correlate_64T, gX9_correlate_64F, gX9_correlate_67, gX9_correlate_68, gX9_correlate_70, gX9_correlate_72, gX9_correlate_74T, gX9_correlate_74F, gX9_correlate_77, gX9_correlate_79, gX9_correlate_81, gX9_correlate_82, gX9_correlate_84, gX9_correlate_85, gX9_correlate_86, gX9_correlate_87, gX9_correlate_89, gX9_correlate_91T, gX9_correlate_91F, gX9_correlate_94, gX9_correlate_96, gX9_correlate_97, gX9_correlate_98, gX9_correlate_101T, gX9_correlate_101F, gX9_correlate_104, gX9_correlate_105, gX9_correlate_107, gX9_correlate_108, gX9_correlate_109, gX9_correlate_111, gX9_correlate_114, gX9_correlate_115, gX9_correlate_116, gX9_correlate_118, gX9_correlate_121, gX9_correlate_122, gX9_correlate_125, gX9_correlate_128, gX9_correlate_131, gX9_correlate_134, gX9_correlate_137, gX9_correlate_138, gX9_correlate_141, Rd_some, Wr_some, Cont_some, Cont_none, iso_O, true_and, hg_s, hg_n, hput_hput, hx, sp_mplT, sp_mplF]
    exact hq _ (MJ.ft h1 h2 h3 h4 0) (Fm.rf.put (by omega))

theorem mx_slide (hm : MJ H S) (c : (-2147483648 ≤ a ∧ a ≤ 2147483647) ∧ (-2147483648 ≤ w ∧ w ≤ 2147483647)) (hq : MG H Q (o_slide S a w)) : Go 155 0 [some (.ref 41), some (vi a), some (vi w), none, none] [] H Q := by
  obtain ⟨T, h1, h2, h3, h4⟩ := hm
  have hx := h1.v.1
  unfold o_slide MG at hq
  by_cases ha : 0 ≤ a ∧ a < 12
  · rw [if_pos ha] at hq
    by_cases hv : 1 ≤ w ∧ w ≤ 64
    · rw [if_pos hv] at hq
      have m1 := h1.ft 0
      unfold o_one at hq
      cases hoa : S.1.1 a with
      | none =>
        rw [hoa] at hq
        dsimp only at hq
        have e := h2.no ha hoa
        simp (disch := omega) only [gX9_slide_0, gX9_slide_1, gX9_slide_2, pf_9_0, gX9_slide_5, gX9_slide_6, gX9_slide_9T, gX9_slide_9F, gX9_slide_12, gX9_slide_13, gX9_slide_14, gX9_slide_15, gX9_slide_16, gX9_slide_18, gX9_slide_21T, gX9_slide_21F, gX9_slide_24, gX9_slide_26, gX9_slide_27, gX9_slide_28, fl_9_1, gX9_slide_31, gX9_slide_32, aJ_g, gX9_slide_33, gX9_slide_35T, gX9_slide_35F, gX9_slide_38, gX9_slide_39, gX9_slide_40, gX9_slide_43, gX9_slide_44, gX9_slide_45, gX9_slide_46, gX9_slide_49, gX9_slide_50T, gX9_slide_50F, gX9_slide_53, gX9_slide_54, gX9_slide_55, gX9_slide_58, gX9_slide_59, gX9_slide_60, gX9_slide_61, gX9_slide_62, gX9_slide_65, gX9_slide_66T, gX9_slide_66F, gX9_slide_69, gX9_slide_70, gX9_slide_73, gX9_slide_74, gX9_slide_75, gX9_slide_78, gX9_slide_79, gX9_slide_80, gX9_slide_81, gX9_slide_82, gX9_slide_85, gX9_slide_86, gX9_slide_87, gX9_slide_88, gX9_slide_89, fl_9_8, gX9_slide_92T, gX9_slide_92F, gX9_slide_95, gX9_slide_96, gX9_slide_98, gX9_slide_100, gX9_slide_101T, gX9_slide_101F, gX9_slide_104, gX9_slide_105, gX9_slide_106, gX9_slide_107, gX9_slide_108, gX9_slide_109, gX9_slide_111, gX9_slide_112, gX9_slide_115, gX9_slide_118, gX9_slide_121, gX9_slide_124, gX9_slide_127, gX9_slide_130, gX9_slide_131, gX9_slide_134, Rd_some, Wr_some, Cont_some, Cont_none, iso_O, true_and, hg_s, hg_n, hput_hput, gX9_fails_0, gX9_fails_1, gX9_fails_2, pf_9_0, gX9_fails_5, gX9_fails_7, gX9_fails_8, gX9_fails_9, Rd_some, Wr_some, Cont_some, Cont_none, iso_O, true_and, hg_s, hg_n, hput_hput, hx, sp_mplT, sp_wiT, h1.v.2.1]
        exact hq _ (MJ.ft h1 h2 h3 h4 1) (Fm.rf.put (by omega))
      | some k =>
        rw [hoa] at hq
        dsimp only at hq
        obtain ⟨r1, r2, r3, r4⟩ := h2.ro ha hoa
        have ka := h4 k ⟨a, ha.1, ha.2, hoa⟩
        have la := ka.1
        have nA := ka.2.1
        simp (disch := omega) only [gX9_slide_0, gX9_slide_1, gX9_slide_2, pf_9_0, gX9_slide_5, gX9_slide_6, gX9_slide_9T, gX9_slide_9F, gX9_slide_12, gX9_slide_13, gX9_slide_14, gX9_slide_15, gX9_slide_16, gX9_slide_18, gX9_slide_21T, gX9_slide_21F, gX9_slide_24, gX9_slide_26, gX9_slide_27, gX9_slide_28, fl_9_1, gX9_slide_31, gX9_slide_32, aJ_g, gX9_slide_33, gX9_slide_35T, gX9_slide_35F, Rd_some, Wr_some, Cont_some, Cont_none, iso_O, true_and, hg_s, hg_n, hput_hput, hx, sp_mplT, sp_wiT, h1.v.2.1]
        change Go _ _ _ _ (hput H 41 (cM (wFt S 0))) _
        by_cases hl : (S.1.2 k).1 ≤ 3
        · rw [if_pos hl] at hq
          have va : VR (hput H 41 (cM (wFt S 0))) (wFt S 0) a (S.1.2 k) := m1.vr (S := wFt S 0) h2 h4 ha hoa
          have f1 : Fm 41 60 H (hput H 41 (cM (wFt S 0))) := Fm.rf.put (by omega)
          generalize hput H 41 (cM (wFt S 0)) = H1 at m1 va f1
          by_cases hnw : (S.1.2 k).2.1 < w
          · have e0 : max ((S.1.2 k).2.1 - w + 1) 0 = 0 := by omega
            simp (disch := omega) only [gX9_slide_44, gX9_slide_45, gX9_slide_46, gX9_slide_49, gX9_slide_50T, gX9_slide_50F, gX9_slide_53, gX9_slide_54, gX9_slide_55, gX9_slide_58, gX9_slide_59, gX9_slide_60, gX9_slide_61, gX9_slide_62, gX9_slide_65, gX9_slide_66T, gX9_slide_66F, gX9_slide_69, gX9_slide_70, gX9_slide_73, gX9_slide_74, gX9_slide_75, gX9_slide_78, gX9_slide_79, gX9_slide_80, gX9_slide_81, gX9_slide_82, Rd_some, Wr_some, Cont_some, Cont_none, iso_O, true_and, hg_s, hg_n, hput_hput, va.1, vr_lan va, vr_cnt va]
            rw [show Int32.ofInt 0 = Int32.ofInt (max ((S.1.2 k).2.1 - w + 1) 0) by rw [e0]]
            refine sp_clearP m1 (fun j => wn (S.1.2 k).2.2 j w) (by omega) (fun H2 s1 s2 e' z1 z2 => ?_)
            have wA : ∀ H', Fm 47 48 H2 H' → VR H' (wSh (wFt S 0) 2 (max ((S.1.2 k).2.1 - w + 1) 0) (fun j => wn (S.1.2 k).2.2 j w)) a (S.1.2 k) := fun H' f => m1.vr2 (S := wFt S 0) h2 h4 ha hoa (by rw [f.2.2 41 (by omega)]; exact z1) (fun x x1 x2 => by rw [f.2.2 x (by omega)]; exact e' x (by omega) (by omega) (by omega))
            simp (disch := omega) only [gX9_slide_85, gX9_slide_86, Rd_some, Wr_some, Cont_some, Cont_none, iso_O, true_and, hg_s, hg_n, hput_hput]
            refine lp_sli1 wA ka.2.2.1 (by omega) rfl rfl (fun H' f' p' => ?_) (max ((S.1.2 k).2.1 - w + 1) 0).toNat 0 H2 _ (by omega) (by omega) Fm.rf (z2.cg (fun m m0 _ => if_neg (by omega)))
            exact hq _ (MJ.prod (S1 := wFt S 0) m1 h2 h3 h4 (fun x x1 x2 y1 y2 y3 => (f'.2.2 x (by omega)).trans (e' x y1 y2 y3)) (by rw [f'.2.2 41 (by omega)]; exact z1) p' (by omega) (wn_V ka.2.2.1 (by omega))) ⟨by rw [f'.1, s1, f1.1], by rw [f'.2.1, s2, f1.2.1], fun x hx => by rw [f'.2.2 x (by omega), e' x (by omega) (by omega) (by omega)]; exact f1.2.2 x hx⟩
          · have e0 : max ((S.1.2 k).2.1 - w + 1) 0 = (S.1.2 k).2.1 - w + 1 := by omega
            simp (disch := omega) only [gX9_slide_44, gX9_slide_45, gX9_slide_46, gX9_slide_49, gX9_slide_50T, gX9_slide_50F, gX9_slide_53, gX9_slide_54, gX9_slide_55, gX9_slide_58, gX9_slide_59, gX9_slide_60, gX9_slide_61, gX9_slide_62, gX9_slide_65, gX9_slide_66T, gX9_slide_66F, gX9_slide_69, gX9_slide_70, gX9_slide_73, gX9_slide_74, gX9_slide_75, gX9_slide_78, gX9_slide_79, gX9_slide_80, gX9_slide_81, gX9_slide_82, Rd_some, Wr_some, Cont_some, Cont_none, iso_O, true_and, hg_s, hg_n, hput_hput, va.1, vr_lan va, vr_cnt va]
            rw [show Int32.ofInt ((S.1.2 k).2.1 - w + 1) = Int32.ofInt (max ((S.1.2 k).2.1 - w + 1) 0) by rw [e0]]
            refine sp_clearP m1 (fun j => wn (S.1.2 k).2.2 j w) (by omega) (fun H2 s1 s2 e' z1 z2 => ?_)
            have wA : ∀ H', Fm 47 48 H2 H' → VR H' (wSh (wFt S 0) 2 (max ((S.1.2 k).2.1 - w + 1) 0) (fun j => wn (S.1.2 k).2.2 j w)) a (S.1.2 k) := fun H' f => m1.vr2 (S := wFt S 0) h2 h4 ha hoa (by rw [f.2.2 41 (by omega)]; exact z1) (fun x x1 x2 => by rw [f.2.2 x (by omega)]; exact e' x (by omega) (by omega) (by omega))
            simp (disch := omega) only [gX9_slide_85, gX9_slide_86, Rd_some, Wr_some, Cont_some, Cont_none, iso_O, true_and, hg_s, hg_n, hput_hput]
            refine lp_sli1 wA ka.2.2.1 (by omega) rfl rfl (fun H' f' p' => ?_) (max ((S.1.2 k).2.1 - w + 1) 0).toNat 0 H2 _ (by omega) (by omega) Fm.rf (z2.cg (fun m m0 _ => if_neg (by omega)))
            exact hq _ (MJ.prod (S1 := wFt S 0) m1 h2 h3 h4 (fun x x1 x2 y1 y2 y3 => (f'.2.2 x (by omega)).trans (e' x y1 y2 y3)) (by rw [f'.2.2 41 (by omega)]; exact z1) p' (by omega) (wn_V ka.2.2.1 (by omega))) ⟨by rw [f'.1, s1, f1.1], by rw [f'.2.1, s2, f1.2.1], fun x hx => by rw [f'.2.2 x (by omega), e' x (by omega) (by omega) (by omega)]; exact f1.2.2 x hx⟩
        · rw [if_neg hl] at hq
          have va : VR (hput H 41 (cM (wFt S 0))) (wFt S 0) a (S.1.2 k) := m1.vr (S := wFt S 0) h2 h4 ha hoa
          simp (disch := omega) only [gX9_slide_44, gX9_slide_45, gX9_slide_46, gX9_slide_49, gX9_slide_50T, gX9_slide_50F, gX9_slide_53, gX9_slide_54, gX9_slide_55, gX9_slide_58, gX9_slide_59, gX9_slide_60, gX9_slide_61, gX9_slide_62, gX9_slide_65, gX9_slide_66T, gX9_slide_66F, gX9_slide_69, gX9_slide_70, gX9_slide_73, gX9_slide_74, gX9_slide_75, gX9_slide_78, gX9_slide_79, gX9_slide_80, gX9_slide_81, gX9_slide_82, Rd_some, Wr_some, Cont_some, Cont_none, iso_O, true_and, hg_s, hg_n, hput_hput, gX9_fails_0, gX9_fails_1, gX9_fails_2, pf_9_0, gX9_fails_5, gX9_fails_7, gX9_fails_8, gX9_fails_9, Rd_some, Wr_some, Cont_some, Cont_none, iso_O, true_and, hg_s, hg_n, hput_hput, va.1, vr_lan va]
          exact hq _ (MJ.ft h1 h2 h3 h4 2) (Fm.rf.put (by omega))
    · rw [if_neg hv] at hq
      simp (disch := omega) only [gX9_slide_0, gX9_slide_1, gX9_slide_2, pf_9_0, gX9_slide_5, gX9_slide_6, gX9_slide_9T, gX9_slide_9F, gX9_slide_12, gX9_slide_13, gX9_slide_14, gX9_slide_15, gX9_slide_16, gX9_slide_18, gX9_slide_21T, gX9_slide_21F, gX9_slide_24, gX9_slide_26, gX9_slide_27, gX9_slide_28, fl_9_1, gX9_slide_31, gX9_slide_32, aJ_g, gX9_slide_33, gX9_slide_35T, gX9_slide_35F, gX9_slide_38, gX9_slide_39, gX9_slide_40, gX9_slide_43, gX9_slide_44, gX9_slide_45, gX9_slide_46, gX9_slide_49, gX9_slide_50T, gX9_slide_50F, gX9_slide_53, gX9_slide_54, gX9_slide_55, gX9_slide_58, gX9_slide_59, gX9_slide_60, gX9_slide_61, gX9_slide_62, gX9_slide_65, gX9_slide_66T, gX9_slide_66F, gX9_slide_69, gX9_slide_70, gX9_slide_73, gX9_slide_74, gX9_slide_75, gX9_slide_78, gX9_slide_79, gX9_slide_80, gX9_slide_81, gX9_slide_82, gX9_slide_85, gX9_slide_86, gX9_slide_87, gX9_slide_88, gX9_slide_89, fl_9_8, gX9_slide_92T, gX9_slide_92F, gX9_slide_95, gX9_slide_96, gX9_slide_98, gX9_slide_100, gX9_slide_101T, gX9_slide_101F, gX9_slide_104, gX9_slide_105, gX9_slide_106, gX9_slide_107, gX9_slide_108, gX9_slide_109, gX9_slide_111, gX9_slide_112, gX9_slide_115, gX9_slide_118, gX9_slide_121, gX9_slide_124, gX9_slide_127, gX9_slide_130, gX9_slide_131, gX9_slide_134, Rd_some, Wr_some, Cont_some, Cont_none, iso_O, true_and, hg_s, hg_n, hput_hput, hx, sp_mplT, sp_wiF]
      exact hq _ (MJ.ft h1 h2 h3 h4 0) (Fm.rf.put (by omega))
  · rw [if_neg ha] at hq
    simp (disch := omega) only [gX9_slide_0, gX9_slide_1, gX9_slide_2, pf_9_0, gX9_slide_5, gX9_slide_6, gX9_slide_9T, gX9_slide_9F, gX9_slide_12, gX9_slide_13, gX9_slide_14, gX9_slide_15, gX9_slide_16, gX9_slide_18, gX9_slide_21T, gX9_slide_21F, gX9_slide_24, gX9_slide_26, gX9_slide_27, gX9_slide_28, fl_9_1, gX9_slide_31, gX9_slide_32, aJ_g, gX9_slide_33, gX9_slide_35T, gX9_slide_35F, gX9_slide_38, gX9_slide_39, gX9_slide_40, gX9_slide_43, gX9_slide_44, gX9_slide_45, gX9_slide_46, gX9_slide_49, gX9_slide_50T, gX9_slide_50F, gX9_slide_53, gX9_slide_54, gX9_slide_55, gX9_slide_58, gX9_slide_59, gX9_slide_60, gX9_slide_61, gX9_slide_62, gX9_slide_65, gX9_slide_66T, gX9_slide_66F, gX9_slide_69, gX9_slide_70, gX9_slide_73, gX9_slide_74, gX9_slide_75, gX9_slide_78, gX9_slide_79, gX9_slide_80, gX9_slide_81, gX9_slide_82, gX9_slide_85, gX9_slide_86, gX9_slide_87, gX9_slide_88, gX9_slide_89, fl_9_8, gX9_slide_92T, gX9_slide_92F, gX9_slide_95, gX9_slide_96, gX9_slide_98, gX9_slide_100, gX9_slide_101T, gX9_slide_101F, gX9_slide_104, gX9_slide_105, gX9_slide_106, gX9_slide_107, gX9_slide_108, gX9_slide_109, gX9_slide_111, gX9_slide_112, gX9_slide_115, gX9_slide_118, gX9_slide_121, gX9_slide_124, gX9_slide_127, gX9_slide_130, gX9_slide_131, gX9_slide_134, Rd_some, Wr_some, Cont_some, Cont_none, iso_O, true_and, hg_s, hg_n, hput_hput, hx, sp_mplF]
    exact hq _ (MJ.ft h1 h2 h3 h4 0) (Fm.rf.put (by omega))

end MPR

/-! m: calls on rows -/
section MOPS
variable {H : HP} {S : SS} {T : TT} {Q : Option Value → HP → Prop} {p q i ln n v w b : Int}
/-- what a call on m has, and gives -/
def MG (H : HP) (Q : Option Value → HP → Prop) (o : Value × SS) : Prop := ∀ H', MJ H' o.2 → Fm 41 60 H H' → Q (some o.1) H'
theorem live_rok (hm : MJ H S) : ∀ k, live S k → rok (S.1.2 k) := hm.choose_spec.2.2.2
theorem mx_row (hm : MJ H S) {k : Nat} (hk : ¬ live S k) (c : (-2147483648 ≤ p ∧ p ≤ 2147483647) ∧ (-2147483648 ≤ ln ∧ ln ≤ 2147483647) ∧ (-2147483648 ≤ n ∧ n ≤ 2147483647)) (hq : MG H Q (o_row S p ln n k)) : Go 126 0 [some (.ref 41), some (vi p), some (vi ln), some (vi n)] [] H Q := by
  obtain ⟨T, h1, h2, h3, h4⟩ := hm
  have hx := h1.v.1
  unfold o_row MG at hq
  by_cases c1 : 0 ≤ p ∧ p < 12
  · rw [if_pos c1] at hq
    by_cases c2 : (0 ≤ ln ∧ ln ≤ 4) ∧ n ≠ 0 ∧ n ≤ 64
    · rw [if_pos c2] at hq
      by_cases c3 : 0 ≤ n
      · rw [if_pos c3] at hq
        simp (disch := omega) only [gX9_row_0, gX9_row_1, gX9_row_2, pf_9_0, gX9_row_5, gX9_row_6, gX9_row_9T, gX9_row_9F, gX9_row_12, gX9_row_13, gX9_row_14, gX9_row_15, gX9_row_16, gX9_row_17, gX9_row_20T, gX9_row_20F, gX9_row_23, gX9_row_24T, gX9_row_24F, gX9_row_27, gX9_row_28, gX9_row_30T, gX9_row_30F, gX9_row_33, gX9_row_35, gX9_row_36, gX9_row_37T, gX9_row_37F, gX9_row_40, gX9_row_41, gX9_row_42, gX9_row_45, gX9_row_46, gX9_row_47, gX9_row_48, gX9_row_49, gX9_row_50, Rd_some, Wr_some, Cont_some, Cont_none, iso_O, true_and, hg_s, hg_n, hput_hput, hx, sp_mplT, sp_wiT]
        have m1 := h1.ft 0
        change Go _ _ _ _ (hput H 41 (cM (wFt S 0))) _
        refine sp_renew m1.v h2.bd m1.e c1 (fun r r1 r2 => ?_)
        simp (disch := omega) only [gX9_row_53, gX9_row_54, gX9_row_55, Rd_some, Wr_some, Cont_some, Cont_none, iso_O, true_and, hg_s, hg_n, hput_hput]
        refine hq _ ⟨((up T.1.1 p r, up T.1.2 r ln), (up T.2.1 r n, zf T.2.2 (64 * r) 64)), fun a a1 a2 => ?_, h2.new (S := wFt S 0) (d := (ln, n, fun _ => 0)) h4 c1 hk r1 r2 (fun j j0 j1 => ?_) (fun x x1 => if_neg (by omega)), h3, fun l hl => ?_⟩ ((((Fm.rf.put (by omega)).put (by omega)).put (by omega)).put (by omega) |>.put (by omega))
        · refine Mh_pl.mpr (Mh_rd.mpr ?_)
          by_cases e5 : a = 45
          · subst e5; rw [hg_s]; rfl
          · rw [hg_n e5]
            by_cases e4 : a = 44
            · subst e4; rw [hg_s]; rfl
            · rw [hg_n e4]
              by_cases e3 : a = 43
              · subst e3; rw [hg_s]; rfl
              · rw [hg_n e3]
                by_cases e2 : a = 42
                · subst e2; rw [hg_s]; rfl
                · rw [hg_n e2]; exact (Mh_T (by omega)).mpr (m1 a a1 a2)
        · have j1 : j < n := j1
          exact if_pos ⟨by omega, by omega⟩
        · obtain ⟨t, t0, t1, t2⟩ := hl
          have t2 : up S.1.1 p (some k) t = some l := t2
          show rok (if l = k then _ else S.1.2 l)
          by_cases e : l = k
          · rw [if_pos e]
            exact ⟨c2.1, ⟨by show 0 < n; omega, by show n ≤ 64; omega⟩, fun j _ _ => by dsimp only; omega, fun _ j _ _ => by dsimp only; omega⟩
          · rw [if_neg e]
            refine h4 l ⟨t, t0, t1, ?_⟩
            by_cases e2 : t = p
            · rw [show up S.1.1 p (some k) t = some k from if_pos e2] at t2; cases t2; exact absurd rfl e
            · rw [show up S.1.1 p (some k) t = S.1.1 t from if_neg e2] at t2; exact t2
      · rw [if_neg c3] at hq
        simp (disch := omega) only [gX9_row_0, gX9_row_1, gX9_row_2, pf_9_0, gX9_row_5, gX9_row_6, gX9_row_9T, gX9_row_9F, gX9_row_12, gX9_row_13, gX9_row_14, gX9_row_15, gX9_row_16, gX9_row_17, gX9_row_20T, gX9_row_20F, gX9_row_23, gX9_row_24T, gX9_row_24F, gX9_row_27, gX9_row_28, gX9_row_30T, gX9_row_30F, gX9_row_33, gX9_row_35, gX9_row_36, gX9_row_37T, gX9_row_37F, gX9_row_40, gX9_row_41, gX9_row_42, gX9_row_45, gX9_row_46, gX9_row_47, gX9_row_48, gX9_row_49, gX9_row_50, gX9_row_53, gX9_row_54, gX9_row_55, Rd_some, Wr_some, Cont_some, Cont_none, iso_O, true_and, hg_s, hg_n, hput_hput, gX9_fails_0, gX9_fails_1, gX9_fails_2, pf_9_0, gX9_fails_5, gX9_fails_7, gX9_fails_8, gX9_fails_9, Rd_some, Wr_some, Cont_some, Cont_none, iso_O, true_and, hg_s, hg_n, hput_hput, hx, sp_mplT, sp_wiT]
        exact hq _ (MJ.ft h1 h2 h3 h4 4) (Fm.rf.put (by omega))
    · rw [if_neg c2] at hq
      by_cases c4 : 0 ≤ ln ∧ ln ≤ 4
      · by_cases c5 : n = 0 <;> simp (disch := omega) only [gX9_row_0, gX9_row_1, gX9_row_2, pf_9_0, gX9_row_5, gX9_row_6, gX9_row_9T, gX9_row_9F, gX9_row_12, gX9_row_13, gX9_row_14, gX9_row_15, gX9_row_16, gX9_row_17, gX9_row_20T, gX9_row_20F, gX9_row_23, gX9_row_24T, gX9_row_24F, gX9_row_27, gX9_row_28, gX9_row_30T, gX9_row_30F, gX9_row_33, gX9_row_35, gX9_row_36, gX9_row_37T, gX9_row_37F, gX9_row_40, gX9_row_41, gX9_row_42, gX9_row_45, gX9_row_46, gX9_row_47, gX9_row_48, gX9_row_49, gX9_row_50, gX9_row_53, gX9_row_54, gX9_row_55, Rd_some, Wr_some, Cont_some, Cont_none, iso_O, true_and, hg_s, hg_n, hput_hput, hx, sp_mplT, sp_wiT] <;> exact hq _ (MJ.ft h1 h2 h3 h4 0) (Fm.rf.put (by omega))
      · simp (disch := omega) only [gX9_row_0, gX9_row_1, gX9_row_2, pf_9_0, gX9_row_5, gX9_row_6, gX9_row_9T, gX9_row_9F, gX9_row_12, gX9_row_13, gX9_row_14, gX9_row_15, gX9_row_16, gX9_row_17, gX9_row_20T, gX9_row_20F, gX9_row_23, gX9_row_24T, gX9_row_24F, gX9_row_27, gX9_row_28, gX9_row_30T, gX9_row_30F, gX9_row_33, gX9_row_35, gX9_row_36, gX9_row_37T, gX9_row_37F, gX9_row_40, gX9_row_41, gX9_row_42, gX9_row_45, gX9_row_46, gX9_row_47, gX9_row_48, gX9_row_49, gX9_row_50, gX9_row_53, gX9_row_54, gX9_row_55, Rd_some, Wr_some, Cont_some, Cont_none, iso_O, true_and, hg_s, hg_n, hput_hput, hx, sp_mplT, sp_wiF]
        exact hq _ (MJ.ft h1 h2 h3 h4 0) (Fm.rf.put (by omega))
  · rw [if_neg c1] at hq
    simp (disch := omega) only [gX9_row_0, gX9_row_1, gX9_row_2, pf_9_0, gX9_row_5, gX9_row_6, gX9_row_9T, gX9_row_9F, gX9_row_12, gX9_row_13, gX9_row_14, gX9_row_15, gX9_row_16, gX9_row_17, gX9_row_20T, gX9_row_20F, gX9_row_23, gX9_row_24T, gX9_row_24F, gX9_row_27, gX9_row_28, gX9_row_30T, gX9_row_30F, gX9_row_33, gX9_row_35, gX9_row_36, gX9_row_37T, gX9_row_37F, gX9_row_40, gX9_row_41, gX9_row_42, gX9_row_45, gX9_row_46, gX9_row_47, gX9_row_48, gX9_row_49, gX9_row_50, gX9_row_53, gX9_row_54, gX9_row_55, Rd_some, Wr_some, Cont_some, Cont_none, iso_O, true_and, hg_s, hg_n, hput_hput, hx, sp_mplF]
    exact hq _ (MJ.ft h1 h2 h3 h4 0) (Fm.rf.put (by omega))
theorem mx_share (hm : MJ H S) (c : (-2147483648 ≤ p ∧ p ≤ 2147483647) ∧ (-2147483648 ≤ q ∧ q ≤ 2147483647)) (hq : MG H Q (o_share S p q)) : Go 127 0 [some (.ref 41), some (vi p), some (vi q)] [] H Q := by
  have hm0 := hm
  obtain ⟨T, h1, h2, h3, h4⟩ := hm
  have hx := h1.v.1
  unfold o_share MG at hq
  by_cases c1 : 0 ≤ p ∧ p < 12
  · by_cases c2 : 0 ≤ q ∧ q < 12
    · rw [if_pos ⟨c1, c2⟩] at hq
      simp (disch := omega) only [gX9_share_0, gX9_share_1, gX9_share_4T, gX9_share_4F, gX9_share_7, gX9_share_8, gX9_share_11T, gX9_share_11F, gX9_share_14, gX9_share_15, gX9_share_16, gX9_share_17, fl_9_1, gX9_share_20, gX9_share_21, gX9_share_22, gX9_share_25, gX9_share_26, aJ_g, gX9_share_27, sJ_p, gX9_share_28, gX9_share_29, Rd_some, Wr_some, Cont_some, Cont_none, iso_O, true_and, hg_s, hg_n, hput_hput, hx, sp_mplT, h1.v.2.1]
      refine hq _ ⟨_, fun a a1 a2 => ?_, h2.pla c1 c2, h3, fun l hl => h4 l ?_⟩ (Fm.rf.put (by omega))
      · refine Mh_pl.mpr ?_
        by_cases e : a = 42
        · subst e; rw [hg_s]; rfl
        · rw [hg_n e]
          have := h1 a a1 a2
          unfold Mh at this ⊢
          split at this <;> first | exact absurd rfl e | exact this
      · obtain ⟨t, t0, t1, t2⟩ := hl
        have t2 : up S.1.1 p (S.1.1 q) t = some l := t2
        by_cases e : t = p
        · rw [show up S.1.1 p (S.1.1 q) t = S.1.1 q from if_pos e] at t2; exact ⟨q, c2.1, c2.2, t2⟩
        · rw [show up S.1.1 p (S.1.1 q) t = S.1.1 t from if_neg e] at t2; exact ⟨t, t0, t1, t2⟩
    · rw [if_neg (fun t => c2 t.2)] at hq
      simp (disch := omega) only [gX9_share_0, gX9_share_1, gX9_share_4T, gX9_share_4F, gX9_share_7, gX9_share_8, gX9_share_11T, gX9_share_11F, gX9_share_14, gX9_share_15, gX9_share_16, gX9_share_17, fl_9_1, gX9_share_20, gX9_share_21, gX9_share_22, gX9_share_25, gX9_share_26, aJ_g, gX9_share_27, sJ_p, gX9_share_28, gX9_share_29, Rd_some, Wr_some, Cont_some, Cont_none, iso_O, true_and, hg_s, hg_n, hput_hput, hx, sp_mplT, sp_mplF]
      exact hq _ hm0 Fm.rf
  · rw [if_neg (fun t => c1 t.1)] at hq
    simp (disch := omega) only [gX9_share_0, gX9_share_1, gX9_share_4T, gX9_share_4F, gX9_share_7, gX9_share_8, gX9_share_11T, gX9_share_11F, gX9_share_14, gX9_share_15, gX9_share_16, gX9_share_17, fl_9_1, gX9_share_20, gX9_share_21, gX9_share_22, gX9_share_25, gX9_share_26, aJ_g, gX9_share_27, sJ_p, gX9_share_28, gX9_share_29, Rd_some, Wr_some, Cont_some, Cont_none, iso_O, true_and, hg_s, hg_n, hput_hput, hx, sp_mplF]
    exact hq _ hm0 Fm.rf
theorem mx_kind (hm : MJ H S) (c : (-2147483648 ≤ p ∧ p ≤ 2147483647) ∧ (-2147483648 ≤ w ∧ w ≤ 2147483647)) (hq : MG H Q (o_kind S p w)) : Go 128 0 [some (.ref 41), some (vi p), some (vi w)] [] H Q := by
  have hm0 := hm
  obtain ⟨T, h1, h2, h3, h4⟩ := hm
  have hx := h1.v.1
  unfold o_kind MG at hq
  by_cases c1 : 0 ≤ p ∧ p < 12
  · rw [if_pos c1] at hq
    by_cases c2 : w = 0 ∨ w = 1
    · rw [if_pos c2] at hq
      cases ho : S.1.1 p with
      | none =>
        rw [ho] at hq
        dsimp only at hq
        have e := h2.no c1 ho
        simp (disch := omega) only [gX9_kind_0, gX9_kind_1, gX9_kind_4T, gX9_kind_4F, gX9_kind_7, gX9_kind_8, gX9_kind_9, gX9_kind_10, gX9_kind_11, gX9_kind_12, gX9_kind_15T, gX9_kind_15F, gX9_kind_18, gX9_kind_20, gX9_kind_21, gX9_kind_22, fl_9_1, gX9_kind_25, gX9_kind_26, aJ_g, gX9_kind_27, gX9_kind_29T, gX9_kind_29F, gX9_kind_32, gX9_kind_34, gX9_kind_37, gX9_kind_38T, gX9_kind_38F, gX9_kind_41, gX9_kind_42, gX9_kind_43, gX9_kind_46, gX9_kind_49, gX9_kind_50, gX9_kind_51, gX9_kind_54, Rd_some, Wr_some, Cont_some, Cont_none, iso_O, true_and, hg_s, hg_n, hput_hput, hx, sp_mplT, sp_wiT, h1.v.2.1]
        exact hq _ hm0 Fm.rf
      | some k =>
        rw [ho] at hq
        dsimp only at hq
        obtain ⟨r1, r2, r3, r4⟩ := h2.ro c1 ho
        rcases c2 with rfl | rfl
        · simp (disch := omega) only [gX9_kind_0, gX9_kind_1, gX9_kind_4T, gX9_kind_4F, gX9_kind_7, gX9_kind_8, gX9_kind_9, gX9_kind_10, gX9_kind_11, gX9_kind_12, gX9_kind_15T, gX9_kind_15F, gX9_kind_18, gX9_kind_20, gX9_kind_21, gX9_kind_22, fl_9_1, gX9_kind_25, gX9_kind_26, aJ_g, gX9_kind_27, gX9_kind_29T, gX9_kind_29F, gX9_kind_32, gX9_kind_34, gX9_kind_37, gX9_kind_38T, gX9_kind_38F, gX9_kind_41, gX9_kind_42, gX9_kind_43, gX9_kind_46, gX9_kind_49, gX9_kind_50, gX9_kind_51, gX9_kind_54, Rd_some, Wr_some, Cont_some, Cont_none, iso_O, true_and, hg_s, hg_n, hput_hput, hx, sp_mplT, sp_wiT, h1.v.2.1, sp_lan h1.v, r2]
          exact hq _ hm0 Fm.rf
        · simp (disch := omega) only [gX9_kind_0, gX9_kind_1, gX9_kind_4T, gX9_kind_4F, gX9_kind_7, gX9_kind_8, gX9_kind_9, gX9_kind_10, gX9_kind_11, gX9_kind_12, gX9_kind_15T, gX9_kind_15F, gX9_kind_18, gX9_kind_20, gX9_kind_21, gX9_kind_22, fl_9_1, gX9_kind_25, gX9_kind_26, aJ_g, gX9_kind_27, gX9_kind_29T, gX9_kind_29F, gX9_kind_32, gX9_kind_34, gX9_kind_37, gX9_kind_38T, gX9_kind_38F, gX9_kind_41, gX9_kind_42, gX9_kind_43, gX9_kind_46, gX9_kind_49, gX9_kind_50, gX9_kind_51, gX9_kind_54, Rd_some, Wr_some, Cont_some, Cont_none, iso_O, true_and, hg_s, hg_n, hput_hput, hx, sp_mplT, sp_wiT, h1.v.2.1, sp_cnt h1.v, r3]
          exact hq _ hm0 Fm.rf
    · rw [if_neg c2] at hq
      simp (disch := omega) only [gX9_kind_0, gX9_kind_1, gX9_kind_4T, gX9_kind_4F, gX9_kind_7, gX9_kind_8, gX9_kind_9, gX9_kind_10, gX9_kind_11, gX9_kind_12, gX9_kind_15T, gX9_kind_15F, gX9_kind_18, gX9_kind_20, gX9_kind_21, gX9_kind_22, fl_9_1, gX9_kind_25, gX9_kind_26, aJ_g, gX9_kind_27, gX9_kind_29T, gX9_kind_29F, gX9_kind_32, gX9_kind_34, gX9_kind_37, gX9_kind_38T, gX9_kind_38F, gX9_kind_41, gX9_kind_42, gX9_kind_43, gX9_kind_46, gX9_kind_49, gX9_kind_50, gX9_kind_51, gX9_kind_54, Rd_some, Wr_some, Cont_some, Cont_none, iso_O, true_and, hg_s, hg_n, hput_hput, hx, sp_mplT, sp_wiF]
      exact hq _ hm0 Fm.rf
  · rw [if_neg c1] at hq
    simp (disch := omega) only [gX9_kind_0, gX9_kind_1, gX9_kind_4T, gX9_kind_4F, gX9_kind_7, gX9_kind_8, gX9_kind_9, gX9_kind_10, gX9_kind_11, gX9_kind_12, gX9_kind_15T, gX9_kind_15F, gX9_kind_18, gX9_kind_20, gX9_kind_21, gX9_kind_22, fl_9_1, gX9_kind_25, gX9_kind_26, aJ_g, gX9_kind_27, gX9_kind_29T, gX9_kind_29F, gX9_kind_32, gX9_kind_34, gX9_kind_37, gX9_kind_38T, gX9_kind_38F, gX9_kind_41, gX9_kind_42, gX9_kind_43, gX9_kind_46, gX9_kind_49, gX9_kind_50, gX9_kind_51, gX9_kind_54, Rd_some, Wr_some, Cont_some, Cont_none, iso_O, true_and, hg_s, hg_n, hput_hput, hx, sp_mplF]
    exact hq _ hm0 Fm.rf
end MOPS

/-! m: reverse, shift; what is told -/
section MOPS
variable {H : HP} {S : SS} {T : TT} {Q : Option Value → HP → Prop} {p q i ln n v w b : Int} {d : RD}
theorem lp_keep (h41 : hget H 41 = cM S) {f : Int → Int} (hv : ∀ c, VR (hput H 53 c) S p d) : ∀ (e : Nat) (i : Int), i + e = d.2.1 → 0 ≤ i → (Go 134 2 [some (.ref 41), some (vi p), some (vi i)] [] (hput H 53 (cL 64 (mix d.2.2 f i))) Q ↔ Q none (hput H 53 (cL 64 (mix d.2.2 f d.2.1)))) := by
  have hn := (hv (cL 64 f)).2.1
  have hx : ∀ c, hget (hput H 53 c) 41 = cM S := fun c => by rw [hg_n (by omega)]; exact h41
  intro e
  induction e with
  | zero =>
    intro i hi h0
    rw [show i = d.2.1 by omega, gX9_keepEntries_2]
    simp (disch := omega) only [gX9_keepEntries_3, gX9_keepEntries_4, gX9_keepEntries_5, gX9_keepEntries_8T, gX9_keepEntries_8F, gX9_keepEntries_29, Rd_some, Wr_some, Cont_some, Cont_none, iso_O, true_and, hg_s, hg_n, hput_hput, hx, vr_cnt (hv _)]
  | succ e ih =>
    intro i hi h0
    rw [gX9_keepEntries_2]
    simp (disch := omega) only [gX9_keepEntries_3, gX9_keepEntries_4, gX9_keepEntries_5, gX9_keepEntries_8T, gX9_keepEntries_8F, gX9_keepEntries_11, gX9_keepEntries_12, fl_9_19, gX9_keepEntries_15, gX9_keepEntries_16, gX9_keepEntries_17, gX9_keepEntries_18, gX9_keepEntries_19, gX9_keepEntries_22, sL_p, gX9_keepEntries_23, gX9_keepEntries_26, Rd_some, Wr_some, Cont_some, Cont_none, iso_O, true_and, hg_s, hg_n, hput_hput, hx, vr_cnt (hv _), vr_ent (hv _)]
    rw [mix_up h0 rfl]
    exact ih (i + 1) (by omega) (by omega)
theorem sp_keep (h41 : hget H 41 = cM S) {f : Int → Int} (hf : hget H 53 = cL 64 f) (hv : ∀ c, VR (hput H 53 c) S p d) : Go 134 0 [some (.ref 41), some (vi p), none] [] H Q ↔ Q none (hput H 53 (cL 64 (mix d.2.2 f d.2.1))) := by
  have hn := (hv (cL 64 f)).2.1
  simp only [gX9_keepEntries_0, gX9_keepEntries_1, Rd_some, Wr_some, Cont_some, Cont_none, iso_O, true_and, hg_s, hg_n, hput_hput]
  have e2 : H = hput H 53 (cL 64 (mix d.2.2 f 0)) := by rw [mix_0]; exact (hput_same hf).symm
  conv => lhs; rw [e2]
  exact lp_keep h41 hv d.2.1.toNat 0 (by omega) (by omega)
/-- from b on the first i are laid -/
def lay (g en : Int → Int) (b i : Int) : Int → Int := fun x => if b ≤ x ∧ x < b + i then g (x - b) else en x
theorem lay_up {g en : Int → Int} {b i x : Int} (hi : 0 ≤ i) (hx : x = g i) : up (lay g en b i) (b + i) x = lay g en b (i + 1) := by
  funext j
  unfold up lay
  by_cases h : j = b + i
  · rw [if_pos h, if_pos (by omega), hx, show j - b = i by omega]
  · rw [if_neg h]
    by_cases h2 : b ≤ j ∧ j < b + i
    · rw [if_pos h2, if_pos (by omega)]
    · rw [if_neg h2, if_neg (by omega)]
theorem lp_mrev {en g : Int → Int} {r : Int} (h41 : hget H 41 = cM S) (h42 : hget H 42 = cJ 12 T.1.1) (h44 : hget H 44 = cJ 13 T.2.1) {f : Int → Int} (h53 : hget H 53 = cL 64 f) (hp : (0 ≤ p ∧ p < 12) ∧ T.1.1 p = r ∧ 0 ≤ r ∧ r ≤ 12) (hn : (0 < n ∧ n ≤ 64) ∧ T.2.1 r = n) (hg : ∀ j, 0 ≤ j → j < n → g j = f (n - 1 - j)) : ∀ (e : Nat) (i : Int), i + e = n → 0 ≤ i → (Go 135 38 [some (.ref 41), some (vi p), some (vi i)] [] (hput H 45 (cL 832 (lay g en (64 * r) i))) Q ↔ Q (some (vi 1)) (hput H 45 (cL 832 (lay g en (64 * r) n)))) := by
  have x41 : ∀ c, hget (hput H 45 c) 41 = cM S := fun c => by rw [hg_n (by omega)]; exact h41
  have x42 : ∀ c, hget (hput H 45 c) 42 = cJ 12 T.1.1 := fun c => by rw [hg_n (by omega)]; exact h42
  have x44 : ∀ c, hget (hput H 45 c) 44 = cJ 13 T.2.1 := fun c => by rw [hg_n (by omega)]; exact h44
  have x53 : ∀ c, hget (hput H 45 c) 53 = cL 64 f := fun c => by rw [hg_n (by omega)]; exact h53
  have e1 := hp.2.1
  have e2 := hn.2
  intro e
  induction e with
  | zero =>
    intro i hi h0
    rw [show i = n by omega, gX9_reverse_38]
    simp (disch := omega) only [gX9_reverse_39, gX9_reverse_40, gX9_reverse_41, gX9_reverse_44T, gX9_reverse_44F, gX9_reverse_83, gX9_reverse_84, Rd_some, Wr_some, Cont_some, Cont_none, iso_O, true_and, hg_s, hg_n, hput_hput, gX9_count_0, gX9_count_1, fl_9_3, gX9_count_4, gX9_count_5, fl_9_1, gX9_count_8, gX9_count_9, aJ_g, gX9_count_10, gX9_count_11, Rd_some, Wr_some, Cont_some, Cont_none, iso_O, true_and, hg_s, hg_n, hput_hput, x41, x42, x44, e1, e2]
  | succ e ih =>
    intro i hi h0
    rw [gX9_reverse_38]
    simp (disch := omega) only [gX9_reverse_39, gX9_reverse_40, gX9_reverse_41, gX9_reverse_44T, gX9_reverse_44F, gX9_reverse_47, gX9_reverse_48, fl_9_4, gX9_reverse_51, gX9_reverse_53, gX9_reverse_54, fl_9_1, gX9_reverse_57, gX9_reverse_58, aJ_g, gX9_reverse_59, gX9_reverse_60, gX9_reverse_61, gX9_reverse_62, gX9_reverse_63, fl_9_19, gX9_reverse_66, gX9_reverse_67, gX9_reverse_68, gX9_reverse_71, gX9_reverse_72, gX9_reverse_73, gX9_reverse_74, gX9_reverse_75, aL_g, gX9_reverse_76, sL_p, gX9_reverse_77, gX9_reverse_80, Rd_some, Wr_some, Cont_some, Cont_none, iso_O, true_and, hg_s, hg_n, hput_hput, gX9_count_0, gX9_count_1, fl_9_3, gX9_count_4, gX9_count_5, fl_9_1, gX9_count_8, gX9_count_9, aJ_g, gX9_count_10, gX9_count_11, Rd_some, Wr_some, Cont_some, Cont_none, iso_O, true_and, hg_s, hg_n, hput_hput, x41, x42, x44, x53, e1, e2]
    rw [lay_up h0 (hg i h0 (by omega)).symm]
    exact ih (i + 1) (by omega) (by omega)
theorem mx_rev (hm : MJ H S) (c : -2147483648 ≤ p ∧ p ≤ 2147483647) (hq : MG H Q (o_rev S p)) : Go 135 0 [some (.ref 41), some (vi p), none] [] H Q := by
  obtain ⟨T, h1, h2, h3, h4⟩ := hm
  have hx := h1.v.1
  unfold o_rev MG at hq
  by_cases c1 : 0 ≤ p ∧ p < 12
  · rw [if_pos c1] at hq
    have m1 := h1.ft 0
    cases ho : S.1.1 p with
    | none =>
      rw [ho] at hq
      dsimp only at hq
      have e := h2.no c1 ho
      simp (disch := omega) only [gX9_reverse_0, gX9_reverse_1, gX9_reverse_2, pf_9_0, gX9_reverse_5, gX9_reverse_6, gX9_reverse_9T, gX9_reverse_9F, gX9_reverse_12, gX9_reverse_13, gX9_reverse_14, gX9_reverse_15, fl_9_1, gX9_reverse_18, gX9_reverse_19, aJ_g, gX9_reverse_20, gX9_reverse_22T, gX9_reverse_22F, gX9_reverse_25, gX9_reverse_26, gX9_reverse_27, gX9_reverse_30, gX9_reverse_31, gX9_reverse_32, gX9_reverse_33, gX9_reverse_36, gX9_reverse_37, gX9_reverse_38, gX9_reverse_39, gX9_reverse_40, gX9_reverse_41, gX9_reverse_44T, gX9_reverse_44F, gX9_reverse_47, gX9_reverse_48, fl_9_4, gX9_reverse_51, gX9_reverse_53, gX9_reverse_54, gX9_reverse_57, gX9_reverse_58, gX9_reverse_59, gX9_reverse_60, gX9_reverse_61, gX9_reverse_62, gX9_reverse_63, fl_9_19, gX9_reverse_66, gX9_reverse_67, gX9_reverse_68, gX9_reverse_71, gX9_reverse_72, gX9_reverse_73, gX9_reverse_74, gX9_reverse_75, aL_g, gX9_reverse_76, sL_p, gX9_reverse_77, gX9_reverse_80, gX9_reverse_83, gX9_reverse_84, Rd_some, Wr_some, Cont_some, Cont_none, iso_O, true_and, hg_s, hg_n, hput_hput, gX9_fails_0, gX9_fails_1, gX9_fails_2, pf_9_0, gX9_fails_5, gX9_fails_7, gX9_fails_8, gX9_fails_9, Rd_some, Wr_some, Cont_some, Cont_none, iso_O, true_and, hg_s, hg_n, hput_hput, hx, sp_mplT, h1.v.2.1]
      exact hq _ (MJ.ft h1 h2 h3 h4 1) (Fm.rf.put (by omega))
    | some k =>
      rw [ho] at hq
      dsimp only at hq
      obtain ⟨r1, r2, r3, r4⟩ := h2.ro c1 ho
      have hk := h4 k ⟨p, c1.1, c1.2, ho⟩
      have hn := hk.2.1
      simp (disch := omega) only [gX9_reverse_0, gX9_reverse_1, gX9_reverse_2, pf_9_0, gX9_reverse_5, gX9_reverse_6, gX9_reverse_9T, gX9_reverse_9F, gX9_reverse_12, gX9_reverse_13, gX9_reverse_14, gX9_reverse_15, fl_9_1, gX9_reverse_18, gX9_reverse_19, aJ_g, gX9_reverse_20, gX9_reverse_22T, gX9_reverse_22F, gX9_reverse_25, gX9_reverse_26, gX9_reverse_27, gX9_reverse_30, gX9_reverse_31, gX9_reverse_32, gX9_reverse_33, Rd_some, Wr_some, Cont_some, Cont_none, iso_O, true_and, hg_s, hg_n, hput_hput, hx, sp_mplT, h1.v.2.1]
      change Go _ _ _ _ (hput H 41 (cM (wFt S 0))) _
      have f1 : Fm 41 60 H (hput H 41 (cM (wFt S 0))) := Fm.rf.put (by omega)
      generalize hput H 41 (cM (wFt S 0)) = H1 at m1 f1
      obtain ⟨f, hf⟩ := m1 53 (by decide) (by decide)
      have hv : ∀ c, VR (hput H1 53 c) (wFt S 0) p (S.1.2 k) := fun c => m1.vr2 (S := wFt S 0) h2 h4 c1 ho (by rw [hg_n (by omega)]; exact m1.v.1) (fun a a1 a2 => hg_n (by omega))
      rw [sp_keep m1.v.1 hf hv]
      simp (disch := omega) only [gX9_reverse_36, gX9_reverse_37, Rd_some, Wr_some, Cont_some, Cont_none, iso_O, true_and, hg_s, hg_n, hput_hput]
      generalize hD : mix (S.1.2 k).2.2 f (S.1.2 k).2.1 = D
      have eH : hput H1 53 (cL 64 D) = hput (hput H1 53 (cL 64 D)) 45 (cL 832 (lay (rev (S.1.2 k).2.2 0 (S.1.2 k).2.1) T.2.2 (64 * T.1.1 p) 0)) := by
        have e : lay (rev (S.1.2 k).2.2 0 (S.1.2 k).2.1) T.2.2 (64 * T.1.1 p) 0 = T.2.2 := by
          funext x
          exact if_neg (by omega)
        rw [e]
        exact (hput_same (by rw [hg_n (by omega)]; exact m1.e)).symm
      rw [eH, lp_mrev (S := wFt S 0) (T := T) (p := p) (f := D) (r := T.1.1 p) (n := (S.1.2 k).2.1) (by rw [hg_n (by omega)]; exact m1.v.1) (by rw [hg_n (by omega)]; exact m1.v.2.1) (by rw [hg_n (by omega)]; exact m1.v.2.2.2) hg_s ⟨c1, rfl, r1⟩ ⟨hn, r3⟩ (fun j j0 j1 => by
        rw [← hD, mix_in (by omega)]
        unfold rev
        rw [if_pos ⟨j0, j1⟩]
        exact congrArg _ (by omega)) (S.1.2 k).2.1.toNat 0 (by omega) (by omega)]
      refine hq _ (MJ.cells (H := H1) m1 h2 h3 h4 c1 ho (rok_rev hk) (fun j j0 j1 => ?_) (fun x x1 => if_neg (by omega)) (fun a a1 a2 b1 b2 => by rw [hg_n b1, hg_n b2]) ⟨D, by rw [hg_n (by omega), hg_s]⟩ hg_s) ((f1.tr (Fm.rf.put (by omega))).tr (Fm.rf.put (by omega)))
      rw [if_pos (by omega)]
      exact congrArg _ (by omega)
  · rw [if_neg c1] at hq
    simp (disch := omega) only [gX9_reverse_0, gX9_reverse_1, gX9_reverse_2, pf_9_0, gX9_reverse_5, gX9_reverse_6, gX9_reverse_9T, gX9_reverse_9F, gX9_reverse_12, gX9_reverse_13, gX9_reverse_14, gX9_reverse_15, fl_9_1, gX9_reverse_18, gX9_reverse_19, aJ_g, gX9_reverse_20, gX9_reverse_22T, gX9_reverse_22F, gX9_reverse_25, gX9_reverse_26, gX9_reverse_27, gX9_reverse_30, gX9_reverse_31, gX9_reverse_32, gX9_reverse_33, gX9_reverse_36, gX9_reverse_37, gX9_reverse_38, gX9_reverse_39, gX9_reverse_40, gX9_reverse_41, gX9_reverse_44T, gX9_reverse_44F, gX9_reverse_47, gX9_reverse_48, fl_9_4, gX9_reverse_51, gX9_reverse_53, gX9_reverse_54, gX9_reverse_57, gX9_reverse_58, gX9_reverse_59, gX9_reverse_60, gX9_reverse_61, gX9_reverse_62, gX9_reverse_63, fl_9_19, gX9_reverse_66, gX9_reverse_67, gX9_reverse_68, gX9_reverse_71, gX9_reverse_72, gX9_reverse_73, gX9_reverse_74, gX9_reverse_75, aL_g, gX9_reverse_76, sL_p, gX9_reverse_77, gX9_reverse_80, gX9_reverse_83, gX9_reverse_84, Rd_some, Wr_some, Cont_some, Cont_none, iso_O, true_and, hg_s, hg_n, hput_hput, hx, sp_mplF]
    exact hq _ (MJ.ft h1 h2 h3 h4 0) (Fm.rf.put (by omega))
/-- the first i, each by places on, around -/
def shf (f en : Int → Int) (b n by_ i : Int) : Int → Int := fun x => if (b ≤ x ∧ x < b + n) ∧ (x - b - by_) % n < i then f ((x - b - by_) % n) else en x
theorem shf_up {f en : Int → Int} {b n by_ i x : Int} (hn : 0 < n) (hi : 0 ≤ i ∧ i < n) (hx : x = f i) : up (shf f en b n by_ i) (b + (i + by_) % n) x = shf f en b n by_ (i + 1) := by
  have h1 := em hn (i + by_)
  have key : ∀ j, 0 ≤ j → j < n → ((j - by_) % n = i ↔ j = (i + by_) % n) := by
    intro j j0 j1
    constructor
    · intro h
      rw [← h, Int.add_emod, Int.emod_emod, ← Int.add_emod, show j - by_ + by_ = j by omega, Int.emod_eq_of_lt j0 j1]
    · intro h
      rw [h, Int.sub_emod, Int.emod_emod, ← Int.sub_emod, show i + by_ - by_ = i by omega, Int.emod_eq_of_lt hi.1 hi.2]
  funext j
  unfold up shf
  by_cases h : j = b + (i + by_) % n
  · have e := (key (j - b) (by omega) (by omega)).mpr (by omega)
    rw [if_pos h, if_pos ⟨by omega, by omega⟩, e, hx]
  · rw [if_neg h]
    by_cases h2 : b ≤ j ∧ j < b + n
    · have ne : ¬ (j - b - by_) % n = i := fun e => h (by have := (key (j - b) (by omega) (by omega)).mp e; omega)
      by_cases h3 : (j - b - by_) % n < i
      · rw [if_pos ⟨h2, h3⟩, if_pos ⟨h2, by omega⟩]
      · rw [if_neg (fun q => h3 q.2), if_neg (fun q => by have := q.2; omega)]
    · rw [if_neg (fun q => h2 q.1), if_neg (fun q => h2 q.1)]
theorem lp_mshift {en : Int → Int} {r by_ : Int} (h41 : hget H 41 = cM S) (h42 : hget H 42 = cJ 12 T.1.1) (h44 : hget H 44 = cJ 13 T.2.1) {f : Int → Int} (h53 : hget H 53 = cL 64 f) (hp : (0 ≤ p ∧ p < 12) ∧ T.1.1 p = r ∧ 0 ≤ r ∧ r ≤ 12) (hn : (0 < n ∧ n ≤ 64) ∧ T.2.1 r = n) (hb : 0 ≤ by_ ∧ by_ < n) {l2 : Option Value} : ∀ (e : Nat) (i : Int), i + e = n → 0 ≤ i → (Go 136 59 [some (.ref 41), some (vi p), l2, some (vi by_), some (vi i)] [] (hput H 45 (cL 832 (shf f en (64 * r) n by_ i))) Q ↔ Q (some (vi 1)) (hput H 45 (cL 832 (shf f en (64 * r) n by_ n)))) := by
  have x41 : ∀ c, hget (hput H 45 c) 41 = cM S := fun c => by rw [hg_n (by omega)]; exact h41
  have x42 : ∀ c, hget (hput H 45 c) 42 = cJ 12 T.1.1 := fun c => by rw [hg_n (by omega)]; exact h42
  have x44 : ∀ c, hget (hput H 45 c) 44 = cJ 13 T.2.1 := fun c => by rw [hg_n (by omega)]; exact h44
  have x53 : ∀ c, hget (hput H 45 c) 53 = cL 64 f := fun c => by rw [hg_n (by omega)]; exact h53
  have e1 := hp.2.1
  have e2 := hn.2
  intro e
  induction e with
  | zero =>
    intro i hi h0
    rw [show i = n by omega, gX9_shift_59]
    simp (disch := omega) only [gX9_shift_61, gX9_shift_62, gX9_shift_63, gX9_shift_66T, gX9_shift_66F, gX9_shift_107, gX9_shift_108, Rd_some, Wr_some, Cont_some, Cont_none, iso_O, true_and, hg_s, hg_n, hput_hput, gX9_count_0, gX9_count_1, fl_9_3, gX9_count_4, gX9_count_5, fl_9_1, gX9_count_8, gX9_count_9, aJ_g, gX9_count_10, gX9_count_11, Rd_some, Wr_some, Cont_some, Cont_none, iso_O, true_and, hg_s, hg_n, hput_hput, x41, x42, x44, e1, e2]
  | succ e ih =>
    intro i hi h0
    have m := em hn.1.1 (i + by_)
    have e3 : (i + by_).tmod n = (i + by_) % n := Int.tmod_eq_emod_of_nonneg (by omega)
    rw [gX9_shift_59]
    simp (disch := omega) only [gX9_shift_61, gX9_shift_62, gX9_shift_63, gX9_shift_66T, gX9_shift_66F, gX9_shift_69, gX9_shift_70, fl_9_4, gX9_shift_73, gX9_shift_75, gX9_shift_76, fl_9_1, gX9_shift_79, gX9_shift_80, aJ_g, gX9_shift_81, gX9_shift_82, gX9_shift_84, gX9_shift_85, gX9_shift_86, gX9_shift_87, gX9_shift_88, gX9_shift_91, gX9_shift_92, gX9_shift_93, gX9_shift_94, fl_9_19, gX9_shift_97, gX9_shift_99, aL_g, gX9_shift_100, sL_p, gX9_shift_101, gX9_shift_104, Rd_some, Wr_some, Cont_some, Cont_none, iso_O, true_and, hg_s, hg_n, hput_hput, gX9_count_0, gX9_count_1, fl_9_3, gX9_count_4, gX9_count_5, fl_9_1, gX9_count_8, gX9_count_9, aJ_g, gX9_count_10, gX9_count_11, Rd_some, Wr_some, Cont_some, Cont_none, iso_O, true_and, hg_s, hg_n, hput_hput, x41, x42, x44, x53, e1, e2, e3]
    rw [shf_up hn.1.1 (by omega) rfl]
    exact ih (i + 1) (by omega) (by omega)
theorem mx_shift (hm : MJ H S) (c : (-2147483648 ≤ p ∧ p ≤ 2147483647) ∧ (-2147483648 ≤ b ∧ b ≤ 2147483647)) (hq : MG H Q (o_shift S p b)) : Go 136 0 [some (.ref 41), some (vi p), some (vi b), none, none] [] H Q := by
  obtain ⟨T, h1, h2, h3, h4⟩ := hm
  have hx := h1.v.1
  unfold o_shift MG at hq
  by_cases c1 : 0 ≤ p ∧ p < 12
  · rw [if_pos c1] at hq
    have m1 := h1.ft 0
    cases ho : S.1.1 p with
    | none =>
      rw [ho] at hq
      dsimp only at hq
      have e := h2.no c1 ho
      simp (disch := omega) only [gX9_shift_0, gX9_shift_1, gX9_shift_2, pf_9_0, gX9_shift_5, gX9_shift_6, gX9_shift_9T, gX9_shift_9F, gX9_shift_12, gX9_shift_13, gX9_shift_14, gX9_shift_15, fl_9_1, gX9_shift_18, gX9_shift_19, aJ_g, gX9_shift_20, gX9_shift_22T, gX9_shift_22F, gX9_shift_25, gX9_shift_26, gX9_shift_27, gX9_shift_30, gX9_shift_31, gX9_shift_32, gX9_shift_33, gX9_shift_36, gX9_shift_37, gX9_shift_38, gX9_shift_39, gX9_shift_42, gX9_shift_43, gX9_shift_44, gX9_shift_45, gX9_shift_48, gX9_shift_49, gX9_shift_50, gX9_shift_51, gX9_shift_54, gX9_shift_55, gX9_shift_56, gX9_shift_57, gX9_shift_59, gX9_shift_61, gX9_shift_62, gX9_shift_63, gX9_shift_66T, gX9_shift_66F, gX9_shift_69, gX9_shift_70, fl_9_4, gX9_shift_73, gX9_shift_75, gX9_shift_76, gX9_shift_79, gX9_shift_80, gX9_shift_81, gX9_shift_82, gX9_shift_84, gX9_shift_85, gX9_shift_86, gX9_shift_87, gX9_shift_88, gX9_shift_91, gX9_shift_92, gX9_shift_93, gX9_shift_94, fl_9_19, gX9_shift_97, gX9_shift_99, aL_g, gX9_shift_100, sL_p, gX9_shift_101, gX9_shift_104, gX9_shift_107, gX9_shift_108, Rd_some, Wr_some, Cont_some, Cont_none, iso_O, true_and, hg_s, hg_n, hput_hput, gX9_fails_0, gX9_fails_1, gX9_fails_2, pf_9_0, gX9_fails_5, gX9_fails_7, gX9_fails_8, gX9_fails_9, Rd_some, Wr_some, Cont_some, Cont_none, iso_O, true_and, hg_s, hg_n, hput_hput, hx, sp_mplT, h1.v.2.1]
      exact hq _ (MJ.ft h1 h2 h3 h4 1) (Fm.rf.put (by omega))
    | some k =>
      rw [ho] at hq
      dsimp only at hq
      obtain ⟨r1, r2, r3, r4⟩ := h2.ro c1 ho
      have hk := h4 k ⟨p, c1.1, c1.2, ho⟩
      have hn := hk.2.1
      simp (disch := omega) only [gX9_shift_0, gX9_shift_1, gX9_shift_2, pf_9_0, gX9_shift_5, gX9_shift_6, gX9_shift_9T, gX9_shift_9F, gX9_shift_12, gX9_shift_13, gX9_shift_14, gX9_shift_15, fl_9_1, gX9_shift_18, gX9_shift_19, aJ_g, gX9_shift_20, gX9_shift_22T, gX9_shift_22F, gX9_shift_25, gX9_shift_26, gX9_shift_27, gX9_shift_30, gX9_shift_31, gX9_shift_32, gX9_shift_33, Rd_some, Wr_some, Cont_some, Cont_none, iso_O, true_and, hg_s, hg_n, hput_hput, hx, sp_mplT, h1.v.2.1]
      change Go _ _ _ _ (hput H 41 (cM (wFt S 0))) _
      have f1 : Fm 41 60 H (hput H 41 (cM (wFt S 0))) := Fm.rf.put (by omega)
      generalize hput H 41 (cM (wFt S 0)) = H1 at m1 f1
      obtain ⟨f, hf⟩ := m1 53 (by decide) (by decide)
      have hv : ∀ c, VR (hput H1 53 c) (wFt S 0) p (S.1.2 k) := fun c => m1.vr2 (S := wFt S 0) h2 h4 c1 ho (by rw [hg_n (by omega)]; exact m1.v.1) (fun a a1 a2 => hg_n (by omega))
      rw [sp_keep m1.v.1 hf hv]
      generalize hD : mix (S.1.2 k).2.2 f (S.1.2 k).2.1 = D
      have hvD := hv (cL 64 D)
      have t1 := fm_val (x := b) hn.1
      have t2 := em hn.1 b
      have t3 : -65 < b.tmod (S.1.2 k).2.1 ∧ b.tmod (S.1.2 k).2.1 < 64 := by
        by_cases hb0 : 0 ≤ b
        · rw [t1.1 hb0]; omega
        · rcases t1.2 (by omega) with q | q <;> omega
      have t4 : (b.tmod (S.1.2 k).2.1 + (S.1.2 k).2.1).tmod (S.1.2 k).2.1 = b % (S.1.2 k).2.1 := by
        by_cases hb0 : 0 ≤ b
        · rw [t1.1 hb0, Int.tmod_eq_emod_of_nonneg (by omega), Int.add_emod_right, Int.emod_emod]
        · rcases t1.2 (by omega) with q | q
          · rw [q.1, Int.tmod_eq_emod_of_nonneg (by omega), Int.zero_add, Int.emod_self, q.2]
          · rw [q.2, Int.tmod_eq_emod_of_nonneg (by omega), Int.emod_emod]
      have t5 : 0 ≤ b.tmod (S.1.2 k).2.1 + (S.1.2 k).2.1 ∧ b.tmod (S.1.2 k).2.1 + (S.1.2 k).2.1 ≤ 200 := by
        by_cases hb0 : 0 ≤ b
        · rw [t1.1 hb0]; omega
        · rcases t1.2 (by omega) with q | q <;> omega
      simp (disch := omega) only [gX9_shift_36, gX9_shift_37, gX9_shift_38, gX9_shift_39, gX9_shift_42, gX9_shift_43, gX9_shift_44, gX9_shift_45, gX9_shift_48, gX9_shift_49, gX9_shift_50, gX9_shift_51, gX9_shift_54, gX9_shift_55, gX9_shift_56, gX9_shift_57, Rd_some, Wr_some, Cont_some, Cont_none, iso_O, true_and, hg_s, hg_n, hput_hput, hvD.1, vr_cnt hvD, t4]
      have eH : hput H1 53 (cL 64 D) = hput (hput H1 53 (cL 64 D)) 45 (cL 832 (shf D T.2.2 (64 * T.1.1 p) (S.1.2 k).2.1 (b % (S.1.2 k).2.1) 0)) := by
        have e : shf D T.2.2 (64 * T.1.1 p) (S.1.2 k).2.1 (b % (S.1.2 k).2.1) 0 = T.2.2 := by
          funext x
          have := em hn.1 (x - 64 * T.1.1 p - b % (S.1.2 k).2.1)
          exact if_neg (by omega)
        rw [e]
        exact (hput_same (by rw [hg_n (by omega)]; exact m1.e)).symm
      rw [eH, lp_mshift (S := wFt S 0) (T := T) (p := p) (f := D) (r := T.1.1 p) (n := (S.1.2 k).2.1) (by rw [hg_n (by omega)]; exact m1.v.1) (by rw [hg_n (by omega)]; exact m1.v.2.1) (by rw [hg_n (by omega)]; exact m1.v.2.2.2) hg_s ⟨c1, rfl, r1⟩ ⟨hn, r3⟩ t2 (S.1.2 k).2.1.toNat 0 (by omega) (by omega)]
      refine hq _ (MJ.cells (H := H1) m1 h2 h3 h4 c1 ho (rok_rot hk b) (fun j j0 j1 => ?_) (fun x x1 => if_neg (by omega)) (fun a a1 a2 b1 b2 => by rw [hg_n b1, hg_n b2]) ⟨D, by rw [hg_n (by omega), hg_s]⟩ hg_s) ((f1.tr (Fm.rf.put (by omega))).tr (Fm.rf.put (by omega)))
      have t6 : (j - b % (S.1.2 k).2.1) % (S.1.2 k).2.1 = (j - b) % (S.1.2 k).2.1 := by rw [Int.sub_emod, Int.emod_emod, ← Int.sub_emod]
      have t7 := em hn.1 (j - b)
      unfold rot
      rw [show 64 * T.1.1 p + j - 64 * T.1.1 p - b % (S.1.2 k).2.1 = j - b % (S.1.2 k).2.1 by omega, t6, if_pos ⟨by omega, by omega⟩, if_pos ⟨j0, j1⟩, ← hD, mix_in t7]
  · rw [if_neg c1] at hq
    simp (disch := omega) only [gX9_shift_0, gX9_shift_1, gX9_shift_2, pf_9_0, gX9_shift_5, gX9_shift_6, gX9_shift_9T, gX9_shift_9F, gX9_shift_12, gX9_shift_13, gX9_shift_14, gX9_shift_15, fl_9_1, gX9_shift_18, gX9_shift_19, aJ_g, gX9_shift_20, gX9_shift_22T, gX9_shift_22F, gX9_shift_25, gX9_shift_26, gX9_shift_27, gX9_shift_30, gX9_shift_31, gX9_shift_32, gX9_shift_33, gX9_shift_36, gX9_shift_37, gX9_shift_38, gX9_shift_39, gX9_shift_42, gX9_shift_43, gX9_shift_44, gX9_shift_45, gX9_shift_48, gX9_shift_49, gX9_shift_50, gX9_shift_51, gX9_shift_54, gX9_shift_55, gX9_shift_56, gX9_shift_57, gX9_shift_59, gX9_shift_61, gX9_shift_62, gX9_shift_63, gX9_shift_66T, gX9_shift_66F, gX9_shift_69, gX9_shift_70, fl_9_4, gX9_shift_73, gX9_shift_75, gX9_shift_76, gX9_shift_79, gX9_shift_80, gX9_shift_81, gX9_shift_82, gX9_shift_84, gX9_shift_85, gX9_shift_86, gX9_shift_87, gX9_shift_88, gX9_shift_91, gX9_shift_92, gX9_shift_93, gX9_shift_94, fl_9_19, gX9_shift_97, gX9_shift_99, aL_g, gX9_shift_100, sL_p, gX9_shift_101, gX9_shift_104, gX9_shift_107, gX9_shift_108, Rd_some, Wr_some, Cont_some, Cont_none, iso_O, true_and, hg_s, hg_n, hput_hput, hx, sp_mplF]
    exact hq _ (MJ.ft h1 h2 h3 h4 0) (Fm.rf.put (by omega))
end MOPS

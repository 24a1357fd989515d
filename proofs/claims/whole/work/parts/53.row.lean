/-! Row, Shelf, the rest of Prime -/
theorem hn_hp {H : HP} {r k : Nat} {c d : AC} (h : r ≠ H.1) : hnew (hput H r c) d k = hput (hnew H d k) r c := by
  unfold hnew hput
  congr 2
  funext q
  dsimp only
  by_cases h1 : q = H.1
  · rw [if_pos h1, if_neg (by rw [h1]; exact fun e => h e.symm), if_pos h1]
  · rw [if_neg h1]
    by_cases h2 : q = r
    · rw [if_pos h2, if_pos h2]
    · rw [if_neg h2, if_neg h2, if_neg h1]
def jI (v : Int) : Int := (Int32.ofInt v).toInt
theorem vi_jI {v : Int} : vi v = vi (jI v) := by unfold vi jI; rw [Int32.ofInt_toInt]
theorem jI_r (v : Int) : -2147483648 ≤ jI v ∧ jI v ≤ 2147483647 := jx_r _
theorem jB_r (v : Int) : -2147483648 ≤ jB v ∧ jB v ≤ 2147483647 := jx_r _
theorem jS_r (v : Int) : -2147483648 ≤ jS v ∧ jS v ≤ 2147483647 := jx_r _
/-- the bits of what is no number -/
def nan? (v : Int) : Prop := 9218868437227405312 < bAnd v 9223372036854775807
def nar (ln v : Int) : Int := if ln = 0 then jB v else if ln = 1 then jS v else if ln = 2 then jI v else if ln = 3 then v else if 9218868437227405312 < bAnd v 9223372036854775807 then 9221120237041090560 else v
theorem bA_r (a b : Int) : -9223372036854775808 ≤ bAnd a b ∧ bAnd a b ≤ 9223372036854775807 := bx_r _
/-- the greatest size of the first k numbers -/
def gs (g : Int → Int) : Nat → Int → Int
  | 0, m => m
  | k + 1, m => max (gs g k m) ((g k).natAbs)
/-- from lo to hi - 1 the other way round -/
def rev (g : Int → Int) (lo hi : Int) : Int → Int := fun j => if lo ≤ j ∧ j < hi then g (lo + hi - 1 - j) else g j
def revP (g : Int → Int) (lo hi i j : Int) : Int → Int := fun k => if (lo ≤ k ∧ k < hi) ∧ ¬ (i ≤ k ∧ k ≤ j) then g (lo + hi - 1 - k) else g k
/-- two of the first n numbers are alike over P -/
def alk (P : Int) (g : Int → Int) (n : Int) : Prop := ∃ i j : Int, 0 ≤ j ∧ j < i ∧ i < n ∧ g i % P = g j % P
section SPEC
variable {H : HP} {Q : Option Value → HP → Prop} {p r c t : Nat} {P ln n : Int} {g : Int → Int}
theorem sp_size (hr : hget H r = cO 5 [vi ln, .ref c]) (hc : hget H c = cL n g) (hn : 0 ≤ n ∧ n ≤ 1000000) : Go 55 0 [some (.ref r)] [] H Q ↔ Q (some (vi n)) H := by
  simp (disch := omega) only [gX5_size_0, gX5_size_1, fl_5_1, gX5_size_4, aN_L, aN_J, gX5_size_5, Rd_some, Wr_some, Cont_some, Cont_none, iso_O, true_and, hg_s, hg_n, hput_hput, hr, hc]
theorem sp_has (hr : hget H r = cO 5 [vi ln, .ref c]) (hc : hget H c = cL n g) (hn : 0 ≤ n ∧ n ≤ 1000000) {i : Int} (ci : -2147483648 ≤ i ∧ i ≤ 2147483647) : Go 56 0 [some (.ref r), some (vi i)] [] H Q ↔ Q (some (vi (if 0 ≤ i ∧ i < n then 1 else 0))) H := by
  by_cases h : 0 ≤ i
  · by_cases h2 : i < n
    · rw [if_pos ⟨h, h2⟩]
      simp (disch := omega) only [gX5_has_0, gX5_has_1T, gX5_has_1F, gX5_has_4, gX5_has_5, gX5_has_6, fl_5_1, gX5_has_9, aN_L, aN_J, gX5_has_10T, gX5_has_10F, gX5_has_13, gX5_has_14, gX5_has_17, gX5_has_18, Rd_some, Wr_some, Cont_some, Cont_none, iso_O, true_and, hg_s, hg_n, hput_hput, hr, hc]
    · rw [if_neg (fun q => h2 q.2)]
      simp (disch := omega) only [gX5_has_0, gX5_has_1T, gX5_has_1F, gX5_has_4, gX5_has_5, gX5_has_6, fl_5_1, gX5_has_9, aN_L, aN_J, gX5_has_10T, gX5_has_10F, gX5_has_13, gX5_has_14, gX5_has_17, gX5_has_18, Rd_some, Wr_some, Cont_some, Cont_none, iso_O, true_and, hg_s, hg_n, hput_hput, hr, hc]
  · rw [if_neg (fun q => h q.1)]
    simp (disch := omega) only [gX5_has_0, gX5_has_1T, gX5_has_1F, gX5_has_4, gX5_has_5, gX5_has_6, fl_5_1, gX5_has_9, aN_L, aN_J, gX5_has_10T, gX5_has_10F, gX5_has_13, gX5_has_14, gX5_has_17, gX5_has_18, Rd_some, Wr_some, Cont_some, Cont_none, iso_O, true_and, hg_s, hg_n, hput_hput, hr, hc]
theorem sp_isNone {v : Int} : Go 1 0 [some (vl v), none] [] H Q ↔ Q (some (vi (if 9218868437227405312 < bAnd v 9223372036854775807 then 1 else 0))) H := by
  have h1 := bA_r v 9223372036854775807
  split
  · simp (disch := omega) only [gX0_isNone_0, gX0_isNone_1, gX0_isNone_4, gX0_isNone_5, gX0_isNone_8T, gX0_isNone_8F, gX0_isNone_9T, gX0_isNone_9F, gX0_isNone_12, gX0_isNone_13, gX0_isNone_16, gX0_isNone_17, Rd_some, Wr_some, Cont_some, Cont_none, iso_O, true_and, hg_s, hg_n, hput_hput]
  · simp (disch := omega) only [gX0_isNone_0, gX0_isNone_1, gX0_isNone_4, gX0_isNone_5, gX0_isNone_8T, gX0_isNone_8F, gX0_isNone_9T, gX0_isNone_9F, gX0_isNone_12, gX0_isNone_13, gX0_isNone_16, gX0_isNone_17, Rd_some, Wr_some, Cont_some, Cont_none, iso_O, true_and, hg_s, hg_n, hput_hput]
theorem sp_narrowed (hr : hget H r = cO 5 [vi ln, .ref c]) (hl : 0 ≤ ln ∧ ln ≤ 4) {v : Int} (cv : -9223372036854775808 ≤ v ∧ v ≤ 9223372036854775807) : Go 57 0 [some (.ref r), some (vl v), none] [] H Q ↔ Q (some (vl (nar ln v))) H := by
  have h1 := jB_r v
  have h2 := jS_r v
  have h3 := jI_r v
  unfold nar
  by_cases e0 : ln = 0
  · rw [if_pos e0]
    simp (disch := omega) only [gX5_narrowed_0, gX5_narrowed_1, fl_5_0, gX5_narrowed_4O, gX5_narrowed_4_0, gX5_narrowed_4_1, gX5_narrowed_4_2, gX5_narrowed_4_3, gX5_narrowed_36, gX5_narrowed_37, gX5_narrowed_38, gX5_narrowed_39, gX5_narrowed_40, gX5_narrowed_41, gX5_narrowed_42, gX5_narrowed_43, gX5_narrowed_44, gX5_narrowed_45, gX5_narrowed_46, gX5_narrowed_47, gX5_narrowed_48, gX5_narrowed_49, gX5_narrowed_50, gX5_narrowed_51, gX5_narrowed_52, gX5_narrowed_53, gX5_narrowed_56T, gX5_narrowed_56F, gX5_narrowed_59, gX5_narrowed_62, gX5_narrowed_65, gX5_narrowed_66, Rd_some, Wr_some, Cont_some, Cont_none, iso_O, true_and, hg_s, hg_n, hput_hput, hr]
  · rw [if_neg e0]
    by_cases e1 : ln = 1
    · rw [if_pos e1]
      simp (disch := omega) only [gX5_narrowed_0, gX5_narrowed_1, fl_5_0, gX5_narrowed_4O, gX5_narrowed_4_0, gX5_narrowed_4_1, gX5_narrowed_4_2, gX5_narrowed_4_3, gX5_narrowed_36, gX5_narrowed_37, gX5_narrowed_38, gX5_narrowed_39, gX5_narrowed_40, gX5_narrowed_41, gX5_narrowed_42, gX5_narrowed_43, gX5_narrowed_44, gX5_narrowed_45, gX5_narrowed_46, gX5_narrowed_47, gX5_narrowed_48, gX5_narrowed_49, gX5_narrowed_50, gX5_narrowed_51, gX5_narrowed_52, gX5_narrowed_53, gX5_narrowed_56T, gX5_narrowed_56F, gX5_narrowed_59, gX5_narrowed_62, gX5_narrowed_65, gX5_narrowed_66, Rd_some, Wr_some, Cont_some, Cont_none, iso_O, true_and, hg_s, hg_n, hput_hput, hr]
    · rw [if_neg e1]
      by_cases e2 : ln = 2
      · rw [if_pos e2]
        simp (disch := omega) only [gX5_narrowed_0, gX5_narrowed_1, fl_5_0, gX5_narrowed_4O, gX5_narrowed_4_0, gX5_narrowed_4_1, gX5_narrowed_4_2, gX5_narrowed_4_3, gX5_narrowed_36, gX5_narrowed_37, gX5_narrowed_38, gX5_narrowed_39, gX5_narrowed_40, gX5_narrowed_41, gX5_narrowed_42, gX5_narrowed_43, gX5_narrowed_44, gX5_narrowed_45, gX5_narrowed_46, Rd_some, Wr_some, Cont_some, Cont_none, iso_O, true_and, hg_s, hg_n, hput_hput, hr]
        rw [gX5_narrowed_47, vi_jI]
        simp (disch := omega) only [gX5_narrowed_48, gX5_narrowed_49, Rd_some, Wr_some, Cont_some, Cont_none, iso_O, true_and, hg_s, hg_n, hput_hput]
      · rw [if_neg e2]
        by_cases e3 : ln = 3
        · rw [if_pos e3]
          simp (disch := omega) only [gX5_narrowed_0, gX5_narrowed_1, fl_5_0, gX5_narrowed_4O, gX5_narrowed_4_0, gX5_narrowed_4_1, gX5_narrowed_4_2, gX5_narrowed_4_3, gX5_narrowed_36, gX5_narrowed_37, gX5_narrowed_38, gX5_narrowed_39, gX5_narrowed_40, gX5_narrowed_41, gX5_narrowed_42, gX5_narrowed_43, gX5_narrowed_44, gX5_narrowed_45, gX5_narrowed_46, gX5_narrowed_47, gX5_narrowed_48, gX5_narrowed_49, gX5_narrowed_50, gX5_narrowed_51, gX5_narrowed_52, gX5_narrowed_53, gX5_narrowed_56T, gX5_narrowed_56F, gX5_narrowed_59, gX5_narrowed_62, gX5_narrowed_65, gX5_narrowed_66, Rd_some, Wr_some, Cont_some, Cont_none, iso_O, true_and, hg_s, hg_n, hput_hput, hr]
        · rw [if_neg e3]
          split
          · rename_i hq
            simp (disch := omega) only [gX5_narrowed_0, gX5_narrowed_1, fl_5_0, gX5_narrowed_4O, gX5_narrowed_4_0, gX5_narrowed_4_1, gX5_narrowed_4_2, gX5_narrowed_4_3, gX5_narrowed_36, gX5_narrowed_37, gX5_narrowed_38, gX5_narrowed_39, gX5_narrowed_40, gX5_narrowed_41, gX5_narrowed_42, gX5_narrowed_43, gX5_narrowed_44, gX5_narrowed_45, gX5_narrowed_46, gX5_narrowed_47, gX5_narrowed_48, gX5_narrowed_49, gX5_narrowed_50, gX5_narrowed_51, gX5_narrowed_52, gX5_narrowed_53, gX5_narrowed_56T, gX5_narrowed_56F, gX5_narrowed_59, gX5_narrowed_62, gX5_narrowed_65, gX5_narrowed_66, Rd_some, Wr_some, Cont_some, Cont_none, iso_O, true_and, hg_s, hg_n, hput_hput, hr, sp_isNone, if_pos hq]
          · rename_i hq
            simp (disch := omega) only [gX5_narrowed_0, gX5_narrowed_1, fl_5_0, gX5_narrowed_4O, gX5_narrowed_4_0, gX5_narrowed_4_1, gX5_narrowed_4_2, gX5_narrowed_4_3, gX5_narrowed_36, gX5_narrowed_37, gX5_narrowed_38, gX5_narrowed_39, gX5_narrowed_40, gX5_narrowed_41, gX5_narrowed_42, gX5_narrowed_43, gX5_narrowed_44, gX5_narrowed_45, gX5_narrowed_46, gX5_narrowed_47, gX5_narrowed_48, gX5_narrowed_49, gX5_narrowed_50, gX5_narrowed_51, gX5_narrowed_52, gX5_narrowed_53, gX5_narrowed_56T, gX5_narrowed_56F, gX5_narrowed_59, gX5_narrowed_62, gX5_narrowed_65, gX5_narrowed_66, Rd_some, Wr_some, Cont_some, Cont_none, iso_O, true_and, hg_s, hg_n, hput_hput, hr, sp_isNone, if_neg hq]
theorem lp_greatest (hr : hget H r = cO 5 [vi ln, .ref c]) (hc : hget H c = cL n g) (hn : 0 ≤ n ∧ n ≤ 1000000) (hg : ∀ j, 0 ≤ j → j < n → -9223372036854775807 ≤ g j ∧ g j ≤ 9223372036854775807) : ∀ (d k : Nat) (i m : Int), i = (k : Int) → (k : Int) + d = n → m = gs g k 0 → 0 ≤ m ∧ m ≤ 9223372036854775807 → (Go 60 4 [some (.ref r), some (vl m), none, some (vi i)] [] H Q ↔ Q (some (vl (gs g n.toNat 0))) H) := by
  intro d
  induction d with
  | zero =>
    intro k i m hi hk hm hr2
    rw [gX5_greatestSize_4]
    simp (disch := omega) only [gX5_greatestSize_5, gX5_greatestSize_6, fl_5_1, gX5_greatestSize_9, aN_L, aN_J, gX5_greatestSize_10T, gX5_greatestSize_10F, gX5_greatestSize_13, gX5_greatestSize_14, gX5_greatestSize_15, gX5_greatestSize_18, gX5_greatestSize_19, aL_g, gX5_greatestSize_20, gX5_greatestSize_23, gX5_greatestSize_26, gX5_greatestSize_27, gX5_greatestSize_30, gX5_greatestSize_33, gX5_greatestSize_34, Rd_some, Wr_some, Cont_some, Cont_none, iso_O, true_and, hg_s, hg_n, hput_hput, hr, hc]
    rw [hm, show n.toNat = k by omega]
  | succ d ih =>
    intro k i m hi hk hm hr2
    have h1 := hg i (by omega) (by omega)
    rw [gX5_greatestSize_4]
    simp (disch := omega) only [gX5_greatestSize_5, gX5_greatestSize_6, fl_5_1, gX5_greatestSize_9, aN_L, aN_J, gX5_greatestSize_10T, gX5_greatestSize_10F, gX5_greatestSize_13, gX5_greatestSize_14, gX5_greatestSize_15, gX5_greatestSize_18, gX5_greatestSize_19, aL_g, gX5_greatestSize_20, gX5_greatestSize_23, gX5_greatestSize_26, gX5_greatestSize_27, gX5_greatestSize_30, Rd_some, Wr_some, Cont_some, Cont_none, iso_O, true_and, hg_s, hg_n, hput_hput, hr, hc, sp_absL, sp_maxL]
    rw [ih (k + 1) (i + 1) _ (by omega) (by omega) (by rw [hm, hi]; rfl) (by omega)]
theorem sp_greatest (hr : hget H r = cO 5 [vi ln, .ref c]) (hc : hget H c = cL n g) (hn : 0 ≤ n ∧ n ≤ 1000000) (hg : ∀ j, 0 ≤ j → j < n → -9223372036854775807 ≤ g j ∧ g j ≤ 9223372036854775807) : Go 60 0 [some (.ref r), none, none, none] [] H Q ↔ Q (some (vl (gs g n.toNat 0))) H := by
  simp only [gX5_greatestSize_0, gX5_greatestSize_1, gX5_greatestSize_2, gX5_greatestSize_3, Rd_some, Wr_some, Cont_some, Cont_none, iso_O, true_and, hg_s, hg_n, hput_hput]
  rw [lp_greatest hr hc hn hg n.toNat 0 0 0 (by omega) (by omega) rfl (by omega)]
theorem revP_up {lo hi i j : Int} (h1 : lo ≤ i) (h2 : i < j) (h3 : j < hi) (h4 : i + j = lo + hi - 1) : up (up (revP g lo hi i j) i (revP g lo hi i j j)) j (revP g lo hi i j i) = revP g lo hi (i + 1) (j - 1) := by
  funext k
  have e1 : revP g lo hi i j j = g j := if_neg (by omega)
  have e2 : revP g lo hi i j i = g i := if_neg (by omega)
  rw [e1, e2]
  unfold up revP
  by_cases hj : k = j
  · rw [if_pos hj, if_pos (by omega), show lo + hi - 1 - k = i by omega]
  · rw [if_neg hj]
    by_cases hi2 : k = i
    · rw [if_pos hi2, if_pos (by omega), show lo + hi - 1 - k = j by omega]
    · rw [if_neg hi2]
      by_cases hq : (lo ≤ k ∧ k < hi) ∧ ¬ (i ≤ k ∧ k ≤ j)
      · rw [if_pos hq, if_pos (by omega)]
      · rw [if_neg hq, if_neg (by omega)]
theorem lp_flip (hr : hget H r = cO 5 [vi ln, .ref c]) (hrc : r ≠ c) (h0 : c ≠ 0) (hn : 0 ≤ n ∧ n ≤ 1000000) {lo hi : Int} (hb : 0 ≤ lo ∧ hi ≤ n) : ∀ (d : Nat) (i j : Int) (l1 l2 l5 l6 : Option Value), j - i < (d : Int) → lo ≤ i → i + j = lo + hi - 1 → i ≤ hi → (Go 58 19 [some (.ref r), l1, l2, some (vi i), some (vi j), l5, l6] [] (hput H c (cL n (revP g lo hi i j))) Q ↔ Q none (hput H c (cL n (rev g lo hi)))) := by
  intro d
  induction d with
  | zero =>
    intro i j l1 l2 l5 l6 hd h1 h2 h3
    rw [gX5_flip_19]
    simp (disch := omega) only [gX5_flip_20, gX5_flip_22T, gX5_flip_22F, gX5_flip_25, gX5_flip_26, fl_5_1, gX5_flip_29, gX5_flip_30, aL_g, gX5_flip_31, gX5_flip_33, gX5_flip_34, gX5_flip_37, gX5_flip_38, gX5_flip_39, gX5_flip_42, gX5_flip_44, gX5_flip_45, sL_p, gX5_flip_46, gX5_flip_47, gX5_flip_50, gX5_flip_52, gX5_flip_54, gX5_flip_55, gX5_flip_58, gX5_flip_61, gX5_flip_64, Rd_some, Wr_some, Cont_some, Cont_none, iso_O, true_and, hg_s, hg_n, hput_hput]
    have e : revP g lo hi i j = rev g lo hi := by
      funext k
      unfold revP rev
      by_cases hq : lo ≤ k ∧ k < hi
      · rw [if_pos hq]
        split
        · rfl
        · rw [show lo + hi - 1 - k = k by omega]
      · rw [if_neg hq, if_neg (fun q => hq q.1)]
    rw [e]
  | succ d ih =>
    intro i j l1 l2 l5 l6 hd h1 h2 h3
    by_cases hij : i < j
    · rw [gX5_flip_19]
      simp (disch := omega) only [gX5_flip_20, gX5_flip_22T, gX5_flip_22F, gX5_flip_25, gX5_flip_26, fl_5_1, gX5_flip_29, gX5_flip_30, aL_g, gX5_flip_31, gX5_flip_33, gX5_flip_34, gX5_flip_37, gX5_flip_38, gX5_flip_39, gX5_flip_42, gX5_flip_44, gX5_flip_45, sL_p, gX5_flip_46, gX5_flip_47, gX5_flip_50, gX5_flip_52, gX5_flip_54, gX5_flip_55, gX5_flip_58, gX5_flip_61, Rd_some, Wr_some, Cont_some, Cont_none, iso_O, true_and, hg_s, hg_n, hput_hput, hr]
      rw [revP_up h1 hij (by omega) h2]
      rw [show j + -1 = j - 1 by omega]
      exact ih (i + 1) (j - 1) _ _ _ _ (by omega) (by omega) (by omega) (by omega)
    · rw [gX5_flip_19]
      simp (disch := omega) only [gX5_flip_20, gX5_flip_22T, gX5_flip_22F, gX5_flip_25, gX5_flip_26, fl_5_1, gX5_flip_29, gX5_flip_30, aL_g, gX5_flip_31, gX5_flip_33, gX5_flip_34, gX5_flip_37, gX5_flip_38, gX5_flip_39, gX5_flip_42, gX5_flip_44, gX5_flip_45, sL_p, gX5_flip_46, gX5_flip_47, gX5_flip_50, gX5_flip_52, gX5_flip_54, gX5_flip_55, gX5_flip_58, gX5_flip_61, gX5_flip_64, Rd_some, Wr_some, Cont_some, Cont_none, iso_O, true_and, hg_s, hg_n, hput_hput]
      have e : revP g lo hi i j = rev g lo hi := by
        funext k
        unfold revP rev
        by_cases hq : lo ≤ k ∧ k < hi
        · rw [if_pos hq]
          split
          · rfl
          · rw [show lo + hi - 1 - k = k by omega]
        · rw [if_neg hq, if_neg (fun q => hq q.1)]
      rw [e]
theorem sp_flip (hr : hget H r = cO 5 [vi ln, .ref c]) (hc : hget H c = cL n g) (hrc : r ≠ c) (h0 : c ≠ 0) (hn : 0 ≤ n ∧ n ≤ 1000000) {lo hi : Int} (hb : 0 ≤ lo ∧ lo ≤ hi ∧ hi ≤ n) : Go 58 0 [some (.ref r), some (vi lo), some (vi hi), none, none, none, none] [] H Q ↔ Q none (hput H c (cL n (rev g lo hi))) := by
  simp (disch := omega) only [gX5_flip_0, gX5_flip_1, gX5_flip_2, gX5_flip_5, gX5_flip_6, gX5_flip_7, gX5_flip_8, fl_5_1, gX5_flip_11, aN_L, aN_J, gX5_flip_12, gX5_flip_15, gX5_flip_16, gX5_flip_17, Rd_some, Wr_some, Cont_some, Cont_none, iso_O, true_and, hg_s, hg_n, hput_hput, hr, hc, sp_maxI, sp_minI]
  rw [Int.max_eq_left hb.1, Int.min_eq_left hb.2.2]
  have e : revP g lo hi lo (hi - 1) = g := by
    funext k
    exact if_neg (by omega)
  have e2 : H = hput H c (cL n (revP g lo hi lo (hi - 1))) := by rw [e]; exact (hput_same hc).symm
  conv => lhs; rw [e2]
  exact lp_flip hr hrc h0 hn ⟨hb.1, hb.2.2⟩ (hi - 1 - lo + 1).toNat lo (hi - 1) _ _ _ _ (by omega) (by omega) (by omega) (by omega)
/-- k places on, around -/
def rot (g : Int → Int) (n k : Int) : Int → Int := fun j => if 0 ≤ j ∧ j < n then g ((j - k) % n) else g j
theorem rot_v (hn : 0 < n) (k : Int) : rev (rev (rev g 0 n) 0 (k % n)) (k % n) n = rot g n k := by
  funext j
  have h1 := em hn k
  have h2 := em hn (j - k)
  have e0 : (j - k) % n = (j - k % n) % n := by rw [Int.sub_emod j (k % n), Int.emod_emod, ← Int.sub_emod]
  unfold rot rev
  by_cases hj : 0 ≤ j ∧ j < n
  · rw [if_pos hj]
    by_cases h3 : k % n ≤ j
    · have e1 : (j - k) % n = j - k % n := by rw [e0]; exact Int.emod_eq_of_lt (by omega) (by omega)
      rw [if_pos ⟨h3, hj.2⟩, if_neg (by omega), if_pos (by omega), e1]
      rw [if_pos hj]
      exact congrArg g (by omega)
    · have e1 : (j - k) % n = j - k % n + n := by rw [e0, ← Int.add_emod_right]; exact Int.emod_eq_of_lt (by omega) (by omega)
      rw [if_neg (by omega), if_pos (by omega), if_pos (by omega), e1]
      rw [if_pos hj]
      exact congrArg g (by omega)
  · rw [if_neg hj, if_neg (by omega), if_neg (by omega), if_neg (by omega)]
theorem sp_turn (hr : hget H r = cO 5 [vi ln, .ref c]) (hc : hget H c = cL n g) (hrc : r ≠ c) (h0 : c ≠ 0) (hn : 0 < n ∧ n ≤ 1000000) {k : Int} (ck : -2147483648 ≤ k ∧ k ≤ 2147483647) : Go 59 0 [some (.ref r), some (vi k), none] [] H Q ↔ Q none (hput H c (cL n (rot g n k))) := by
  have h1 := em hn.1 k
  have hr2 : ∀ d, hget (hput H c d) r = cO 5 [vi ln, .ref c] := fun d => by rw [hg_n hrc]; exact hr
  simp (disch := omega) only [gX5_turn_0, gX5_turn_1, fl_5_1, gX5_turn_4, aN_L, aN_J, gX5_turn_5T, gX5_turn_5F, gX5_turn_8, gX5_turn_9, gX5_turn_10, gX5_turn_11, gX5_turn_14, gX5_turn_15, gX5_turn_18, Rd_some, Wr_some, Cont_some, Cont_none, iso_O, true_and, hg_s, hg_n, hput_hput, hr, hc, sp_fmI]
  simp (disch := omega) only [gX5_turn_19, gX5_turn_20, gX5_turn_21, gX5_turn_22, fl_5_1, gX5_turn_25, aN_L, aN_J, gX5_turn_26, Rd_some, Wr_some, Cont_some, Cont_none, iso_O, true_and, hg_s, hg_n, hput_hput, hr, hc, sp_flip hr hc hrc h0 ⟨Int.le_of_lt hn.1, hn.2⟩ ⟨Int.le_refl 0, Int.le_of_lt hn.1, Int.le_refl n⟩]
  simp (disch := omega) only [gX5_turn_29, gX5_turn_30, gX5_turn_31, gX5_turn_32, Rd_some, Wr_some, Cont_some, Cont_none, iso_O, true_and, hg_s, hg_n, hput_hput, hr2, sp_flip (hr2 _) hg_s hrc h0 ⟨Int.le_of_lt hn.1, hn.2⟩ ⟨Int.le_refl 0, h1.1, Int.le_of_lt h1.2⟩]
  simp (disch := omega) only [gX5_turn_35, gX5_turn_36, gX5_turn_37, gX5_turn_38, fl_5_1, gX5_turn_41, aN_L, aN_J, gX5_turn_42, gX5_turn_45, Rd_some, Wr_some, Cont_some, Cont_none, iso_O, true_and, hg_s, hg_n, hput_hput, hr2, sp_flip (hr2 _) hg_s hrc h0 ⟨Int.le_of_lt hn.1, hn.2⟩ ⟨h1.1, Int.le_of_lt h1.2, Int.le_refl n⟩]
  rw [rot_v hn.1]
theorem sp_rowInit (hr : hget H r = cO 5 [.int 0, .null]) (h0 : r ≠ 0) (hr1 : r < H.1) {n : Int} (hn : 0 ≤ n ∧ n ≤ 1000000) : Go 54 0 [some (.ref r), some (vi ln), some (vi n)] [] H Q ↔ Q none (hput (hnew H (cL n fun _ => 0) n.toNat) r (cO 5 [vi ln, .ref H.1])) := by
  have hr2 : ∀ d, hget (hnew H d n.toNat) r = cO 5 [.int 0, .null] := fun d => by rw [hn_n (by omega)]; exact hr
  simp (disch := omega) only [gX5_init_0, gX5_init_1, gX5_init_4, gX5_init_5, gX5_init_6, pf_5_0, gX5_init_9, gX5_init_10, gX5_init_11, gX5_init_13, pf_5_1, gX5_init_16, Rd_some, Wr_some, Cont_some, Cont_none, iso_O, true_and, hg_s, hg_n, hput_hput, hr, hp_1, hn_hp]
theorem sp_get {s cs : Nat} {k : Int} (hs : hget H s = cO 6 [.ref cs, vi k]) (hc : hget H cs = cL n g) (hn : 0 ≤ k ∧ k ≤ n ∧ n ≤ 1000000) {i : Int} {w : Int64} (ci : -2147483648 ≤ i ∧ i ≤ 2147483647) : Go 62 0 [some (.ref s), some (vi i), some (.long w), none] [] H Q ↔ Q (some (if 0 ≤ i ∧ i < k then vl (g i) else .long w)) H := by
  by_cases h : 0 ≤ i
  · by_cases h2 : i < k
    · rw [if_pos ⟨h, h2⟩]
      simp (disch := omega) only [gX6_get_0, gX6_get_1T, gX6_get_1F, gX6_get_4, gX6_get_5, gX6_get_6, fl_6_1, gX6_get_9T, gX6_get_9F, gX6_get_12, gX6_get_13, fl_6_0, gX6_get_16, gX6_get_17, aL_g, gX6_get_18, gX6_get_21, gX6_get_22, Rd_some, Wr_some, Cont_some, Cont_none, iso_O, true_and, hg_s, hg_n, hput_hput, hs, hc]
    · rw [if_neg (fun q => h2 q.2)]
      simp (disch := omega) only [gX6_get_0, gX6_get_1T, gX6_get_1F, gX6_get_4, gX6_get_5, gX6_get_6, fl_6_1, gX6_get_9T, gX6_get_9F, gX6_get_12, gX6_get_13, fl_6_0, gX6_get_16, gX6_get_17, aL_g, gX6_get_18, gX6_get_21, gX6_get_22, Rd_some, Wr_some, Cont_some, Cont_none, iso_O, true_and, hg_s, hg_n, hput_hput, hs, hc]
  · rw [if_neg (fun q => h q.1)]
    simp (disch := omega) only [gX6_get_0, gX6_get_1T, gX6_get_1F, gX6_get_4, gX6_get_5, gX6_get_6, fl_6_1, gX6_get_9T, gX6_get_9F, gX6_get_12, gX6_get_13, fl_6_0, gX6_get_16, gX6_get_17, aL_g, gX6_get_18, gX6_get_21, gX6_get_22, Rd_some, Wr_some, Cont_some, Cont_none, iso_O, true_and, hg_s, hg_n, hput_hput, hs, hc]
theorem lp_load (hp : hget H p = cO 3 [vl P]) (hP : 1 < P ∧ P < 1073741824) (hr : hget H r = cO 5 [vi ln, .ref c]) (hc : hget H c = cL n g) (hg : ∀ j, 0 ≤ j → j < n → -9223372036854775808 ≤ g j ∧ g j ≤ 9223372036854775807) {T : Int} {f : Int → Int} (hn : 0 ≤ n ∧ n ≤ T ∧ T ≤ 1000000) (hne : t ≠ 0 ∧ p ≠ t ∧ r ≠ t ∧ c ≠ t) : ∀ (d : Nat) (i : Int), i + d = n → 0 ≤ i → (Go 37 2 [some (.ref p), some (.ref r), some (.ref t), some (vi i)] [] (hput H t (cL T (mix (fun j => g j % P) f i))) Q ↔ Q none (hput H t (cL T (mix (fun j => g j % P) f n)))) := by
  have e1 : ∀ d, hget (hput H t d) p = cO 3 [vl P] := fun d => by rw [hg_n hne.2.1]; exact hp
  have e2 : ∀ d, hget (hput H t d) r = cO 5 [vi ln, .ref c] := fun d => by rw [hg_n hne.2.2.1]; exact hr
  have e3 : ∀ d, hget (hput H t d) c = cL n g := fun d => by rw [hg_n hne.2.2.2]; exact hc
  intro d
  induction d with
  | zero =>
    intro i hi h0
    rw [gX3_load_2]
    simp (disch := omega) only [gX3_load_3, gX3_load_4, gX3_load_7T, gX3_load_7F, gX3_load_10, gX3_load_11, gX3_load_12, aN_L, aN_J, gX3_load_13T, gX3_load_13F, gX3_load_16, gX3_load_17, gX3_load_18, gX3_load_19, gX3_load_20, fl_5_1, gX3_load_23, gX3_load_24, aL_g, gX3_load_25, gX3_load_28, sL_p, gX3_load_29, gX3_load_32, gX3_load_35, Rd_some, Wr_some, Cont_some, Cont_none, iso_O, true_and, hg_s, hg_n, hput_hput, e2, sp_size (e2 _) (e3 _) ⟨hn.1, Int.le_trans hn.2.1 hn.2.2⟩]
    rw [show i = n by omega]
  | succ d ih =>
    intro i hi h0
    have h1 := hg i (by omega) (by omega)
    rw [gX3_load_2]
    simp (disch := omega) only [gX3_load_3, gX3_load_4, gX3_load_7T, gX3_load_7F, gX3_load_10, gX3_load_11, gX3_load_12, aN_L, aN_J, gX3_load_13T, gX3_load_13F, gX3_load_16, gX3_load_17, gX3_load_18, gX3_load_19, gX3_load_20, fl_5_1, gX3_load_23, gX3_load_24, aL_g, gX3_load_25, gX3_load_28, sL_p, gX3_load_29, gX3_load_32, Rd_some, Wr_some, Cont_some, Cont_none, iso_O, true_and, hg_s, hg_n, hput_hput, e1, e2, e3, sp_size (e2 _) (e3 _) ⟨hn.1, Int.le_trans hn.2.1 hn.2.2⟩, sp_reduced (e1 _) hP]
    rw [mix_up h0 rfl]
    exact ih (i + 1) (by omega) (by omega)
theorem sp_load (hp : hget H p = cO 3 [vl P]) (hP : 1 < P ∧ P < 1073741824) (hr : hget H r = cO 5 [vi ln, .ref c]) (hc : hget H c = cL n g) (hg : ∀ j, 0 ≤ j → j < n → -9223372036854775808 ≤ g j ∧ g j ≤ 9223372036854775807) {T : Int} {f : Int → Int} (ht : hget H t = cL T f) (hn : 0 ≤ n ∧ n ≤ T ∧ T ≤ 1000000) (hne : t ≠ 0 ∧ p ≠ t ∧ r ≠ t ∧ c ≠ t) : Go 37 0 [some (.ref p), some (.ref r), some (.ref t), none] [] H Q ↔ Q none (hput H t (cL T (mix (fun j => g j % P) f n))) := by
  simp only [gX3_load_0, gX3_load_1, Rd_some, Wr_some, Cont_some, Cont_none, iso_O, true_and, hg_s, hg_n, hput_hput]
  have e2 : H = hput H t (cL T (mix (fun j => g j % P) f 0)) := by rw [mix_0]; exact (hput_same ht).symm
  conv => lhs; rw [e2]
  exact lp_load hp hP hr hc hg hn hne n.toNat 0 (by omega) (by omega)
theorem lp_degree (hp : hget H p = cO 3 [vl P]) (hP : 1 < P ∧ P < 1073741824) (hr : hget H r = cO 5 [vi ln, .ref c]) (hc : hget H c = cL n g) (hn : 0 ≤ n ∧ n ≤ 1000000) (hg : ∀ j, 0 ≤ j → j < n → -9223372036854775808 ≤ g j ∧ g j ≤ 9223372036854775807) : ∀ (k : Nat) (i : Int), i = (k : Int) - 1 → (k : Int) ≤ n → (Go 39 7 [some (.ref p), some (.ref r), some (vi i)] [] H Q ↔ Q (some (vi (dg P g k))) H) := by
  intro k
  induction k with
  | zero =>
    intro i hi hk
    rw [gX3_degreeOf_7]
    simp (disch := omega) only [gX3_degreeOf_8T, gX3_degreeOf_8F, gX3_degreeOf_11, gX3_degreeOf_12, gX3_degreeOf_13, fl_5_1, gX3_degreeOf_16, gX3_degreeOf_17, aL_g, gX3_degreeOf_18, gX3_degreeOf_21, gX3_degreeOf_22T, gX3_degreeOf_22F, gX3_degreeOf_23T, gX3_degreeOf_23F, gX3_degreeOf_26, gX3_degreeOf_29, gX3_degreeOf_32, gX3_degreeOf_33, Rd_some, Wr_some, Cont_some, Cont_none, iso_O, true_and, hg_s, hg_n, hput_hput]
    rw [show i = -1 by omega]
    rfl
  | succ k ih =>
    intro i hi hk
    have h1 := hg i (by omega) (by omega)
    have h2 := em (P := P) (by omega) (g i)
    have ei : i = (k : Int) := by omega
    by_cases hz : g i % P = 0
    · rw [gX3_degreeOf_7]
      simp (disch := omega) only [gX3_degreeOf_8T, gX3_degreeOf_8F, gX3_degreeOf_11, gX3_degreeOf_12, gX3_degreeOf_13, fl_5_1, gX3_degreeOf_16, gX3_degreeOf_17, aL_g, gX3_degreeOf_18, gX3_degreeOf_21, gX3_degreeOf_22T, gX3_degreeOf_22F, gX3_degreeOf_23T, gX3_degreeOf_23F, gX3_degreeOf_26, gX3_degreeOf_29, Rd_some, Wr_some, Cont_some, Cont_none, iso_O, true_and, hg_s, hg_n, hput_hput, hp, hr, hc, sp_reduced hp hP]
      rw [ih (i + -1) (by omega) (by omega)]
      show _ ↔ Q (some (vi (if g k % P = 0 then dg P g k else k))) H
      rw [if_pos (by rw [← ei]; exact hz)]
    · rw [gX3_degreeOf_7]
      simp (disch := omega) only [gX3_degreeOf_8T, gX3_degreeOf_8F, gX3_degreeOf_11, gX3_degreeOf_12, gX3_degreeOf_13, fl_5_1, gX3_degreeOf_16, gX3_degreeOf_17, aL_g, gX3_degreeOf_18, gX3_degreeOf_21, gX3_degreeOf_22T, gX3_degreeOf_22F, gX3_degreeOf_23T, gX3_degreeOf_23F, gX3_degreeOf_26, gX3_degreeOf_29, gX3_degreeOf_32, gX3_degreeOf_33, Rd_some, Wr_some, Cont_some, Cont_none, iso_O, true_and, hg_s, hg_n, hput_hput, hp, hr, hc, sp_reduced hp hP]
      show _ ↔ Q (some (vi (if g k % P = 0 then dg P g k else k))) H
      rw [if_neg (by rw [← ei]; exact hz), ei]
theorem sp_degree (hp : hget H p = cO 3 [vl P]) (hP : 1 < P ∧ P < 1073741824) (hr : hget H r = cO 5 [vi ln, .ref c]) (hc : hget H c = cL n g) (hn : 0 ≤ n ∧ n ≤ 1000000) (hg : ∀ j, 0 ≤ j → j < n → -9223372036854775808 ≤ g j ∧ g j ≤ 9223372036854775807) : Go 39 0 [some (.ref p), some (.ref r), none] [] H Q ↔ Q (some (vi (dg P g n.toNat))) H := by
  simp (disch := omega) only [gX3_degreeOf_0, gX3_degreeOf_1, gX3_degreeOf_4, gX3_degreeOf_5, gX3_degreeOf_6, Rd_some, Wr_some, Cont_some, Cont_none, iso_O, true_and, hg_s, hg_n, hput_hput, hr, sp_size hr hc hn]
  exact lp_degree hp hP hr hc hn hg n.toNat (n - 1) (by omega) (by omega)
theorem lp_alike2 (hp : hget H p = cO 3 [vl P]) (hP : 1 < P ∧ P < 1073741824) (hr : hget H r = cO 5 [vi ln, .ref c]) (hc : hget H c = cL n g) (hn : 0 ≤ n ∧ n ≤ 1000000) (hg : ∀ j, 0 ≤ j → j < n → -9223372036854775808 ≤ g j ∧ g j ≤ 9223372036854775807) {i : Int} (hi : 0 ≤ i ∧ i < n) : ∀ (d : Nat) (j : Int), j + d = i → 0 ≤ j →
    ((∃ k, j ≤ k ∧ k < i ∧ g i % P = g k % P) → (Go 40 24 [some (.ref p), some (.ref r), some (vi i), some (vl (g i % P)), none, some (vi j)] [] H Q ↔ Q (some (vi 1)) H)) ∧
    (¬ (∃ k, j ≤ k ∧ k < i ∧ g i % P = g k % P) → (Go 40 24 [some (.ref p), some (.ref r), some (vi i), some (vl (g i % P)), none, some (vi j)] [] H Q ↔ Go 40 2 [some (.ref p), some (.ref r), some (vi (i + 1)), some (vl (g i % P)), none, some (vi i)] [] H Q)) := by
  have h2 := em (P := P) (by omega) (g i)
  intro d
  induction d with
  | zero =>
    intro j hj h0
    refine ⟨fun ⟨k, h1, h2, _⟩ => by omega, fun _ => ?_⟩
    rw [gX3_anyAlike_24]
    simp (disch := omega) only [gX3_anyAlike_26, gX3_anyAlike_27T, gX3_anyAlike_27F, gX3_anyAlike_30, gX3_anyAlike_31, gX3_anyAlike_32, fl_5_1, gX3_anyAlike_35, gX3_anyAlike_37, aL_g, gX3_anyAlike_38, gX3_anyAlike_41, gX3_anyAlike_42T, gX3_anyAlike_42F, gX3_anyAlike_43T, gX3_anyAlike_43F, gX3_anyAlike_46, gX3_anyAlike_47, gX3_anyAlike_48, gX3_anyAlike_51, gX3_anyAlike_54, gX3_anyAlike_57, Rd_some, Wr_some, Cont_some, Cont_none, iso_O, true_and, hg_s, hg_n, hput_hput]
    rw [show j = i by omega]
  | succ d ih =>
    intro j hj h0
    have h1 := hg j (by omega) (by omega)
    have h3 := em (P := P) (by omega) (g j)
    obtain ⟨ih1, ih2⟩ := ih (j + 1) (by omega) (by omega)
    by_cases he : g j % P = g i % P
    · refine ⟨fun _ => ?_, fun h => absurd ⟨j, Int.le_refl j, by omega, he.symm⟩ h⟩
      rw [gX3_anyAlike_24]
      simp (disch := omega) only [gX3_anyAlike_26, gX3_anyAlike_27T, gX3_anyAlike_27F, gX3_anyAlike_30, gX3_anyAlike_31, gX3_anyAlike_32, fl_5_1, gX3_anyAlike_35, gX3_anyAlike_37, aL_g, gX3_anyAlike_38, gX3_anyAlike_41, gX3_anyAlike_42T, gX3_anyAlike_42F, gX3_anyAlike_43T, gX3_anyAlike_43F, gX3_anyAlike_46, gX3_anyAlike_47, gX3_anyAlike_48, gX3_anyAlike_51, Rd_some, Wr_some, Cont_some, Cont_none, iso_O, true_and, hg_s, hg_n, hput_hput, hp, hr, hc, sp_reduced hp hP]
    · refine ⟨fun ⟨k, k1, k2, k3⟩ => ?_, fun h => ?_⟩
      · rw [gX3_anyAlike_24]
        simp (disch := omega) only [gX3_anyAlike_26, gX3_anyAlike_27T, gX3_anyAlike_27F, gX3_anyAlike_30, gX3_anyAlike_31, gX3_anyAlike_32, fl_5_1, gX3_anyAlike_35, gX3_anyAlike_37, aL_g, gX3_anyAlike_38, gX3_anyAlike_41, gX3_anyAlike_42T, gX3_anyAlike_42F, gX3_anyAlike_43T, gX3_anyAlike_43F, gX3_anyAlike_46, gX3_anyAlike_47, gX3_anyAlike_48, gX3_anyAlike_51, Rd_some, Wr_some, Cont_some, Cont_none, iso_O, true_and, hg_s, hg_n, hput_hput, hp, hr, hc, sp_reduced hp hP]
        refine ih1 ⟨k, ?_, k2, k3⟩
        rcases Int.lt_or_eq_of_le k1 with q | q
        · omega
        · rw [← q] at k3; exact absurd k3.symm he
      · rw [gX3_anyAlike_24]
        simp (disch := omega) only [gX3_anyAlike_26, gX3_anyAlike_27T, gX3_anyAlike_27F, gX3_anyAlike_30, gX3_anyAlike_31, gX3_anyAlike_32, fl_5_1, gX3_anyAlike_35, gX3_anyAlike_37, aL_g, gX3_anyAlike_38, gX3_anyAlike_41, gX3_anyAlike_42T, gX3_anyAlike_42F, gX3_anyAlike_43T, gX3_anyAlike_43F, gX3_anyAlike_46, gX3_anyAlike_47, gX3_anyAlike_48, gX3_anyAlike_51, Rd_some, Wr_some, Cont_some, Cont_none, iso_O, true_and, hg_s, hg_n, hput_hput, hp, hr, hc, sp_reduced hp hP]
        exact ih2 (fun ⟨k, k1, k2, k3⟩ => h ⟨k, by omega, k2, k3⟩)
theorem lp_alike (hp : hget H p = cO 3 [vl P]) (hP : 1 < P ∧ P < 1073741824) (hr : hget H r = cO 5 [vi ln, .ref c]) (hc : hget H c = cL n g) (hn : 0 ≤ n ∧ n ≤ 1000000) (hg : ∀ j, 0 ≤ j → j < n → -9223372036854775808 ≤ g j ∧ g j ≤ 9223372036854775807) : ∀ (d : Nat) (i : Int) (l3 l5 : Option Value) (l4 : Option Value), i + d = n → 0 ≤ i → ¬ alk P g i →
    (alk P g n → (Go 40 2 [some (.ref p), some (.ref r), some (vi i), l3, l4, l5] [] H Q ↔ Q (some (vi 1)) H)) ∧ (¬ alk P g n → (Go 40 2 [some (.ref p), some (.ref r), some (vi i), l3, l4, l5] [] H Q ↔ Q (some (vi 0)) H)) := by
  intro d
  induction d with
  | zero =>
    intro i l3 l5 l4 hi h0 ha
    rw [show i = n by omega] at ha ⊢
    refine ⟨fun h => absurd h ha, fun _ => ?_⟩
    rw [gX3_anyAlike_2]
    simp (disch := omega) only [gX3_anyAlike_3, gX3_anyAlike_4, gX3_anyAlike_7T, gX3_anyAlike_7F, gX3_anyAlike_60, gX3_anyAlike_61, Rd_some, Wr_some, Cont_some, Cont_none, iso_O, true_and, hg_s, hg_n, hput_hput, hr, sp_size hr hc hn]
  | succ d ih =>
    intro i l3 l5 l4 hi h0 ha
    have h1 := hg i (by omega) (by omega)
    have hrun : Go 40 2 [some (.ref p), some (.ref r), some (vi i), l3, l4, l5] [] H Q ↔ Go 40 24 [some (.ref p), some (.ref r), some (vi i), some (vl (g i % P)), none, some (vi 0)] [] H Q := by
      rw [gX3_anyAlike_2]
      simp (disch := omega) only [gX3_anyAlike_3, gX3_anyAlike_4, gX3_anyAlike_7T, gX3_anyAlike_7F, gX3_anyAlike_10, gX3_anyAlike_11, gX3_anyAlike_12, fl_5_1, gX3_anyAlike_15, gX3_anyAlike_16, aL_g, gX3_anyAlike_17, gX3_anyAlike_20, gX3_anyAlike_21, gX3_anyAlike_22, Rd_some, Wr_some, Cont_some, Cont_none, iso_O, true_and, hg_s, hg_n, hput_hput, hp, hr, hc, sp_size hr hc hn, sp_reduced hp hP]
    obtain ⟨k1, k2⟩ := lp_alike2 (Q := Q) hp hP hr hc hn hg (i := i) (by omega) i.toNat 0 (by omega) (by omega)
    rw [hrun]
    by_cases he : ∃ k, 0 ≤ k ∧ k < i ∧ g i % P = g k % P
    · rw [k1 he]
      obtain ⟨k, q1, q2, q3⟩ := he
      exact ⟨fun _ => Iff.rfl, fun h => absurd ⟨i, k, q1, q2, by omega, q3⟩ h⟩
    · rw [k2 he]
      refine ih (i + 1) _ _ _ (by omega) (by omega) ?_
      rintro ⟨x, y, q1, q2, q3, q4⟩
      by_cases hx : x = i
      · subst hx; exact he ⟨y, q1, q2, q4⟩
      · exact ha ⟨x, y, q1, q2, by omega, q4⟩
theorem sp_alike (hp : hget H p = cO 3 [vl P]) (hP : 1 < P ∧ P < 1073741824) (hr : hget H r = cO 5 [vi ln, .ref c]) (hc : hget H c = cL n g) (hn : 0 ≤ n ∧ n ≤ 1000000) (hg : ∀ j, 0 ≤ j → j < n → -9223372036854775808 ≤ g j ∧ g j ≤ 9223372036854775807) :
    (alk P g n → (Go 40 0 [some (.ref p), some (.ref r), none, none, none, none] [] H Q ↔ Q (some (vi 1)) H)) ∧ (¬ alk P g n → (Go 40 0 [some (.ref p), some (.ref r), none, none, none, none] [] H Q ↔ Q (some (vi 0)) H)) := by
  simp only [gX3_anyAlike_0, gX3_anyAlike_1, Rd_some, Wr_some, Cont_some, Cont_none, iso_O, true_and, hg_s, hg_n, hput_hput]
  exact lp_alike hp hP hr hc hn hg n.toNat 0 _ _ _ (by omega) (by omega) (fun ⟨x, y, q⟩ => by omega)
end SPEC

/-! Products: circular, correlations, windows, digits -/
/-- the correlation's entry i: ahead = i - (m - 1) -/
def tc (x : Int → Int) (n : Int) (y : Int → Int) (ah j : Int) : Int := if 0 ≤ j + ah ∧ j + ah < n then x (j + ah) * y j else 0
def co (x : Int → Int) (n : Int) (y : Int → Int) (m i : Int) : Int := sm (tc x n y (i - (m - 1))) m.toNat
/-- the windows' sum -/
def wn (x : Int → Int) (k w : Int) : Int := sm (fun t => x (k + t)) w.toNat
/-- a term of the circular product -/
def tr (x : Int → Int) (y : Int → Int) (N i j k : Int) : Int := if (j + k) % N = i then x j * y k else 0
def ci2 (x : Int → Int) (y : Int → Int) (m N i j : Int) : Int := sm (tr x y N i j) m.toNat
def ci (x : Int → Int) (n : Int) (y : Int → Int) (m N i : Int) : Int := sm (ci2 x y m N i) n.toNat
section SPEC
variable {H : HP} {Q : Option Value → HP → Prop} {i0 i1 : Int}
theorem lp_along2 {rx cx ry cy : Nat} {lx nx ly ny : Int} {x y : Int → Int} (i ah : Int) (hi : 0 ≤ i ∧ i < 127) (ha : -64 ≤ ah ∧ ah ≤ 127) (sx : sml x nx) (sy : sml y ny) {n : Int} {V : Int → Int} {H0 : HP} (hq : ∀ (H' : HP) (l : Option Value), Fm 28 31 H0 H' → PS H' n i0 i1 V i → hget H' 31 = cW (sm (tc x nx y ah) ny.toNat) → Go 51 103 [some (.ref 28), some (.ref rx), some (.ref ry), some (vi i), some (vi ah), l] [] H' Q) :
    ∀ (d : Nat) (j : Int) (H : HP), ny - j ≤ d → 0 ≤ j → j ≤ ny → -ah ≤ j → Fm 28 31 H0 H → PS H n i0 i1 V i → hget H 31 = cW (sm (tc x nx y ah) j.toNat) → RW H rx cx lx nx x → RW H ry cy ly ny y → Go 51 51 [some (.ref 28), some (.ref rx), some (.ref ry), some (vi i), some (vi ah), some (vi j)] [] H Q := by
  intro d
  induction d with
  | zero =>
    intro j H hd h0 hj hlo hf hps hs Rx Ry
    have b2 := Ry.2.2.2.1
    rw [show j = ny by omega] at hs ⊢
    rw [gX4_alongside_51]
    simp (disch := omega) only [gX4_alongside_53, gX4_alongside_54, gX4_alongside_57T, gX4_alongside_57F, Rd_some, Wr_some, Cont_some, Cont_none, iso_O, true_and, hg_s, hg_n, hput_hput, Ry.1, sp_size Ry.1 Ry.2.1 Ry.sz]
    exact hq H _ hf hps hs
  | succ d ih =>
    intro j H hd h0 hj hlo hf hps hs Rx Ry
    have b1 := Rx.2.2.2.1
    have b2 := Ry.2.2.2.1
    by_cases hjn : j = ny
    · rw [hjn] at hs ⊢
      rw [gX4_alongside_51]
      simp (disch := omega) only [gX4_alongside_53, gX4_alongside_54, gX4_alongside_57T, gX4_alongside_57F, Rd_some, Wr_some, Cont_some, Cont_none, iso_O, true_and, hg_s, hg_n, hput_hput, Ry.1, sp_size Ry.1 Ry.2.1 Ry.sz]
      exact hq H _ hf hps hs
    · by_cases hx : j + ah < nx
      · have m1 := sx (j + ah) (by omega) (by omega)
        have m2 := sy j (by omega) (by omega)
        have m3 := ml m1 m2
        have n1 := Rx.2.2.1
        have n2 := Ry.2.2.1
        rw [gX4_alongside_51]
        simp (disch := omega) only [gX4_alongside_53, gX4_alongside_54, gX4_alongside_57T, gX4_alongside_57F, gX4_alongside_60, gX4_alongside_62, gX4_alongside_64, gX4_alongside_65, gX4_alongside_66, gX4_alongside_69T, gX4_alongside_69F, gX4_alongside_72, gX4_alongside_73, fl_4_3, gX4_alongside_76, gX4_alongside_77, fl_5_1, gX4_alongside_80, gX4_alongside_82, gX4_alongside_84, gX4_alongside_85, aL_g, gX4_alongside_86, gX4_alongside_87, gX4_alongside_90, gX4_alongside_92, gX4_alongside_93, gX4_alongside_94, gX4_alongside_97, gX4_alongside_100, Rd_some, Wr_some, Cont_some, Cont_none, iso_O, true_and, hg_s, hg_n, hput_hput, Rx.1, Rx.2.1, Ry.1, Ry.2.1, hps.1, hs, sp_size Rx.1 Rx.2.1 Rx.sz, sp_size Ry.1 Ry.2.1 Ry.sz, sp_addW hs (by decide)]
        refine ih (j + 1) _ (by omega) (by omega) (by omega) (by omega) (hf.put (by omega)) hps.sum ?_ (Rx.fm (Fm.rf.put (lo := 28) (hi := 31) (by omega)) (by omega)) (Ry.fm (Fm.rf.put (lo := 28) (hi := 31) (by omega)) (by omega))
        rw [hg_s, show (j + 1).toNat = j.toNat + 1 by omega, sm]
        unfold tc
        rw [show ((j.toNat : Nat) : Int) = j by omega, if_pos (by omega)]
      · rw [gX4_alongside_51]
        simp (disch := omega) only [gX4_alongside_53, gX4_alongside_54, gX4_alongside_57T, gX4_alongside_57F, gX4_alongside_60, gX4_alongside_62, gX4_alongside_64, gX4_alongside_65, gX4_alongside_66, gX4_alongside_69T, gX4_alongside_69F, Rd_some, Wr_some, Cont_some, Cont_none, iso_O, true_and, hg_s, hg_n, hput_hput, Rx.1, Ry.1, sp_size Rx.1 Rx.2.1 Rx.sz, sp_size Ry.1 Ry.2.1 Ry.sz]
        refine hq H _ hf hps ?_
        rw [hs, sm_tail (f := tc x nx y ah) (a := j.toNat) (b := ny.toNat) (by omega) (fun j j0 j1 => if_neg (by omega))]
theorem lp_along {rx cx ry cy : Nat} {lx nx ly ny : Int} {x y : Int → Int} (sx : sml x nx) (sy : sml y ny) {H0 : HP} (Rx0 : RW H0 rx cx lx nx x) (Ry0 : RW H0 ry cy ly ny y) (hq : ∀ (H' : HP), Fm 28 31 H0 H' → PS H' (nx + ny - 1) i0 i1 (fun k => co x nx y ny k) (nx + ny - 1) → Q none H') :
    ∀ (d : Nat) (k : Int) (H : HP) (l m : Option Value), nx + ny - 1 - k ≤ d → 0 ≤ k → k ≤ nx + ny - 1 → Fm 28 31 H0 H → PS H (nx + ny - 1) i0 i1 (fun k => co x nx y ny k) k → Go 51 17 [some (.ref 28), some (.ref rx), some (.ref ry), some (vi k), l, m] [] H Q := by
  have b1 := Rx0.2.2.2.1
  have b2 := Ry0.2.2.2.1
  intro d
  induction d with
  | zero =>
    intro k H l m hd h0 hk hf hps
    have ek : k = nx + ny - 1 := by omega
    subst ek
    rw [gX4_alongside_17]
    simp (disch := omega) only [gX4_alongside_18, gX4_alongside_19, fl_4_2, gX4_alongside_22T, gX4_alongside_22F, gX4_alongside_114, Rd_some, Wr_some, Cont_some, Cont_none, iso_O, true_and, hg_s, hg_n, hput_hput, hps.1]
    exact hq H hf hps
  | succ d ih =>
    intro k H l m hd h0 hk hf hps
    by_cases ek : k = nx + ny - 1
    · subst ek
      rw [gX4_alongside_17]
      simp (disch := omega) only [gX4_alongside_18, gX4_alongside_19, fl_4_2, gX4_alongside_22T, gX4_alongside_22F, gX4_alongside_114, Rd_some, Wr_some, Cont_some, Cont_none, iso_O, true_and, hg_s, hg_n, hput_hput, hps.1]
      exact hq H hf hps
    · have Rx := Rx0.fm hf (by omega)
      have Ry := Ry0.fm hf (by omega)
      obtain ⟨u, w, hs⟩ := hps.2.2
      have Ry' := Ry.fm (Fm.rf.put (lo := 28) (hi := 31) (b := 31) (c := cW 0) (by omega)) (by omega)
      have Rx' := Rx.fm (Fm.rf.put (lo := 28) (hi := 31) (b := 31) (c := cW 0) (by omega)) (by omega)
      rw [gX4_alongside_17]
      simp (disch := omega) only [gX4_alongside_18, gX4_alongside_19, fl_4_2, gX4_alongside_22T, gX4_alongside_22F, gX4_alongside_25, gX4_alongside_26, gX4_alongside_27, gX4_alongside_30, gX4_alongside_31, gX4_alongside_32, gX4_alongside_33, gX4_alongside_35, gX4_alongside_36, fl_4_3, gX4_alongside_39, gX4_alongside_42, gX4_alongside_43, gX4_alongside_45, gX4_alongside_46, gX4_alongside_49, Rd_some, Wr_some, Cont_some, Cont_none, iso_O, true_and, hg_s, hg_n, hput_hput, hps.1, hs, sp_clear hs (by decide), Ry.1, sp_size Ry.1 Ry.2.1 Ry.sz, sp_maxI]
      refine lp_along2 k (k - (ny - 1)) (by omega) (by omega) sx sy (n := nx + ny - 1) (V := fun k => co x nx y ny k) (H0 := H) (fun H' l hf' hps' hs' => ?_) ny.toNat (max 0 (-(k - (ny - 1)))) _ (by omega) (by omega) (by omega) (by omega) (Fm.rf.put (by omega)) hps.sum ?_ Rx' Ry'
      · simp (disch := omega) only [gX4_alongside_103, gX4_alongside_104, gX4_alongside_105, Rd_some, Wr_some, Cont_some, Cont_none, iso_O, true_and, hg_s, hg_n, hput_hput, hps'.1]
        refine hps'.keep' hs' (by omega) rfl (fun H2 hf2 hps2 => ?_)
        simp (disch := omega) only [gX4_alongside_108, gX4_alongside_111, Rd_some, Wr_some, Cont_some, Cont_none, iso_O, true_and, hg_s, hg_n, hput_hput]
        exact ih (k + 1) H2 _ _ (by omega) (by omega) (by omega) ((hf.tr hf').tr hf2) hps2
      · rw [hg_s, sm_0 (f := tc x nx y (k - (ny - 1))) (fun j j0 j1 => if_neg (by omega))]
theorem sp_along {rx cx ry cy : Nat} {lx nx ly ny : Int} {x y : Int → Int} (sx : sml x nx) (sy : sml y ny) (Rx0 : RW H rx cx lx nx x) (Ry0 : RW H ry cy ly ny y) {n k : Int} {V : Int → Int} (hps : PS H n i0 i1 V k) (hq : ∀ (H' : HP), Fm 28 31 H H' → PS H' (nx + ny - 1) i0 i1 (fun k => co x nx y ny k) (nx + ny - 1) → Q none H') : Go 51 0 [some (.ref 28), some (.ref rx), some (.ref ry), none, none, none] [] H Q := by
  have b1 := Rx0.2.2.2.1
  have b2 := Ry0.2.2.2.1
  simp (disch := omega) only [gX4_alongside_0, gX4_alongside_1, gX4_alongside_2, gX4_alongside_5, gX4_alongside_6, gX4_alongside_9, gX4_alongside_10, gX4_alongside_11, gX4_alongside_12, pf_4_2, gX4_alongside_15, gX4_alongside_16, Rd_some, Wr_some, Cont_some, Cont_none, iso_O, true_and, hg_s, hg_n, hput_hput, Rx0.1, Ry0.1, sp_size Rx0.1 Rx0.2.1 Rx0.sz, sp_size Ry0.1 Ry0.2.1 Ry0.sz, hps.1]
  exact lp_along sx sy (Rx0.fm (Fm.rf.put (lo := 28) (hi := 31) (by omega)) (by omega)) (Ry0.fm (Fm.rf.put (lo := 28) (hi := 31) (by omega)) (by omega)) (fun H' hf' h => hq H' ((Fm.rf.put (by omega)).tr hf') h) (nx + ny - 1).toNat 0 _ _ _ (by omega) (by omega) (by omega) Fm.rf hps.cnt
theorem lp_win2 {rx cx : Nat} {lx nx : Int} {x : Int → Int} (i wd : Int) (hi : 0 ≤ i ∧ i < 127) (hw : 1 ≤ wd ∧ wd ≤ 64 ∧ i + wd ≤ nx) {n : Int} {V : Int → Int} {H0 : HP} (hq : ∀ (H' : HP) (l : Option Value), Fm 28 31 H0 H' → PS H' n i0 i1 V i → hget H' 31 = cW (wn x i wd) → Go 52 73 [some (.ref 28), some (.ref rx), some (vi wd), some (vi i), l] [] H' Q) :
    ∀ (d : Nat) (j : Int) (H : HP), i + wd - j ≤ d → i ≤ j → j ≤ i + wd → Fm 28 31 H0 H → PS H n i0 i1 V i → hget H 31 = cW (sm (fun t => x (i + t)) (j - i).toNat) → RW H rx cx lx nx x → Go 52 36 [some (.ref 28), some (.ref rx), some (vi wd), some (vi i), some (vi j)] [] H Q := by
  intro d
  induction d with
  | zero =>
    intro j H hd h0 hj hf hps hs Rx
    rw [show j = i + wd by omega] at hs ⊢
    rw [gX4_windows_36]
    simp (disch := omega) only [gX4_windows_38, gX4_windows_39, gX4_windows_40, gX4_windows_41T, gX4_windows_41F, Rd_some, Wr_some, Cont_some, Cont_none, iso_O, true_and, hg_s, hg_n, hput_hput]
    exact hq H _ hf hps (by rw [hs, show (i + wd - i).toNat = wd.toNat by omega]; rfl)
  | succ d ih =>
    intro j H hd h0 hj hf hps hs Rx
    have b1 := Rx.2.2.2.1
    have n1 := Rx.2.2.1
    by_cases hjn : j = i + wd
    · rw [hjn] at hs ⊢
      rw [gX4_windows_36]
      simp (disch := omega) only [gX4_windows_38, gX4_windows_39, gX4_windows_40, gX4_windows_41T, gX4_windows_41F, Rd_some, Wr_some, Cont_some, Cont_none, iso_O, true_and, hg_s, hg_n, hput_hput]
      exact hq H _ hf hps (by rw [hs, show (i + wd - i).toNat = wd.toNat by omega]; rfl)
    · have m1 := Rx.2.2.2.2 j (by omega) (by omega)
      rw [gX4_windows_36]
      simp (disch := omega) only [gX4_windows_38, gX4_windows_39, gX4_windows_40, gX4_windows_41T, gX4_windows_41F, gX4_windows_44, gX4_windows_46, gX4_windows_47, gX4_windows_50T, gX4_windows_50F, gX4_windows_53, gX4_windows_54, fl_4_3, gX4_windows_57, gX4_windows_58, fl_5_1, gX4_windows_61, gX4_windows_63, aL_g, gX4_windows_64, gX4_windows_67, gX4_windows_70, Rd_some, Wr_some, Cont_some, Cont_none, iso_O, true_and, hg_s, hg_n, hput_hput, Rx.1, Rx.2.1, hps.1, hs, sp_size Rx.1 Rx.2.1 Rx.sz, sp_addW hs (by decide)]
      refine ih (j + 1) _ (by omega) (by omega) (by omega) (hf.put (by omega)) hps.sum ?_ (Rx.fm (Fm.rf.put (lo := 28) (hi := 31) (by omega)) (by omega))
      rw [hg_s, show (j + 1 - i).toNat = (j - i).toNat + 1 by omega, sm, show i + ((j - i).toNat : Int) = j by omega]
theorem lp_win {rx cx : Nat} {lx nx : Int} {x : Int → Int} (wd : Int) (hw : 1 ≤ wd ∧ wd ≤ 64) {H0 : HP} (Rx0 : RW H0 rx cx lx nx x) (hq : ∀ (H' : HP), Fm 28 31 H0 H' → PS H' (max (nx - wd + 1) 0) i0 i1 (fun k => wn x k wd) (max (nx - wd + 1) 0) → Q none H') :
    ∀ (d : Nat) (k : Int) (H : HP) (l : Option Value), max (nx - wd + 1) 0 - k ≤ d → 0 ≤ k → k ≤ max (nx - wd + 1) 0 → Fm 28 31 H0 H → PS H (max (nx - wd + 1) 0) i0 i1 (fun k => wn x k wd) k → Go 52 18 [some (.ref 28), some (.ref rx), some (vi wd), some (vi k), l] [] H Q := by
  have b1 := Rx0.2.2.2.1
  intro d
  induction d with
  | zero =>
    intro k H l hd h0 hk hf hps
    have ek : k = max (nx - wd + 1) 0 := by omega
    subst ek
    rw [gX4_windows_18]
    simp (disch := omega) only [gX4_windows_19, gX4_windows_20, fl_4_2, gX4_windows_23T, gX4_windows_23F, gX4_windows_84, Rd_some, Wr_some, Cont_some, Cont_none, iso_O, true_and, hg_s, hg_n, hput_hput, hps.1]
    exact hq H hf hps
  | succ d ih =>
    intro k H l hd h0 hk hf hps
    by_cases ek : k = max (nx - wd + 1) 0
    · subst ek
      rw [gX4_windows_18]
      simp (disch := omega) only [gX4_windows_19, gX4_windows_20, fl_4_2, gX4_windows_23T, gX4_windows_23F, gX4_windows_84, Rd_some, Wr_some, Cont_some, Cont_none, iso_O, true_and, hg_s, hg_n, hput_hput, hps.1]
      exact hq H hf hps
    · have Rx := Rx0.fm hf (by omega)
      obtain ⟨u, w, hs⟩ := hps.2.2
      have Rx' := Rx.fm (Fm.rf.put (lo := 28) (hi := 31) (b := 31) (c := cW 0) (by omega)) (by omega)
      rw [gX4_windows_18]
      simp (disch := omega) only [gX4_windows_19, gX4_windows_20, fl_4_2, gX4_windows_23T, gX4_windows_23F, gX4_windows_26, gX4_windows_27, fl_4_3, gX4_windows_30, gX4_windows_33, gX4_windows_34, Rd_some, Wr_some, Cont_some, Cont_none, iso_O, true_and, hg_s, hg_n, hput_hput, hps.1, hs, sp_clear hs (by decide)]
      refine lp_win2 k wd (by omega) (by omega) (V := fun k => wn x k wd) (H0 := H) (fun H' l hf' hps' hs' => ?_) wd.toNat k _ (by omega) (by omega) (by omega) (Fm.rf.put (by omega)) hps.sum ?_ Rx'
      · simp (disch := omega) only [gX4_windows_73, gX4_windows_74, gX4_windows_75, Rd_some, Wr_some, Cont_some, Cont_none, iso_O, true_and, hg_s, hg_n, hput_hput, hps'.1]
        refine hps'.keep' hs' (by omega) rfl (fun H2 hf2 hps2 => ?_)
        simp (disch := omega) only [gX4_windows_78, gX4_windows_81, Rd_some, Wr_some, Cont_some, Cont_none, iso_O, true_and, hg_s, hg_n, hput_hput]
        exact ih (k + 1) H2 _ (by omega) (by omega) (by omega) ((hf.tr hf').tr hf2) hps2
      · rw [hg_s, show (k - k).toNat = 0 by omega]; rfl
theorem sp_win {rx cx : Nat} {lx nx : Int} {x : Int → Int} {wd : Int} (hw : 1 ≤ wd ∧ wd ≤ 64) (Rx0 : RW H rx cx lx nx x) {n k : Int} {V : Int → Int} (hps : PS H n i0 i1 V k) (hq : ∀ (H' : HP), Fm 28 31 H H' → PS H' (max (nx - wd + 1) 0) i0 i1 (fun k => wn x k wd) (max (nx - wd + 1) 0) → Q none H') : Go 52 0 [some (.ref 28), some (.ref rx), some (vi wd), none, none] [] H Q := by
  have b1 := Rx0.2.2.2.1
  simp (disch := omega) only [gX4_windows_0, gX4_windows_1, gX4_windows_2, gX4_windows_5, gX4_windows_6, gX4_windows_7, gX4_windows_8, gX4_windows_9, gX4_windows_10, gX4_windows_13, pf_4_2, gX4_windows_16, gX4_windows_17, Rd_some, Wr_some, Cont_some, Cont_none, iso_O, true_and, hg_s, hg_n, hput_hput, Rx0.1, sp_size Rx0.1 Rx0.2.1 Rx0.sz, hps.1, sp_maxI]
  exact lp_win wd hw (Rx0.fm (Fm.rf.put (lo := 28) (hi := 31) (by omega)) (by omega)) (fun H' hf' h => hq H' ((Fm.rf.put (by omega)).tr hf') h) (max (nx - wd + 1) 0).toNat 0 _ _ (by omega) (by omega) (by omega) Fm.rf hps.cnt
theorem tr_hit {x y : Int → Int} {N i j k : Int} (hN : 0 < N) (hi : 0 ≤ i ∧ i < N) (hk : k % N = (i - j) % N) : tr x y N i j k = x j * y k := by
  unfold tr
  rw [if_pos]
  rw [Int.add_emod, hk, ← Int.add_emod, show j + (i - j) = i by omega, Int.emod_eq_of_lt hi.1 hi.2]
theorem tr_mis {x y : Int → Int} {N i j k : Int} (hN : 0 < N) (hi : 0 ≤ i ∧ i < N) (hk : ¬ k % N = (i - j) % N) : tr x y N i j k = 0 := by
  unfold tr
  rw [if_neg]
  intro h
  apply hk
  rw [show k = (j + k) - j by omega, Int.sub_emod, h]
  rw [Int.sub_emod i j, Int.emod_eq_of_lt hi.1 hi.2]
theorem lp_arnd3 {rx cx ry cy : Nat} {lx nx ly ny : Int} {x y : Int → Int} (N i j : Int) (hN : 1 ≤ N ∧ N ≤ 64) (hi : 0 ≤ i ∧ i < N) (hj : 0 ≤ j ∧ j < nx) (sx : sml x nx) (sy : sml y ny) {n A : Int} {V : Int → Int} {H0 : HP} (hq : ∀ (H' : HP) (l : Option Value), Fm 28 31 H0 H' → PS H' n i0 i1 V i → hget H' 31 = cW (A + ci2 x y ny N i j) → Go 50 96 [some (.ref 28), some (.ref rx), some (.ref ry), some (vi N), some (vi i), some (vi j), l] [] H' Q) :
    ∀ (d : Nat) (k : Int) (H : HP), ny - k ≤ d → 0 ≤ k → k ≤ 200 → k % N = (i - j) % N → Fm 28 31 H0 H → PS H n i0 i1 V i → hget H 31 = cW (A + sm (tr x y N i j) (min k ny).toNat) → RW H rx cx lx nx x → RW H ry cy ly ny y → Go 50 56 [some (.ref 28), some (.ref rx), some (.ref ry), some (vi N), some (vi i), some (vi j), some (vi k)] [] H Q := by
  intro d
  induction d with
  | zero =>
    intro k H hd h0 h200 hkm hf hps hs Rx Ry
    have b2 := Ry.2.2.2.1
    rw [show min k ny = ny by omega] at hs
    rw [gX4_around_56]
    simp (disch := omega) only [gX4_around_58, gX4_around_59, gX4_around_62T, gX4_around_62F, Rd_some, Wr_some, Cont_some, Cont_none, iso_O, true_and, hg_s, hg_n, hput_hput, Ry.1, sp_size Ry.1 Ry.2.1 Ry.sz]
    exact hq H _ hf hps hs
  | succ d ih =>
    intro k H hd h0 h200 hkm hf hps hs Rx Ry
    have b1 := Rx.2.2.2.1
    have b2 := Ry.2.2.2.1
    by_cases hk : k < ny
    · have m1 := sx j (by omega) (by omega)
      have m2 := sy k (by omega) (by omega)
      have m3 := ml m1 m2
      have n1 := Rx.2.2.1
      have n2 := Ry.2.2.1
      rw [gX4_around_56]
      simp (disch := omega) only [gX4_around_58, gX4_around_59, gX4_around_62T, gX4_around_62F, gX4_around_65, gX4_around_66, fl_4_3, gX4_around_69, gX4_around_70, fl_5_1, gX4_around_73, gX4_around_75, aL_g, gX4_around_76, gX4_around_77, gX4_around_80, gX4_around_82, gX4_around_83, gX4_around_84, gX4_around_87, gX4_around_89, gX4_around_90, gX4_around_91, gX4_around_93, Rd_some, Wr_some, Cont_some, Cont_none, iso_O, true_and, hg_s, hg_n, hput_hput, Rx.1, Rx.2.1, Ry.1, Ry.2.1, hps.1, hs, sp_size Ry.1 Ry.2.1 Ry.sz, sp_addW hs (by decide)]
      refine ih (k + N) _ (by omega) (by omega) (by omega) (by rw [Int.add_emod_right]; exact hkm) (hf.put (by omega)) hps.sum ?_ (Rx.fm (Fm.rf.put (lo := 28) (hi := 31) (by omega)) (by omega)) (Ry.fm (Fm.rf.put (lo := 28) (hi := 31) (by omega)) (by omega))
      rw [hg_s, show min k ny = k by omega]
      rw [sm_tail (f := tr x y N i j) (a := k.toNat + 1) (b := (min (k + N) ny).toNat) (by omega) (fun j' h1 h2 => tr_mis (by omega) hi (fun e => by
        rw [← hkm] at e
        have e2 : (j' - k) % N = 0 := by rw [Int.sub_emod, e, Int.sub_self, Int.zero_emod]
        rw [Int.emod_eq_of_lt (by omega) (by omega)] at e2
        omega))]
      rw [sm, show ((k.toNat : Nat) : Int) = k by omega, tr_hit (by omega) hi hkm]
      rw [Int.add_assoc]
    · rw [show min k ny = ny by omega] at hs
      rw [gX4_around_56]
      simp (disch := omega) only [gX4_around_58, gX4_around_59, gX4_around_62T, gX4_around_62F, Rd_some, Wr_some, Cont_some, Cont_none, iso_O, true_and, hg_s, hg_n, hput_hput, Ry.1, sp_size Ry.1 Ry.2.1 Ry.sz]
      exact hq H _ hf hps hs
theorem lp_arnd2 {rx cx ry cy : Nat} {lx nx ly ny : Int} {x y : Int → Int} (N i : Int) (hN : 1 ≤ N ∧ N ≤ 64) (hi : 0 ≤ i ∧ i < N) (sx : sml x nx) (sy : sml y ny) {n : Int} {V : Int → Int} {H0 : HP} (hq : ∀ (H' : HP) (l m : Option Value), Fm 28 31 H0 H' → PS H' n i0 i1 V i → hget H' 31 = cW (ci x nx y ny N i) → Go 50 102 [some (.ref 28), some (.ref rx), some (.ref ry), some (vi N), some (vi i), l, m] [] H' Q) :
    ∀ (d : Nat) (j : Int) (H : HP) (l : Option Value), nx - j ≤ d → 0 ≤ j → j ≤ nx → Fm 28 31 H0 H → PS H n i0 i1 V i → hget H 31 = cW (sm (ci2 x y ny N i) j.toNat) → RW H rx cx lx nx x → RW H ry cy ly ny y → Go 50 36 [some (.ref 28), some (.ref rx), some (.ref ry), some (vi N), some (vi i), some (vi j), l] [] H Q := by
  intro d
  induction d with
  | zero =>
    intro j H l hd h0 hj hf hps hs Rx Ry
    have b1 := Rx.2.2.2.1
    rw [show j = nx by omega] at hs ⊢
    rw [gX4_around_36]
    simp (disch := omega) only [gX4_around_38, gX4_around_39, gX4_around_42T, gX4_around_42F, Rd_some, Wr_some, Cont_some, Cont_none, iso_O, true_and, hg_s, hg_n, hput_hput, Rx.1, sp_size Rx.1 Rx.2.1 Rx.sz]
    exact hq H _ _ hf hps hs
  | succ d ih =>
    intro j H l hd h0 hj hf hps hs Rx Ry
    have b1 := Rx.2.2.2.1
    have b2 := Ry.2.2.2.1
    by_cases hjn : j = nx
    · rw [hjn] at hs ⊢
      rw [gX4_around_36]
      simp (disch := omega) only [gX4_around_38, gX4_around_39, gX4_around_42T, gX4_around_42F, Rd_some, Wr_some, Cont_some, Cont_none, iso_O, true_and, hg_s, hg_n, hput_hput, Rx.1, sp_size Rx.1 Rx.2.1 Rx.sz]
      exact hq H _ _ hf hps hs
    · have e0 := em (P := N) (by omega) (i - j)
      rw [gX4_around_36]
      simp (disch := omega) only [gX4_around_38, gX4_around_39, gX4_around_42T, gX4_around_42F, gX4_around_45, gX4_around_47, gX4_around_49, gX4_around_50, gX4_around_51, gX4_around_54, Rd_some, Wr_some, Cont_some, Cont_none, iso_O, true_and, hg_s, hg_n, hput_hput, Rx.1, sp_size Rx.1 Rx.2.1 Rx.sz, sp_fmI]
      refine lp_arnd3 N i j hN hi (by omega) sx sy (A := sm (ci2 x y ny N i) j.toNat) (H0 := H) (fun H' l' hf' hps' hs' => ?_) ny.toNat ((i - j) % N) H (by omega) (by omega) (by omega) (Int.emod_emod _ _) Fm.rf hps ?_ Rx Ry
      · simp (disch := omega) only [gX4_around_96, gX4_around_99, Rd_some, Wr_some, Cont_some, Cont_none, iso_O, true_and, hg_s, hg_n, hput_hput]
        refine ih (j + 1) H' _ (by omega) (by omega) (by omega) (hf.tr hf') hps' ?_ (Rx.fm hf' (by omega)) (Ry.fm hf' (by omega))
        rw [hs', show (j + 1).toNat = j.toNat + 1 by omega, sm, show ((j.toNat : Nat) : Int) = j by omega]
      · rw [hs, sm_0 (f := tr x y N i j) (fun k k0 k1 => tr_mis (by omega) hi (fun e => by
          rw [Int.emod_eq_of_lt k0 (by omega)] at e
          omega)), Int.add_zero]
theorem lp_arnd {rx cx ry cy : Nat} {lx nx ly ny : Int} {x y : Int → Int} (N : Int) (hN : 1 ≤ N ∧ N ≤ 64) (sx : sml x nx) (sy : sml y ny) {H0 : HP} (Rx0 : RW H0 rx cx lx nx x) (Ry0 : RW H0 ry cy ly ny y) (hq : ∀ (H' : HP), Fm 28 31 H0 H' → PS H' N i0 i1 (fun k => ci x nx y ny N k) N → Q none H') :
    ∀ (d : Nat) (k : Int) (H : HP) (l m : Option Value), N - k ≤ d → 0 ≤ k → k ≤ N → Fm 28 31 H0 H → PS H N i0 i1 (fun k => ci x nx y ny N k) k → Go 50 20 [some (.ref 28), some (.ref rx), some (.ref ry), some (vi N), some (vi k), l, m] [] H Q := by
  intro d
  induction d with
  | zero =>
    intro k H l m hd h0 hk hf hps
    rw [show k = N by omega] at hps ⊢
    rw [gX4_around_20]
    simp (disch := omega) only [gX4_around_22, gX4_around_23T, gX4_around_23F, gX4_around_114, Rd_some, Wr_some, Cont_some, Cont_none, iso_O, true_and, hg_s, hg_n, hput_hput]
    exact hq H hf hps
  | succ d ih =>
    intro k H l m hd h0 hk hf hps
    by_cases ek : k = N
    · rw [ek] at hps ⊢
      rw [gX4_around_20]
      simp (disch := omega) only [gX4_around_22, gX4_around_23T, gX4_around_23F, gX4_around_114, Rd_some, Wr_some, Cont_some, Cont_none, iso_O, true_and, hg_s, hg_n, hput_hput]
      exact hq H hf hps
    · have b1 := Rx0.2.2.2.1
      have Rx := Rx0.fm hf (by omega)
      have Ry := Ry0.fm hf (by omega)
      obtain ⟨u, w, hs⟩ := hps.2.2
      have Ry' := Ry.fm (Fm.rf.put (lo := 28) (hi := 31) (b := 31) (c := cW 0) (by omega)) (by omega)
      have Rx' := Rx.fm (Fm.rf.put (lo := 28) (hi := 31) (b := 31) (c := cW 0) (by omega)) (by omega)
      rw [gX4_around_20]
      simp (disch := omega) only [gX4_around_22, gX4_around_23T, gX4_around_23F, gX4_around_26, gX4_around_27, fl_4_3, gX4_around_30, gX4_around_33, gX4_around_34, Rd_some, Wr_some, Cont_some, Cont_none, iso_O, true_and, hg_s, hg_n, hput_hput, hps.1, hs, sp_clear hs (by decide)]
      refine lp_arnd2 N k hN (by omega) sx sy (V := fun k => ci x nx y ny N k) (H0 := H) (fun H' l m hf' hps' hs' => ?_) nx.toNat 0 _ _ (by omega) (by omega) (by omega) (Fm.rf.put (by omega)) hps.sum hg_s Rx' Ry'
      simp (disch := omega) only [gX4_around_102, gX4_around_103, gX4_around_105, Rd_some, Wr_some, Cont_some, Cont_none, iso_O, true_and, hg_s, hg_n, hput_hput, hps'.1]
      refine hps'.keep' hs' (by omega) rfl (fun H2 hf2 hps2 => ?_)
      simp (disch := omega) only [gX4_around_108, gX4_around_111, Rd_some, Wr_some, Cont_some, Cont_none, iso_O, true_and, hg_s, hg_n, hput_hput]
      exact ih (k + 1) H2 _ _ (by omega) (by omega) (by omega) ((hf.tr hf').tr hf2) hps2
theorem sp_arnd {rx cx ry cy : Nat} {lx nx ly ny : Int} {x y : Int → Int} {N : Int} (hN : 1 ≤ N ∧ N ≤ 64) (sx : sml x nx) (sy : sml y ny) (Rx0 : RW H rx cx lx nx x) (Ry0 : RW H ry cy ly ny y) {n k : Int} {V : Int → Int} (hps : PS H n i0 i1 V k) (hq : ∀ (H' : HP), Fm 28 31 H H' → PS H' N i0 i1 (fun k => ci x nx y ny N k) N → Q none H') : Go 50 0 [some (.ref 28), some (.ref rx), some (.ref ry), some (vi N), none, none, none] [] H Q := by
  simp (disch := omega) only [gX4_around_0, gX4_around_1, gX4_around_2T, gX4_around_2F, gX4_around_5, gX4_around_6, gX4_around_8T, gX4_around_8F, gX4_around_11, gX4_around_12, gX4_around_13, gX4_around_14, pf_4_2, gX4_around_17, gX4_around_18, Rd_some, Wr_some, Cont_some, Cont_none, iso_O, true_and, hg_s, hg_n, hput_hput, hps.1]
  exact lp_arnd N hN sx sy (Rx0.fm (Fm.rf.put (lo := 28) (hi := 31) (by omega)) (by omega)) (Ry0.fm (Fm.rf.put (lo := 28) (hi := 31) (by omega)) (by omega)) (fun H' hf' h => hq H' ((Fm.rf.put (by omega)).tr hf') h) N.toNat 0 _ _ _ (by omega) (by omega) (by omega) Fm.rf hps.cnt
end SPEC

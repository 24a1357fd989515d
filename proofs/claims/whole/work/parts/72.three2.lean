/-! Products: byOnePrime, byThreePrimes -/
section THREE
variable {H : HP} {Q : Option Value → HP → Prop} {i0 i1 : Int}
theorem PS.hh {n k : Int} {V : Int → Int} {rr oo : Nat} {a b : Int → Int} (h : PS H n i0 i1 V k) (h1 : 31 < rr ∧ 31 < oo) : PS (HH H rr oo a b) n i0 i1 V k := by
  obtain ⟨h1', ⟨U, W, h2, h3, h4⟩, u, w, h5⟩ := h
  exact ⟨by rw [HH_q (by omega)]; exact h1', ⟨U, W, by rw [HH_q (by omega)]; exact h2, by rw [HH_q (by omega)]; exact h3, h4⟩, u, w, by rw [HH_q (by omega)]; exact h5⟩
theorem FO.hh {rr oo : Nat} {a b : Int → Int} (h : FO H) (h1 : (rr = 33 ∧ oo = 34) ∨ (rr = 36 ∧ oo = 37) ∨ (rr = 39 ∧ oo = 40)) : FO (HH H rr oo a b) := by
  obtain ⟨⟨a1, a2, a3⟩, a4, a5, a6⟩ := h
  exact ⟨⟨by rw [HH_q (by omega)]; exact a1, by rw [HH_q (by omega)]; exact a2, by rw [HH_q (by omega)]; exact a3⟩, by rw [HH_q (by omega)]; exact a4, by rw [HH_q (by omega)]; exact a5, by rw [HH_q (by omega)]; exact a6⟩
theorem Fm.hh {lo hi rr oo : Nat} {a b : Int → Int} {H0 : HP} (h : Fm lo hi H0 H) (h1 : lo ≤ rr ∧ rr ≤ hi ∧ lo ≤ oo ∧ oo ≤ hi) : Fm lo hi H0 (HH H rr oo a b) := by
  unfold HH
  exact (h.put (by omega)).put (by omega)
/-- the rows that only the fast ones work in -/
def FW (H : HP) : Prop := (∃ g, hget H 33 = cL 128 g) ∧ (∃ g, hget H 34 = cL 128 g) ∧ (∃ g, hget H 36 = cL 128 g) ∧ (∃ g, hget H 37 = cL 128 g) ∧ (∃ g, hget H 39 = cL 128 g) ∧ (∃ g, hget H 40 = cL 128 g)
theorem FW.fm {H' : HP} (h : FW H) (f : Fm 28 31 H H') : FW H' := by
  obtain ⟨⟨a, h1⟩, ⟨b, h2⟩, ⟨c, h3⟩, ⟨d, h4⟩, ⟨e, h5⟩, ⟨g, h6⟩⟩ := h
  exact ⟨⟨a, by rw [f.2.2 33 (by omega)]; exact h1⟩, ⟨b, by rw [f.2.2 34 (by omega)]; exact h2⟩, ⟨c, by rw [f.2.2 36 (by omega)]; exact h3⟩, ⟨d, by rw [f.2.2 37 (by omega)]; exact h4⟩, ⟨e, by rw [f.2.2 39 (by omega)]; exact h5⟩, ⟨g, by rw [f.2.2 40 (by omega)]; exact h6⟩⟩
theorem lp_three {rx ry : Nat} {N : Int} {V g0 g1 g2 : Int → Int} (hN : 0 ≤ N ∧ N ≤ 127) (hV : ∀ k, 0 ≤ k → k < N → (-295147905179352825856 ≤ V k ∧ V k ≤ 295147905179352825856) ∧ g0 k = V k % 998244353 ∧ g1 k = V k % 1004535809 ∧ g2 k = V k % 469762049) {H0 : HP} (hF : FO H0) (r0 : hget H0 33 = cL 128 g0) (r1 : hget H0 36 = cL 128 g1) (r2 : hget H0 39 = cL 128 g2) (hq : ∀ H', Fm 28 31 H0 H' → PS H' N 669690699 354521948 V N → Q none H') : ∀ (d : Nat) (k : Int) (H : HP), k + d = N → 0 ≤ k → Fm 28 31 H0 H → PS H N 669690699 354521948 V k → Go 48 44 [some (.ref 28), some (.ref rx), some (.ref ry), some (vi k)] [] H Q := by
  intro d
  induction d with
  | zero =>
    intro k H hk h0 hf hps
    rw [show k = N by omega] at hps ⊢
    rw [gX4_byThreePrimes_44]
    simp (disch := omega) only [gX4_byThreePrimes_45, gX4_byThreePrimes_46, fl_4_2, gX4_byThreePrimes_49T, gX4_byThreePrimes_49F, gX4_byThreePrimes_94, Rd_some, Wr_some, Cont_some, Cont_none, iso_O, true_and, hg_s, hg_n, hput_hput, hps.1]
    exact hq H hf hps
  | succ d ih =>
    intro k H hk h0 hf hps
    obtain ⟨v0, v1, v2, v3⟩ := hV k h0 (by omega)
    obtain ⟨u, w, hs⟩ := hps.2.2
    have hF' := hF.fm hf
    have q0 : hget H 33 = cL 128 g0 := by rw [hf.2.2 33 (by omega)]; exact r0
    have q1 : hget H 36 = cL 128 g1 := by rw [hf.2.2 36 (by omega)]; exact r1
    have q2 : hget H 39 = cL 128 g2 := by rw [hf.2.2 39 (by omega)]; exact r2
    rw [gX4_byThreePrimes_44]
    simp (disch := omega) only [gX4_byThreePrimes_45, gX4_byThreePrimes_46, fl_4_2, gX4_byThreePrimes_49T, gX4_byThreePrimes_49F, gX4_byThreePrimes_52, gX4_byThreePrimes_53, gX4_byThreePrimes_54, fl_4_4, gX4_byThreePrimes_57, fl_1_1, gX4_byThreePrimes_60, gX4_byThreePrimes_61, aL_g, gX4_byThreePrimes_62, gX4_byThreePrimes_63, fl_4_5, gX4_byThreePrimes_66, gX4_byThreePrimes_69, gX4_byThreePrimes_70, gX4_byThreePrimes_71, gX4_byThreePrimes_72, fl_4_6, gX4_byThreePrimes_75, gX4_byThreePrimes_78, gX4_byThreePrimes_79, gX4_byThreePrimes_80, Rd_some, Wr_some, Cont_some, Cont_none, iso_O, true_and, hg_s, hg_n, hput_hput, hps.1, hF'.2.1, hF'.2.2.1, hF'.2.2.2, q0, q1, q2, sp_join3 hF' hps.1 hs v1 v2 v3 v0]
    have hps' := hps.sum (v := V k)
    simp (disch := omega) only [gX4_byThreePrimes_83, gX4_byThreePrimes_84, gX4_byThreePrimes_85, Rd_some, Wr_some, Cont_some, Cont_none, iso_O, true_and, hg_s, hg_n, hput_hput, hps'.1]
    refine hps'.keep' hg_s (by omega) rfl (fun H2 hf2 hps2 => ?_)
    simp (disch := omega) only [gX4_byThreePrimes_88, gX4_byThreePrimes_91, Rd_some, Wr_some, Cont_some, Cont_none, iso_O, true_and, hg_s, hg_n, hput_hput]
    exact ih (k + 1) H2 (by omega) (by omega) ((hf.tr (Fm.rf.put (by omega))).tr hf2) hps2
theorem sp_three {rx cx ry cy : Nat} {lx nx ly ny : Int} {x y : Int → Int} (sx : sml x nx) (sy : sml y ny) (Rx : RW H rx cx lx nx x) (Ry : RW H ry cy ly ny y) {n k : Int} {V : Int → Int} (hps : PS H n 669690699 354521948 V k) (hF : FO H) (hW : FW H) (hq : ∀ (H' : HP), Fm 28 40 H H' → PS H' (nx + ny - 1) 669690699 354521948 (fun k => cv x nx y ny k) (nx + ny - 1) → FO H' → FW H' → Q none H') : Go 48 0 [some (.ref 28), some (.ref rx), some (.ref ry), none] [] H Q := by
  have b1 := Rx.2.2.2.1
  have b2 := Ry.2.2.2.1
  obtain ⟨⟨a, h1⟩, ⟨b, h2⟩, ⟨c, h3⟩, ⟨d, h4⟩, ⟨e, h5⟩, ⟨g, h6⟩⟩ := hW
  simp (disch := omega) only [gX4_byThreePrimes_0, gX4_byThreePrimes_1, fl_4_4, gX4_byThreePrimes_4, gX4_byThreePrimes_5, gX4_byThreePrimes_6, Rd_some, Wr_some, Cont_some, Cont_none, iso_O, true_and, hg_s, hg_n, hput_hput, hps.1, hF.2.1]
  refine sp_run hF.2.1 hF.1.1 (by decide) rtOk_0 (by decide) (by decide) h1 h2 Rx Ry (fun g0 z0 hg0 => ?_)
  have F1 := hF.hh (rr := 33) (oo := 34) (a := g0) (b := z0) (by omega)
  have P1 := hps.hh (rr := 33) (oo := 34) (a := g0) (b := z0) (by omega)
  have m1 : Fm 28 40 H (HH H 33 34 g0 z0) := Fm.rf.hh (by omega)
  have e33 : hget (HH H 33 34 g0 z0) 33 = cL 128 g0 := HH_r (by decide)
  have e34 : hget (HH H 33 34 g0 z0) 34 = cL 128 z0 := HH_o
  have e36 : hget (HH H 33 34 g0 z0) 36 = cL 128 c := by rw [HH_q (by omega)]; exact h3
  have e37 : hget (HH H 33 34 g0 z0) 37 = cL 128 d := by rw [HH_q (by omega)]; exact h4
  have e39 : hget (HH H 33 34 g0 z0) 39 = cL 128 e := by rw [HH_q (by omega)]; exact h5
  have e40 : hget (HH H 33 34 g0 z0) 40 = cL 128 g := by rw [HH_q (by omega)]; exact h6
  have Rx1 := Rx.hh (rr := 33) (oo := 34) (a := g0) (b := z0) (by omega) (by omega)
  have Ry1 := Ry.hh (rr := 33) (oo := 34) (a := g0) (b := z0) (by omega) (by omega)
  generalize HH H 33 34 g0 z0 = H1 at *
  simp (disch := omega) only [gX4_byThreePrimes_9, gX4_byThreePrimes_10, fl_4_5, gX4_byThreePrimes_13, gX4_byThreePrimes_14, gX4_byThreePrimes_15, Rd_some, Wr_some, Cont_some, Cont_none, iso_O, true_and, hg_s, hg_n, hput_hput, P1.1, F1.2.2.1]
  refine sp_run F1.2.2.1 F1.1.2.1 (by decide) rtOk_1 (by decide) (by decide) e36 e37 Rx1 Ry1 (fun g1 z1 hg1 => ?_)
  have F2 := F1.hh (rr := 36) (oo := 37) (a := g1) (b := z1) (by omega)
  have P2 := P1.hh (rr := 36) (oo := 37) (a := g1) (b := z1) (by omega)
  have m2 : Fm 28 40 H (HH H1 36 37 g1 z1) := m1.hh (by omega)
  have f33 : hget (HH H1 36 37 g1 z1) 33 = cL 128 g0 := by rw [HH_q (by omega)]; exact e33
  have f34 : hget (HH H1 36 37 g1 z1) 34 = cL 128 z0 := by rw [HH_q (by omega)]; exact e34
  have f36 : hget (HH H1 36 37 g1 z1) 36 = cL 128 g1 := HH_r (by decide)
  have f37 : hget (HH H1 36 37 g1 z1) 37 = cL 128 z1 := HH_o
  have f39 : hget (HH H1 36 37 g1 z1) 39 = cL 128 e := by rw [HH_q (by omega)]; exact e39
  have f40 : hget (HH H1 36 37 g1 z1) 40 = cL 128 g := by rw [HH_q (by omega)]; exact e40
  have Rx2 := Rx1.hh (rr := 36) (oo := 37) (a := g1) (b := z1) (by omega) (by omega)
  have Ry2 := Ry1.hh (rr := 36) (oo := 37) (a := g1) (b := z1) (by omega) (by omega)
  generalize HH H1 36 37 g1 z1 = H2 at *
  simp (disch := omega) only [gX4_byThreePrimes_18, gX4_byThreePrimes_19, fl_4_6, gX4_byThreePrimes_22, gX4_byThreePrimes_23, gX4_byThreePrimes_24, Rd_some, Wr_some, Cont_some, Cont_none, iso_O, true_and, hg_s, hg_n, hput_hput, P2.1, F2.2.2.2]
  refine sp_run F2.2.2.2 F2.1.2.2 (by decide) rtOk_2 (by decide) (by decide) f39 f40 Rx2 Ry2 (fun g2 z2 hg2 => ?_)
  have F3 := F2.hh (rr := 39) (oo := 40) (a := g2) (b := z2) (by omega)
  have P3 := P2.hh (rr := 39) (oo := 40) (a := g2) (b := z2) (by omega)
  have m3 : Fm 28 40 H (HH H2 39 40 g2 z2) := m2.hh (by omega)
  have k33 : hget (HH H2 39 40 g2 z2) 33 = cL 128 g0 := by rw [HH_q (by omega)]; exact f33
  have k34 : hget (HH H2 39 40 g2 z2) 34 = cL 128 z0 := by rw [HH_q (by omega)]; exact f34
  have k36 : hget (HH H2 39 40 g2 z2) 36 = cL 128 g1 := by rw [HH_q (by omega)]; exact f36
  have k37 : hget (HH H2 39 40 g2 z2) 37 = cL 128 z1 := by rw [HH_q (by omega)]; exact f37
  have k39 : hget (HH H2 39 40 g2 z2) 39 = cL 128 g2 := HH_r (by decide)
  have k40 : hget (HH H2 39 40 g2 z2) 40 = cL 128 z2 := HH_o
  have Rx3 := Rx2.hh (rr := 39) (oo := 40) (a := g2) (b := z2) (by omega) (by omega)
  have Ry3 := Ry2.hh (rr := 39) (oo := 40) (a := g2) (b := z2) (by omega) (by omega)
  have W3 : FW (HH H2 39 40 g2 z2) := ⟨⟨_, k33⟩, ⟨_, k34⟩, ⟨_, k36⟩, ⟨_, k37⟩, ⟨_, k39⟩, ⟨_, k40⟩⟩
  generalize HH H2 39 40 g2 z2 = H3 at *
  simp (disch := omega) only [gX4_byThreePrimes_27, gX4_byThreePrimes_28, gX4_byThreePrimes_29, gX4_byThreePrimes_32, gX4_byThreePrimes_33, gX4_byThreePrimes_36, gX4_byThreePrimes_37, gX4_byThreePrimes_38, gX4_byThreePrimes_39, pf_4_2, gX4_byThreePrimes_42, gX4_byThreePrimes_43, Rd_some, Wr_some, Cont_some, Cont_none, iso_O, true_and, hg_s, hg_n, hput_hput, P3.1, Rx3.1, Ry3.1, sp_size Rx3.1 Rx3.2.1 Rx3.sz, sp_size Ry3.1 Ry3.2.1 Ry3.sz]
  have m4 : Fm 28 31 H3 (hput H3 28 (cPr (nx + ny - 1) 669690699 354521948)) := Fm.rf.put (by omega)
  refine lp_three (N := nx + ny - 1) (V := fun k => cv x nx y ny k) (g0 := g0) (g1 := g1) (g2 := g2) (by omega) (fun k k0 k1 => ⟨cv_r sx sy (by omega) k, hg0 k k0 k1, hg1 k k0 k1, hg2 k k0 k1⟩) (F3.fm m4) (by rw [hg_n (by omega)]; exact k33) (by rw [hg_n (by omega)]; exact k36) (by rw [hg_n (by omega)]; exact k39) (fun H' mf hp' => ?_) (nx + ny - 1).toNat 0 _ (by omega) (by omega) Fm.rf P3.cnt
  exact hq H' (m3.tr ((m4.tr mf).wd (by omega))) hp' (F3.fm (m4.tr mf)) (W3.fm (m4.tr mf))
theorem lp_one {rx ry : Nat} {N : Int} {V g0 : Int → Int} (hN : 0 ≤ N ∧ N ≤ 127) (hV : ∀ k, 0 ≤ k → k < N → (-998244353 < 2 * V k ∧ 2 * V k < 998244353) ∧ g0 k = V k % 998244353) {H0 : HP} (hF : FO H0) (r0 : hget H0 33 = cL 128 g0) (hq : ∀ H', Fm 28 31 H0 H' → PS H' N i0 i1 V N → Q none H') : ∀ (d : Nat) (k : Int) (H : HP) (l4 l5 : Option Value), k + d = N → 0 ≤ k → Fm 28 31 H0 H → PS H N i0 i1 V k → Go 47 26 [some (.ref 28), some (.ref rx), some (.ref ry), some (vi k), l4, l5] [] H Q := by
  intro d
  induction d with
  | zero =>
    intro k H l4 l5 hk h0 hf hps
    rw [show k = N by omega] at hps ⊢
    rw [gX4_byOnePrime_26]
    simp (disch := omega) only [gX4_byOnePrime_27, gX4_byOnePrime_28, fl_4_2, gX4_byOnePrime_31T, gX4_byOnePrime_31F, gX4_byOnePrime_90, Rd_some, Wr_some, Cont_some, Cont_none, iso_O, true_and, hg_s, hg_n, hput_hput, hps.1]
    exact hq H hf hps
  | succ d ih =>
    intro k H l4 l5 hk h0 hf hps
    obtain ⟨v0, v1⟩ := hV k h0 (by omega)
    obtain ⟨u, w, hs⟩ := hps.2.2
    have hF' := hF.fm hf
    have q0 : hget H 33 = cL 128 g0 := by rw [hf.2.2 33 (by omega)]; exact r0
    have m := em (P := 998244353) (by decide) (V k)
    have c5 := cen (P := 998244353) (by decide) v1 v0
    rw [← v1] at m
    have p1' : ∀ c, hget (hput H 31 c) 28 = cPr N i0 i1 := fun c => by rw [hg_n (by omega)]; exact hps.1
    have fin : Go 47 79 [some (.ref 28), some (.ref rx), some (.ref ry), some (vi k), some (vl (g0 k)), none] [] (hput H 31 (cW (V k))) Q := by
      have hps' := hps.sum (v := V k)
      simp (disch := omega) only [gX4_byOnePrime_79, gX4_byOnePrime_80, gX4_byOnePrime_81, Rd_some, Wr_some, Cont_some, Cont_none, iso_O, true_and, hg_s, hg_n, hput_hput, hps'.1]
      refine hps'.keep' hg_s (by omega) rfl (fun H2 hf2 hps2 => ?_)
      simp (disch := omega) only [gX4_byOnePrime_84, gX4_byOnePrime_87, Rd_some, Wr_some, Cont_some, Cont_none, iso_O, true_and, hg_s, hg_n, hput_hput]
      exact ih (k + 1) H2 _ _ (by omega) (by omega) ((hf.tr (Fm.rf.put (by omega))).tr hf2) hps2
    rw [gX4_byOnePrime_26]
    by_cases hg : 998244353 / 2 < g0 k
    · rw [if_pos hg] at c5
      simp (disch := omega) only [gX4_byOnePrime_27, gX4_byOnePrime_28, fl_4_2, gX4_byOnePrime_31T, gX4_byOnePrime_31F, gX4_byOnePrime_34, gX4_byOnePrime_35, fl_4_4, gX4_byOnePrime_38, fl_1_1, gX4_byOnePrime_41, gX4_byOnePrime_42, aL_g, gX4_byOnePrime_43, gX4_byOnePrime_45, gX4_byOnePrime_46, fl_4_3, gX4_byOnePrime_49, gX4_byOnePrime_52, gX4_byOnePrime_53, gX4_byOnePrime_56, gX4_byOnePrime_58, gX4_byOnePrime_61T, gX4_byOnePrime_61F, gX4_byOnePrime_62T, gX4_byOnePrime_62F, gX4_byOnePrime_65, gX4_byOnePrime_67, gX4_byOnePrime_70, gX4_byOnePrime_71, gX4_byOnePrime_74, gX4_byOnePrime_76, Rd_some, Wr_some, Cont_some, Cont_none, iso_O, true_and, hg_s, hg_n, hput_hput, hps.1, hF'.2.1, q0, hs, p1', sp_clear hs (by decide), sp_addW (s := 31) hg_s (by decide), c5]
      rw [Int.zero_add]
      exact fin
    · rw [if_neg hg] at c5
      simp (disch := omega) only [gX4_byOnePrime_27, gX4_byOnePrime_28, fl_4_2, gX4_byOnePrime_31T, gX4_byOnePrime_31F, gX4_byOnePrime_34, gX4_byOnePrime_35, fl_4_4, gX4_byOnePrime_38, fl_1_1, gX4_byOnePrime_41, gX4_byOnePrime_42, aL_g, gX4_byOnePrime_43, gX4_byOnePrime_45, gX4_byOnePrime_46, fl_4_3, gX4_byOnePrime_49, gX4_byOnePrime_52, gX4_byOnePrime_53, gX4_byOnePrime_56, gX4_byOnePrime_58, gX4_byOnePrime_61T, gX4_byOnePrime_61F, gX4_byOnePrime_62T, gX4_byOnePrime_62F, gX4_byOnePrime_65, gX4_byOnePrime_67, gX4_byOnePrime_70, gX4_byOnePrime_71, gX4_byOnePrime_74, gX4_byOnePrime_76, Rd_some, Wr_some, Cont_some, Cont_none, iso_O, true_and, hg_s, hg_n, hput_hput, hps.1, hF'.2.1, q0, hs, p1', sp_clear hs (by decide), sp_addW (s := 31) hg_s (by decide)]
      rw [Int.zero_add]
      rw [c5] at fin ⊢
      exact fin
theorem sp_one {rx cx ry cy : Nat} {lx nx ly ny : Int} {x y : Int → Int} (Rx : RW H rx cx lx nx x) (Ry : RW H ry cy ly ny y) (hsz : 2 * min nx ny * (gs x nx.toNat 0 * gs y ny.toNat 0) < 998244353) (hg0 : 0 ≤ gs x nx.toNat 0 * gs y ny.toNat 0) {n k : Int} {V : Int → Int} (hps : PS H n i0 i1 V k) (hF : FO H) (hW : FW H) (hq : ∀ (H' : HP), Fm 28 40 H H' → PS H' (nx + ny - 1) i0 i1 (fun k => cv x nx y ny k) (nx + ny - 1) → FO H' → FW H' → Q none H') : Go 47 0 [some (.ref 28), some (.ref rx), some (.ref ry), none, none, none] [] H Q := by
  have b1 := Rx.2.2.2.1
  have b2 := Ry.2.2.2.1
  obtain ⟨⟨a, h1⟩, ⟨b, h2⟩, ⟨c, h3⟩, ⟨d, h4⟩, ⟨e, h5⟩, ⟨g, h6⟩⟩ := hW
  simp (disch := omega) only [gX4_byOnePrime_0, gX4_byOnePrime_1, fl_4_4, gX4_byOnePrime_4, gX4_byOnePrime_5, gX4_byOnePrime_6, Rd_some, Wr_some, Cont_some, Cont_none, iso_O, true_and, hg_s, hg_n, hput_hput, hps.1, hF.2.1]
  refine sp_run hF.2.1 hF.1.1 (by decide) rtOk_0 (by decide) (by decide) h1 h2 Rx Ry (fun g0 z0 hg0 => ?_)
  have F1 := hF.hh (rr := 33) (oo := 34) (a := g0) (b := z0) (by omega)
  have P1 := hps.hh (rr := 33) (oo := 34) (a := g0) (b := z0) (by omega)
  have m1 : Fm 28 40 H (HH H 33 34 g0 z0) := Fm.rf.hh (by omega)
  have e33 : hget (HH H 33 34 g0 z0) 33 = cL 128 g0 := HH_r (by decide)
  have e34 : hget (HH H 33 34 g0 z0) 34 = cL 128 z0 := HH_o
  have e36 : hget (HH H 33 34 g0 z0) 36 = cL 128 c := by rw [HH_q (by omega)]; exact h3
  have e37 : hget (HH H 33 34 g0 z0) 37 = cL 128 d := by rw [HH_q (by omega)]; exact h4
  have e39 : hget (HH H 33 34 g0 z0) 39 = cL 128 e := by rw [HH_q (by omega)]; exact h5
  have e40 : hget (HH H 33 34 g0 z0) 40 = cL 128 g := by rw [HH_q (by omega)]; exact h6
  have Rx1 := Rx.hh (rr := 33) (oo := 34) (a := g0) (b := z0) (by omega) (by omega)
  have Ry1 := Ry.hh (rr := 33) (oo := 34) (a := g0) (b := z0) (by omega) (by omega)
  have W3 : FW (HH H 33 34 g0 z0) := ⟨⟨_, e33⟩, ⟨_, e34⟩, ⟨_, e36⟩, ⟨_, e37⟩, ⟨_, e39⟩, ⟨_, e40⟩⟩
  generalize HH H 33 34 g0 z0 = H3 at *
  simp (disch := omega) only [gX4_byOnePrime_9, gX4_byOnePrime_10, gX4_byOnePrime_11, gX4_byOnePrime_14, gX4_byOnePrime_15, gX4_byOnePrime_18, gX4_byOnePrime_19, gX4_byOnePrime_20, gX4_byOnePrime_21, pf_4_2, gX4_byOnePrime_24, gX4_byOnePrime_25, Rd_some, Wr_some, Cont_some, Cont_none, iso_O, true_and, hg_s, hg_n, hput_hput, P1.1, Rx1.1, Ry1.1, sp_size Rx1.1 Rx1.2.1 Rx1.sz, sp_size Ry1.1 Ry1.2.1 Ry1.sz]
  have m4 : Fm 28 31 H3 (hput H3 28 (cPr (nx + ny - 1) i0 i1)) := Fm.rf.put (by omega)
  refine lp_one (N := nx + ny - 1) (V := fun k => cv x nx y ny k) (g0 := g0) (by omega) (fun k k0 k1 => ⟨?_, hg0 k k0 k1⟩) (F1.fm m4) (by rw [hg_n (by omega)]; exact e33) (fun H' mf hp' => ?_) (nx + ny - 1).toNat 0 _ _ _ (by omega) (by omega) Fm.rf P1.cnt
  · have := cv_s (x := x) (y := y) (nx := nx) (ny := ny) (by omega) (by omega) (by assumption) (fun i j i0 i1 j0 j1 => gs_mul i0 i1 j0 j1) k
    rw [Int.mul_assoc] at hsz
    omega
  · exact hq H' (m1.tr ((m4.tr mf).wd (by omega))) hp' (F1.fm (m4.tr mf)) (W3.fm (m4.tr mf))
end THREE

/-! m: the loops of the exact products -/
section MLP
variable {H : HP} {S : SS} {T : TT} {Q : Option Value → HP → Prop} {p i a b w n v : Int} {d e : RD}
theorem PM.cg {N : Int} {V V' : Int → Int} (h : PM H N V) (hv : ∀ j, 0 ≤ j → j < N → V' j = V j) : PM H N V' := by
  obtain ⟨U, W, h1, h2, h3⟩ := h
  exact ⟨U, W, h1, h2, fun j j0 j1 => by rw [hv j j0 j1]; exact h3 j j0 j1⟩
theorem lp_mul2 {H0 : HP} {l4 l5 l6 : Option Value} {N i : Int} (hA : ∀ H', Fm 47 48 H0 H' → VR H' S a d) (hB : ∀ H', Fm 47 48 H0 H' → VR H' S b e) (sd : sml d.2.2 d.2.1) (se : sml e.2.2 e.2.1) (hN : N = d.2.1 + e.2.1 - 1) (hi : 0 ≤ i ∧ i < d.2.1) (hq : ∀ H', Fm 47 48 H0 H' → PM H' N (fun m => sm (tm d.2.2 e.2.2 e.2.1 m) (i + 1).toNat) → Go 152 195 [some (.ref 41), some (vi a), some (vi b), some (vi w), l4, l5, l6, some (vi i), some (vi e.2.1)] [] H' Q) : ∀ (f : Nat) (j : Int) (H : HP), j + f = e.2.1 → 0 ≤ j → Fm 47 48 H0 H → PM H N (fun m => sm (tm d.2.2 e.2.2 e.2.1 m) i.toNat + tm d.2.2 e.2.2 j m i) → Go 152 155 [some (.ref 41), some (vi a), some (vi b), some (vi w), l4, l5, l6, some (vi i), some (vi j)] [] H Q := by
  intro f
  induction f with
  | zero =>
    intro j H hj h0 hf hp
    have vB := hB H hf
    have nB := vB.2.1
    rw [show j = e.2.1 by omega] at hp ⊢
    rw [gX9_multiply_155]
    simp (disch := omega) only [gX9_multiply_157, gX9_multiply_158, gX9_multiply_159, gX9_multiply_162T, gX9_multiply_162F, Rd_some, Wr_some, Cont_some, Cont_none, iso_O, true_and, hg_s, hg_n, hput_hput, vB.1, vr_cnt vB]
    refine hq H hf (hp.cg (fun m _ _ => ?_))
    rw [show (i + 1).toNat = i.toNat + 1 by omega, sm, show ((i.toNat : Nat) : Int) = i by omega]
  | succ f ih =>
    intro j H hj h0 hf hp
    have vA := hA H hf
    have vB := hB H hf
    have nA := vA.2.1
    have nB := vB.2.1
    have m1 := sd i (by omega) (by omega)
    have m2 := se j (by omega) (by omega)
    have m3 := ml m1 m2
    rw [gX9_multiply_155]
    simp (disch := omega) only [gX9_multiply_157, gX9_multiply_158, gX9_multiply_159, gX9_multiply_162T, gX9_multiply_162F, gX9_multiply_165, gX9_multiply_166, gX9_multiply_168, gX9_multiply_170, gX9_multiply_171, gX9_multiply_172, gX9_multiply_173, gX9_multiply_175, gX9_multiply_178, gX9_multiply_179, gX9_multiply_180, gX9_multiply_182, gX9_multiply_185, gX9_multiply_186, Rd_some, Wr_some, Cont_some, Cont_none, iso_O, true_and, hg_s, hg_n, hput_hput, vA.1, vr_cnt vB, vr_ent vA, vr_ent vB]
    refine sp_add vA.1 hp (by omega) (fun H' f' p' => ?_)
    simp (disch := omega) only [gX9_multiply_189, gX9_multiply_192, Rd_some, Wr_some, Cont_some, Cont_none, iso_O, true_and, hg_s, hg_n, hput_hput]
    refine ih (j + 1) H' (by omega) (by omega) (hf.tr f') (p'.cg (fun m _ _ => ?_))
    unfold up tm
    dsimp only
    by_cases hm : m = i + j
    · rw [if_pos hm, hm, if_pos (by omega), if_neg (show ¬ (0 ≤ i + j - i ∧ i + j - i < j) by omega), show i + j - i = j by omega]
      omega
    · rw [if_neg hm]
      by_cases hq2 : 0 ≤ m - i ∧ m - i < j
      · rw [if_pos hq2, if_pos (by omega)]
      · rw [if_neg hq2, if_neg (by omega)]
theorem lp_mul1 {H0 : HP} {l4 l5 l6 : Option Value} {N : Int} (hA : ∀ H', Fm 47 48 H0 H' → VR H' S a d) (hB : ∀ H', Fm 47 48 H0 H' → VR H' S b e) (sd : sml d.2.2 d.2.1) (se : sml e.2.2 e.2.1) (hN : N = d.2.1 + e.2.1 - 1) (hq : ∀ H' l7 l8, Fm 47 48 H0 H' → PM H' N (fun m => cv d.2.2 d.2.1 e.2.2 e.2.1 m) → Go 152 201 [some (.ref 41), some (vi a), some (vi b), some (vi w), l4, l5, l6, l7, l8] [] H' Q) : ∀ (f : Nat) (i : Int) (H : HP) (l8 : Option Value), i + f = d.2.1 → 0 ≤ i → Fm 47 48 H0 H → PM H N (fun m => sm (tm d.2.2 e.2.2 e.2.1 m) i.toNat) → Go 152 142 [some (.ref 41), some (vi a), some (vi b), some (vi w), l4, l5, l6, some (vi i), l8] [] H Q := by
  intro f
  induction f with
  | zero =>
    intro i H l8 hi h0 hf hp
    have vA := hA H hf
    have nA := vA.2.1
    rw [show i = d.2.1 by omega] at hp ⊢
    rw [gX9_multiply_142]
    simp (disch := omega) only [gX9_multiply_144, gX9_multiply_145, gX9_multiply_146, gX9_multiply_149T, gX9_multiply_149F, Rd_some, Wr_some, Cont_some, Cont_none, iso_O, true_and, hg_s, hg_n, hput_hput, vA.1, vr_cnt vA]
    exact hq H _ _ hf hp
  | succ f ih =>
    intro i H l8 hi h0 hf hp
    have vA := hA H hf
    have vB := hB H hf
    have nA := vA.2.1
    have nB := vB.2.1
    rw [gX9_multiply_142]
    simp (disch := omega) only [gX9_multiply_144, gX9_multiply_145, gX9_multiply_146, gX9_multiply_149T, gX9_multiply_149F, gX9_multiply_152, gX9_multiply_153, Rd_some, Wr_some, Cont_some, Cont_none, iso_O, true_and, hg_s, hg_n, hput_hput, vA.1, vr_cnt vA]
    refine lp_mul2 hA hB sd se hN (by omega) (fun H' f' p' => ?_) e.2.1.toNat 0 H (by omega) (by omega) hf (hp.cg (fun m _ _ => ?_))
    · simp (disch := omega) only [gX9_multiply_195, gX9_multiply_198, Rd_some, Wr_some, Cont_some, Cont_none, iso_O, true_and, hg_s, hg_n, hput_hput]
      exact ih (i + 1) H' _ (by omega) (by omega) f' p'
    · show _ + tm d.2.2 e.2.2 0 m i = _
      rw [show tm d.2.2 e.2.2 0 m i = 0 from if_neg (by omega), Int.add_zero]
theorem lp_cir2 {H0 : HP} {l4 : Option Value} {N i : Int} (hA : ∀ H', Fm 47 48 H0 H' → VR H' S a d) (hB : ∀ H', Fm 47 48 H0 H' → VR H' S b e) (sd : sml d.2.2 d.2.1) (se : sml e.2.2 e.2.1) (hN : 1 ≤ N ∧ N ≤ 64) (hi : 0 ≤ i ∧ i < d.2.1) (hq : ∀ H', Fm 47 48 H0 H' → PM H' N (fun m => sm (ci2 d.2.2 e.2.2 e.2.1 N m) (i + 1).toNat) → Go 153 113 [some (.ref 41), some (vi a), some (vi b), some (vi N), l4, some (vi i), some (vi e.2.1)] [] H' Q) : ∀ (f : Nat) (j : Int) (H : HP), j + f = e.2.1 → 0 ≤ j → Fm 47 48 H0 H → PM H N (fun m => sm (ci2 d.2.2 e.2.2 e.2.1 N m) i.toNat + sm (tr d.2.2 e.2.2 N m i) j.toNat) → Go 153 71 [some (.ref 41), some (vi a), some (vi b), some (vi N), l4, some (vi i), some (vi j)] [] H Q := by
  intro f
  induction f with
  | zero =>
    intro j H hj h0 hf hp
    have vB := hB H hf
    have nB := vB.2.1
    rw [show j = e.2.1 by omega] at hp ⊢
    rw [gX9_circular_71]
    simp (disch := omega) only [gX9_circular_73, gX9_circular_74, gX9_circular_75, gX9_circular_78T, gX9_circular_78F, Rd_some, Wr_some, Cont_some, Cont_none, iso_O, true_and, hg_s, hg_n, hput_hput, vB.1, vr_cnt vB]
    refine hq H hf (hp.cg (fun m _ _ => ?_))
    rw [show (i + 1).toNat = i.toNat + 1 by omega, sm, show ((i.toNat : Nat) : Int) = i by omega]
    rfl
  | succ f ih =>
    intro j H hj h0 hf hp
    have vA := hA H hf
    have vB := hB H hf
    have nA := vA.2.1
    have nB := vB.2.1
    have m1 := sd i (by omega) (by omega)
    have m2 := se j (by omega) (by omega)
    have m3 := ml m1 m2
    have m4 := em (show 0 < N by omega) (i + j)
    have e1 : (i + j).tmod N = (i + j) % N := Int.tmod_eq_emod_of_nonneg (by omega)
    rw [gX9_circular_71]
    simp (disch := omega) only [gX9_circular_73, gX9_circular_74, gX9_circular_75, gX9_circular_78T, gX9_circular_78F, gX9_circular_81, gX9_circular_82, gX9_circular_84, gX9_circular_86, gX9_circular_87, gX9_circular_88, gX9_circular_89, gX9_circular_90, gX9_circular_91, gX9_circular_93, gX9_circular_96, gX9_circular_97, gX9_circular_98, gX9_circular_100, gX9_circular_103, gX9_circular_104, Rd_some, Wr_some, Cont_some, Cont_none, iso_O, true_and, hg_s, hg_n, hput_hput, vA.1, vr_cnt vB, vr_ent vA, vr_ent vB, e1]
    refine sp_add vA.1 hp (by omega) (fun H' f' p' => ?_)
    simp (disch := omega) only [gX9_circular_107, gX9_circular_110, Rd_some, Wr_some, Cont_some, Cont_none, iso_O, true_and, hg_s, hg_n, hput_hput]
    refine ih (j + 1) H' (by omega) (by omega) (hf.tr f') (p'.cg (fun m _ _ => ?_))
    rw [show (j + 1).toNat = j.toNat + 1 by omega, sm, show ((j.toNat : Nat) : Int) = j by omega]
    unfold up
    dsimp only
    by_cases hm : m = (i + j) % N
    · rw [if_pos hm, ← hm, show tr d.2.2 e.2.2 N m i j = d.2.2 i * e.2.2 j from if_pos hm.symm]
      omega
    · rw [if_neg hm, show tr d.2.2 e.2.2 N m i j = 0 from if_neg (fun q => hm q.symm)]
      omega
theorem lp_cir1 {H0 : HP} {l4 : Option Value} {N : Int} (hA : ∀ H', Fm 47 48 H0 H' → VR H' S a d) (hB : ∀ H', Fm 47 48 H0 H' → VR H' S b e) (sd : sml d.2.2 d.2.1) (se : sml e.2.2 e.2.1) (hN : 1 ≤ N ∧ N ≤ 64) (hq : ∀ H', Fm 47 48 H0 H' → PM H' N (fun m => ci d.2.2 d.2.1 e.2.2 e.2.1 N m) → Q (some (vi N)) H') : ∀ (f : Nat) (i : Int) (H : HP) (l8 : Option Value), i + f = d.2.1 → 0 ≤ i → Fm 47 48 H0 H → PM H N (fun m => sm (ci2 d.2.2 e.2.2 e.2.1 N m) i.toNat) → Go 153 58 [some (.ref 41), some (vi a), some (vi b), some (vi N), l4, some (vi i), l8] [] H Q := by
  intro f
  induction f with
  | zero =>
    intro i H l8 hi h0 hf hp
    have vA := hA H hf
    have nA := vA.2.1
    rw [show i = d.2.1 by omega] at hp ⊢
    rw [gX9_circular_58]
    simp (disch := omega) only [gX9_circular_60, gX9_circular_61, gX9_circular_62, gX9_circular_65T, gX9_circular_65F, gX9_circular_119, gX9_circular_120, Rd_some, Wr_some, Cont_some, Cont_none, iso_O, true_and, hg_s, hg_n, hput_hput, vA.1, vr_cnt vA]
    exact hq H hf hp
  | succ f ih =>
    intro i H l8 hi h0 hf hp
    have vA := hA H hf
    have vB := hB H hf
    have nA := vA.2.1
    have nB := vB.2.1
    rw [gX9_circular_58]
    simp (disch := omega) only [gX9_circular_60, gX9_circular_61, gX9_circular_62, gX9_circular_65T, gX9_circular_65F, gX9_circular_68, gX9_circular_69, Rd_some, Wr_some, Cont_some, Cont_none, iso_O, true_and, hg_s, hg_n, hput_hput, vA.1, vr_cnt vA]
    refine lp_cir2 hA hB sd se hN (by omega) (fun H' f' p' => ?_) e.2.1.toNat 0 H (by omega) (by omega) hf (hp.cg (fun m _ _ => ?_))
    · simp (disch := omega) only [gX9_circular_113, gX9_circular_116, Rd_some, Wr_some, Cont_some, Cont_none, iso_O, true_and, hg_s, hg_n, hput_hput]
      exact ih (i + 1) H' _ (by omega) (by omega) f' p'
    · show _ + sm (tr d.2.2 e.2.2 N m i) 0 = _
      rw [sm, Int.add_zero]
theorem lp_cor2 {H0 : HP} {l3 : Option Value} {N i : Int} (hA : ∀ H', Fm 47 48 H0 H' → VR H' S a d) (hB : ∀ H', Fm 47 48 H0 H' → VR H' S b e) (sd : sml d.2.2 d.2.1) (se : sml e.2.2 e.2.1) (hN : N = d.2.1 + e.2.1 - 1) (hi : 0 ≤ i ∧ i < N) (hq : ∀ H' l7, Fm 47 48 H0 H' → PM H' N (fun m => if m < i + 1 then co d.2.2 d.2.1 e.2.2 e.2.1 m else 0) → Go 154 131 [some (.ref 41), some (vi a), some (vi b), l3, some (vi e.2.1), some (vi i), some (vi e.2.1), l7] [] H' Q) : ∀ (f : Nat) (j : Int) (H : HP) (l7 : Option Value), j + f = e.2.1 → 0 ≤ j → Fm 47 48 H0 H → PM H N (fun m => if m < i then co d.2.2 d.2.1 e.2.2 e.2.1 m else if m = i then sm (tc d.2.2 d.2.1 e.2.2 (i - (e.2.1 - 1))) j.toNat else 0) → Go 154 70 [some (.ref 41), some (vi a), some (vi b), l3, some (vi e.2.1), some (vi i), some (vi j), l7] [] H Q := by
  intro f
  induction f with
  | zero =>
    intro j H l7 hj h0 hf hp
    have vB := hB H hf
    have vA := hA H hf
    have nA := vA.2.1
    have nB := vB.2.1
    rw [show j = e.2.1 by omega] at hp ⊢
    rw [gX9_correlate_70]
    simp (disch := omega) only [gX9_correlate_72, gX9_correlate_74T, gX9_correlate_74F, Rd_some, Wr_some, Cont_some, Cont_none, iso_O, true_and, hg_s, hg_n, hput_hput]
    refine hq H _ hf (hp.cg (fun m _ _ => ?_))
    by_cases c1 : m < i
    · rw [if_pos c1, if_pos (by omega)]
    · rw [if_neg c1]
      by_cases c2 : m = i
      · rw [if_pos c2, if_pos (by omega), c2]; rfl
      · rw [if_neg c2, if_neg (by omega)]
  | succ f ih =>
    intro j H l7 hj h0 hf hp
    have vA := hA H hf
    have vB := hB H hf
    have nA := vA.2.1
    have nB := vB.2.1
    rw [gX9_correlate_70]
    by_cases hin : 0 ≤ j + i - (e.2.1 - 1) ∧ j + i - (e.2.1 - 1) < d.2.1
    · have m1 := sd (j + i - (e.2.1 - 1)) (by omega) (by omega)
      have m2 := se j (by omega) (by omega)
      have m3 := ml m1 m2
      simp (disch := omega) only [gX9_correlate_72, gX9_correlate_74T, gX9_correlate_74F, gX9_correlate_77, gX9_correlate_79, gX9_correlate_81, gX9_correlate_82, gX9_correlate_84, gX9_correlate_85, gX9_correlate_86, gX9_correlate_87, gX9_correlate_89, gX9_correlate_91T, gX9_correlate_91F, gX9_correlate_94, gX9_correlate_96, gX9_correlate_97, gX9_correlate_98, gX9_correlate_101T, gX9_correlate_101F, gX9_correlate_104, gX9_correlate_105, gX9_correlate_107, gX9_correlate_108, gX9_correlate_109, gX9_correlate_111, gX9_correlate_114, gX9_correlate_115, gX9_correlate_116, gX9_correlate_118, gX9_correlate_121, gX9_correlate_122, Rd_some, Wr_some, Cont_some, Cont_none, iso_O, true_and, hg_s, hg_n, hput_hput, vA.1, vr_cnt vA, vr_ent vA, vr_ent vB]
      refine sp_add vA.1 hp (by omega) (fun H' f' p' => ?_)
      simp (disch := omega) only [gX9_correlate_125, gX9_correlate_128, Rd_some, Wr_some, Cont_some, Cont_none, iso_O, true_and, hg_s, hg_n, hput_hput]
      refine ih (j + 1) H' _ (by omega) (by omega) (hf.tr f') (p'.cg (fun m _ _ => ?_))
      rw [show (j + 1).toNat = j.toNat + 1 by omega, sm, show ((j.toNat : Nat) : Int) = j by omega]
      rw [show tc d.2.2 d.2.1 e.2.2 (i - (e.2.1 - 1)) j = d.2.2 (j + i - (e.2.1 - 1)) * e.2.2 j by
        unfold tc
        rw [if_pos (by omega), show j + (i - (e.2.1 - 1)) = j + i - (e.2.1 - 1) by omega]]
      unfold up
      dsimp only
      by_cases c2 : m = i
      · simp only [c2, Int.lt_irrefl, if_true, if_false]
      · by_cases c1 : m < i <;> simp only [c1, c2, if_true, if_false]
    · have ez : tc d.2.2 d.2.1 e.2.2 (i - (e.2.1 - 1)) j = 0 := if_neg (by omega)
      have fin : ∀ l7, Go 154 125 [some (.ref 41), some (vi a), some (vi b), l3, some (vi e.2.1), some (vi i), some (vi j), l7] [] H Q := by
        intro l7
        simp (disch := omega) only [gX9_correlate_125, gX9_correlate_128, Rd_some, Wr_some, Cont_some, Cont_none, iso_O, true_and, hg_s, hg_n, hput_hput]
        refine ih (j + 1) H _ (by omega) (by omega) hf (hp.cg (fun m _ _ => ?_))
        rw [show (j + 1).toNat = j.toNat + 1 by omega, sm, show ((j.toNat : Nat) : Int) = j by omega, ez, Int.add_zero]
      by_cases hlo : 0 ≤ j + i - (e.2.1 - 1)
      · simp (disch := omega) only [gX9_correlate_72, gX9_correlate_74T, gX9_correlate_74F, gX9_correlate_77, gX9_correlate_79, gX9_correlate_81, gX9_correlate_82, gX9_correlate_84, gX9_correlate_85, gX9_correlate_86, gX9_correlate_87, gX9_correlate_89, gX9_correlate_91T, gX9_correlate_91F, gX9_correlate_94, gX9_correlate_96, gX9_correlate_97, gX9_correlate_98, gX9_correlate_101T, gX9_correlate_101F, Rd_some, Wr_some, Cont_some, Cont_none, iso_O, true_and, hg_s, hg_n, hput_hput, vA.1, vr_cnt vA]
        exact fin _
      · simp (disch := omega) only [gX9_correlate_72, gX9_correlate_74T, gX9_correlate_74F, gX9_correlate_77, gX9_correlate_79, gX9_correlate_81, gX9_correlate_82, gX9_correlate_84, gX9_correlate_85, gX9_correlate_86, gX9_correlate_87, gX9_correlate_89, gX9_correlate_91T, gX9_correlate_91F, Rd_some, Wr_some, Cont_some, Cont_none, iso_O, true_and, hg_s, hg_n, hput_hput]
        exact fin _
theorem lp_cor1 {H0 : HP} {l3 : Option Value} {N : Int} (hA : ∀ H', Fm 47 48 H0 H' → VR H' S a d) (hB : ∀ H', Fm 47 48 H0 H' → VR H' S b e) (sd : sml d.2.2 d.2.1) (se : sml e.2.2 e.2.1) (hN : N = d.2.1 + e.2.1 - 1) (hNS : (S.2.2 2).1 = N) (hq : ∀ H', Fm 47 48 H0 H' → PM H' N (fun m => co d.2.2 d.2.1 e.2.2 e.2.1 m) → Q (some (vi N)) H') : ∀ (f : Nat) (i : Int) (H : HP) (l6 l7 : Option Value), i + f = N → 0 ≤ i → Fm 47 48 H0 H → PM H N (fun m => if m < i then co d.2.2 d.2.1 e.2.2 e.2.1 m else 0) → Go 154 58 [some (.ref 41), some (vi a), some (vi b), l3, some (vi e.2.1), some (vi i), l6, l7] [] H Q := by
  intro f
  induction f with
  | zero =>
    intro i H l6 l7 hi h0 hf hp
    have vA := hA H hf
    have vB := hB H hf
    have nA := vA.2.1
    have nB := vB.2.1
    rw [show i = N by omega] at hp ⊢
    rw [gX9_correlate_58]
    simp (disch := omega) only [gX9_correlate_60, gX9_correlate_61, fl_9_8, gX9_correlate_64T, gX9_correlate_64F, gX9_correlate_137, gX9_correlate_138, gX9_correlate_141, Rd_some, Wr_some, Cont_some, Cont_none, iso_O, true_and, hg_s, hg_n, hput_hput, vA.1, hNS]
    refine hq H hf (hp.cg (fun m _ m1 => ?_))
    rw [if_pos m1]
  | succ f ih =>
    intro i H l6 l7 hi h0 hf hp
    have vA := hA H hf
    have vB := hB H hf
    have nA := vA.2.1
    have nB := vB.2.1
    rw [gX9_correlate_58]
    simp (disch := omega) only [gX9_correlate_60, gX9_correlate_61, fl_9_8, gX9_correlate_64T, gX9_correlate_64F, gX9_correlate_67, gX9_correlate_68, Rd_some, Wr_some, Cont_some, Cont_none, iso_O, true_and, hg_s, hg_n, hput_hput, vA.1, hNS]
    refine lp_cor2 hA hB sd se hN (by omega) (fun H' l f' p' => ?_) e.2.1.toNat 0 H _ (by omega) (by omega) hf (hp.cg (fun m _ _ => ?_))
    · simp (disch := omega) only [gX9_correlate_131, gX9_correlate_134, Rd_some, Wr_some, Cont_some, Cont_none, iso_O, true_and, hg_s, hg_n, hput_hput]
      exact ih (i + 1) H' _ _ (by omega) (by omega) f' p'
    · by_cases c1 : m < i
      · rw [if_pos c1, if_pos c1]
      · rw [if_neg c1, if_neg c1]
        split <;> rfl
theorem lp_sli2 {H0 : HP} {N i : Int} (hA : ∀ H', Fm 47 48 H0 H' → VR H' S a d) (hd : ∀ j, 0 ≤ j → j < d.2.1 → -9223372036854775808 ≤ d.2.2 j ∧ d.2.2 j ≤ 9223372036854775807) (hw : 1 ≤ w ∧ w ≤ 64) (hi : 0 ≤ i ∧ i < N ∧ N ≤ 127 ∧ i + w ≤ d.2.1) (hq : ∀ H', Fm 47 48 H0 H' → PM H' N (fun m => if m < i + 1 then wn d.2.2 m w else 0) → Go 155 124 [some (.ref 41), some (vi a), some (vi w), some (vi i), some (vi w)] [] H' Q) : ∀ (f : Nat) (j : Int) (H : HP), j + f = w → 0 ≤ j → Fm 47 48 H0 H → PM H N (fun m => if m < i then wn d.2.2 m w else if m = i then sm (fun t => d.2.2 (i + t)) j.toNat else 0) → Go 155 98 [some (.ref 41), some (vi a), some (vi w), some (vi i), some (vi j)] [] H Q := by
  intro f
  induction f with
  | zero =>
    intro j H hj h0 hf hp
    rw [show j = w by omega] at hp ⊢
    rw [gX9_slide_98]
    simp (disch := omega) only [gX9_slide_100, gX9_slide_101T, gX9_slide_101F, Rd_some, Wr_some, Cont_some, Cont_none, iso_O, true_and, hg_s, hg_n, hput_hput]
    refine hq H hf (hp.cg (fun m _ _ => ?_))
    by_cases c1 : m < i
    · rw [if_pos c1, if_pos (by omega)]
    · rw [if_neg c1]
      by_cases c2 : m = i
      · rw [if_pos c2, if_pos (by omega), c2]; rfl
      · rw [if_neg c2, if_neg (by omega)]
  | succ f ih =>
    intro j H hj h0 hf hp
    have vA := hA H hf
    have nA := vA.2.1
    have m1 := hd (i + j) (by omega) (by omega)
    rw [gX9_slide_98]
    simp (disch := omega) only [gX9_slide_100, gX9_slide_101T, gX9_slide_101F, gX9_slide_104, gX9_slide_105, gX9_slide_106, gX9_slide_107, gX9_slide_108, gX9_slide_109, gX9_slide_111, gX9_slide_112, gX9_slide_115, Rd_some, Wr_some, Cont_some, Cont_none, iso_O, true_and, hg_s, hg_n, hput_hput, vA.1, vr_ent vA]
    refine sp_add vA.1 hp (by omega) (fun H' f' p' => ?_)
    simp (disch := omega) only [gX9_slide_118, gX9_slide_121, Rd_some, Wr_some, Cont_some, Cont_none, iso_O, true_and, hg_s, hg_n, hput_hput]
    refine ih (j + 1) H' (by omega) (by omega) (hf.tr f') (p'.cg (fun m _ _ => ?_))
    rw [show (j + 1).toNat = j.toNat + 1 by omega, sm, show ((j.toNat : Nat) : Int) = j by omega]
    unfold up
    dsimp only
    by_cases c2 : m = i
    · simp only [c2, Int.lt_irrefl, if_true, if_false]
    · by_cases c1 : m < i <;> simp only [c1, c2, if_true, if_false]
theorem lp_sli1 {H0 : HP} {N : Int} (hA : ∀ H', Fm 47 48 H0 H' → VR H' S a d) (hd : ∀ j, 0 ≤ j → j < d.2.1 → -9223372036854775808 ≤ d.2.2 j ∧ d.2.2 j ≤ 9223372036854775807) (hw : 1 ≤ w ∧ w ≤ 64) (hN : N = max (d.2.1 - w + 1) 0) (hNS : (S.2.2 2).1 = N) (hq : ∀ H', Fm 47 48 H0 H' → PM H' N (fun m => wn d.2.2 m w) → Q (some (vi N)) H') : ∀ (f : Nat) (i : Int) (H : HP) (l4 : Option Value), i + f = N → 0 ≤ i → Fm 47 48 H0 H → PM H N (fun m => if m < i then wn d.2.2 m w else 0) → Go 155 87 [some (.ref 41), some (vi a), some (vi w), some (vi i), l4] [] H Q := by
  intro f
  induction f with
  | zero =>
    intro i H l4 hi h0 hf hp
    have vA := hA H hf
    have nA := vA.2.1
    rw [show i = N by omega] at hp ⊢
    rw [gX9_slide_87]
    simp (disch := omega) only [gX9_slide_88, gX9_slide_89, fl_9_8, gX9_slide_92T, gX9_slide_92F, gX9_slide_130, gX9_slide_131, gX9_slide_134, Rd_some, Wr_some, Cont_some, Cont_none, iso_O, true_and, hg_s, hg_n, hput_hput, vA.1, hNS]
    refine hq H hf (hp.cg (fun m _ m1 => ?_))
    rw [if_pos m1]
  | succ f ih =>
    intro i H l4 hi h0 hf hp
    have vA := hA H hf
    have nA := vA.2.1
    rw [gX9_slide_87]
    simp (disch := omega) only [gX9_slide_88, gX9_slide_89, fl_9_8, gX9_slide_92T, gX9_slide_92F, gX9_slide_95, gX9_slide_96, Rd_some, Wr_some, Cont_some, Cont_none, iso_O, true_and, hg_s, hg_n, hput_hput, vA.1, hNS]
    refine lp_sli2 hA hd hw (by omega) (fun H' f' p' => ?_) w.toNat 0 H (by omega) (by omega) hf (hp.cg (fun m _ _ => ?_))
    · simp (disch := omega) only [gX9_slide_124, gX9_slide_127, Rd_some, Wr_some, Cont_some, Cont_none, iso_O, true_and, hg_s, hg_n, hput_hput]
      exact ih (i + 1) H' _ (by omega) (by omega) f' p'
    · by_cases c1 : m < i
      · rw [if_pos c1, if_pos c1]
      · rw [if_neg c1, if_neg c1]
        split <;> rfl
end MLP

/-! m: values, series, quotients (begun by program: wip/gen/mpoly2.py) -/
section MP2
variable {H : HP} {S : SS} {T : TT} {Q : Option Value → HP → Prop} {p a b u n : Int} {d e : RD}
theorem MH.work {H1 H' : HP} (h : MH H1 S T) (e : ∀ q, 41 ≤ q → q < 57 → hget H' q = hget H1 q) (w57 : ∃ f, hget H' 57 = cL 64 f) (w58 : ∃ f, hget H' 58 = cL 64 f) (w59 : ∃ f, hget H' 59 = cL 64 f) (w60 : ∃ f, hget H' 60 = cL 65 f) : MH H' S T := by
  intro q q1 q2
  by_cases b3 : q = 57
  · subst b3; exact w57
  · by_cases b4 : q = 58
    · subst b4; exact w58
    · by_cases b5 : q = 59
      · subst b5; exact w59
      · by_cases b6 : q = 60
        · subst b6; exact w60
        · rw [e q q1 (by omega)]; exact h q q1 q2
theorem Xz_in {P : Int} {x : Int → Int} {n j : Int} (h : j < n) : Xz P x n j = x j % P := if_pos h
theorem lp_mdg {P : Int} (h41 : hget H 41 = cM S) (hP : 1 < P ∧ P < 1073741824) {B : Int → Int} (h58 : hget H 58 = cL 64 B) {y : Int → Int} {m : Int} (hm : 0 < m ∧ m ≤ 64) (hB : ∀ j, 0 ≤ j → j < 64 → B j = Xz P y m j) {l1 l2 l3 l4 l5 l6 l8 l9 l10 l11 l12 l13 l14 : Option Value} : ∀ (k : Nat), k ≤ 64 → (Go 168 76 [some (.ref 41), l1, l2, l3, l4, l5, l6, some (vi ((k : Int) - 1)), l8, l9, l10, l11, l12, l13, l14] [] H Q ↔ Go 168 99 [some (.ref 41), l1, l2, l3, l4, l5, l6, some (vi (dg P y (min k m.toNat))), l8, l9, l10, l11, l12, l13, l14] [] H Q) := by
  intro k
  induction k with
  | zero =>
    intro hk
    rw [show min 0 m.toNat = 0 by omega, show dg P y 0 = -1 from rfl, show ((0 : Nat) : Int) - 1 = -1 from rfl, gX9_divide_76]
    simp (disch := omega) only [gX9_divide_78T, gX9_divide_78F, Rd_some, Wr_some, Cont_some, Cont_none, iso_O, true_and, hg_s, hg_n, hput_hput]
  | succ k ih =>
    intro hk
    have b1 := hB k (by omega) (by omega)
    have r1 := Xz_r (show 0 < P by omega) y m k
    have ek : ((k + 1 : Nat) : Int) - 1 = (k : Int) := by omega
    rw [ek, gX9_divide_76]
    by_cases hkm : (k : Int) < m
    · have hmin : min (k + 1) m.toNat = k + 1 := by omega
      rw [hmin, dg]
      rw [Xz_in hkm] at b1 r1
      by_cases hz : y k % P = 0
      · rw [if_pos hz]
        simp (disch := omega) only [gX9_divide_78T, gX9_divide_78F, gX9_divide_81, gX9_divide_82, fl_9_24, gX9_divide_85, gX9_divide_87, aL_g, gX9_divide_88, gX9_divide_89T, gX9_divide_89F, gX9_divide_90T, gX9_divide_90F, gX9_divide_93, gX9_divide_96, Rd_some, Wr_some, Cont_some, Cont_none, iso_O, true_and, hg_s, hg_n, hput_hput, h41, h58, b1]
        rw [show (k : Int) + -1 = (k : Int) - 1 by omega, ih (by omega), show min k m.toNat = k by omega]
      · rw [if_neg hz]
        simp (disch := omega) only [gX9_divide_78T, gX9_divide_78F, gX9_divide_81, gX9_divide_82, fl_9_24, gX9_divide_85, gX9_divide_87, aL_g, gX9_divide_88, gX9_divide_89T, gX9_divide_89F, gX9_divide_90T, gX9_divide_90F, Rd_some, Wr_some, Cont_some, Cont_none, iso_O, true_and, hg_s, hg_n, hput_hput, h41, h58, b1]
    · have hmin : min (k + 1) m.toNat = min k m.toNat := by omega
      have b2 : B k = 0 := by rw [b1]; exact if_neg hkm
      rw [hmin]
      simp (disch := omega) only [gX9_divide_78T, gX9_divide_78F, gX9_divide_81, gX9_divide_82, fl_9_24, gX9_divide_85, gX9_divide_87, aL_g, gX9_divide_88, gX9_divide_89T, gX9_divide_89F, gX9_divide_90T, gX9_divide_90F, gX9_divide_93, gX9_divide_96, Rd_some, Wr_some, Cont_some, Cont_none, iso_O, true_and, hg_s, hg_n, hput_hput, h41, h58, b2]
      rw [show (k : Int) + -1 = (k : Int) - 1 by omega]
      exact ih (by omega)
theorem lp_md2 {P : Int} (h41 : hget H 41 = cM S) (hP : 1 < P ∧ P < 1073741824) {A B C : Int → Int} {g k f : Int} (hg : 0 ≤ g ∧ g < 64) (hk : 0 ≤ k ∧ k + g < 64) (hA : mo P A 64) (hB : mo P B 64) (hf : 0 ≤ f ∧ f < P) {l1 l2 l3 l4 l8 l9 l10 : Option Value} : ∀ (e : Nat) (j : Int), j + e = g + 1 → 0 ≤ j → (Go 168 189 [some (.ref 41), l1, l2, l3, l4, some (vl P), none, some (vi g), l8, l9, l10, some (vi k), some (vl f), none, some (vi j)] [] (HW H (dvP P f B k A j) B C) Q ↔ Go 168 239 [some (.ref 41), l1, l2, l3, l4, some (vl P), none, some (vi g), l8, l9, l10, some (vi k), some (vl f), none, some (vi (g + 1))] [] (HW H (dvP P f B k A (g + 1)) B C) Q) := by
  have x41 : ∀ o t w, hget (HW H o t w) 41 = cM S := fun o t w => by rw [HW_q (by omega)]; exact h41
  intro e
  induction e with
  | zero =>
    intro j hj h0
    rw [show j = g + 1 by omega, gX9_divide_189]
    simp (disch := omega) only [gX9_divide_191, gX9_divide_193T, gX9_divide_193F, Rd_some, Wr_some, Cont_some, Cont_none, iso_O, true_and, hg_s, hg_n, hput_hput]
  | succ e ih =>
    intro j hj h0
    have m1 := hA (k + j) (by omega) (by omega)
    have m2 := hB j h0 (by omega)
    have m3 := mb (x := P - B j) (y := f) (by omega)
    have e1 : dvP P f B k A j (k + j) = A (k + j) := if_neg (by omega)
    have e2 : (A (k + j) + (P - B j) * f).tmod P = (A (k + j) - f * B j) % P := by
      rw [Int.tmod_eq_emod_of_nonneg (by omega)]
      have : A (k + j) + (P - B j) * f = A (k + j) - f * B j + P * f := by
        rw [Int.sub_mul, Int.mul_comm f]
        omega
      rw [this]
      exact Int.add_mul_emod_self_left _ _ _
    rw [gX9_divide_189]
    simp (disch := omega) only [gX9_divide_191, gX9_divide_193T, gX9_divide_193F, gX9_divide_196, gX9_divide_197, fl_9_23, gX9_divide_200, gX9_divide_202, gX9_divide_204, gX9_divide_205, gX9_divide_206, gX9_divide_209, gX9_divide_211, gX9_divide_213, gX9_divide_214, aL_g, gX9_divide_215, gX9_divide_217, gX9_divide_218, fl_9_24, gX9_divide_221, gX9_divide_223, gX9_divide_224, gX9_divide_225, gX9_divide_227, gX9_divide_228, gX9_divide_229, gX9_divide_231, gX9_divide_232, sL_p, gX9_divide_233, gX9_divide_236, Rd_some, Wr_some, Cont_some, Cont_none, iso_O, true_and, hg_s, hg_n, hput_hput, x41, HW_57, HW_58, HW_p57, e1, e2]
    rw [dvP_up h0 rfl]
    exact ih (j + 1) (by omega) (by omega)
theorem lp_md1 {P : Int} (h41 : hget H 41 = cM S) (hP : 1 < P ∧ P < 1073741824) {A0 B0 B : Int → Int} {g q : Nat} {s : Int} (hg : g < 64) (hq1 : 0 < q → (q : Int) + g ≤ 64) (hB : mo P B 64) (hBB : ∀ j, 0 ≤ j → j < 64 → B j = B0 j) (hA0 : mo P A0 64) (hs : 0 ≤ s ∧ s < P) {l1 l2 l3 l4 : Option Value} (hq : ∀ A C l11 l12 l13 l14, (∀ j, 0 ≤ j → j < 64 → A j = dv P s B0 g A0 q q j) → (∀ j : Nat, j < q → C j = dq P s B0 g A0 q j) → Go 168 245 [some (.ref 41), l1, l2, l3, l4, some (vl P), none, some (vi (g : Int)), some (vi (q : Int)), some (vl s), none, l11, l12, l13, l14] [] (HW H A B C) Q) : ∀ (f e : Nat) (A C : Int → Int) (l12 l13 l14 : Option Value), e + f = q → (∀ j, 0 ≤ j → j < 64 → A j = dv P s B0 g A0 q e j) → (∀ j : Nat, q - e ≤ j → j < q → C j = dq P s B0 g A0 q j) → Go 168 154 [some (.ref 41), l1, l2, l3, l4, some (vl P), none, some (vi (g : Int)), some (vi (q : Int)), some (vl s), none, some (vi ((q : Int) - e - 1)), l12, l13, l14] [] (HW H A B C) Q := by
  have x41 : ∀ o t w, hget (HW H o t w) 41 = cM S := fun o t w => by rw [HW_q (by omega)]; exact h41
  intro f
  induction f with
  | zero =>
    intro e A C l12 l13 l14 he hA hC
    rw [show (q : Int) - e - 1 = -1 by omega, gX9_divide_154]
    simp (disch := omega) only [gX9_divide_156T, gX9_divide_156F, Rd_some, Wr_some, Cont_some, Cont_none, iso_O, true_and, hg_s, hg_n, hput_hput]
    rw [show e = q by omega] at hA hC
    exact hq A C _ _ _ _ hA (fun j hj => hC j (by omega) hj)
  | succ f ih =>
    intro e A C l12 l13 l14 he hA hC
    have hqn := hq1 (by omega)
    have hmA : mo P A 64 := fun j j0 j1 => by rw [hA j j0 j1]; exact dv_r (by omega) hA0 e j j0 j1
    have ek : (q : Int) - e - 1 = ((q - (e + 1) : Nat) : Int) := by omega
    rw [ek]
    generalize hk : q - (e + 1) = k at *
    have m1 := hmA ((k : Int) + g) (by omega) (by omega)
    have m2 := em (P := P) (by omega) (A ((k : Int) + g) * s)
    have m3 := mb (x := A ((k : Int) + g)) (y := s) (by omega)
    have t1 : (A ((k : Int) + g) * s).tmod P = A ((k : Int) + g) * s % P := Int.tmod_eq_emod_of_nonneg m3.1
    rw [gX9_divide_154]
    simp (disch := omega) only [gX9_divide_156T, gX9_divide_156F, gX9_divide_159, gX9_divide_160, fl_9_23, gX9_divide_163, gX9_divide_165, gX9_divide_167, gX9_divide_168, aL_g, gX9_divide_169, gX9_divide_171, gX9_divide_172, gX9_divide_174, gX9_divide_175, gX9_divide_177, gX9_divide_178, fl_9_25, gX9_divide_181, gX9_divide_183, gX9_divide_185, sL_p, gX9_divide_186, gX9_divide_187, Rd_some, Wr_some, Cont_some, Cont_none, iso_O, true_and, hg_s, hg_n, hput_hput, x41, HW_57, HW_59, HW_p59, t1]
    have key := lp_md2 (H := H) (Q := Q) (S := S) (A := A) (B := B) (C := up C (k : Int) (A ((k : Int) + g) * s % P)) h41 hP (g := (g : Int)) (k := (k : Int)) (f := A ((k : Int) + g) * s % P) (by omega) (by omega) hmA hB m2 (l1 := l1) (l2 := l2) (l3 := l3) (l4 := l4) (l8 := some (vi (q : Int))) (l9 := some (vl s)) (l10 := none) (g + 1) 0 (by omega) (by omega)
    rw [dvP_0] at key
    refine key.mpr ?_
    simp (disch := omega) only [gX9_divide_239, gX9_divide_242, Rd_some, Wr_some, Cont_some, Cont_none, iso_O, true_and, hg_s, hg_n, hput_hput]
    have := ih (e + 1) (dvP P (A ((k : Int) + g) * s % P) B k A ((g : Int) + 1)) (up C (k : Int) (A ((k : Int) + g) * s % P)) (some (vl (A ((k : Int) + g) * s % P))) none (some (vi ((g : Int) + 1))) (by omega) (fun j j0 j1 => ?_) (fun j j0 j1 => ?_)
    · rw [show (q : Int) - ((e + 1 : Nat) : Int) - 1 = (k : Int) + -1 by omega] at this
      exact this
    · rw [dv]
      unfold dvP dvA
      rw [hk]
      by_cases hj : (k : Int) ≤ j ∧ j ≤ (k : Int) + g
      · rw [if_pos (by omega), if_pos hj, hA j j0 j1, hA _ (by omega) (by omega), hBB _ (by omega) (by omega)]
      · rw [if_neg (by omega), if_neg hj]; exact hA j j0 j1
    · unfold up
      by_cases ej : (j : Int) = (k : Int)
      · rw [if_pos ej, show j = k by omega]
        unfold dq
        rw [hA _ (by omega) (by omega), show q - (k + 1) = e by omega]
      · rw [if_neg ej]; exact hC j (by omega) j1
theorem lp_md3 (h41 : hget H 41 = cM S) {A r : Int → Int} (h57 : hget H 57 = cL 64 A) {g : Int} (hg : 0 ≤ g ∧ g ≤ 64) {l1 l2 l3 l4 l5 l6 l8 l9 l10 l12 l13 l14 : Option Value} : ∀ (e : Nat) (j : Int), j + e = g → 0 ≤ j → (Go 168 254 [some (.ref 41), l1, l2, l3, l4, l5, l6, some (vi g), l8, l9, l10, some (vi j), l12, l13, l14] [] (hput H 50 (cL 64 (mix A r j))) Q ↔ Go 168 281 [some (.ref 41), l1, l2, l3, l4, l5, l6, some (vi g), l8, l9, l10, some (vi g), l12, l13, l14] [] (hput H 50 (cL 64 (mix A r g))) Q) := by
  have x41 : ∀ c, hget (hput H 50 c) 41 = cM S := fun c => by rw [hg_n (by omega)]; exact h41
  have x57 : ∀ c, hget (hput H 50 c) 57 = cL 64 A := fun c => by rw [hg_n (by omega)]; exact h57
  intro e
  induction e with
  | zero =>
    intro j hj h0
    rw [show j = g by omega, gX9_divide_254]
    simp (disch := omega) only [gX9_divide_256, gX9_divide_258T, gX9_divide_258F, Rd_some, Wr_some, Cont_some, Cont_none, iso_O, true_and, hg_s, hg_n, hput_hput]
  | succ e ih =>
    intro j hj h0
    rw [gX9_divide_254]
    simp (disch := omega) only [gX9_divide_256, gX9_divide_258T, gX9_divide_258F, gX9_divide_261, gX9_divide_262, fl_9_14, gX9_divide_265, gX9_divide_267, gX9_divide_268, fl_9_23, gX9_divide_271, gX9_divide_273, aL_g, gX9_divide_274, sL_p, gX9_divide_275, gX9_divide_278, Rd_some, Wr_some, Cont_some, Cont_none, iso_O, true_and, hg_s, hg_n, hput_hput, x41, x57]
    rw [mix_up h0 rfl]
    exact ih (j + 1) (by omega) (by omega)

theorem mx_eval (hm : MJ H S) (c : (-2147483648 ≤ a ∧ a ≤ 2147483647) ∧ (-2147483648 ≤ b ∧ b ≤ 2147483647) ∧ (-2147483648 ≤ u ∧ u ≤ 2147483647)) (hq : MG H Q (o_eval S a b u)) : Go 169 0 [some (.ref 41), some (vi a), some (vi b), some (vi u), none, none, none, none, none, none, none] [] H Q := by
  obtain ⟨T, h1, h2, h3, h4⟩ := hm
  have hx := h1.v.1
  unfold o_eval MG at hq
  by_cases ha : 0 ≤ a ∧ a < 12
  · by_cases hb : 0 ≤ b ∧ b < 12
    · by_cases hw0 : 0 ≤ u ∧ u ≤ 2
      · rw [if_pos ⟨ha, hb, hw0⟩] at hq
        have m1 := h1.ft 0
        unfold o_two at hq
        simp (disch := omega) only [gX9_evaluate_0, gX9_evaluate_1, gX9_evaluate_2, pf_9_0, gX9_evaluate_5, gX9_evaluate_6, gX9_evaluate_9T, gX9_evaluate_9F, gX9_evaluate_12, gX9_evaluate_13, gX9_evaluate_16T, gX9_evaluate_16F, gX9_evaluate_19, gX9_evaluate_20, gX9_evaluate_23T, gX9_evaluate_23F, gX9_evaluate_26, gX9_evaluate_27, gX9_evaluate_28, gX9_evaluate_29, gX9_evaluate_30, gX9_evaluate_31, Rd_some, Wr_some, Cont_some, Cont_none, iso_O, true_and, hg_s, hg_n, hput_hput, hx, sp_mplT, sp_mprT]
        change Go _ _ _ _ (hput H 41 (cM (wFt S 0))) _
        cases hoa : S.1.1 a with
        | none =>
          cases hob : S.1.1 b with
          | none =>
            rw [hoa, hob] at hq
            dsimp only at hq
            rw [sp_a2N (S := wFt S 0) m1 h2 ha hb (Or.inl hoa)]
            simp (disch := omega) only [gX9_evaluate_34, gX9_evaluate_36, gX9_evaluate_38T, gX9_evaluate_38F, gX9_evaluate_41, gX9_evaluate_43, Rd_some, Wr_some, Cont_some, Cont_none, iso_O, true_and, hg_s, hg_n, hput_hput]
            exact hq _ (MJ.ft h1 h2 h3 h4 1) (Fm.rf.put (by omega))
          | some l =>
            rw [hoa, hob] at hq
            dsimp only at hq
            rw [sp_a2N (S := wFt S 0) m1 h2 ha hb (Or.inl hoa)]
            simp (disch := omega) only [gX9_evaluate_34, gX9_evaluate_36, gX9_evaluate_38T, gX9_evaluate_38F, gX9_evaluate_41, gX9_evaluate_43, Rd_some, Wr_some, Cont_some, Cont_none, iso_O, true_and, hg_s, hg_n, hput_hput]
            exact hq _ (MJ.ft h1 h2 h3 h4 1) (Fm.rf.put (by omega))
        | some k =>
          cases hob : S.1.1 b with
          | none =>
            rw [hoa, hob] at hq
            dsimp only at hq
            rw [sp_a2N (S := wFt S 0) m1 h2 ha hb (Or.inr hob)]
            simp (disch := omega) only [gX9_evaluate_34, gX9_evaluate_36, gX9_evaluate_38T, gX9_evaluate_38F, gX9_evaluate_41, gX9_evaluate_43, Rd_some, Wr_some, Cont_some, Cont_none, iso_O, true_and, hg_s, hg_n, hput_hput]
            exact hq _ (MJ.ft h1 h2 h3 h4 1) (Fm.rf.put (by omega))
          | some l =>
            rw [hoa, hob] at hq
            dsimp only at hq
            have ka := h4 k ⟨a, ha.1, ha.2, hoa⟩
            have kb := h4 l ⟨b, hb.1, hb.2, hob⟩
            have la := ka.1
            have lb := kb.1
            by_cases hl : (S.1.2 k).1 ≤ 3 ∧ (S.1.2 l).1 ≤ 3
            · rw [if_pos hl] at hq
              rw [sp_a2O (S := wFt S 0) m1 h2 ha hb hoa hob la lb hl]
              have va : VR (hput H 41 (cM (wFt S 0))) (wFt S 0) a (S.1.2 k) := m1.vr (S := wFt S 0) h2 h4 ha hoa
              have vb : VR (hput H 41 (cM (wFt S 0))) (wFt S 0) b (S.1.2 l) := m1.vr (S := wFt S 0) h2 h4 hb hob
              have f1 : Fm 41 60 H (hput H 41 (cM (wFt S 0))) := Fm.rf.put (by omega)
              generalize hput H 41 (cM (wFt S 0)) = H1 at m1 va vb f1
              simp (disch := omega) only [gX9_evaluate_34, gX9_evaluate_36, gX9_evaluate_38T, gX9_evaluate_38F, gX9_evaluate_41, gX9_evaluate_43, Rd_some, Wr_some, Cont_some, Cont_none, iso_O, true_and, hg_s, hg_n, hput_hput]
              have hP := PV_r u
              have nA := ka.2.1
              obtain ⟨o0, h57⟩ := m1 57 (by decide) (by decide)
              obtain ⟨t0, h58⟩ := m1 58 (by decide) (by decide)
              obtain ⟨w0, h59⟩ := m1 59 (by decide) (by decide)
              obtain ⟨b0, h60⟩ := m1 60 (by decide) (by decide)
              obtain ⟨g0, h49, -⟩ := m1 49 (by decide) (by decide)
              have vA : ∀ H', hget H' 41 = cM (wFt S 0) → (∀ q, 42 ≤ q → q ≤ 45 → hget H' q = hget H1 q) → VR H' (wFt S 0) a (S.1.2 k) := fun H' e1 e2 => m1.vr2 (S := wFt S 0) h2 h4 ha hoa e1 e2
              have vB : ∀ H', hget H' 41 = cM (wFt S 0) → (∀ q, 42 ≤ q → q ≤ 45 → hget H' q = hget H1 q) → VR H' (wFt S 0) b (S.1.2 l) := fun H' e1 e2 => m1.vr2 (S := wFt S 0) h2 h4 hb hob e1 e2
              have nB := kb.2.1
              have t1 := fun Q => sp_take (H := H1) (Q := Q) (S := wFt S 0) (A := 57) (by decide) hP (fun c => vA _ (by rw [hg_n (by omega)]; exact va.1) (fun q q1 q2 => hg_n (by omega))) ka.2.2.1 h57
              simp (disch := omega) only [gX9_evaluate_44, gX9_evaluate_45, gX9_evaluate_48, gX9_evaluate_50, gX9_evaluate_51, gX9_evaluate_52, fl_9_23, gX9_evaluate_55, gX9_evaluate_56, gX9_evaluate_58, Rd_some, Wr_some, Cont_some, Cont_none, iso_O, true_and, hg_s, hg_n, hput_hput, va.1, sp_prime, t1]
              generalize hO : mix (Xz (PV u) (S.1.2 k).2.2 (S.1.2 k).2.1) o0 64 = O
              have vO : ∀ j, 0 ≤ j → j < 64 → O j = Xz (PV u) (S.1.2 k).2.2 (S.1.2 k).2.1 j := fun j j0 j1 => by rw [← hO]; exact mix_in ⟨j0, j1⟩
              have y41 : ∀ c, hget (hput H1 57 c) 41 = cM (wFt S 0) := fun c => by rw [hg_n (by omega)]; exact va.1
              have t2 := fun Q c => sp_take (H := hput H1 57 c) (Q := Q) (S := wFt S 0) (A := 58) (by decide) hP (fun d => vB _ (by rw [hg_n (by omega)]; exact y41 c) (fun q q1 q2 => by rw [hg_n (by omega), hg_n (by omega)])) kb.2.2.1 (f := t0) (by rw [hg_n (by omega)]; exact h58)
              simp (disch := omega) only [gX9_evaluate_61, gX9_evaluate_62, gX9_evaluate_63, fl_9_24, gX9_evaluate_66, gX9_evaluate_67, gX9_evaluate_69, Rd_some, Wr_some, Cont_some, Cont_none, iso_O, true_and, hg_s, hg_n, hput_hput, y41, t2]
              generalize hT2 : mix (Xz (PV u) (S.1.2 l).2.2 (S.1.2 l).2.1) t0 64 = T2
              have vT : ∀ j, 0 ≤ j → j < 64 → T2 j = Xz (PV u) (S.1.2 l).2.2 (S.1.2 l).2.1 j := fun j j0 j1 => by rw [← hT2]; exact mix_in ⟨j0, j1⟩
              have q0 : ∀ q, q ≠ 57 → q ≠ 58 → hget (hput (hput H1 57 (cL 64 O)) 58 (cL 64 T2)) q = hget H1 q := fun q q1 q2 => by rw [hg_n q2, hg_n q1]
              have q57 : hget (hput (hput H1 57 (cL 64 O)) 58 (cL 64 T2)) 57 = cL 64 O := by rw [hg_n (by omega), hg_s]
              have q58 : hget (hput (hput H1 57 (cL 64 O)) 58 (cL 64 T2)) 58 = cL 64 T2 := hg_s
              have f2 : Fm 41 60 H (hput (hput H1 57 (cL 64 O)) 58 (cL 64 T2)) := (f1.put (by omega)).put (by omega)
              generalize hput (hput H1 57 (cL 64 O)) 58 (cL 64 T2) = H2 at *
              have q41 : hget H2 41 = cM (wFt S 0) := by rw [q0 41 (by omega) (by omega)]; exact va.1
              simp (disch := omega) only [gX9_evaluate_72, gX9_evaluate_73, Rd_some, Wr_some, Cont_some, Cont_none, iso_O, true_and, hg_s, hg_n, hput_hput]
              have key := lp_evO (H := H2) (Q := Q) (S := wFt S 0) (f := w0) (l3 := some (vi u)) (l4 := some (vi 0)) (fun w => vA _ (by rw [hg_n (by omega)]; exact q41) (fun q q1 q2 => by rw [hg_n (by omega)]; exact q0 q (by omega) (by omega))) (fun w => vB _ (by rw [hg_n (by omega)]; exact q41) (fun q q1 q2 => by rw [hg_n (by omega)]; exact q0 q (by omega) (by omega))) hP q57 q58 (fun j j0 j1 => by rw [vO j j0 (by omega)]; exact Xz_r (by omega) _ _ _) (fun j j0 j1 => by rw [vT j j0 (by omega)]; exact Xz_r (by omega) _ _ _) (fun l8 l9 l10 => by
                generalize hW : mix (fun j => hz (PV u) O (T2 j) (S.1.2 k).2.1.toNat 0) w0 (S.1.2 l).2.1 = W
                have z41 : hget (hput H2 59 (cL 64 W)) 41 = cM (wFt S 0) := by rw [hg_n (by omega)]; exact q41
                have zB := vB (hput H2 59 (cL 64 W)) z41 (fun q q1 q2 => by rw [hg_n (by omega)]; exact q0 q (by omega) (by omega))
                simp (disch := omega) only [gX9_evaluate_146, gX9_evaluate_147, gX9_evaluate_148, gX9_evaluate_149, gX9_evaluate_152, Rd_some, Wr_some, Cont_some, Cont_none, iso_O, true_and, hg_s, hg_n, hput_hput, z41, vr_cnt zB]
                rw [sp_kp (S := wFt S 0) z41 (fun j => EV (PV u) (S.1.2 k).2.2 (S.1.2 k).2.1 ((S.1.2 l).2.2 j)) hg_s (g := g0) (by rw [hg_n (by omega), q0 49 (by omega) (by omega)]; exact h49) (by omega)]
                simp (disch := omega) only [gX9_evaluate_155, Rd_some, Wr_some, Cont_some, Cont_none, iso_O, true_and, hg_s, hg_n, hput_hput]
                refine hq _ (MJ.sh3 (S1 := wFt S 0) m1 h2 h3 h4 (fun q q1 q2 q3 => by rw [hg_n q3, hg_n (by omega), hg_n (by omega)]; exact q0 q (by omega) (by omega)) (by rw [hg_n (by omega), hg_s]) hg_s (fun j j0 j1 => ?_) (by omega) ⟨O, by rw [hg_n (by omega), hg_n (by omega), hg_n (by omega)]; exact q57⟩ ⟨T2, by rw [hg_n (by omega), hg_n (by omega), hg_n (by omega)]; exact q58⟩ ⟨W, by rw [hg_n (by omega), hg_n (by omega), hg_s]⟩ ⟨b0, by rw [hg_n (by omega), hg_n (by omega), hg_n (by omega), q0 60 (by omega) (by omega)]; exact h60⟩) (((f2.put (by omega)).put (by omega)).put (by omega))
                have j1 : j < (S.1.2 l).2.1 := j1
                rw [mix_in ⟨j0, j1⟩, ← hW, mix_in ⟨j0, j1⟩, hz_v (by omega) _ _ (by omega), Int.zero_mul, Int.add_zero]
                refine cg.sm fun i hi => cg.ml ?_ (cg.pw ?_ _)
                · rw [vO i (by omega) (by omega), Xz_in (by omega)]; exact cg.md
                · rw [vT j j0 (by omega), Xz_in j1]; exact cg.md) (S.1.2 l).2.1.toNat 0 none none none (by omega)
              rw [show ((0 : Nat) : Int) = 0 from rfl, mix_0, hput_same (a := 59) (c := cL 64 w0) (by rw [q0 59 (by omega) (by omega)]; exact h59)] at key
              exact key
            · rw [if_neg hl] at hq
              rw [sp_a2C (S := wFt S 0) m1 h2 ha hb hoa hob la lb hl]
              simp (disch := omega) only [gX9_evaluate_34, gX9_evaluate_36, gX9_evaluate_38T, gX9_evaluate_38F, gX9_evaluate_41, gX9_evaluate_43, Rd_some, Wr_some, Cont_some, Cont_none, iso_O, true_and, hg_s, hg_n, hput_hput]
              exact hq _ (MJ.ft h1 h2 h3 h4 2) (Fm.rf.put (by omega))
      · rw [if_neg (fun t => hw0 t.2.2)] at hq
        simp (disch := omega) only [gX9_evaluate_0, gX9_evaluate_1, gX9_evaluate_2, pf_9_0, gX9_evaluate_5, gX9_evaluate_6, gX9_evaluate_9T, gX9_evaluate_9F, gX9_evaluate_12, gX9_evaluate_13, gX9_evaluate_16T, gX9_evaluate_16F, gX9_evaluate_19, gX9_evaluate_20, gX9_evaluate_23T, gX9_evaluate_23F, gX9_evaluate_26, gX9_evaluate_27, gX9_evaluate_28, gX9_evaluate_29, gX9_evaluate_30, gX9_evaluate_31, gX9_evaluate_34, gX9_evaluate_36, gX9_evaluate_38T, gX9_evaluate_38F, gX9_evaluate_41, gX9_evaluate_43, gX9_evaluate_44, gX9_evaluate_45, gX9_evaluate_48, gX9_evaluate_50, gX9_evaluate_51, gX9_evaluate_52, fl_9_23, gX9_evaluate_55, gX9_evaluate_56, gX9_evaluate_58, gX9_evaluate_61, gX9_evaluate_62, gX9_evaluate_63, fl_9_24, gX9_evaluate_66, gX9_evaluate_67, gX9_evaluate_69, gX9_evaluate_72, gX9_evaluate_73, gX9_evaluate_75, gX9_evaluate_77, gX9_evaluate_78, gX9_evaluate_79, gX9_evaluate_82T, gX9_evaluate_82F, gX9_evaluate_85, gX9_evaluate_86, gX9_evaluate_88, gX9_evaluate_89, gX9_evaluate_90, gX9_evaluate_93, gX9_evaluate_94, gX9_evaluate_95, gX9_evaluate_97, gX9_evaluate_99T, gX9_evaluate_99F, gX9_evaluate_102, gX9_evaluate_104, gX9_evaluate_105, gX9_evaluate_108, gX9_evaluate_110, aL_g, gX9_evaluate_111, gX9_evaluate_112, gX9_evaluate_113, gX9_evaluate_116, gX9_evaluate_118, gX9_evaluate_119, gX9_evaluate_120, gX9_evaluate_122, gX9_evaluate_123, gX9_evaluate_125, gX9_evaluate_128, gX9_evaluate_131, gX9_evaluate_132, fl_9_25, gX9_evaluate_135, gX9_evaluate_137, gX9_evaluate_139, sL_p, gX9_evaluate_140, gX9_evaluate_143, gX9_evaluate_146, gX9_evaluate_147, gX9_evaluate_148, gX9_evaluate_149, gX9_evaluate_152, gX9_evaluate_155, Rd_some, Wr_some, Cont_some, Cont_none, iso_O, true_and, hg_s, hg_n, hput_hput, hx, sp_mplT, sp_mprT, sp_mprF]
        exact hq _ (MJ.ft h1 h2 h3 h4 0) (Fm.rf.put (by omega))
    · rw [if_neg (fun t => hb t.2.1)] at hq
      simp (disch := omega) only [gX9_evaluate_0, gX9_evaluate_1, gX9_evaluate_2, pf_9_0, gX9_evaluate_5, gX9_evaluate_6, gX9_evaluate_9T, gX9_evaluate_9F, gX9_evaluate_12, gX9_evaluate_13, gX9_evaluate_16T, gX9_evaluate_16F, gX9_evaluate_19, gX9_evaluate_20, gX9_evaluate_23T, gX9_evaluate_23F, gX9_evaluate_26, gX9_evaluate_27, gX9_evaluate_28, gX9_evaluate_29, gX9_evaluate_30, gX9_evaluate_31, gX9_evaluate_34, gX9_evaluate_36, gX9_evaluate_38T, gX9_evaluate_38F, gX9_evaluate_41, gX9_evaluate_43, gX9_evaluate_44, gX9_evaluate_45, gX9_evaluate_48, gX9_evaluate_50, gX9_evaluate_51, gX9_evaluate_52, fl_9_23, gX9_evaluate_55, gX9_evaluate_56, gX9_evaluate_58, gX9_evaluate_61, gX9_evaluate_62, gX9_evaluate_63, fl_9_24, gX9_evaluate_66, gX9_evaluate_67, gX9_evaluate_69, gX9_evaluate_72, gX9_evaluate_73, gX9_evaluate_75, gX9_evaluate_77, gX9_evaluate_78, gX9_evaluate_79, gX9_evaluate_82T, gX9_evaluate_82F, gX9_evaluate_85, gX9_evaluate_86, gX9_evaluate_88, gX9_evaluate_89, gX9_evaluate_90, gX9_evaluate_93, gX9_evaluate_94, gX9_evaluate_95, gX9_evaluate_97, gX9_evaluate_99T, gX9_evaluate_99F, gX9_evaluate_102, gX9_evaluate_104, gX9_evaluate_105, gX9_evaluate_108, gX9_evaluate_110, aL_g, gX9_evaluate_111, gX9_evaluate_112, gX9_evaluate_113, gX9_evaluate_116, gX9_evaluate_118, gX9_evaluate_119, gX9_evaluate_120, gX9_evaluate_122, gX9_evaluate_123, gX9_evaluate_125, gX9_evaluate_128, gX9_evaluate_131, gX9_evaluate_132, fl_9_25, gX9_evaluate_135, gX9_evaluate_137, gX9_evaluate_139, sL_p, gX9_evaluate_140, gX9_evaluate_143, gX9_evaluate_146, gX9_evaluate_147, gX9_evaluate_148, gX9_evaluate_149, gX9_evaluate_152, gX9_evaluate_155, Rd_some, Wr_some, Cont_some, Cont_none, iso_O, true_and, hg_s, hg_n, hput_hput, hx, sp_mplT, sp_mprT, sp_mplF]
      exact hq _ (MJ.ft h1 h2 h3 h4 0) (Fm.rf.put (by omega))
  · rw [if_neg (fun t => ha t.1)] at hq
    simp (disch := omega) only [gX9_evaluate_0, gX9_evaluate_1, gX9_evaluate_2, pf_9_0, gX9_evaluate_5, gX9_evaluate_6, gX9_evaluate_9T, gX9_evaluate_9F, gX9_evaluate_12, gX9_evaluate_13, gX9_evaluate_16T, gX9_evaluate_16F, gX9_evaluate_19, gX9_evaluate_20, gX9_evaluate_23T, gX9_evaluate_23F, gX9_evaluate_26, gX9_evaluate_27, gX9_evaluate_28, gX9_evaluate_29, gX9_evaluate_30, gX9_evaluate_31, gX9_evaluate_34, gX9_evaluate_36, gX9_evaluate_38T, gX9_evaluate_38F, gX9_evaluate_41, gX9_evaluate_43, gX9_evaluate_44, gX9_evaluate_45, gX9_evaluate_48, gX9_evaluate_50, gX9_evaluate_51, gX9_evaluate_52, fl_9_23, gX9_evaluate_55, gX9_evaluate_56, gX9_evaluate_58, gX9_evaluate_61, gX9_evaluate_62, gX9_evaluate_63, fl_9_24, gX9_evaluate_66, gX9_evaluate_67, gX9_evaluate_69, gX9_evaluate_72, gX9_evaluate_73, gX9_evaluate_75, gX9_evaluate_77, gX9_evaluate_78, gX9_evaluate_79, gX9_evaluate_82T, gX9_evaluate_82F, gX9_evaluate_85, gX9_evaluate_86, gX9_evaluate_88, gX9_evaluate_89, gX9_evaluate_90, gX9_evaluate_93, gX9_evaluate_94, gX9_evaluate_95, gX9_evaluate_97, gX9_evaluate_99T, gX9_evaluate_99F, gX9_evaluate_102, gX9_evaluate_104, gX9_evaluate_105, gX9_evaluate_108, gX9_evaluate_110, aL_g, gX9_evaluate_111, gX9_evaluate_112, gX9_evaluate_113, gX9_evaluate_116, gX9_evaluate_118, gX9_evaluate_119, gX9_evaluate_120, gX9_evaluate_122, gX9_evaluate_123, gX9_evaluate_125, gX9_evaluate_128, gX9_evaluate_131, gX9_evaluate_132, fl_9_25, gX9_evaluate_135, gX9_evaluate_137, gX9_evaluate_139, sL_p, gX9_evaluate_140, gX9_evaluate_143, gX9_evaluate_146, gX9_evaluate_147, gX9_evaluate_148, gX9_evaluate_149, gX9_evaluate_152, gX9_evaluate_155, Rd_some, Wr_some, Cont_some, Cont_none, iso_O, true_and, hg_s, hg_n, hput_hput, hx, sp_mplT, sp_mprT, sp_mplF]
    exact hq _ (MJ.ft h1 h2 h3 h4 0) (Fm.rf.put (by omega))

theorem mx_series (hm : MJ H S) (c : (-2147483648 ≤ a ∧ a ≤ 2147483647) ∧ (-2147483648 ≤ u ∧ u ≤ 2147483647) ∧ (-2147483648 ≤ n ∧ n ≤ 2147483647)) (hq : MG H Q (o_series S a u n)) : Go 167 0 [some (.ref 41), some (vi a), some (vi u), some (vi n), none, none, none, none, none, none, none, none, none] [] H Q := by
  obtain ⟨T, h1, h2, h3, h4⟩ := hm
  have hx := h1.v.1
  unfold o_series MG at hq
  by_cases ha : 0 ≤ a ∧ a < 12
  · by_cases hw0 : 0 ≤ u ∧ u ≤ 2
    · rw [if_pos ⟨ha, hw0⟩] at hq
      by_cases hv0 : 1 ≤ n ∧ n ≤ 64
      · rw [if_pos hv0] at hq
        have m1 := h1.ft 0
        unfold o_one at hq
        simp (disch := omega) only [gX9_series_0, gX9_series_1, gX9_series_2, pf_9_0, gX9_series_5, gX9_series_6, gX9_series_9T, gX9_series_9F, gX9_series_12, gX9_series_13, gX9_series_16T, gX9_series_16F, gX9_series_19, gX9_series_20, gX9_series_21, gX9_series_22, gX9_series_23, gX9_series_25, gX9_series_28T, gX9_series_28F, gX9_series_31, gX9_series_33, gX9_series_34, gX9_series_35, gX9_series_36, Rd_some, Wr_some, Cont_some, Cont_none, iso_O, true_and, hg_s, hg_n, hput_hput, hx, sp_mplT, sp_mprT, sp_wiT]
        change Go _ _ _ _ (hput H 41 (cM (wFt S 0))) _
        cases hoa : S.1.1 a with
        | none =>
          rw [hoa] at hq
          dsimp only at hq
          rw [sp_a1N (S := wFt S 0) m1 h2 ha hoa]
          simp (disch := omega) only [gX9_series_39, gX9_series_41, gX9_series_43T, gX9_series_43F, gX9_series_46, gX9_series_48, Rd_some, Wr_some, Cont_some, Cont_none, iso_O, true_and, hg_s, hg_n, hput_hput]
          exact hq _ (MJ.ft h1 h2 h3 h4 1) (Fm.rf.put (by omega))
        | some k =>
          rw [hoa] at hq
          dsimp only at hq
          have ka := h4 k ⟨a, ha.1, ha.2, hoa⟩
          have la := ka.1
          by_cases hl : (S.1.2 k).1 ≤ 3
          · rw [if_pos hl] at hq
            rw [sp_a1O (S := wFt S 0) m1 h2 ha hoa la hl]
            have va : VR (hput H 41 (cM (wFt S 0))) (wFt S 0) a (S.1.2 k) := m1.vr (S := wFt S 0) h2 h4 ha hoa
            have f1 : Fm 41 60 H (hput H 41 (cM (wFt S 0))) := Fm.rf.put (by omega)
            generalize hput H 41 (cM (wFt S 0)) = H1 at m1 va f1
            simp (disch := omega) only [gX9_series_39, gX9_series_41, gX9_series_43T, gX9_series_43F, gX9_series_46, gX9_series_48, Rd_some, Wr_some, Cont_some, Cont_none, iso_O, true_and, hg_s, hg_n, hput_hput]
            have hP := PV_r u
            have nA := ka.2.1
            obtain ⟨o0, h57⟩ := m1 57 (by decide) (by decide)
            obtain ⟨t0, h58⟩ := m1 58 (by decide) (by decide)
            obtain ⟨w0, h59⟩ := m1 59 (by decide) (by decide)
            obtain ⟨b0, h60⟩ := m1 60 (by decide) (by decide)
            obtain ⟨g0, h49, -⟩ := m1 49 (by decide) (by decide)
            have vA : ∀ H', hget H' 41 = cM (wFt S 0) → (∀ q, 42 ≤ q → q ≤ 45 → hget H' q = hget H1 q) → VR H' (wFt S 0) a (S.1.2 k) := fun H' e1 e2 => m1.vr2 (S := wFt S 0) h2 h4 ha hoa e1 e2
            have t1 := fun Q => sp_take (H := H1) (Q := Q) (S := wFt S 0) (A := 57) (by decide) hP (fun c => vA _ (by rw [hg_n (by omega)]; exact va.1) (fun q q1 q2 => hg_n (by omega))) ka.2.2.1 h57
            simp (disch := omega) only [gX9_series_49, gX9_series_50, gX9_series_53, gX9_series_55, gX9_series_56, gX9_series_57, fl_9_23, gX9_series_60, gX9_series_61, gX9_series_63, Rd_some, Wr_some, Cont_some, Cont_none, iso_O, true_and, hg_s, hg_n, hput_hput, va.1, sp_prime, t1]
            generalize hO : mix (Xz (PV u) (S.1.2 k).2.2 (S.1.2 k).2.1) o0 64 = O
            have vO : ∀ j, 0 ≤ j → j < 64 → O j = Xz (PV u) (S.1.2 k).2.2 (S.1.2 k).2.1 j := fun j j0 j1 => by rw [← hO]; exact mix_in ⟨j0, j1⟩
            have o0' := vO 0 (by omega) (by omega)
            rw [Xz_in (by omega)] at o0'
            have m0 := em (P := PV u) (by omega) ((S.1.2 k).2.2 0)
            have ms := em (P := PV u) (by omega) (((S.1.2 k).2.2 0 % PV u) ^ (PV u - 2).toNat)
            have y41 : hget (hput H1 57 (cL 64 O)) 41 = cM (wFt S 0) := by rw [hg_n (by omega)]; exact va.1
            have q0 : ∀ q, q ≠ 57 → hget (hput H1 57 (cL 64 O)) q = hget H1 q := fun q q1 => hg_n q1
            have q57 : hget (hput H1 57 (cL 64 O)) 57 = cL 64 O := hg_s
            have f2 : Fm 41 60 H (hput H1 57 (cL 64 O)) := f1.put (by omega)
            generalize hput H1 57 (cL 64 O) = H2 at *
            by_cases hz : (S.1.2 k).2.2 0 % PV u = 0
            · rw [if_pos hz] at hq
              rw [hz] at o0'
              simp (disch := omega) only [gX9_series_66, gX9_series_67, fl_9_23, gX9_series_70, gX9_series_71, aL_g, gX9_series_72, gX9_series_73T, gX9_series_73F, gX9_series_74T, gX9_series_74F, gX9_series_77, gX9_series_78, gX9_series_79, gX9_series_82, Rd_some, Wr_some, Cont_some, Cont_none, iso_O, true_and, hg_s, hg_n, hput_hput, gX9_fails_0, gX9_fails_1, gX9_fails_2, pf_9_0, gX9_fails_5, gX9_fails_7, gX9_fails_8, gX9_fails_9, Rd_some, Wr_some, Cont_some, Cont_none, iso_O, true_and, hg_s, hg_n, hput_hput, y41, q57, o0']
              have MH2 : MH H2 (wFt S 0) T := m1.work (fun q q1 q2 => q0 q (by omega)) ⟨O, q57⟩ ⟨t0, by rw [q0 58 (by omega)]; exact h58⟩ ⟨w0, by rw [q0 59 (by omega)]; exact h59⟩ ⟨b0, by rw [q0 60 (by omega)]; exact h60⟩
              exact hq _ (MJ.ft (S := wFt S 0) MH2 h2 h3 h4 5) (f2.put (by omega))
            · rw [if_neg hz] at hq
              have hnz : ¬ O 0 = 0 := by rw [o0']; exact hz
              simp (disch := omega) only [gX9_series_66, gX9_series_67, fl_9_23, gX9_series_70, gX9_series_71, aL_g, gX9_series_72, gX9_series_73T, gX9_series_73F, gX9_series_74T, gX9_series_74F, gX9_series_77, gX9_series_78, gX9_series_79, gX9_series_82, gX9_series_83, gX9_series_84, gX9_series_87, gX9_series_88, gX9_series_89, gX9_series_91, gX9_series_94, gX9_series_96, gX9_series_97, Rd_some, Wr_some, Cont_some, Cont_none, iso_O, true_and, hg_s, hg_n, hput_hput, y41, q57, o0', sp_inv hP]
              have key := lp_seO (H := H2) (Q := Q) (S := wFt S 0) (P := PV u) (s := ((S.1.2 k).2.2 0 % PV u) ^ (PV u - 2).toNat % PV u) (n := n) (X := O) (Y := Xz (PV u) (S.1.2 k).2.2 (S.1.2 k).2.1) (l1 := some (vi a)) (l2 := some (vi u)) (l4 := some (vi 0)) y41 hP q57 (fun j j0 j1 => by rw [vO j j0 j1]; exact Xz_r (by omega) _ _ _) vO ms (by omega) (fun o l9 l10 l11 l12 ho => by
                have z41 : hget (hput H2 59 (cL 64 o)) 41 = cM (wFt S 0) := by rw [hg_n (by omega)]; exact y41
                simp (disch := omega) only [gX9_series_183, gX9_series_184, gX9_series_185, Rd_some, Wr_some, Cont_some, Cont_none, iso_O, true_and, hg_s, hg_n, hput_hput, z41]
                rw [sp_kp (S := wFt S 0) z41 (SR u (S.1.2 k) n) hg_s (g := g0) (by rw [hg_n (by omega), q0 49 (by omega)]; exact h49) (by omega)]
                simp (disch := omega) only [gX9_series_188, Rd_some, Wr_some, Cont_some, Cont_none, iso_O, true_and, hg_s, hg_n, hput_hput]
                refine hq _ (MJ.sh3 (S1 := wFt S 0) m1 h2 h3 h4 (fun q q1 q2 q3 => by rw [hg_n q3, hg_n (by omega), hg_n (by omega)]; exact q0 q (by omega)) (by rw [hg_n (by omega), hg_s]) hg_s (fun j j0 j1 => ?_) (by omega) ⟨O, by rw [hg_n (by omega), hg_n (by omega), hg_n (by omega)]; exact q57⟩ ⟨t0, by rw [hg_n (by omega), hg_n (by omega), hg_n (by omega), q0 58 (by omega)]; exact h58⟩ ⟨o, by rw [hg_n (by omega), hg_n (by omega), hg_s]⟩ ⟨b0, by rw [hg_n (by omega), hg_n (by omega), hg_n (by omega), q0 60 (by omega)]; exact h60⟩) (((f2.put (by omega)).put (by omega)).put (by omega))
                have j1 : j < n := j1
                rw [mix_in ⟨j0, j1⟩]
                exact ho j j0 j1) n.toNat 0 w0 none none none (by omega) (fun j j0 j1 => by omega)
              rw [hput_same (a := 59) (c := cL 64 w0) (by rw [q0 59 (by omega)]; exact h59)] at key
              exact key
          · rw [if_neg hl] at hq
            rw [sp_a1C (S := wFt S 0) m1 h2 ha hoa la hl]
            simp (disch := omega) only [gX9_series_39, gX9_series_41, gX9_series_43T, gX9_series_43F, gX9_series_46, gX9_series_48, Rd_some, Wr_some, Cont_some, Cont_none, iso_O, true_and, hg_s, hg_n, hput_hput]
            exact hq _ (MJ.ft h1 h2 h3 h4 2) (Fm.rf.put (by omega))
      · rw [if_neg hv0] at hq
        simp (disch := omega) only [gX9_series_0, gX9_series_1, gX9_series_2, pf_9_0, gX9_series_5, gX9_series_6, gX9_series_9T, gX9_series_9F, gX9_series_12, gX9_series_13, gX9_series_16T, gX9_series_16F, gX9_series_19, gX9_series_20, gX9_series_21, gX9_series_22, gX9_series_23, gX9_series_25, gX9_series_28T, gX9_series_28F, gX9_series_31, gX9_series_33, gX9_series_34, gX9_series_35, gX9_series_36, gX9_series_39, gX9_series_41, gX9_series_43T, gX9_series_43F, gX9_series_46, gX9_series_48, gX9_series_49, gX9_series_50, gX9_series_53, gX9_series_55, gX9_series_56, gX9_series_57, fl_9_23, gX9_series_60, gX9_series_61, gX9_series_63, gX9_series_66, gX9_series_67, gX9_series_70, gX9_series_71, aL_g, gX9_series_72, gX9_series_73T, gX9_series_73F, gX9_series_74T, gX9_series_74F, gX9_series_77, gX9_series_78, gX9_series_79, gX9_series_82, gX9_series_83, gX9_series_84, gX9_series_87, gX9_series_88, gX9_series_89, gX9_series_91, gX9_series_94, gX9_series_96, gX9_series_97, gX9_series_99, gX9_series_101, gX9_series_102T, gX9_series_102F, gX9_series_105, gX9_series_107T, gX9_series_107F, gX9_series_110, gX9_series_111, gX9_series_114, gX9_series_115, gX9_series_117, gX9_series_118, gX9_series_120, gX9_series_122, gX9_series_124T, gX9_series_124F, gX9_series_127, gX9_series_129, gX9_series_131, gX9_series_132, gX9_series_135, gX9_series_137, gX9_series_138, gX9_series_139, gX9_series_140, fl_9_25, gX9_series_143, gX9_series_145, gX9_series_147, gX9_series_148, gX9_series_149, gX9_series_150, gX9_series_151, gX9_series_153, gX9_series_154, gX9_series_156, gX9_series_159, gX9_series_162, gX9_series_163, gX9_series_166, gX9_series_168, gX9_series_170, gX9_series_172, gX9_series_173, gX9_series_175, gX9_series_176, sL_p, gX9_series_177, gX9_series_180, gX9_series_183, gX9_series_184, gX9_series_185, gX9_series_188, Rd_some, Wr_some, Cont_some, Cont_none, iso_O, true_and, hg_s, hg_n, hput_hput, hx, sp_mplT, sp_mprT, sp_wiT, sp_wiF]
        exact hq _ (MJ.ft h1 h2 h3 h4 0) (Fm.rf.put (by omega))
    · rw [if_neg (fun t => hw0 t.2)] at hq
      simp (disch := omega) only [gX9_series_0, gX9_series_1, gX9_series_2, pf_9_0, gX9_series_5, gX9_series_6, gX9_series_9T, gX9_series_9F, gX9_series_12, gX9_series_13, gX9_series_16T, gX9_series_16F, gX9_series_19, gX9_series_20, gX9_series_21, gX9_series_22, gX9_series_23, gX9_series_25, gX9_series_28T, gX9_series_28F, gX9_series_31, gX9_series_33, gX9_series_34, gX9_series_35, gX9_series_36, gX9_series_39, gX9_series_41, gX9_series_43T, gX9_series_43F, gX9_series_46, gX9_series_48, gX9_series_49, gX9_series_50, gX9_series_53, gX9_series_55, gX9_series_56, gX9_series_57, fl_9_23, gX9_series_60, gX9_series_61, gX9_series_63, gX9_series_66, gX9_series_67, gX9_series_70, gX9_series_71, aL_g, gX9_series_72, gX9_series_73T, gX9_series_73F, gX9_series_74T, gX9_series_74F, gX9_series_77, gX9_series_78, gX9_series_79, gX9_series_82, gX9_series_83, gX9_series_84, gX9_series_87, gX9_series_88, gX9_series_89, gX9_series_91, gX9_series_94, gX9_series_96, gX9_series_97, gX9_series_99, gX9_series_101, gX9_series_102T, gX9_series_102F, gX9_series_105, gX9_series_107T, gX9_series_107F, gX9_series_110, gX9_series_111, gX9_series_114, gX9_series_115, gX9_series_117, gX9_series_118, gX9_series_120, gX9_series_122, gX9_series_124T, gX9_series_124F, gX9_series_127, gX9_series_129, gX9_series_131, gX9_series_132, gX9_series_135, gX9_series_137, gX9_series_138, gX9_series_139, gX9_series_140, fl_9_25, gX9_series_143, gX9_series_145, gX9_series_147, gX9_series_148, gX9_series_149, gX9_series_150, gX9_series_151, gX9_series_153, gX9_series_154, gX9_series_156, gX9_series_159, gX9_series_162, gX9_series_163, gX9_series_166, gX9_series_168, gX9_series_170, gX9_series_172, gX9_series_173, gX9_series_175, gX9_series_176, sL_p, gX9_series_177, gX9_series_180, gX9_series_183, gX9_series_184, gX9_series_185, gX9_series_188, Rd_some, Wr_some, Cont_some, Cont_none, iso_O, true_and, hg_s, hg_n, hput_hput, hx, sp_mplT, sp_mprT, sp_wiT, sp_mprF]
      exact hq _ (MJ.ft h1 h2 h3 h4 0) (Fm.rf.put (by omega))
  · rw [if_neg (fun t => ha t.1)] at hq
    simp (disch := omega) only [gX9_series_0, gX9_series_1, gX9_series_2, pf_9_0, gX9_series_5, gX9_series_6, gX9_series_9T, gX9_series_9F, gX9_series_12, gX9_series_13, gX9_series_16T, gX9_series_16F, gX9_series_19, gX9_series_20, gX9_series_21, gX9_series_22, gX9_series_23, gX9_series_25, gX9_series_28T, gX9_series_28F, gX9_series_31, gX9_series_33, gX9_series_34, gX9_series_35, gX9_series_36, gX9_series_39, gX9_series_41, gX9_series_43T, gX9_series_43F, gX9_series_46, gX9_series_48, gX9_series_49, gX9_series_50, gX9_series_53, gX9_series_55, gX9_series_56, gX9_series_57, fl_9_23, gX9_series_60, gX9_series_61, gX9_series_63, gX9_series_66, gX9_series_67, gX9_series_70, gX9_series_71, aL_g, gX9_series_72, gX9_series_73T, gX9_series_73F, gX9_series_74T, gX9_series_74F, gX9_series_77, gX9_series_78, gX9_series_79, gX9_series_82, gX9_series_83, gX9_series_84, gX9_series_87, gX9_series_88, gX9_series_89, gX9_series_91, gX9_series_94, gX9_series_96, gX9_series_97, gX9_series_99, gX9_series_101, gX9_series_102T, gX9_series_102F, gX9_series_105, gX9_series_107T, gX9_series_107F, gX9_series_110, gX9_series_111, gX9_series_114, gX9_series_115, gX9_series_117, gX9_series_118, gX9_series_120, gX9_series_122, gX9_series_124T, gX9_series_124F, gX9_series_127, gX9_series_129, gX9_series_131, gX9_series_132, gX9_series_135, gX9_series_137, gX9_series_138, gX9_series_139, gX9_series_140, fl_9_25, gX9_series_143, gX9_series_145, gX9_series_147, gX9_series_148, gX9_series_149, gX9_series_150, gX9_series_151, gX9_series_153, gX9_series_154, gX9_series_156, gX9_series_159, gX9_series_162, gX9_series_163, gX9_series_166, gX9_series_168, gX9_series_170, gX9_series_172, gX9_series_173, gX9_series_175, gX9_series_176, sL_p, gX9_series_177, gX9_series_180, gX9_series_183, gX9_series_184, gX9_series_185, gX9_series_188, Rd_some, Wr_some, Cont_some, Cont_none, iso_O, true_and, hg_s, hg_n, hput_hput, hx, sp_mplT, sp_mprT, sp_wiT, sp_mplF]
    exact hq _ (MJ.ft h1 h2 h3 h4 0) (Fm.rf.put (by omega))

theorem mx_div (hm : MJ H S) (c : (-2147483648 ≤ a ∧ a ≤ 2147483647) ∧ (-2147483648 ≤ b ∧ b ≤ 2147483647) ∧ (-2147483648 ≤ u ∧ u ≤ 2147483647)) (hq : MG H Q (o_div S a b u)) : Go 168 0 [some (.ref 41), some (vi a), some (vi b), some (vi u), none, none, none, none, none, none, none, none, none, none, none] [] H Q := by
  obtain ⟨T, h1, h2, h3, h4⟩ := hm
  have hx := h1.v.1
  unfold o_div MG at hq
  by_cases ha : 0 ≤ a ∧ a < 12
  · by_cases hb : 0 ≤ b ∧ b < 12
    · by_cases hw0 : 0 ≤ u ∧ u ≤ 2
      · rw [if_pos ⟨ha, hb, hw0⟩] at hq
        have m1 := h1.ft 0
        unfold o_two at hq
        simp (disch := omega) only [gX9_divide_0, gX9_divide_1, gX9_divide_2, pf_9_0, gX9_divide_5, gX9_divide_6, gX9_divide_9T, gX9_divide_9F, gX9_divide_12, gX9_divide_13, gX9_divide_16T, gX9_divide_16F, gX9_divide_19, gX9_divide_20, gX9_divide_23T, gX9_divide_23F, gX9_divide_26, gX9_divide_27, gX9_divide_28, gX9_divide_29, gX9_divide_30, gX9_divide_31, Rd_some, Wr_some, Cont_some, Cont_none, iso_O, true_and, hg_s, hg_n, hput_hput, hx, sp_mplT, sp_mprT]
        change Go _ _ _ _ (hput H 41 (cM (wFt S 0))) _
        cases hoa : S.1.1 a with
        | none =>
          cases hob : S.1.1 b with
          | none =>
            rw [hoa, hob] at hq
            dsimp only at hq
            rw [sp_a2N (S := wFt S 0) m1 h2 ha hb (Or.inl hoa)]
            simp (disch := omega) only [gX9_divide_34, gX9_divide_36, gX9_divide_38T, gX9_divide_38F, gX9_divide_41, gX9_divide_43, Rd_some, Wr_some, Cont_some, Cont_none, iso_O, true_and, hg_s, hg_n, hput_hput]
            exact hq _ (MJ.ft h1 h2 h3 h4 1) (Fm.rf.put (by omega))
          | some l =>
            rw [hoa, hob] at hq
            dsimp only at hq
            rw [sp_a2N (S := wFt S 0) m1 h2 ha hb (Or.inl hoa)]
            simp (disch := omega) only [gX9_divide_34, gX9_divide_36, gX9_divide_38T, gX9_divide_38F, gX9_divide_41, gX9_divide_43, Rd_some, Wr_some, Cont_some, Cont_none, iso_O, true_and, hg_s, hg_n, hput_hput]
            exact hq _ (MJ.ft h1 h2 h3 h4 1) (Fm.rf.put (by omega))
        | some k =>
          cases hob : S.1.1 b with
          | none =>
            rw [hoa, hob] at hq
            dsimp only at hq
            rw [sp_a2N (S := wFt S 0) m1 h2 ha hb (Or.inr hob)]
            simp (disch := omega) only [gX9_divide_34, gX9_divide_36, gX9_divide_38T, gX9_divide_38F, gX9_divide_41, gX9_divide_43, Rd_some, Wr_some, Cont_some, Cont_none, iso_O, true_and, hg_s, hg_n, hput_hput]
            exact hq _ (MJ.ft h1 h2 h3 h4 1) (Fm.rf.put (by omega))
          | some l =>
            rw [hoa, hob] at hq
            dsimp only at hq
            have ka := h4 k ⟨a, ha.1, ha.2, hoa⟩
            have kb := h4 l ⟨b, hb.1, hb.2, hob⟩
            have la := ka.1
            have lb := kb.1
            by_cases hl : (S.1.2 k).1 ≤ 3 ∧ (S.1.2 l).1 ≤ 3
            · rw [if_pos hl] at hq
              rw [sp_a2O (S := wFt S 0) m1 h2 ha hb hoa hob la lb hl]
              have va : VR (hput H 41 (cM (wFt S 0))) (wFt S 0) a (S.1.2 k) := m1.vr (S := wFt S 0) h2 h4 ha hoa
              have vb : VR (hput H 41 (cM (wFt S 0))) (wFt S 0) b (S.1.2 l) := m1.vr (S := wFt S 0) h2 h4 hb hob
              have f1 : Fm 41 60 H (hput H 41 (cM (wFt S 0))) := Fm.rf.put (by omega)
              generalize hput H 41 (cM (wFt S 0)) = H1 at m1 va vb f1
              simp (disch := omega) only [gX9_divide_34, gX9_divide_36, gX9_divide_38T, gX9_divide_38F, gX9_divide_41, gX9_divide_43, Rd_some, Wr_some, Cont_some, Cont_none, iso_O, true_and, hg_s, hg_n, hput_hput]
              have hP := PV_r u
              have nA := ka.2.1
              obtain ⟨o0, h57⟩ := m1 57 (by decide) (by decide)
              obtain ⟨t0, h58⟩ := m1 58 (by decide) (by decide)
              obtain ⟨w0, h59⟩ := m1 59 (by decide) (by decide)
              obtain ⟨b0, h60⟩ := m1 60 (by decide) (by decide)
              obtain ⟨g0, h49, -⟩ := m1 49 (by decide) (by decide)
              have vA : ∀ H', hget H' 41 = cM (wFt S 0) → (∀ q, 42 ≤ q → q ≤ 45 → hget H' q = hget H1 q) → VR H' (wFt S 0) a (S.1.2 k) := fun H' e1 e2 => m1.vr2 (S := wFt S 0) h2 h4 ha hoa e1 e2
              have vB : ∀ H', hget H' 41 = cM (wFt S 0) → (∀ q, 42 ≤ q → q ≤ 45 → hget H' q = hget H1 q) → VR H' (wFt S 0) b (S.1.2 l) := fun H' e1 e2 => m1.vr2 (S := wFt S 0) h2 h4 hb hob e1 e2
              have nB := kb.2.1
              obtain ⟨r0, h50, -⟩ := m1 50 (by decide) (by decide)
              have t1 := fun Q => sp_take (H := H1) (Q := Q) (S := wFt S 0) (A := 57) (by decide) hP (fun c => vA _ (by rw [hg_n (by omega)]; exact va.1) (fun q q1 q2 => hg_n (by omega))) ka.2.2.1 h57
              simp (disch := omega) only [gX9_divide_44, gX9_divide_45, gX9_divide_48, gX9_divide_50, gX9_divide_51, gX9_divide_52, fl_9_23, gX9_divide_55, gX9_divide_56, gX9_divide_58, Rd_some, Wr_some, Cont_some, Cont_none, iso_O, true_and, hg_s, hg_n, hput_hput, va.1, sp_prime, t1]
              generalize hO : mix (Xz (PV u) (S.1.2 k).2.2 (S.1.2 k).2.1) o0 64 = O
              have vO : ∀ j, 0 ≤ j → j < 64 → O j = Xz (PV u) (S.1.2 k).2.2 (S.1.2 k).2.1 j := fun j j0 j1 => by rw [← hO]; exact mix_in ⟨j0, j1⟩
              have y41 : ∀ c, hget (hput H1 57 c) 41 = cM (wFt S 0) := fun c => by rw [hg_n (by omega)]; exact va.1
              have t2 := fun Q c => sp_take (H := hput H1 57 c) (Q := Q) (S := wFt S 0) (A := 58) (by decide) hP (fun d => vB _ (by rw [hg_n (by omega)]; exact y41 c) (fun q q1 q2 => by rw [hg_n (by omega), hg_n (by omega)])) kb.2.2.1 (f := t0) (by rw [hg_n (by omega)]; exact h58)
              simp (disch := omega) only [gX9_divide_61, gX9_divide_62, gX9_divide_63, fl_9_24, gX9_divide_66, gX9_divide_67, gX9_divide_69, Rd_some, Wr_some, Cont_some, Cont_none, iso_O, true_and, hg_s, hg_n, hput_hput, y41, t2]
              generalize hT2 : mix (Xz (PV u) (S.1.2 l).2.2 (S.1.2 l).2.1) t0 64 = T2
              have vT : ∀ j, 0 ≤ j → j < 64 → T2 j = Xz (PV u) (S.1.2 l).2.2 (S.1.2 l).2.1 j := fun j j0 j1 => by rw [← hT2]; exact mix_in ⟨j0, j1⟩
              have q0 : ∀ q, q ≠ 57 → q ≠ 58 → hget (hput (hput H1 57 (cL 64 O)) 58 (cL 64 T2)) q = hget H1 q := fun q q1 q2 => by rw [hg_n q2, hg_n q1]
              have q57 : hget (hput (hput H1 57 (cL 64 O)) 58 (cL 64 T2)) 57 = cL 64 O := by rw [hg_n (by omega), hg_s]
              have q58 : hget (hput (hput H1 57 (cL 64 O)) 58 (cL 64 T2)) 58 = cL 64 T2 := hg_s
              have f2 : Fm 41 60 H (hput (hput H1 57 (cL 64 O)) 58 (cL 64 T2)) := (f1.put (by omega)).put (by omega)
              generalize hput (hput H1 57 (cL 64 O)) 58 (cL 64 T2) = H2 at *
              have q41 : hget H2 41 = cM (wFt S 0) := by rw [q0 41 (by omega) (by omega)]; exact va.1
              have hdg := dg_r (PV u) (S.1.2 l).2.2 (S.1.2 l).2.1.toNat
              have hdg : -1 ≤ DGR u (S.1.2 l) ∧ DGR u (S.1.2 l) < ((S.1.2 l).2.1.toNat : Nat) := hdg
              have dgl := lp_mdg (H := H2) (Q := Q) (S := wFt S 0) (l1 := some (vi a)) (l2 := some (vi b)) (l3 := some (vi u)) (l4 := some (vi 0)) (l5 := some (vl (PV u))) (l6 := none) (l8 := none) (l9 := none) (l10 := none) (l11 := none) (l12 := none) (l13 := none) (l14 := none) q41 hP q58 nB vT 64 (Nat.le_refl 64)
              rw [show min 64 (S.1.2 l).2.1.toNat = (S.1.2 l).2.1.toNat by omega, show ((64 : Nat) : Int) - 1 = 63 from rfl] at dgl
              change _ ↔ Go 168 99 [some (.ref 41), some (vi a), some (vi b), some (vi u), some (vi 0), some (vl (PV u)), none, some (vi (DGR u (S.1.2 l))), none, none, none, none, none, none, none] [] H2 Q at dgl
              simp (disch := omega) only [gX9_divide_72, gX9_divide_74, Rd_some, Wr_some, Cont_some, Cont_none, iso_O, true_and, hg_s, hg_n, hput_hput]
              refine dgl.mpr ?_
              by_cases hz : DGR u (S.1.2 l) < 0
              · rw [if_pos hz] at hq
                simp (disch := omega) only [gX9_divide_99, gX9_divide_101T, gX9_divide_101F, gX9_divide_104, gX9_divide_105, gX9_divide_106, gX9_divide_109, Rd_some, Wr_some, Cont_some, Cont_none, iso_O, true_and, hg_s, hg_n, hput_hput, gX9_fails_0, gX9_fails_1, gX9_fails_2, pf_9_0, gX9_fails_5, gX9_fails_7, gX9_fails_8, gX9_fails_9, Rd_some, Wr_some, Cont_some, Cont_none, iso_O, true_and, hg_s, hg_n, hput_hput, q41]
                have MH2 : MH H2 (wFt S 0) T := m1.work (fun q q1 q2 => q0 q (by omega) (by omega)) ⟨O, q57⟩ ⟨T2, q58⟩ ⟨w0, by rw [q0 59 (by omega) (by omega)]; exact h59⟩ ⟨b0, by rw [q0 60 (by omega) (by omega)]; exact h60⟩
                exact hq _ (MJ.ft (S := wFt S 0) MH2 h2 h3 h4 5) (f2.put (by omega))
              · rw [if_neg hz] at hq
                have va2 := vA H2 q41 (fun q q1 q2 => q0 q (by omega) (by omega))
                have cg' : (((DGR u (S.1.2 l)).toNat : Nat) : Int) = DGR u (S.1.2 l) := by omega
                have hqn : 0 ≤ DQN u (S.1.2 k) (S.1.2 l) ∧ DQN u (S.1.2 k) (S.1.2 l) ≤ 64 := by unfold DQN; omega
                have cq : (((DQN u (S.1.2 k) (S.1.2 l)).toNat : Nat) : Int) = DQN u (S.1.2 k) (S.1.2 l) := by omega
                have tg := vT (DGR u (S.1.2 l)) (by omega) (by omega)
                rw [Xz_in (by omega)] at tg
                have mg := em (P := PV u) (by omega) ((S.1.2 l).2.2 (DGR u (S.1.2 l)))
                have ms := em (P := PV u) (by omega) (((S.1.2 l).2.2 (DGR u (S.1.2 l)) % PV u) ^ (PV u - 2).toNat)
                have ms : 0 ≤ DSC u (S.1.2 l) ∧ DSC u (S.1.2 l) < PV u := ms
                have eHW : H2 = HW H2 O T2 w0 := (HW_id q57 q58 (by rw [q0 59 (by omega) (by omega)]; exact h59)).symm
                have hqd : DQN u (S.1.2 k) (S.1.2 l) = if (S.1.2 k).2.1 < DGR u (S.1.2 l) then 0 else (S.1.2 k).2.1 - DGR u (S.1.2 l) := by unfold DQN; split <;> omega
                have work : Go 168 154 [some (.ref 41), some (vi a), some (vi b), some (vi u), some (vi 0), some (vl (PV u)), none, some (vi (DGR u (S.1.2 l))), some (vi (DQN u (S.1.2 k) (S.1.2 l))), some (vl (DSC u (S.1.2 l))), none, some (vi (DQN u (S.1.2 k) (S.1.2 l) - 1)), none, none, none] [] H2 Q := by
                  have key := lp_md1 (H := H2) (Q := Q) (S := wFt S 0) (P := PV u) (A0 := Xz (PV u) (S.1.2 k).2.2 (S.1.2 k).2.1) (B0 := Xz (PV u) (S.1.2 l).2.2 (S.1.2 l).2.1) (B := T2) (g := (DGR u (S.1.2 l)).toNat) (q := (DQN u (S.1.2 k) (S.1.2 l)).toNat) (s := DSC u (S.1.2 l)) (l1 := some (vi a)) (l2 := some (vi b)) (l3 := some (vi u)) (l4 := some (vi 0)) q41 hP (by omega) (by intro t; unfold DQN at *; omega) (fun j j0 j1 => by rw [vT j j0 j1]; exact Xz_r (by omega) _ _ _) vT (fun j _ _ => Xz_r (by omega) _ _ _) ms (fun A C l11 l12 l13 l14 vA' vC => by
                    rw [cg', cq]
                    have z41 : hget (HW H2 A T2 C) 41 = cM (wFt S 0) := by rw [HW_q (by omega)]; exact q41
                    have zq : ∀ q, q < 57 → hget (HW H2 A T2 C) q = hget H1 q := fun q q1 => by rw [HW_q (by omega)]; exact q0 q (by omega) (by omega)
                    have z60 : hget (HW H2 A T2 C) 60 = cL 65 b0 := by rw [HW_q (by omega), q0 60 (by omega) (by omega)]; exact h60
                    have z57 : hget (HW H2 A T2 C) 57 = cL 64 A := HW_57
                    have z58 : hget (HW H2 A T2 C) 58 = cL 64 T2 := HW_58
                    have z59 : hget (HW H2 A T2 C) 59 = cL 64 C := HW_59
                    have f3 : Fm 41 60 H (HW H2 A T2 C) := HW_fm f2
                    generalize HW H2 A T2 C = H3 at *
                    simp (disch := omega) only [gX9_divide_245, gX9_divide_246, gX9_divide_248, pf_9_13, gX9_divide_251, gX9_divide_252, Rd_some, Wr_some, Cont_some, Cont_none, iso_O, true_and, hg_s, hg_n, hput_hput, z41]
                    change Go _ _ _ _ (hput H3 41 (cM (wSh (wFt S 0) 4 (DGR u (S.1.2 l)) (DRS u (S.1.2 k) (S.1.2 l))))) _
                    have eH3 : hput H3 41 (cM (wSh (wFt S 0) 4 (DGR u (S.1.2 l)) (DRS u (S.1.2 k) (S.1.2 l)))) = hput (hput H3 41 (cM (wSh (wFt S 0) 4 (DGR u (S.1.2 l)) (DRS u (S.1.2 k) (S.1.2 l))))) 50 (cL 64 (mix A r0 0)) := by
                      rw [mix_0]
                      exact (hput_same (by rw [hg_n (by omega), zq 50 (by omega)]; exact h50)).symm
                    rw [eH3, lp_md3 (S := wSh (wFt S 0) 4 (DGR u (S.1.2 l)) (DRS u (S.1.2 k) (S.1.2 l))) hg_s (A := A) (g := DGR u (S.1.2 l)) (by rw [hg_n (by omega)]; exact z57) (by omega) (DGR u (S.1.2 l)).toNat 0 (by omega) (by omega)]
                    have w41 : hget (hput (hput H3 41 (cM (wSh (wFt S 0) 4 (DGR u (S.1.2 l)) (DRS u (S.1.2 k) (S.1.2 l))))) 50 (cL 64 (mix A r0 (DGR u (S.1.2 l))))) 41 = cM (wSh (wFt S 0) 4 (DGR u (S.1.2 l)) (DRS u (S.1.2 k) (S.1.2 l))) := by rw [hg_n (by omega), hg_s]
                    simp (disch := omega) only [gX9_divide_281, gX9_divide_282, gX9_divide_284, Rd_some, Wr_some, Cont_some, Cont_none, iso_O, true_and, hg_s, hg_n, hput_hput, w41]
                    rw [sp_kp (S := wSh (wFt S 0) 4 (DGR u (S.1.2 l)) (DRS u (S.1.2 k) (S.1.2 l))) w41 (DQT u (S.1.2 k) (S.1.2 l)) (o := C) (g := g0) (by rw [hg_n (by omega), hg_n (by omega)]; exact z59) (by rw [hg_n (by omega), hg_n (by omega), zq 49 (by omega)]; exact h49) hqn]
                    simp (disch := omega) only [gX9_divide_287, Rd_some, Wr_some, Cont_some, Cont_none, iso_O, true_and, hg_s, hg_n, hput_hput]
                    refine hq _ (MJ.sh34 (S1 := wFt S 0) m1 h2 h3 h4 (fun q q1 q2 q3 q4 => by rw [hg_n q3, hg_n (by omega), hg_n q4, hg_n (by omega)]; exact zq q (by omega)) (by rw [hg_n (by omega), hg_s]; rfl) hg_s (fun j j0 j1 => ?_) hqn (r := mix A r0 (DGR u (S.1.2 l))) (by rw [hg_n (by omega), hg_n (by omega), hg_s]) (fun j j0 j1 => ?_) (by omega) ⟨A, by rw [hg_n (by omega), hg_n (by omega), hg_n (by omega), hg_n (by omega)]; exact z57⟩ ⟨T2, by rw [hg_n (by omega), hg_n (by omega), hg_n (by omega), hg_n (by omega)]; exact z58⟩ ⟨C, by rw [hg_n (by omega), hg_n (by omega), hg_n (by omega), hg_n (by omega)]; exact z59⟩ ⟨b0, by rw [hg_n (by omega), hg_n (by omega), hg_n (by omega), hg_n (by omega)]; exact z60⟩) ((((f3.put (by omega)).put (by omega)).put (by omega)).put (by omega))
                    · have j1 : j < DQN u (S.1.2 k) (S.1.2 l) := j1
                      have := vC j.toNat (by omega)
                      rw [show ((j.toNat : Nat) : Int) = j by omega] at this
                      rw [mix_in ⟨j0, j1⟩]
                      exact this
                    · have j1 : j < DGR u (S.1.2 l) := j1
                      rw [mix_in ⟨j0, j1⟩]
                      exact vA' j j0 (by omega)) (DQN u (S.1.2 k) (S.1.2 l)).toNat 0 O w0 none none none (by omega) vO (fun j j0 j1 => by omega)
                  rw [cg', cq, ← eHW, show DQN u (S.1.2 k) (S.1.2 l) - ((0 : Nat) : Int) - 1 = DQN u (S.1.2 k) (S.1.2 l) - 1 by omega] at key
                  exact key
                by_cases hlt : (S.1.2 k).2.1 < DGR u (S.1.2 l)
                · rw [if_pos hlt] at hqd
                  rw [hqd] at work
                  simp (disch := omega) only [gX9_divide_99, gX9_divide_101T, gX9_divide_101F, gX9_divide_104, gX9_divide_105, gX9_divide_106, gX9_divide_109, gX9_divide_110, gX9_divide_111, gX9_divide_112, gX9_divide_115, gX9_divide_117T, gX9_divide_117F, gX9_divide_120, gX9_divide_121, gX9_divide_124, gX9_divide_125, gX9_divide_126, gX9_divide_129, gX9_divide_131, gX9_divide_132, gX9_divide_134, gX9_divide_135, fl_9_24, gX9_divide_138, gX9_divide_140, aL_g, gX9_divide_141, gX9_divide_143, gX9_divide_146, gX9_divide_148, gX9_divide_150, gX9_divide_151, gX9_divide_152, Rd_some, Wr_some, Cont_some, Cont_none, iso_O, true_and, hg_s, hg_n, hput_hput, q41, q58, vr_cnt va2, tg, sp_inv hP]
                  exact work
                · rw [if_neg hlt] at hqd
                  rw [hqd] at work
                  simp (disch := omega) only [gX9_divide_99, gX9_divide_101T, gX9_divide_101F, gX9_divide_104, gX9_divide_105, gX9_divide_106, gX9_divide_109, gX9_divide_110, gX9_divide_111, gX9_divide_112, gX9_divide_115, gX9_divide_117T, gX9_divide_117F, gX9_divide_120, gX9_divide_121, gX9_divide_124, gX9_divide_125, gX9_divide_126, gX9_divide_129, gX9_divide_131, gX9_divide_132, gX9_divide_134, gX9_divide_135, fl_9_24, gX9_divide_138, gX9_divide_140, aL_g, gX9_divide_141, gX9_divide_143, gX9_divide_146, gX9_divide_148, gX9_divide_150, gX9_divide_151, gX9_divide_152, Rd_some, Wr_some, Cont_some, Cont_none, iso_O, true_and, hg_s, hg_n, hput_hput, q41, q58, vr_cnt va2, tg, sp_inv hP]
                  exact work
            · rw [if_neg hl] at hq
              rw [sp_a2C (S := wFt S 0) m1 h2 ha hb hoa hob la lb hl]
              simp (disch := omega) only [gX9_divide_34, gX9_divide_36, gX9_divide_38T, gX9_divide_38F, gX9_divide_41, gX9_divide_43, Rd_some, Wr_some, Cont_some, Cont_none, iso_O, true_and, hg_s, hg_n, hput_hput]
              exact hq _ (MJ.ft h1 h2 h3 h4 2) (Fm.rf.put (by omega))
      · rw [if_neg (fun t => hw0 t.2.2)] at hq
        simp (disch := omega) only [gX9_divide_0, gX9_divide_1, gX9_divide_2, pf_9_0, gX9_divide_5, gX9_divide_6, gX9_divide_9T, gX9_divide_9F, gX9_divide_12, gX9_divide_13, gX9_divide_16T, gX9_divide_16F, gX9_divide_19, gX9_divide_20, gX9_divide_23T, gX9_divide_23F, gX9_divide_26, gX9_divide_27, gX9_divide_28, gX9_divide_29, gX9_divide_30, gX9_divide_31, gX9_divide_34, gX9_divide_36, gX9_divide_38T, gX9_divide_38F, gX9_divide_41, gX9_divide_43, gX9_divide_44, gX9_divide_45, gX9_divide_48, gX9_divide_50, gX9_divide_51, gX9_divide_52, fl_9_23, gX9_divide_55, gX9_divide_56, gX9_divide_58, gX9_divide_61, gX9_divide_62, gX9_divide_63, fl_9_24, gX9_divide_66, gX9_divide_67, gX9_divide_69, gX9_divide_72, gX9_divide_74, gX9_divide_76, gX9_divide_78T, gX9_divide_78F, gX9_divide_81, gX9_divide_82, gX9_divide_85, gX9_divide_87, aL_g, gX9_divide_88, gX9_divide_89T, gX9_divide_89F, gX9_divide_90T, gX9_divide_90F, gX9_divide_93, gX9_divide_96, gX9_divide_99, gX9_divide_101T, gX9_divide_101F, gX9_divide_104, gX9_divide_105, gX9_divide_106, gX9_divide_109, gX9_divide_110, gX9_divide_111, gX9_divide_112, gX9_divide_115, gX9_divide_117T, gX9_divide_117F, gX9_divide_120, gX9_divide_121, gX9_divide_124, gX9_divide_125, gX9_divide_126, gX9_divide_129, gX9_divide_131, gX9_divide_132, gX9_divide_134, gX9_divide_135, gX9_divide_138, gX9_divide_140, gX9_divide_141, gX9_divide_143, gX9_divide_146, gX9_divide_148, gX9_divide_150, gX9_divide_151, gX9_divide_152, gX9_divide_154, gX9_divide_156T, gX9_divide_156F, gX9_divide_159, gX9_divide_160, gX9_divide_163, gX9_divide_165, gX9_divide_167, gX9_divide_168, gX9_divide_169, gX9_divide_171, gX9_divide_172, gX9_divide_174, gX9_divide_175, gX9_divide_177, gX9_divide_178, fl_9_25, gX9_divide_181, gX9_divide_183, gX9_divide_185, sL_p, gX9_divide_186, gX9_divide_187, gX9_divide_189, gX9_divide_191, gX9_divide_193T, gX9_divide_193F, gX9_divide_196, gX9_divide_197, gX9_divide_200, gX9_divide_202, gX9_divide_204, gX9_divide_205, gX9_divide_206, gX9_divide_209, gX9_divide_211, gX9_divide_213, gX9_divide_214, gX9_divide_215, gX9_divide_217, gX9_divide_218, gX9_divide_221, gX9_divide_223, gX9_divide_224, gX9_divide_225, gX9_divide_227, gX9_divide_228, gX9_divide_229, gX9_divide_231, gX9_divide_232, gX9_divide_233, gX9_divide_236, gX9_divide_239, gX9_divide_242, gX9_divide_245, gX9_divide_246, gX9_divide_248, pf_9_13, gX9_divide_251, gX9_divide_252, gX9_divide_254, gX9_divide_256, gX9_divide_258T, gX9_divide_258F, gX9_divide_261, gX9_divide_262, fl_9_14, gX9_divide_265, gX9_divide_267, gX9_divide_268, gX9_divide_271, gX9_divide_273, gX9_divide_274, gX9_divide_275, gX9_divide_278, gX9_divide_281, gX9_divide_282, gX9_divide_284, gX9_divide_287, Rd_some, Wr_some, Cont_some, Cont_none, iso_O, true_and, hg_s, hg_n, hput_hput, hx, sp_mplT, sp_mprT, sp_mprF]
        exact hq _ (MJ.ft h1 h2 h3 h4 0) (Fm.rf.put (by omega))
    · rw [if_neg (fun t => hb t.2.1)] at hq
      simp (disch := omega) only [gX9_divide_0, gX9_divide_1, gX9_divide_2, pf_9_0, gX9_divide_5, gX9_divide_6, gX9_divide_9T, gX9_divide_9F, gX9_divide_12, gX9_divide_13, gX9_divide_16T, gX9_divide_16F, gX9_divide_19, gX9_divide_20, gX9_divide_23T, gX9_divide_23F, gX9_divide_26, gX9_divide_27, gX9_divide_28, gX9_divide_29, gX9_divide_30, gX9_divide_31, gX9_divide_34, gX9_divide_36, gX9_divide_38T, gX9_divide_38F, gX9_divide_41, gX9_divide_43, gX9_divide_44, gX9_divide_45, gX9_divide_48, gX9_divide_50, gX9_divide_51, gX9_divide_52, fl_9_23, gX9_divide_55, gX9_divide_56, gX9_divide_58, gX9_divide_61, gX9_divide_62, gX9_divide_63, fl_9_24, gX9_divide_66, gX9_divide_67, gX9_divide_69, gX9_divide_72, gX9_divide_74, gX9_divide_76, gX9_divide_78T, gX9_divide_78F, gX9_divide_81, gX9_divide_82, gX9_divide_85, gX9_divide_87, aL_g, gX9_divide_88, gX9_divide_89T, gX9_divide_89F, gX9_divide_90T, gX9_divide_90F, gX9_divide_93, gX9_divide_96, gX9_divide_99, gX9_divide_101T, gX9_divide_101F, gX9_divide_104, gX9_divide_105, gX9_divide_106, gX9_divide_109, gX9_divide_110, gX9_divide_111, gX9_divide_112, gX9_divide_115, gX9_divide_117T, gX9_divide_117F, gX9_divide_120, gX9_divide_121, gX9_divide_124, gX9_divide_125, gX9_divide_126, gX9_divide_129, gX9_divide_131, gX9_divide_132, gX9_divide_134, gX9_divide_135, gX9_divide_138, gX9_divide_140, gX9_divide_141, gX9_divide_143, gX9_divide_146, gX9_divide_148, gX9_divide_150, gX9_divide_151, gX9_divide_152, gX9_divide_154, gX9_divide_156T, gX9_divide_156F, gX9_divide_159, gX9_divide_160, gX9_divide_163, gX9_divide_165, gX9_divide_167, gX9_divide_168, gX9_divide_169, gX9_divide_171, gX9_divide_172, gX9_divide_174, gX9_divide_175, gX9_divide_177, gX9_divide_178, fl_9_25, gX9_divide_181, gX9_divide_183, gX9_divide_185, sL_p, gX9_divide_186, gX9_divide_187, gX9_divide_189, gX9_divide_191, gX9_divide_193T, gX9_divide_193F, gX9_divide_196, gX9_divide_197, gX9_divide_200, gX9_divide_202, gX9_divide_204, gX9_divide_205, gX9_divide_206, gX9_divide_209, gX9_divide_211, gX9_divide_213, gX9_divide_214, gX9_divide_215, gX9_divide_217, gX9_divide_218, gX9_divide_221, gX9_divide_223, gX9_divide_224, gX9_divide_225, gX9_divide_227, gX9_divide_228, gX9_divide_229, gX9_divide_231, gX9_divide_232, gX9_divide_233, gX9_divide_236, gX9_divide_239, gX9_divide_242, gX9_divide_245, gX9_divide_246, gX9_divide_248, pf_9_13, gX9_divide_251, gX9_divide_252, gX9_divide_254, gX9_divide_256, gX9_divide_258T, gX9_divide_258F, gX9_divide_261, gX9_divide_262, fl_9_14, gX9_divide_265, gX9_divide_267, gX9_divide_268, gX9_divide_271, gX9_divide_273, gX9_divide_274, gX9_divide_275, gX9_divide_278, gX9_divide_281, gX9_divide_282, gX9_divide_284, gX9_divide_287, Rd_some, Wr_some, Cont_some, Cont_none, iso_O, true_and, hg_s, hg_n, hput_hput, hx, sp_mplT, sp_mprT, sp_mplF]
      exact hq _ (MJ.ft h1 h2 h3 h4 0) (Fm.rf.put (by omega))
  · rw [if_neg (fun t => ha t.1)] at hq
    simp (disch := omega) only [gX9_divide_0, gX9_divide_1, gX9_divide_2, pf_9_0, gX9_divide_5, gX9_divide_6, gX9_divide_9T, gX9_divide_9F, gX9_divide_12, gX9_divide_13, gX9_divide_16T, gX9_divide_16F, gX9_divide_19, gX9_divide_20, gX9_divide_23T, gX9_divide_23F, gX9_divide_26, gX9_divide_27, gX9_divide_28, gX9_divide_29, gX9_divide_30, gX9_divide_31, gX9_divide_34, gX9_divide_36, gX9_divide_38T, gX9_divide_38F, gX9_divide_41, gX9_divide_43, gX9_divide_44, gX9_divide_45, gX9_divide_48, gX9_divide_50, gX9_divide_51, gX9_divide_52, fl_9_23, gX9_divide_55, gX9_divide_56, gX9_divide_58, gX9_divide_61, gX9_divide_62, gX9_divide_63, fl_9_24, gX9_divide_66, gX9_divide_67, gX9_divide_69, gX9_divide_72, gX9_divide_74, gX9_divide_76, gX9_divide_78T, gX9_divide_78F, gX9_divide_81, gX9_divide_82, gX9_divide_85, gX9_divide_87, aL_g, gX9_divide_88, gX9_divide_89T, gX9_divide_89F, gX9_divide_90T, gX9_divide_90F, gX9_divide_93, gX9_divide_96, gX9_divide_99, gX9_divide_101T, gX9_divide_101F, gX9_divide_104, gX9_divide_105, gX9_divide_106, gX9_divide_109, gX9_divide_110, gX9_divide_111, gX9_divide_112, gX9_divide_115, gX9_divide_117T, gX9_divide_117F, gX9_divide_120, gX9_divide_121, gX9_divide_124, gX9_divide_125, gX9_divide_126, gX9_divide_129, gX9_divide_131, gX9_divide_132, gX9_divide_134, gX9_divide_135, gX9_divide_138, gX9_divide_140, gX9_divide_141, gX9_divide_143, gX9_divide_146, gX9_divide_148, gX9_divide_150, gX9_divide_151, gX9_divide_152, gX9_divide_154, gX9_divide_156T, gX9_divide_156F, gX9_divide_159, gX9_divide_160, gX9_divide_163, gX9_divide_165, gX9_divide_167, gX9_divide_168, gX9_divide_169, gX9_divide_171, gX9_divide_172, gX9_divide_174, gX9_divide_175, gX9_divide_177, gX9_divide_178, fl_9_25, gX9_divide_181, gX9_divide_183, gX9_divide_185, sL_p, gX9_divide_186, gX9_divide_187, gX9_divide_189, gX9_divide_191, gX9_divide_193T, gX9_divide_193F, gX9_divide_196, gX9_divide_197, gX9_divide_200, gX9_divide_202, gX9_divide_204, gX9_divide_205, gX9_divide_206, gX9_divide_209, gX9_divide_211, gX9_divide_213, gX9_divide_214, gX9_divide_215, gX9_divide_217, gX9_divide_218, gX9_divide_221, gX9_divide_223, gX9_divide_224, gX9_divide_225, gX9_divide_227, gX9_divide_228, gX9_divide_229, gX9_divide_231, gX9_divide_232, gX9_divide_233, gX9_divide_236, gX9_divide_239, gX9_divide_242, gX9_divide_245, gX9_divide_246, gX9_divide_248, pf_9_13, gX9_divide_251, gX9_divide_252, gX9_divide_254, gX9_divide_256, gX9_divide_258T, gX9_divide_258F, gX9_divide_261, gX9_divide_262, fl_9_14, gX9_divide_265, gX9_divide_267, gX9_divide_268, gX9_divide_271, gX9_divide_273, gX9_divide_274, gX9_divide_275, gX9_divide_278, gX9_divide_281, gX9_divide_282, gX9_divide_284, gX9_divide_287, Rd_some, Wr_some, Cont_some, Cont_none, iso_O, true_and, hg_s, hg_n, hput_hput, hx, sp_mplT, sp_mprT, sp_mplF]
    exact hq _ (MJ.ft h1 h2 h3 h4 0) (Fm.rf.put (by omega))

end MP2

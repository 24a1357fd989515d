/-! m: transforms -/
section MSPE
variable {H : HP} {S : SS} {T : TT} {Q : Option Value → HP → Prop} {a u n : Int} {d : RD}
theorem ms {P s r t : Int} (hP : 1 < P ∧ P < 1073741824) (hs : 0 ≤ s ∧ s < P) (hr : 0 ≤ r ∧ r < P) (ht : 0 ≤ t ∧ t < P) : (0 ≤ r * t ∧ r * t ≤ 4611686014132420609) ∧ (s + r * t).tmod P = (s + r * t) % P := by
  have h1 := mb (x := r) (y := t) (by omega)
  exact ⟨h1, Int.tmod_eq_emod_of_nonneg (by omega)⟩
theorem lp_trI (hv : VR H S a d) (hP : 1 < PV u ∧ PV u < 1073741824) (rd : ∀ j, 0 ≤ j → j < d.2.1 → -9223372036854775808 ≤ d.2.2 j ∧ d.2.2 j ≤ 9223372036854775807) {b : Int} (hb : 0 ≤ b ∧ b < PV u) {l2 l6 l7 l8 : Option Value} : ∀ (e i : Nat), (i : Int) + e = d.2.1 → (Go 143 50 [some (.ref 41), some (vi a), l2, some (vl (PV u)), none, some (vi d.2.1), l6, l7, l8, some (vl b), none, some (vl (b ^ i % PV u)), none, some (vl (sm (fun t => d.2.2 t * b ^ t.toNat) i % PV u)), none, some (vi (i : Int))] [] H Q ↔ Go 143 93 [some (.ref 41), some (vi a), l2, some (vl (PV u)), none, some (vi d.2.1), l6, l7, l8, some (vl b), none, some (vl (b ^ d.2.1.toNat % PV u)), none, some (vl (sm (fun t => d.2.2 t * b ^ t.toNat) d.2.1.toNat % PV u)), none, some (vi d.2.1)] [] H Q) := by
  have nn := hv.2.1
  generalize hPP : PV u = P at *
  intro e
  induction e with
  | zero =>
    intro i hi
    rw [show d.2.1.toNat = i by omega, show d.2.1 = (i : Int) by omega, gX9_transformed_50]
    simp (disch := omega) only [gX9_transformed_52, gX9_transformed_54T, gX9_transformed_54F, Rd_some, Wr_some, Cont_some, Cont_none, iso_O, true_and, hg_s, hg_n, hput_hput]
  | succ e ih =>
    intro i hi
    have m0 := rd i (by omega) (by omega)
    have m1 := em (P := P) (by omega) (b ^ i)
    have m2 := em (P := P) (by omega) (sm (fun t => d.2.2 t * b ^ t.toNat) i)
    have m3 := em (P := P) (by omega) (d.2.2 i)
    obtain ⟨k1, k2⟩ := ms hP m2 m3 m1
    have k3 := mb (x := b ^ i % P) (y := b) (by omega)
    have k4 : (b ^ i % P * b).tmod P = b ^ (i + 1) % P := by rw [Int.tmod_eq_emod_of_nonneg k3.1, pw_next]
    have k5 : (sm (fun t => d.2.2 t * b ^ t.toNat) i % P + d.2.2 i % P * (b ^ i % P)) % P = sm (fun t => d.2.2 t * b ^ t.toNat) (i + 1) % P := by
      rw [sm, Int.toNat_natCast]
      exact cg.md.ad (cg.md.ml cg.md)
    rw [gX9_transformed_50]
    simp (disch := omega) only [gX9_transformed_52, gX9_transformed_54T, gX9_transformed_54F, gX9_transformed_57, gX9_transformed_59, gX9_transformed_60, gX9_transformed_61, gX9_transformed_63, gX9_transformed_66, gX9_transformed_67, gX9_transformed_70, gX9_transformed_72, gX9_transformed_73, gX9_transformed_74, gX9_transformed_75, gX9_transformed_76, gX9_transformed_78, gX9_transformed_80, gX9_transformed_82, gX9_transformed_83, gX9_transformed_84, gX9_transformed_85, gX9_transformed_87, gX9_transformed_90, Rd_some, Wr_some, Cont_some, Cont_none, iso_O, true_and, hg_s, hg_n, hput_hput, hv.1, vr_ent hv, sp_res hP m0, k2, k4, k5]
    exact ih (i + 1) (by omega)
theorem lp_trO (hv : ∀ c, VR (hput H 54 c) S a d) (h41 : hget H 41 = cM S) (hu : 0 ≤ u ∧ u ≤ 2) (rd : ∀ j, 0 ≤ j → j < d.2.1 → -9223372036854775808 ≤ d.2.2 j ∧ d.2.2 j ≤ 9223372036854775807) {w : Int} (hw : 0 ≤ w ∧ w < PV u) {f : Int → Int} {l2 : Option Value} : ∀ (e k : Nat) (l9 l10 l11 l12 l13 l14 l15 : Option Value), (k : Int) + e = d.2.1 → (Go 143 23 [some (.ref 41), some (vi a), l2, some (vl (PV u)), none, some (vi d.2.1), some (vl w), none, some (vi (k : Int)), l9, l10, l11, l12, l13, l14, l15] [] (hput H 54 (cL 64 (mix (fun j => df w d.2.2 d.2.1.toNat j.toNat % PV u) f k))) Q ↔ Q none (hput H 54 (cL 64 (mix (fun j => df w d.2.2 d.2.1.toNat j.toNat % PV u) f d.2.1)))) := by
  have nn := (hv (cL 64 f)).2.1
  have hP := PV_r u
  have hx : ∀ c, hget (hput H 54 c) 41 = cM S := fun c => by rw [hg_n (by omega)]; exact h41
  intro e
  induction e with
  | zero =>
    intro k l9 l10 l11 l12 l13 l14 l15 hk
    rw [show (k : Int) = d.2.1 by omega, gX9_transformed_23]
    simp (disch := omega) only [gX9_transformed_25, gX9_transformed_27T, gX9_transformed_27F, gX9_transformed_108, Rd_some, Wr_some, Cont_some, Cont_none, iso_O, true_and, hg_s, hg_n, hput_hput]
  | succ e ih =>
    intro k l9 l10 l11 l12 l13 l14 l15 hk
    have mw := em (P := PV u) (by omega) (w ^ k)
    rw [gX9_transformed_23]
    simp (disch := omega) only [gX9_transformed_25, gX9_transformed_27T, gX9_transformed_27F, gX9_transformed_30, gX9_transformed_32, gX9_transformed_34, gX9_transformed_35, gX9_transformed_36, gX9_transformed_39, gX9_transformed_41, gX9_transformed_42, gX9_transformed_44, gX9_transformed_45, gX9_transformed_47, gX9_transformed_48, Rd_some, Wr_some, Cont_some, Cont_none, iso_O, true_and, hg_s, hg_n, hput_hput, sp_pow hP]
    rw [Int.toNat_natCast]
    have key := lp_trI (H := hput H 54 (cL 64 (mix (fun j => df w d.2.2 d.2.1.toNat j.toNat % PV u) f k))) (Q := Q) (u := u) (l2 := l2) (l6 := some (vl w)) (l7 := none) (l8 := some (vi (k : Int))) (hv _) hP rd mw d.2.1.toNat 0 (by omega)
    rw [Int.pow_zero, Int.emod_eq_of_lt (show (0 : Int) ≤ 1 by decide) hP.1, sm, Int.zero_emod] at key
    refine Iff.trans key ?_
    simp (disch := omega) only [gX9_transformed_93, gX9_transformed_94, fl_9_20, gX9_transformed_97, gX9_transformed_99, gX9_transformed_101, sL_p, gX9_transformed_102, gX9_transformed_105, Rd_some, Wr_some, Cont_some, Cont_none, iso_O, true_and, hg_s, hg_n, hput_hput, hx]
    rw [mix_up (by omega) (by rw [Int.toNat_natCast]; exact ev_df (fun i hi => cg.rf))]
    exact ih (k + 1) _ _ _ _ _ _ _ (by omega)
theorem sp_trd (hv : ∀ c, VR (hput H 54 c) S a d) (hv0 : VR H S a d) (hu : 0 ≤ u ∧ u ≤ 2) (rd : ∀ j, 0 ≤ j → j < d.2.1 → -9223372036854775808 ≤ d.2.2 j ∧ d.2.2 j ≤ 9223372036854775807) {f : Int → Int} (h54 : hget H 54 = cL 64 f) : Go 143 0 [some (.ref 41), some (vi a), some (vi u), none, none, none, none, none, none, none, none, none, none, none, none, none] [] H Q ↔ Q none (hput H 54 (cL 64 (mix (TF u d) f d.2.1))) := by
  have nn := hv0.2.1
  have mw := em (P := PV u) (by have := PV_r u; omega) (3 ^ ((PV u - 1) / d.2.1).toNat)
  simp (disch := omega) only [gX9_transformed_0, gX9_transformed_1, gX9_transformed_4, gX9_transformed_5, gX9_transformed_6, gX9_transformed_7, gX9_transformed_10, gX9_transformed_12, gX9_transformed_13, gX9_transformed_15, gX9_transformed_18, gX9_transformed_20, gX9_transformed_21, Rd_some, Wr_some, Cont_some, Cont_none, iso_O, true_and, hg_s, hg_n, hput_hput, hv0.1, vr_cnt hv0, sp_prime, sp_mroot]
  have eH : H = hput H 54 (cL 64 (mix (TF u d) f ((0 : Nat) : Int))) := by
    rw [show ((0 : Nat) : Int) = 0 from rfl, mix_0]
    exact (hput_same h54).symm
  have key := lp_trO (Q := Q) (l2 := some (vi u)) hv hv0.1 hu rd mw (f := f) d.2.1.toNat 0 none none none none none none none (by omega)
  change Go _ _ _ _ (hput H 54 (cL 64 (mix (TF u d) f ((0 : Nat) : Int)))) _ ↔ Q none (hput H 54 (cL 64 (mix (TF u d) f d.2.1))) at key
  rw [← eH] at key
  exact key
theorem MJ.sp {H1 H' : HP} {S1 : SS} {V g : Int → Int} (h1 : MH H1 S1 T) (h2 : MR S1 T) (h3 : SI S1) (h4 : ∀ k, live S1 k → rok (S1.1.2 k)) (e : ∀ q, 41 ≤ q → q ≤ 60 → q ≠ 41 → q ≠ 46 → q ≠ 54 → hget H' q = hget H1 q) (e1 : hget H' 41 = cM (wPr (wSh S1 0 n V) u)) (h54 : ∃ f, hget H' 54 = cL 64 f) (hg : hget H' 46 = cL 64 g) (hv : eqn g (n, V)) (hn : 1 ≤ n ∧ n ≤ 64) (hu : 0 ≤ u ∧ u ≤ 2) (hd : (PV u - 1) % n = 0) (hr : mo (PV u) V n) : MJ H' (wPr (wSh S1 0 n V) u) := by
  refine ⟨T, fun q q1 q2 => ?_, h2, ?_, h4⟩
  · by_cases b1 : q = 41
    · subst b1; exact e1
    · by_cases b2 : q = 46
      · subst b2; exact ⟨g, hg, hv⟩
      · by_cases b3 : q = 54
        · subst b3; exact h54
        · rw [e q q1 q2 b1 b2 b3]
          have := h1 q q1 q2
          unfold Mh at this ⊢
          split at this <;> first | exact absurd rfl b1 | exact absurd rfl b2 | exact absurd rfl b3 | exact this
  · obtain ⟨s1, s2, s3, s4, s5, s6, s7, s8⟩ := h3
    exact ⟨Or.inr ⟨hu, ⟨hn.1, hd⟩, hr⟩, ⟨by show 0 ≤ n; omega, hn.2⟩, s3, s4, s5, s6, s7, s8⟩
theorem lp_mtr {g V : Int → Int} (h41 : hget H 41 = cM S) (hnS : (S.2.2 0).1 = n) (hn : 0 ≤ n ∧ n ≤ 64) (h54 : hget H 54 = cL 64 V) {l1 l2 : Option Value} : ∀ (e : Nat) (i : Int), i + e = n → 0 ≤ i → (Go 144 90 [some (.ref 41), l1, l2, some (vi i)] [] (hput H 46 (cL 64 (mix V g i))) Q ↔ Q (some (vi n)) (hput H 46 (cL 64 (mix V g n)))) := by
  have hx : ∀ c, hget (hput H 46 c) 41 = cM S := fun c => by rw [hg_n (by omega)]; exact h41
  have h54' : ∀ c, hget (hput H 46 c) 54 = cL 64 V := fun c => by rw [hg_n (by omega)]; exact h54
  intro e
  induction e with
  | zero =>
    intro i hi h0
    rw [show i = n by omega, gX9_transform_90]
    simp (disch := omega) only [gX9_transform_91, gX9_transform_92, fl_9_5, gX9_transform_95T, gX9_transform_95F, gX9_transform_116, gX9_transform_117, gX9_transform_120, Rd_some, Wr_some, Cont_some, Cont_none, iso_O, true_and, hg_s, hg_n, hput_hput, hx, hnS]
  | succ e ih =>
    intro i hi h0
    rw [gX9_transform_90]
    simp (disch := omega) only [gX9_transform_91, gX9_transform_92, fl_9_5, gX9_transform_95T, gX9_transform_95F, gX9_transform_98, gX9_transform_99, fl_9_7, gX9_transform_102, gX9_transform_103, gX9_transform_104, fl_9_20, gX9_transform_107, gX9_transform_108, aL_g, gX9_transform_109, sL_p, gX9_transform_110, gX9_transform_113, Rd_some, Wr_some, Cont_some, Cont_none, iso_O, true_and, hg_s, hg_n, hput_hput, hx, hnS, h54']
    rw [mix_up h0 rfl]
    exact ih (i + 1) (by omega) (by omega)
theorem lp_mti {g V : Int → Int} (h41 : hget H 41 = cM S) (hnS : (S.2.2 0).1 = n) (hn : 0 ≤ n ∧ n ≤ 64) (hu : 0 ≤ S.2.1.2 ∧ S.2.1.2 ≤ 2) (h54 : hget H 54 = cL 64 V) (mg : mo (PV S.2.1.2) g n) (mV : mo (PV S.2.1.2) V n) {l1 : Option Value} : ∀ (e : Nat) (i : Int), i + e = n → 0 ≤ i → (Go 145 81 [some (.ref 41), l1, some (vi i)] [] (hput H 46 (cL 64 (mix (fun j => g j * V j % PV S.2.1.2) g i))) Q ↔ Q (some (vi n)) (hput H 46 (cL 64 (mix (fun j => g j * V j % PV S.2.1.2) g n)))) := by
  have hP := PV_r S.2.1.2
  have hx : ∀ c, hget (hput H 46 c) 41 = cM S := fun c => by rw [hg_n (by omega)]; exact h41
  have h54' : ∀ c, hget (hput H 46 c) 54 = cL 64 V := fun c => by rw [hg_n (by omega)]; exact h54
  intro e
  induction e with
  | zero =>
    intro i hi h0
    rw [show i = n by omega, gX9_times_81]
    simp (disch := omega) only [gX9_times_82, gX9_times_83, fl_9_5, gX9_times_86T, gX9_times_86F, gX9_times_122, gX9_times_123, gX9_times_126, Rd_some, Wr_some, Cont_some, Cont_none, iso_O, true_and, hg_s, hg_n, hput_hput, hx, hnS]
  | succ e ih =>
    intro i hi h0
    have m1 := mg i h0 (by omega)
    have m2 := mV i h0 (by omega)
    have m3 := mb (x := g i) (y := V i) (by omega)
    have e1 : mix (fun j => g j * V j % PV S.2.1.2) g i i = g i := mix_out (by omega)
    have e2 : (g i * V i).tmod (PV S.2.1.2) = g i * V i % PV S.2.1.2 := Int.tmod_eq_emod_of_nonneg m3.1
    rw [gX9_times_81]
    simp (disch := omega) only [gX9_times_82, gX9_times_83, fl_9_5, gX9_times_86T, gX9_times_86F, gX9_times_89, gX9_times_90, fl_9_7, gX9_times_93, gX9_times_94, gX9_times_95, gX9_times_98, gX9_times_99, aL_g, gX9_times_100, gX9_times_101, fl_9_20, gX9_times_104, gX9_times_105, gX9_times_106, gX9_times_107, gX9_times_108, fl_9_6, gX9_times_111, gX9_times_114, gX9_times_115, sL_p, gX9_times_116, gX9_times_119, Rd_some, Wr_some, Cont_some, Cont_none, iso_O, true_and, hg_s, hg_n, hput_hput, hx, hnS, h54', e1, sp_prime, e2]
    rw [mix_up h0 rfl]
    exact ih (i + 1) (by omega) (by omega)
theorem mx_tr (hm : MJ H S) (c : (-2147483648 ≤ a ∧ a ≤ 2147483647) ∧ (-2147483648 ≤ u ∧ u ≤ 2147483647)) (hq : MG H Q (o_tr S a u)) : Go 144 0 [some (.ref 41), some (vi a), some (vi u), none] [] H Q := by
  obtain ⟨T, h1, h2, h3, h4⟩ := hm
  have hx := h1.v.1
  unfold o_tr MG at hq
  by_cases ha : 0 ≤ a ∧ a < 12
  · by_cases hu : 0 ≤ u ∧ u ≤ 2
    · rw [if_pos ⟨ha, hu⟩] at hq
      have m1 := h1.ft 0
      unfold o_one at hq
      cases hoa : S.1.1 a with
      | none =>
        rw [hoa] at hq
        dsimp only at hq
        have e := h2.no ha hoa
        simp (disch := omega) only [gX9_transform_0, gX9_transform_1, gX9_transform_2, pf_9_0, gX9_transform_5, gX9_transform_6, gX9_transform_9T, gX9_transform_9F, gX9_transform_12, gX9_transform_13, gX9_transform_16T, gX9_transform_16F, gX9_transform_19, gX9_transform_20, gX9_transform_21, gX9_transform_22, fl_9_1, gX9_transform_25, gX9_transform_26, aJ_g, gX9_transform_27, gX9_transform_29T, gX9_transform_29F, gX9_transform_32, gX9_transform_33, gX9_transform_34, gX9_transform_37, gX9_transform_38, gX9_transform_39, gX9_transform_40, gX9_transform_43, gX9_transform_44T, gX9_transform_44F, gX9_transform_47, gX9_transform_48, gX9_transform_49, gX9_transform_52, gX9_transform_53, gX9_transform_54, gX9_transform_55, gX9_transform_56, gX9_transform_59, gX9_transform_62T, gX9_transform_62F, gX9_transform_65, gX9_transform_67, gX9_transform_68, gX9_transform_69, gX9_transform_70, gX9_transform_71, gX9_transform_74, gX9_transform_75, gX9_transform_76, gX9_transform_77, gX9_transform_80, pf_9_5, gX9_transform_83, gX9_transform_84, gX9_transform_85, pf_9_6, gX9_transform_88, gX9_transform_89, gX9_transform_90, gX9_transform_91, gX9_transform_92, fl_9_5, gX9_transform_95T, gX9_transform_95F, gX9_transform_98, gX9_transform_99, fl_9_7, gX9_transform_102, gX9_transform_103, gX9_transform_104, fl_9_20, gX9_transform_107, gX9_transform_108, aL_g, gX9_transform_109, sL_p, gX9_transform_110, gX9_transform_113, gX9_transform_116, gX9_transform_117, gX9_transform_120, Rd_some, Wr_some, Cont_some, Cont_none, iso_O, true_and, hg_s, hg_n, hput_hput, gX9_fails_0, gX9_fails_1, gX9_fails_2, pf_9_0, gX9_fails_5, gX9_fails_7, gX9_fails_8, gX9_fails_9, Rd_some, Wr_some, Cont_some, Cont_none, iso_O, true_and, hg_s, hg_n, hput_hput, hx, sp_mplT, sp_mprT, h1.v.2.1]
        exact hq _ (MJ.ft h1 h2 h3 h4 1) (Fm.rf.put (by omega))
      | some k =>
        rw [hoa] at hq
        dsimp only at hq
        obtain ⟨r1, r2, r3, r4⟩ := h2.ro ha hoa
        have ka := h4 k ⟨a, ha.1, ha.2, hoa⟩
        have la := ka.1
        have nA := ka.2.1
        simp (disch := omega) only [gX9_transform_0, gX9_transform_1, gX9_transform_2, pf_9_0, gX9_transform_5, gX9_transform_6, gX9_transform_9T, gX9_transform_9F, gX9_transform_12, gX9_transform_13, gX9_transform_16T, gX9_transform_16F, gX9_transform_19, gX9_transform_20, gX9_transform_21, gX9_transform_22, fl_9_1, gX9_transform_25, gX9_transform_26, aJ_g, gX9_transform_27, gX9_transform_29T, gX9_transform_29F, Rd_some, Wr_some, Cont_some, Cont_none, iso_O, true_and, hg_s, hg_n, hput_hput, hx, sp_mplT, sp_mprT, h1.v.2.1]
        change Go _ _ _ _ (hput H 41 (cM (wFt S 0))) _
        have va : VR (hput H 41 (cM (wFt S 0))) (wFt S 0) a (S.1.2 k) := m1.vr (S := wFt S 0) h2 h4 ha hoa
        by_cases hl : (S.1.2 k).1 ≤ 3
        · rw [if_pos hl] at hq
          have f1 : Fm 41 60 H (hput H 41 (cM (wFt S 0))) := Fm.rf.put (by omega)
          generalize hput H 41 (cM (wFt S 0)) = H1 at m1 va f1
          by_cases hd : (PV u - 1) % (S.1.2 k).2.1 = 0
          · rw [if_pos hd] at hq
            obtain ⟨f0, h54⟩ := m1 54 (by decide) (by decide)
            obtain ⟨g0, h46, -⟩ := m1 46 (by decide) (by decide)
            have va2 : ∀ c, VR (hput H1 54 c) (wFt S 0) a (S.1.2 k) := fun c => m1.vr2 (S := wFt S 0) h2 h4 ha hoa (by rw [hg_n (by omega)]; exact va.1) (fun q q1 q2 => hg_n (by omega))
            simp (disch := omega) only [gX9_transform_38, gX9_transform_39, gX9_transform_40, gX9_transform_43, gX9_transform_44T, gX9_transform_44F, gX9_transform_47, gX9_transform_48, gX9_transform_49, gX9_transform_52, gX9_transform_53, gX9_transform_54, gX9_transform_55, gX9_transform_56, gX9_transform_59, gX9_transform_62T, gX9_transform_62F, gX9_transform_65, gX9_transform_67, gX9_transform_68, gX9_transform_69, gX9_transform_70, gX9_transform_71, Rd_some, Wr_some, Cont_some, Cont_none, iso_O, true_and, hg_s, hg_n, hput_hput, va.1, vr_lan va, vr_cnt va, sp_mhasT]
            rw [sp_trd va2 va hu ka.2.2.1 h54]
            generalize hV : mix (TF u (S.1.2 k)) f0 (S.1.2 k).2.1 = V
            simp (disch := omega) only [gX9_transform_74, gX9_transform_75, gX9_transform_76, gX9_transform_77, gX9_transform_80, pf_9_5, gX9_transform_83, gX9_transform_84, gX9_transform_85, pf_9_6, gX9_transform_88, gX9_transform_89, Rd_some, Wr_some, Cont_some, Cont_none, iso_O, true_and, hg_s, hg_n, hput_hput, (va2 _).1, vr_cnt (va2 _)]
            change Go _ _ _ _ (hput (hput H1 54 (cL 64 V)) 41 (cM (wPr (wSh (wFt S 0) 0 (S.1.2 k).2.1 (TF u (S.1.2 k))) u))) _
            have eH : hput (hput H1 54 (cL 64 V)) 41 (cM (wPr (wSh (wFt S 0) 0 (S.1.2 k).2.1 (TF u (S.1.2 k))) u)) = hput (hput (hput H1 54 (cL 64 V)) 41 (cM (wPr (wSh (wFt S 0) 0 (S.1.2 k).2.1 (TF u (S.1.2 k))) u))) 46 (cL 64 (mix V g0 0)) := by
              rw [mix_0]
              exact (hput_same (by rw [hg_n (by omega), hg_n (by omega)]; exact h46)).symm
            rw [eH, lp_mtr (S := wPr (wSh (wFt S 0) 0 (S.1.2 k).2.1 (TF u (S.1.2 k))) u) (n := (S.1.2 k).2.1) hg_s rfl (by omega) (by rw [hg_n (by omega), hg_s]) (S.1.2 k).2.1.toNat 0 (by omega) (by omega)]
            refine hq _ (MJ.sp (S1 := wFt S 0) m1 h2 h3 h4 (fun q q1 q2 y1 y2 y3 => by rw [hg_n y2, hg_n y1, hg_n y3]) (by rw [hg_n (by omega), hg_s]) ⟨V, by rw [hg_n (by omega), hg_n (by omega), hg_s]⟩ hg_s (fun j j0 j1 => ?_) (by omega) hu hd (fun j _ _ => TF_r u _ j)) (((f1.put (by omega)).put (by omega)).put (by omega))
            have j1 : j < (S.1.2 k).2.1 := j1
            rw [mix_in ⟨j0, j1⟩, ← hV, mix_in ⟨j0, j1⟩]
          · rw [if_neg hd] at hq
            simp (disch := omega) only [gX9_transform_38, gX9_transform_39, gX9_transform_40, gX9_transform_43, gX9_transform_44T, gX9_transform_44F, gX9_transform_47, gX9_transform_48, gX9_transform_49, gX9_transform_52, gX9_transform_53, gX9_transform_54, gX9_transform_55, gX9_transform_56, gX9_transform_59, gX9_transform_62T, gX9_transform_62F, gX9_transform_65, gX9_transform_67, Rd_some, Wr_some, Cont_some, Cont_none, iso_O, true_and, hg_s, hg_n, hput_hput, va.1, vr_lan va, vr_cnt va, sp_mhasF]
            exact hq _ (MJ.mk' m1 h2 h3 h4) f1
        · rw [if_neg hl] at hq
          simp (disch := omega) only [gX9_transform_38, gX9_transform_39, gX9_transform_40, gX9_transform_43, gX9_transform_44T, gX9_transform_44F, gX9_transform_47, gX9_transform_48, gX9_transform_49, gX9_transform_52, Rd_some, Wr_some, Cont_some, Cont_none, iso_O, true_and, hg_s, hg_n, hput_hput, gX9_fails_0, gX9_fails_1, gX9_fails_2, pf_9_0, gX9_fails_5, gX9_fails_7, gX9_fails_8, gX9_fails_9, Rd_some, Wr_some, Cont_some, Cont_none, iso_O, true_and, hg_s, hg_n, hput_hput, va.1, vr_lan va]
          exact hq _ (MJ.ft h1 h2 h3 h4 2) (Fm.rf.put (by omega))
    · rw [if_neg (fun t => hu t.2)] at hq
      simp (disch := omega) only [gX9_transform_0, gX9_transform_1, gX9_transform_2, pf_9_0, gX9_transform_5, gX9_transform_6, gX9_transform_9T, gX9_transform_9F, gX9_transform_12, gX9_transform_13, gX9_transform_16T, gX9_transform_16F, gX9_transform_19, gX9_transform_20, gX9_transform_21, gX9_transform_22, fl_9_1, gX9_transform_25, gX9_transform_26, aJ_g, gX9_transform_27, gX9_transform_29T, gX9_transform_29F, gX9_transform_32, gX9_transform_33, gX9_transform_34, gX9_transform_37, gX9_transform_38, gX9_transform_39, gX9_transform_40, gX9_transform_43, gX9_transform_44T, gX9_transform_44F, gX9_transform_47, gX9_transform_48, gX9_transform_49, gX9_transform_52, gX9_transform_53, gX9_transform_54, gX9_transform_55, gX9_transform_56, gX9_transform_59, gX9_transform_62T, gX9_transform_62F, gX9_transform_65, gX9_transform_67, gX9_transform_68, gX9_transform_69, gX9_transform_70, gX9_transform_71, gX9_transform_74, gX9_transform_75, gX9_transform_76, gX9_transform_77, gX9_transform_80, pf_9_5, gX9_transform_83, gX9_transform_84, gX9_transform_85, pf_9_6, gX9_transform_88, gX9_transform_89, gX9_transform_90, gX9_transform_91, gX9_transform_92, fl_9_5, gX9_transform_95T, gX9_transform_95F, gX9_transform_98, gX9_transform_99, fl_9_7, gX9_transform_102, gX9_transform_103, gX9_transform_104, fl_9_20, gX9_transform_107, gX9_transform_108, aL_g, gX9_transform_109, sL_p, gX9_transform_110, gX9_transform_113, gX9_transform_116, gX9_transform_117, gX9_transform_120, Rd_some, Wr_some, Cont_some, Cont_none, iso_O, true_and, hg_s, hg_n, hput_hput, hx, sp_mplT, sp_mprF]
      exact hq _ (MJ.ft h1 h2 h3 h4 0) (Fm.rf.put (by omega))
  · rw [if_neg (fun t => ha t.1)] at hq
    simp (disch := omega) only [gX9_transform_0, gX9_transform_1, gX9_transform_2, pf_9_0, gX9_transform_5, gX9_transform_6, gX9_transform_9T, gX9_transform_9F, gX9_transform_12, gX9_transform_13, gX9_transform_16T, gX9_transform_16F, gX9_transform_19, gX9_transform_20, gX9_transform_21, gX9_transform_22, fl_9_1, gX9_transform_25, gX9_transform_26, aJ_g, gX9_transform_27, gX9_transform_29T, gX9_transform_29F, gX9_transform_32, gX9_transform_33, gX9_transform_34, gX9_transform_37, gX9_transform_38, gX9_transform_39, gX9_transform_40, gX9_transform_43, gX9_transform_44T, gX9_transform_44F, gX9_transform_47, gX9_transform_48, gX9_transform_49, gX9_transform_52, gX9_transform_53, gX9_transform_54, gX9_transform_55, gX9_transform_56, gX9_transform_59, gX9_transform_62T, gX9_transform_62F, gX9_transform_65, gX9_transform_67, gX9_transform_68, gX9_transform_69, gX9_transform_70, gX9_transform_71, gX9_transform_74, gX9_transform_75, gX9_transform_76, gX9_transform_77, gX9_transform_80, pf_9_5, gX9_transform_83, gX9_transform_84, gX9_transform_85, pf_9_6, gX9_transform_88, gX9_transform_89, gX9_transform_90, gX9_transform_91, gX9_transform_92, fl_9_5, gX9_transform_95T, gX9_transform_95F, gX9_transform_98, gX9_transform_99, fl_9_7, gX9_transform_102, gX9_transform_103, gX9_transform_104, fl_9_20, gX9_transform_107, gX9_transform_108, aL_g, gX9_transform_109, sL_p, gX9_transform_110, gX9_transform_113, gX9_transform_116, gX9_transform_117, gX9_transform_120, Rd_some, Wr_some, Cont_some, Cont_none, iso_O, true_and, hg_s, hg_n, hput_hput, hx, sp_mplF]
    exact hq _ (MJ.ft h1 h2 h3 h4 0) (Fm.rf.put (by omega))
theorem mx_times (hm : MJ H S) (c : -2147483648 ≤ a ∧ a ≤ 2147483647) (hq : MG H Q (o_times S a)) : Go 145 0 [some (.ref 41), some (vi a), none] [] H Q := by
  obtain ⟨T, h1, h2, h3, h4⟩ := hm
  have hx := h1.v.1
  unfold o_times MG at hq
  by_cases ha : 0 ≤ a ∧ a < 12
  · rw [if_pos ha] at hq
    have m1 := h1.ft 0
    unfold o_one at hq
    cases hoa : S.1.1 a with
    | none =>
      rw [hoa] at hq
      dsimp only at hq
      have e := h2.no ha hoa
      simp (disch := omega) only [gX9_times_0, gX9_times_1, gX9_times_2, pf_9_0, gX9_times_5, gX9_times_6, gX9_times_9T, gX9_times_9F, gX9_times_12, gX9_times_13, gX9_times_14, gX9_times_15, fl_9_1, gX9_times_18, gX9_times_19, aJ_g, gX9_times_20, gX9_times_22T, gX9_times_22F, gX9_times_25, gX9_times_26, gX9_times_27, gX9_times_30, gX9_times_31, gX9_times_32, gX9_times_33, gX9_times_36, gX9_times_37T, gX9_times_37F, gX9_times_40, gX9_times_41, gX9_times_42, gX9_times_45, gX9_times_46, gX9_times_47, fl_9_6, gX9_times_50, gX9_times_52T, gX9_times_52F, gX9_times_55, gX9_times_56, gX9_times_57, gX9_times_60, gX9_times_61, fl_9_5, gX9_times_64T, gX9_times_64F, gX9_times_67, gX9_times_69, gX9_times_70, gX9_times_71, gX9_times_72, gX9_times_73, gX9_times_76, gX9_times_79, gX9_times_80, gX9_times_81, gX9_times_82, gX9_times_83, gX9_times_86T, gX9_times_86F, gX9_times_89, gX9_times_90, fl_9_7, gX9_times_93, gX9_times_94, gX9_times_95, gX9_times_98, gX9_times_99, aL_g, gX9_times_100, gX9_times_101, fl_9_20, gX9_times_104, gX9_times_105, gX9_times_106, gX9_times_107, gX9_times_108, gX9_times_111, gX9_times_114, gX9_times_115, sL_p, gX9_times_116, gX9_times_119, gX9_times_122, gX9_times_123, gX9_times_126, Rd_some, Wr_some, Cont_some, Cont_none, iso_O, true_and, hg_s, hg_n, hput_hput, gX9_fails_0, gX9_fails_1, gX9_fails_2, pf_9_0, gX9_fails_5, gX9_fails_7, gX9_fails_8, gX9_fails_9, Rd_some, Wr_some, Cont_some, Cont_none, iso_O, true_and, hg_s, hg_n, hput_hput, hx, sp_mplT, h1.v.2.1]
      exact hq _ (MJ.ft h1 h2 h3 h4 1) (Fm.rf.put (by omega))
    | some k =>
      rw [hoa] at hq
      dsimp only at hq
      obtain ⟨r1, r2, r3, r4⟩ := h2.ro ha hoa
      have ka := h4 k ⟨a, ha.1, ha.2, hoa⟩
      have la := ka.1
      have nA := ka.2.1
      simp (disch := omega) only [gX9_times_0, gX9_times_1, gX9_times_2, pf_9_0, gX9_times_5, gX9_times_6, gX9_times_9T, gX9_times_9F, gX9_times_12, gX9_times_13, gX9_times_14, gX9_times_15, fl_9_1, gX9_times_18, gX9_times_19, aJ_g, gX9_times_20, gX9_times_22T, gX9_times_22F, Rd_some, Wr_some, Cont_some, Cont_none, iso_O, true_and, hg_s, hg_n, hput_hput, hx, sp_mplT, h1.v.2.1]
      change Go _ _ _ _ (hput H 41 (cM (wFt S 0))) _
      have va : VR (hput H 41 (cM (wFt S 0))) (wFt S 0) a (S.1.2 k) := m1.vr (S := wFt S 0) h2 h4 ha hoa
      by_cases hl : (S.1.2 k).1 ≤ 3
      · rw [if_pos hl] at hq
        have f1 : Fm 41 60 H (hput H 41 (cM (wFt S 0))) := Fm.rf.put (by omega)
        generalize hput H 41 (cM (wFt S 0)) = H1 at m1 va f1
        have hx2 : hget H1 41 = cO 9 [vi 0, .ref 42, .ref 43, .ref 44, .ref 45, vi (S.2.2 0).1, vi S.2.1.2, .ref 46, vi (S.2.2 2).1, .ref 47, .ref 48, vi (S.2.2 3).1, .ref 49, vi (S.2.2 4).1, .ref 50, vi (S.2.2 5).1, .ref 51, vi (S.2.2 6).1, .ref 52, .ref 53, .ref 54, .ref 55, .ref 56, .ref 57, .ref 58, .ref 59, .ref 60] := va.1
        have hn0 := h3.2.1
        rcases h3.1 with ⟨pn, pz⟩ | ⟨hu, hdv, hmo⟩
        · rw [if_neg (fun t => by omega)] at hq
          simp (disch := omega) only [gX9_times_31, gX9_times_32, gX9_times_33, gX9_times_36, gX9_times_37T, gX9_times_37F, gX9_times_40, gX9_times_41, gX9_times_42, gX9_times_45, gX9_times_46, gX9_times_47, fl_9_6, gX9_times_50, gX9_times_52T, gX9_times_52F, gX9_times_55, gX9_times_56, gX9_times_57, gX9_times_60, gX9_times_61, fl_9_5, gX9_times_64T, gX9_times_64F, gX9_times_67, gX9_times_69, Rd_some, Wr_some, Cont_some, Cont_none, iso_O, true_and, hg_s, hg_n, hput_hput, hx2, vr_lan va]
          exact hq _ (MJ.mk' m1 h2 h3 h4) f1
        · have hP := PV_r S.2.1.2
          by_cases hn : (S.1.2 k).2.1 = (S.2.2 0).1
          · rw [if_pos ⟨hu, hn⟩] at hq
            obtain ⟨f0, h54⟩ := m1 54 (by decide) (by decide)
            obtain ⟨g0, h46, g2⟩ := m1 46 (by decide) (by decide)
            have g2 : eqn g0 (S.2.2 0) := g2
            have va2 : ∀ c, VR (hput H1 54 c) (wFt S 0) a (S.1.2 k) := fun c => m1.vr2 (S := wFt S 0) h2 h4 ha hoa (by rw [hg_n (by omega)]; exact va.1) (fun q q1 q2 => hg_n (by omega))
            simp (disch := omega) only [gX9_times_31, gX9_times_32, gX9_times_33, gX9_times_36, gX9_times_37T, gX9_times_37F, gX9_times_40, gX9_times_41, gX9_times_42, gX9_times_45, gX9_times_46, gX9_times_47, fl_9_6, gX9_times_50, gX9_times_52T, gX9_times_52F, gX9_times_55, gX9_times_56, gX9_times_57, gX9_times_60, gX9_times_61, fl_9_5, gX9_times_64T, gX9_times_64F, gX9_times_67, gX9_times_69, gX9_times_70, gX9_times_71, gX9_times_72, gX9_times_73, gX9_times_76, Rd_some, Wr_some, Cont_some, Cont_none, iso_O, true_and, hg_s, hg_n, hput_hput, hx2, vr_lan va, vr_cnt va]
            rw [sp_trd va2 va hu ka.2.2.1 h54]
            generalize hV : mix (TF S.2.1.2 (S.1.2 k)) f0 (S.1.2 k).2.1 = V
            have vV : ∀ j, 0 ≤ j → j < (S.1.2 k).2.1 → V j = TF S.2.1.2 (S.1.2 k) j := fun j j0 j1 => by rw [← hV]; exact mix_in ⟨j0, j1⟩
            simp (disch := omega) only [gX9_times_79, gX9_times_80, Rd_some, Wr_some, Cont_some, Cont_none, iso_O, true_and, hg_s, hg_n, hput_hput]
            have eH : hput H1 54 (cL 64 V) = hput (hput H1 54 (cL 64 V)) 46 (cL 64 (mix (fun j => g0 j * V j % PV S.2.1.2) g0 0)) := by
              rw [mix_0]
              exact (hput_same (by rw [hg_n (by omega)]; exact h46)).symm
            rw [eH]
            have key := lp_mti (H := hput H1 54 (cL 64 V)) (Q := Q) (S := wFt S 0) (n := (S.1.2 k).2.1) (l1 := some (vi a)) (g := g0) (V := V) (by rw [hg_n (by omega)]; exact va.1) hn.symm (by omega) hu hg_s (fun j j0 j1 => by rw [g2 j j0 (by omega)]; exact hmo j j0 (by omega)) (fun j j0 j1 => by rw [vV j j0 j1]; exact TF_r _ _ _) (S.1.2 k).2.1.toNat 0 (by omega) (by omega)
            refine key.mpr ?_
            refine hq _ (MJ.sp (S1 := wFt S 0) m1 h2 h3 h4 (fun q q1 q2 y1 y2 y3 => by rw [hg_n y2, hg_n y3]) (by rw [hg_n (by omega), hg_n (by omega), hn]; exact va.1) ⟨V, by rw [hg_n (by omega), hg_s]⟩ hg_s (fun j j0 j1 => ?_) (by omega) hu (by rw [hn]; exact hdv.2) (fun j _ _ => em (by omega) _)) ((f1.put (by omega)).put (by omega))
            have j1 : j < (S.1.2 k).2.1 := j1
            rw [mix_in ⟨j0, j1⟩, vV j j0 j1, g2 j j0 (by omega)]
            rfl
          · rw [if_neg (fun t => hn t.2)] at hq
            simp (disch := omega) only [gX9_times_31, gX9_times_32, gX9_times_33, gX9_times_36, gX9_times_37T, gX9_times_37F, gX9_times_40, gX9_times_41, gX9_times_42, gX9_times_45, gX9_times_46, gX9_times_47, fl_9_6, gX9_times_50, gX9_times_52T, gX9_times_52F, gX9_times_55, gX9_times_56, gX9_times_57, gX9_times_60, gX9_times_61, fl_9_5, gX9_times_64T, gX9_times_64F, gX9_times_67, gX9_times_69, Rd_some, Wr_some, Cont_some, Cont_none, iso_O, true_and, hg_s, hg_n, hput_hput, hx2, vr_lan va, vr_cnt va]
            exact hq _ (MJ.mk' m1 h2 h3 h4) f1
      · rw [if_neg hl] at hq
        simp (disch := omega) only [gX9_times_31, gX9_times_32, gX9_times_33, gX9_times_36, gX9_times_37T, gX9_times_37F, gX9_times_40, gX9_times_41, gX9_times_42, gX9_times_45, Rd_some, Wr_some, Cont_some, Cont_none, iso_O, true_and, hg_s, hg_n, hput_hput, gX9_fails_0, gX9_fails_1, gX9_fails_2, pf_9_0, gX9_fails_5, gX9_fails_7, gX9_fails_8, gX9_fails_9, Rd_some, Wr_some, Cont_some, Cont_none, iso_O, true_and, hg_s, hg_n, hput_hput, va.1, vr_lan va]
        exact hq _ (MJ.ft h1 h2 h3 h4 2) (Fm.rf.put (by omega))
  · rw [if_neg ha] at hq
    simp (disch := omega) only [gX9_times_0, gX9_times_1, gX9_times_2, pf_9_0, gX9_times_5, gX9_times_6, gX9_times_9T, gX9_times_9F, gX9_times_12, gX9_times_13, gX9_times_14, gX9_times_15, fl_9_1, gX9_times_18, gX9_times_19, aJ_g, gX9_times_20, gX9_times_22T, gX9_times_22F, gX9_times_25, gX9_times_26, gX9_times_27, gX9_times_30, gX9_times_31, gX9_times_32, gX9_times_33, gX9_times_36, gX9_times_37T, gX9_times_37F, gX9_times_40, gX9_times_41, gX9_times_42, gX9_times_45, gX9_times_46, gX9_times_47, fl_9_6, gX9_times_50, gX9_times_52T, gX9_times_52F, gX9_times_55, gX9_times_56, gX9_times_57, gX9_times_60, gX9_times_61, fl_9_5, gX9_times_64T, gX9_times_64F, gX9_times_67, gX9_times_69, gX9_times_70, gX9_times_71, gX9_times_72, gX9_times_73, gX9_times_76, gX9_times_79, gX9_times_80, gX9_times_81, gX9_times_82, gX9_times_83, gX9_times_86T, gX9_times_86F, gX9_times_89, gX9_times_90, fl_9_7, gX9_times_93, gX9_times_94, gX9_times_95, gX9_times_98, gX9_times_99, aL_g, gX9_times_100, gX9_times_101, fl_9_20, gX9_times_104, gX9_times_105, gX9_times_106, gX9_times_107, gX9_times_108, gX9_times_111, gX9_times_114, gX9_times_115, sL_p, gX9_times_116, gX9_times_119, gX9_times_122, gX9_times_123, gX9_times_126, Rd_some, Wr_some, Cont_some, Cont_none, iso_O, true_and, hg_s, hg_n, hput_hput, hx, sp_mplF]
    exact hq _ (MJ.ft h1 h2 h3 h4 0) (Fm.rf.put (by omega))
end MSPE

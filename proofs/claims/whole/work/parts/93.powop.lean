/-! power on both sides (begun by program: wip/gen/power.py) -/
def PW (u : Int) (d : RD) (t : Int) (j : Int) : Int := cpow (Xz (PV u) d.2.2 d.2.1) t.toNat j % PV u
def o_pow (S : SS) (a u t n : Int) : Value × SS := if (0 ≤ a ∧ a < 12) ∧ 0 ≤ u ∧ u ≤ 2 then (if (0 ≤ t ∧ t ≤ 1000) ∧ 1 ≤ n ∧ n ≤ 64 then o_one S a 3 (fun k => (vi n, wSh (wFt S 0) 3 n (PW u (S.1.2 k) t))) else (vi (-2), wFt S 0)) else (vi (-1), wFt S 0)
section PWO
variable {H : HP} {S : SS} {T : TT} {Q : Option Value → HP → Prop} {a u t n : Int}

theorem cx_pow (hc : CI H S) (c : (-2147483648 ≤ a ∧ a ≤ 2147483647) ∧ (-2147483648 ≤ u ∧ u ≤ 2147483647) ∧ (-2147483648 ≤ t ∧ t ≤ 2147483647) ∧ (-2147483648 ≤ n ∧ n ≤ 2147483647)) (hq : CG H Q (o_pow S a u t n)) : Go 92 0 [some (.ref 1), some (vi a), some (vi u), some (vi t), some (vi n), none] [] H Q := by
  have hx := hc.x
  have h2 := hc.pl
  unfold o_pow CG at hq
  by_cases ha : 0 ≤ a ∧ a < 12
  · by_cases hw0 : 0 ≤ u ∧ u ≤ 2
    · rw [if_pos ⟨ha, hw0⟩] at hq
      by_cases hv0 : (0 ≤ t ∧ t ≤ 1000) ∧ 1 ≤ n ∧ n ≤ 64
      · rw [if_pos hv0] at hq
        have hc1 := hc.ft 0
        unfold o_one at hq
        cases hoa : S.1.1 a with
        | none =>
          rw [hoa] at hq
          dsimp only at hq
          simp (disch := omega) only [gX8_power_0, gX8_power_1, gX8_power_2, pf_8_12, gX8_power_5, gX8_power_6, gX8_power_9T, gX8_power_9F, gX8_power_12, gX8_power_13, gX8_power_16T, gX8_power_16F, gX8_power_19, gX8_power_20, gX8_power_21, gX8_power_22T, gX8_power_22F, gX8_power_25, gX8_power_26, gX8_power_29T, gX8_power_29F, gX8_power_32, gX8_power_34, gX8_power_37T, gX8_power_37F, gX8_power_40, gX8_power_42, gX8_power_43, gX8_power_44, fl_8_0, gX8_power_47, gX8_power_48, aR_g, gX8_power_49, gX8_power_49N, gX8_power_51, gX8_power_51N, gX8_power_53T, gX8_power_53F, gX8_power_56, gX8_power_57, gX8_power_58, gX8_power_61, gX8_power_62, gX8_power_62N, gX8_power_64, fl_5_0, gX8_power_67, gX8_power_68T, gX8_power_68F, gX8_power_71, gX8_power_72, gX8_power_73, gX8_power_76, gX8_power_77, gX8_power_78, fl_8_6, gX8_power_81, gX8_power_83, pf_6_1, gX8_power_86, gX8_power_87, fl_8_3, gX8_power_90, gX8_power_90N, gX8_power_92, gX8_power_93, fl_8_1, gX8_power_96, gX8_power_97, gX8_power_98, gX8_power_99, gX8_power_100, gX8_power_103, gX8_power_106, gX8_power_108, Rd_some, Wr_some, Cont_some, Cont_none, iso_O, true_and, hg_s, hg_n, hput_hput, gX8_faulted_0, gX8_faulted_1, gX8_faulted_2, pf_8_12, gX8_faulted_5, gX8_faulted_7, gX8_faulted_8, gX8_faulted_9, Rd_some, Wr_some, Cont_some, Cont_none, iso_O, true_and, hg_s, hg_n, hput_hput, hx, h2, sp_plT, sp_prT, sp_cnT, aR_g, hoa, va_rf_n]
          exact hq _ (hc.ft 1) (FX.put (by decide))
        | some k =>
          rw [hoa] at hq
          dsimp only at hq
          have ra : Rw (hput H 1 (cX (wFt S 0))) k (S.1.2 k) := hc1.rw' (S := wFt S 0) ha hoa
          have la := ra.2.2.2.1
          have f1 : FX H (hput H 1 (cX (wFt S 0))) := FX.put (by decide)
          simp (disch := omega) only [gX8_power_0, gX8_power_1, gX8_power_2, pf_8_12, gX8_power_5, gX8_power_6, gX8_power_9T, gX8_power_9F, gX8_power_12, gX8_power_13, gX8_power_16T, gX8_power_16F, gX8_power_19, gX8_power_20, gX8_power_21, gX8_power_22T, gX8_power_22F, gX8_power_25, gX8_power_26, gX8_power_29T, gX8_power_29F, gX8_power_32, gX8_power_34, gX8_power_37T, gX8_power_37F, gX8_power_40, gX8_power_42, gX8_power_43, gX8_power_44, fl_8_0, gX8_power_47, gX8_power_48, aR_g, gX8_power_49, gX8_power_49N, Rd_some, Wr_some, Cont_some, Cont_none, iso_O, true_and, hg_s, hg_n, hput_hput, hx, h2, sp_plT, sp_prT, sp_cnT, aR_g, hoa, va_rf_s]
          change Go _ _ _ _ (hput H 1 (cX (wFt S 0))) _
          by_cases hl : (S.1.2 k).1 ≤ 3
          · rw [if_pos hl] at hq
            generalize hput H 1 (cX (wFt S 0)) = H1 at hc1 ra f1
            simp (disch := omega) only [gX8_power_51, gX8_power_51N, gX8_power_53T, gX8_power_53F, gX8_power_56, gX8_power_57, gX8_power_58, gX8_power_61, gX8_power_62, gX8_power_62N, gX8_power_64, fl_5_0, gX8_power_67, gX8_power_68T, gX8_power_68F, gX8_power_71, gX8_power_72, gX8_power_73, gX8_power_76, Rd_some, Wr_some, Cont_some, Cont_none, iso_O, true_and, hg_s, hg_n, hput_hput, ra.2.1]
            have hA := ra.RW
            have nA := hA.2.2.2.1
            have oA := ra.1
            have hp := hc1.pv hw0
            have hP := PV_r u
            obtain ⟨g0, g1, -⟩ := hc1.c 17 (by decide)
            obtain ⟨f0, h5⟩ := hc1.c 5 (by decide)
            have h4 : hget H1 4 = cO 2 [.ref 5, .ref 6, .ref 7] := hc1.c 4 (by decide)
            have h16 : hget H1 16 = cO 6 [.ref 17, vi ((wFt S 0).2.2 3).1] := hc1.c 16 (by decide)
            simp (disch := omega) only [gX8_power_77, gX8_power_78, fl_8_6, gX8_power_81, gX8_power_83, pf_6_1, Rd_some, Wr_some, Cont_some, Cont_none, iso_O, true_and, hg_s, hg_n, hput_hput, hc1.x, h16]
            have k0 : ∀ q, q ≠ 16 → hget (hput H1 16 (cO 6 [.ref 17, vi n])) q = hget H1 q := fun q h => hg_n h
            have k16 : hget (hput H1 16 (cO 6 [.ref 17, vi n])) 16 = cO 6 [.ref 17, vi n] := hg_s
            have s1 : (hput H1 16 (cO 6 [.ref 17, vi n])).1 = H1.1 := rfl
            have s2 : (hput H1 16 (cO 6 [.ref 17, vi n])).2.1 = H1.2.1 := rfl
            change Go _ _ _ _ (hput H1 16 (cO 6 [.ref 17, vi n])) _
            generalize hput H1 16 (cO 6 [.ref 17, vi n]) = H2 at *
            have x1 : hget H2 1 = cX (wFt S 0) := by rw [k0 1 (by omega)]; exact hc1.x
            have x3 : hget H2 3 = cR (.object (vCn 3)) 3 pmf := by rw [k0 3 (by omega)]; exact hc1.pm
            have x4 : hget H2 4 = cO 2 [.ref 5, .ref 6, .ref 7] := by rw [k0 4 (by omega)]; exact h4
            have x5 : hget H2 5 = cL 64 f0 := by rw [k0 5 (by omega)]; exact h5
            have x17 : hget H2 17 = cL 64 g0 := by rw [k0 17 (by omega)]; exact g1
            have xp : hget H2 (25 + u.toNat) = cO 3 [vl (PV u)] := by rw [k0 _ (by omega)]; exact hp
            have xA : RW H2 k (k + 1) (S.1.2 k).1 (S.1.2 k).2.1 (S.1.2 k).2.2 := ⟨by rw [k0 k (by omega)]; exact hA.1, by rw [k0 (k + 1) (by omega)]; exact hA.2.1, hA.2.2⟩
            simp (disch := omega) only [gX8_power_86, gX8_power_87, fl_8_3, gX8_power_90, gX8_power_90N, gX8_power_92, gX8_power_93, fl_8_1, gX8_power_96, gX8_power_97, aR_g, gX8_power_98, gX8_power_99, gX8_power_100, fl_8_6, gX8_power_103, Rd_some, Wr_some, Cont_some, Cont_none, iso_O, true_and, hg_s, hg_n, hput_hput, x1, x3, x4, aR_g, va_rf_s, pmf_v]
            refine sp_raise xp hP (by omega) x4 xA (by omega) k16 x5 x17 (by omega) (fun F C hC => ?_)
            simp (disch := omega) only [gX8_power_106, gX8_power_108, Rd_some, Wr_some, Cont_some, Cont_none, iso_O, true_and, hg_s, hg_n, hput_hput]
            unfold HD
            have z1 : ∀ c d, hget (hput (hput H2 5 c) 17 d) 1 = cX (wFt S 0) := fun c d => by rw [hg_n (by omega), hg_n (by omega)]; exact x1
            have z16 : ∀ c d, hget (hput (hput H2 5 c) 17 d) 16 = cO 6 [.ref 17, vi n] := fun c d => by rw [hg_n (by omega), hg_n (by omega)]; exact k16
            refine hq _ (hc1.sh3 s1 (fun q q1 q2 q3 q4 q5 => by rw [hg_n q5, hg_n q1]; exact k0 q q4) ⟨F, by rw [hg_n (by omega), hg_s]⟩ (by obtain ⟨f, hf⟩ := hc1.c 6 (by decide); exact ⟨f, by rw [hg_n (by omega), hg_n (by omega), k0 6 (by omega)]; exact hf⟩) (by obtain ⟨f, hf⟩ := hc1.c 7 (by decide); exact ⟨f, by rw [hg_n (by omega), hg_n (by omega), k0 7 (by omega)]; exact hf⟩) (z16 _ _) hg_s (fun j j0 j1 => hC j j0 j1) (by omega)) (f1.same s1 s2 (fun q hq => by rw [hg_n (by omega), hg_n (by omega)]; exact k0 q (by omega)))
          · rw [if_neg hl] at hq
            simp (disch := omega) only [gX8_power_51, gX8_power_51N, gX8_power_53T, gX8_power_53F, gX8_power_56, gX8_power_57, gX8_power_58, gX8_power_61, gX8_power_62, gX8_power_62N, gX8_power_64, fl_5_0, gX8_power_67, gX8_power_68T, gX8_power_68F, gX8_power_71, gX8_power_72, gX8_power_73, gX8_power_76, Rd_some, Wr_some, Cont_some, Cont_none, iso_O, true_and, hg_s, hg_n, hput_hput, gX8_faulted_0, gX8_faulted_1, gX8_faulted_2, pf_8_12, gX8_faulted_5, gX8_faulted_7, gX8_faulted_8, gX8_faulted_9, Rd_some, Wr_some, Cont_some, Cont_none, iso_O, true_and, hg_s, hg_n, hput_hput, ra.2.1]
            exact hq _ (hc.ft 2) (FX.put (by decide))
      · rw [if_neg hv0] at hq
        by_cases ht : 0 ≤ t ∧ t ≤ 1000
        · simp (disch := omega) only [gX8_power_0, gX8_power_1, gX8_power_2, pf_8_12, gX8_power_5, gX8_power_6, gX8_power_9T, gX8_power_9F, gX8_power_12, gX8_power_13, gX8_power_16T, gX8_power_16F, gX8_power_19, gX8_power_20, gX8_power_21, gX8_power_22T, gX8_power_22F, gX8_power_25, gX8_power_26, gX8_power_29T, gX8_power_29F, gX8_power_32, gX8_power_34, gX8_power_37T, gX8_power_37F, gX8_power_40, gX8_power_42, gX8_power_43, gX8_power_44, fl_8_0, gX8_power_47, gX8_power_48, aR_g, gX8_power_49, gX8_power_49N, gX8_power_51, gX8_power_51N, gX8_power_53T, gX8_power_53F, gX8_power_56, gX8_power_57, gX8_power_58, gX8_power_61, gX8_power_62, gX8_power_62N, gX8_power_64, fl_5_0, gX8_power_67, gX8_power_68T, gX8_power_68F, gX8_power_71, gX8_power_72, gX8_power_73, gX8_power_76, gX8_power_77, gX8_power_78, fl_8_6, gX8_power_81, gX8_power_83, pf_6_1, gX8_power_86, gX8_power_87, fl_8_3, gX8_power_90, gX8_power_90N, gX8_power_92, gX8_power_93, fl_8_1, gX8_power_96, gX8_power_97, gX8_power_98, gX8_power_99, gX8_power_100, gX8_power_103, gX8_power_106, gX8_power_108, Rd_some, Wr_some, Cont_some, Cont_none, iso_O, true_and, hg_s, hg_n, hput_hput, hx, sp_plT, sp_prT, sp_cnF]
          exact hq _ (hc.ft 0) (FX.put (by decide))
        · by_cases ht2 : 0 ≤ t <;> simp (disch := omega) only [gX8_power_0, gX8_power_1, gX8_power_2, pf_8_12, gX8_power_5, gX8_power_6, gX8_power_9T, gX8_power_9F, gX8_power_12, gX8_power_13, gX8_power_16T, gX8_power_16F, gX8_power_19, gX8_power_20, gX8_power_21, gX8_power_22T, gX8_power_22F, gX8_power_25, gX8_power_26, gX8_power_29T, gX8_power_29F, gX8_power_32, gX8_power_34, gX8_power_37T, gX8_power_37F, gX8_power_40, gX8_power_42, gX8_power_43, gX8_power_44, fl_8_0, gX8_power_47, gX8_power_48, aR_g, gX8_power_49, gX8_power_49N, gX8_power_51, gX8_power_51N, gX8_power_53T, gX8_power_53F, gX8_power_56, gX8_power_57, gX8_power_58, gX8_power_61, gX8_power_62, gX8_power_62N, gX8_power_64, fl_5_0, gX8_power_67, gX8_power_68T, gX8_power_68F, gX8_power_71, gX8_power_72, gX8_power_73, gX8_power_76, gX8_power_77, gX8_power_78, fl_8_6, gX8_power_81, gX8_power_83, pf_6_1, gX8_power_86, gX8_power_87, fl_8_3, gX8_power_90, gX8_power_90N, gX8_power_92, gX8_power_93, fl_8_1, gX8_power_96, gX8_power_97, gX8_power_98, gX8_power_99, gX8_power_100, gX8_power_103, gX8_power_106, gX8_power_108, Rd_some, Wr_some, Cont_some, Cont_none, iso_O, true_and, hg_s, hg_n, hput_hput, hx, sp_plT, sp_prT] <;> exact hq _ (hc.ft 0) (FX.put (by decide))
    · rw [if_neg (fun t => hw0 t.2)] at hq
      simp (disch := omega) only [gX8_power_0, gX8_power_1, gX8_power_2, pf_8_12, gX8_power_5, gX8_power_6, gX8_power_9T, gX8_power_9F, gX8_power_12, gX8_power_13, gX8_power_16T, gX8_power_16F, gX8_power_19, gX8_power_20, gX8_power_21, gX8_power_22T, gX8_power_22F, gX8_power_25, gX8_power_26, gX8_power_29T, gX8_power_29F, gX8_power_32, gX8_power_34, gX8_power_37T, gX8_power_37F, gX8_power_40, gX8_power_42, gX8_power_43, gX8_power_44, fl_8_0, gX8_power_47, gX8_power_48, aR_g, gX8_power_49, gX8_power_49N, gX8_power_51, gX8_power_51N, gX8_power_53T, gX8_power_53F, gX8_power_56, gX8_power_57, gX8_power_58, gX8_power_61, gX8_power_62, gX8_power_62N, gX8_power_64, fl_5_0, gX8_power_67, gX8_power_68T, gX8_power_68F, gX8_power_71, gX8_power_72, gX8_power_73, gX8_power_76, gX8_power_77, gX8_power_78, fl_8_6, gX8_power_81, gX8_power_83, pf_6_1, gX8_power_86, gX8_power_87, fl_8_3, gX8_power_90, gX8_power_90N, gX8_power_92, gX8_power_93, fl_8_1, gX8_power_96, gX8_power_97, gX8_power_98, gX8_power_99, gX8_power_100, gX8_power_103, gX8_power_106, gX8_power_108, Rd_some, Wr_some, Cont_some, Cont_none, iso_O, true_and, hg_s, hg_n, hput_hput, hx, sp_plT, sp_prT, sp_cnT, sp_prF]
      exact hq _ (hc.ft 0) (FX.put (by decide))
  · rw [if_neg (fun t => ha t.1)] at hq
    simp (disch := omega) only [gX8_power_0, gX8_power_1, gX8_power_2, pf_8_12, gX8_power_5, gX8_power_6, gX8_power_9T, gX8_power_9F, gX8_power_12, gX8_power_13, gX8_power_16T, gX8_power_16F, gX8_power_19, gX8_power_20, gX8_power_21, gX8_power_22T, gX8_power_22F, gX8_power_25, gX8_power_26, gX8_power_29T, gX8_power_29F, gX8_power_32, gX8_power_34, gX8_power_37T, gX8_power_37F, gX8_power_40, gX8_power_42, gX8_power_43, gX8_power_44, fl_8_0, gX8_power_47, gX8_power_48, aR_g, gX8_power_49, gX8_power_49N, gX8_power_51, gX8_power_51N, gX8_power_53T, gX8_power_53F, gX8_power_56, gX8_power_57, gX8_power_58, gX8_power_61, gX8_power_62, gX8_power_62N, gX8_power_64, fl_5_0, gX8_power_67, gX8_power_68T, gX8_power_68F, gX8_power_71, gX8_power_72, gX8_power_73, gX8_power_76, gX8_power_77, gX8_power_78, fl_8_6, gX8_power_81, gX8_power_83, pf_6_1, gX8_power_86, gX8_power_87, fl_8_3, gX8_power_90, gX8_power_90N, gX8_power_92, gX8_power_93, fl_8_1, gX8_power_96, gX8_power_97, gX8_power_98, gX8_power_99, gX8_power_100, gX8_power_103, gX8_power_106, gX8_power_108, Rd_some, Wr_some, Cont_some, Cont_none, iso_O, true_and, hg_s, hg_n, hput_hput, hx, sp_plT, sp_prT, sp_cnT, sp_plF]
    exact hq _ (hc.ft 0) (FX.put (by decide))

theorem lp_pw0 (h41 : hget H 41 = cM S) {o tw w : Int → Int} {l1 l2 l3 l4 l5 l6 l7 l9 l10 l11 l12 : Option Value} : ∀ (e : Nat) (i : Int), i + e = 64 → 0 ≤ i → (Go 166 81 [some (.ref 41), l1, l2, l3, l4, l5, l6, l7, some (vi i), l9, l10, l11, l12] [] (HW H o tw (mix un w i)) Q ↔ Go 166 111 [some (.ref 41), l1, l2, l3, l4, l5, l6, l7, some (vi 64), l9, l10, l11, l12] [] (HW H o tw (mix un w 64)) Q) := by
  have x41 : ∀ o t w, hget (HW H o t w) 41 = cM S := fun o t w => by rw [HW_q (by omega)]; exact h41
  intro e
  induction e with
  | zero =>
    intro i hi h0
    rw [show i = 64 by omega, gX9_power_81]
    simp (disch := omega) only [gX9_power_83, gX9_power_85T, gX9_power_85F, Rd_some, Wr_some, Cont_some, Cont_none, iso_O, true_and, hg_s, hg_n, hput_hput]
  | succ e ih =>
    intro i hi h0
    rw [gX9_power_81]
    by_cases hz : i = 0
    · simp (disch := omega) only [gX9_power_83, gX9_power_85T, gX9_power_85F, gX9_power_88, gX9_power_89, fl_9_25, gX9_power_92, gX9_power_94, gX9_power_96T, gX9_power_96F, gX9_power_99, gX9_power_100, gX9_power_103, gX9_power_104, sL_p, gX9_power_105, gX9_power_108, Rd_some, Wr_some, Cont_some, Cont_none, iso_O, true_and, hg_s, hg_n, hput_hput, x41, HW_59, HW_p59]
      rw [mix_up h0 (show 1 = un i from (if_pos hz).symm)]
      exact ih (i + 1) (by omega) (by omega)
    · simp (disch := omega) only [gX9_power_83, gX9_power_85T, gX9_power_85F, gX9_power_88, gX9_power_89, fl_9_25, gX9_power_92, gX9_power_94, gX9_power_96T, gX9_power_96F, gX9_power_99, gX9_power_100, gX9_power_103, gX9_power_104, sL_p, gX9_power_105, gX9_power_108, Rd_some, Wr_some, Cont_some, Cont_none, iso_O, true_and, hg_s, hg_n, hput_hput, x41, HW_59, HW_p59]
      rw [mix_up h0 (show 0 = un i from (if_neg hz).symm)]
      exact ih (i + 1) (by omega) (by omega)
theorem lp_pw3 {P : Int} (h41 : hget H 41 = cM S) (hP : 1 < P ∧ P < 1073741824) {o w : Int → Int} (h57 : hget H 57 = cL 64 o) (h59 : hget H 59 = cL 64 w) {i : Nat} (hi : i < 64) (ho : ∀ j, 0 ≤ j → j ≤ (i : Int) → 0 ≤ o j ∧ o j < P) (hw : ∀ j, 0 ≤ j → j ≤ (i : Int) → 0 ≤ w j ∧ w j < P) {l1 l2 l3 l4 l5 l8 : Option Value} : ∀ (e j : Nat), j + e = i + 1 → (Go 166 137 [some (.ref 41), l1, l2, l3, l4, l5, some (vl P), none, l8, some (vi (i : Int)), some (vl (sm (fun j => o j * w ((i : Int) - j)) j % P)), none, some (vi (j : Int))] [] H Q ↔ Go 166 176 [some (.ref 41), l1, l2, l3, l4, l5, some (vl P), none, l8, some (vi (i : Int)), some (vl (cp o w i % P)), none, some (vi ((i : Int) + 1))] [] H Q) := by
  intro e
  induction e with
  | zero =>
    intro j hj
    rw [show j = i + 1 by omega, gX9_power_137]
    simp (disch := omega) only [gX9_power_139, gX9_power_141T, gX9_power_141F, Rd_some, Wr_some, Cont_some, Cont_none, iso_O, true_and, hg_s, hg_n, hput_hput]
    unfold cp
    rw [Int.toNat_natCast]
    exact Iff.rfl
  | succ e ih =>
    intro j hj
    have m1 := ho j (by omega) (by omega)
    have m2 := hw ((i : Int) - j) (by omega) (by omega)
    have m3 := em (P := P) (by omega) (sm (fun j => o j * w ((i : Int) - j)) j)
    obtain ⟨k1, k2⟩ := ms hP m3 m2 m1
    have e1 : (sm (fun j => o j * w ((i : Int) - j)) j % P + w ((i : Int) - j) * o j) % P = sm (fun j => o j * w ((i : Int) - j)) (j + 1) % P := by
      rw [sm, Int.mul_comm (o (j : Int))]
      exact cg.md.ad cg.rf
    rw [gX9_power_137]
    simp (disch := omega) only [gX9_power_139, gX9_power_141T, gX9_power_141F, gX9_power_144, gX9_power_146, gX9_power_147, fl_9_25, gX9_power_150, gX9_power_152, gX9_power_154, gX9_power_155, aL_g, gX9_power_156, gX9_power_157, fl_9_23, gX9_power_160, gX9_power_162, gX9_power_163, gX9_power_164, gX9_power_165, gX9_power_167, gX9_power_168, gX9_power_170, gX9_power_173, Rd_some, Wr_some, Cont_some, Cont_none, iso_O, true_and, hg_s, hg_n, hput_hput, h41, h57, h59, k2, e1]
    exact ih (j + 1) (by omega)
theorem lp_pw2 {P : Int} (h41 : hget H 41 = cM S) (hP : 1 < P ∧ P < 1073741824) {o w : Int → Int} (hn : 1 ≤ n ∧ n ≤ 64) (ho : mo P o 64) (hw : mo P w 64) {l1 l2 l3 l5 l8 : Option Value} (hq : ∀ tw l10 l11 l12, (∀ j, 0 ≤ j → j < n → tw j = cp o w j % P) → Go 166 191 [some (.ref 41), l1, l2, l3, some (vi n), l5, some (vl P), none, l8, some (vi (-1)), l10, l11, l12] [] (HW H o tw w) Q) : ∀ (k : Nat) (tw : Int → Int) (l10 l11 l12 : Option Value), (k : Int) ≤ n → (∀ j, (k : Int) ≤ j → j < n → tw j = cp o w j % P) → Go 166 126 [some (.ref 41), l1, l2, l3, some (vi n), l5, some (vl P), none, l8, some (vi ((k : Int) - 1)), l10, l11, l12] [] (HW H o tw w) Q := by
  have x41 : ∀ o t w, hget (HW H o t w) 41 = cM S := fun o t w => by rw [HW_q (by omega)]; exact h41
  intro k
  induction k with
  | zero =>
    intro tw l10 l11 l12 hk ht
    rw [show ((0 : Nat) : Int) - 1 = -1 from rfl, gX9_power_126]
    simp (disch := omega) only [gX9_power_128T, gX9_power_128F, Rd_some, Wr_some, Cont_some, Cont_none, iso_O, true_and, hg_s, hg_n, hput_hput]
    exact hq tw _ _ _ ht
  | succ k ih =>
    intro tw l10 l11 l12 hk ht
    rw [show ((k + 1 : Nat) : Int) - 1 = (k : Int) by omega, gX9_power_126]
    simp (disch := omega) only [gX9_power_128T, gX9_power_128F, gX9_power_131, gX9_power_132, gX9_power_134, gX9_power_135, Rd_some, Wr_some, Cont_some, Cont_none, iso_O, true_and, hg_s, hg_n, hput_hput]
    have key := lp_pw3 (H := HW H o tw w) (Q := Q) (S := S) (l1 := l1) (l2 := l2) (l3 := l3) (l4 := some (vi n)) (l5 := l5) (l8 := l8) (x41 _ _ _) hP HW_57 HW_59 (i := k) (by omega) (fun j j0 j1 => ho j j0 (by omega)) (fun j j0 j1 => hw j j0 (by omega)) (k + 1) 0 (by omega)
    rw [sm, Int.zero_emod] at key
    refine key.mpr ?_
    simp (disch := omega) only [gX9_power_176, gX9_power_177, fl_9_24, gX9_power_180, gX9_power_182, gX9_power_184, sL_p, gX9_power_185, gX9_power_188, Rd_some, Wr_some, Cont_some, Cont_none, iso_O, true_and, hg_s, hg_n, hput_hput, x41, HW_58, HW_p58]
    rw [show (k : Int) + -1 = (k : Int) - 1 by omega]
    refine ih _ _ _ _ (by omega) (fun j j0 j1 => ?_)
    unfold up
    by_cases e : j = (k : Int)
    · rw [if_pos e, e]
    · rw [if_neg e]; exact ht j (by omega) j1
theorem lp_pw4 (h41 : hget H 41 = cM S) {o tw w : Int → Int} (hn : 1 ≤ n ∧ n ≤ 64) {l1 l2 l3 l5 l6 l7 l8 l10 l11 l12 : Option Value} : ∀ (e : Nat) (i : Int), i + e = n → 0 ≤ i → (Go 166 194 [some (.ref 41), l1, l2, l3, some (vi n), l5, l6, l7, l8, some (vi i), l10, l11, l12] [] (HW H o tw (mix tw w i)) Q ↔ Go 166 221 [some (.ref 41), l1, l2, l3, some (vi n), l5, l6, l7, l8, some (vi n), l10, l11, l12] [] (HW H o tw (mix tw w n)) Q) := by
  have x41 : ∀ o t w, hget (HW H o t w) 41 = cM S := fun o t w => by rw [HW_q (by omega)]; exact h41
  intro e
  induction e with
  | zero =>
    intro i hi h0
    rw [show i = n by omega, gX9_power_194]
    simp (disch := omega) only [gX9_power_196, gX9_power_198T, gX9_power_198F, Rd_some, Wr_some, Cont_some, Cont_none, iso_O, true_and, hg_s, hg_n, hput_hput]
  | succ e ih =>
    intro i hi h0
    rw [gX9_power_194]
    simp (disch := omega) only [gX9_power_196, gX9_power_198T, gX9_power_198F, gX9_power_201, gX9_power_202, fl_9_25, gX9_power_205, gX9_power_207, gX9_power_208, fl_9_24, gX9_power_211, gX9_power_213, aL_g, gX9_power_214, sL_p, gX9_power_215, gX9_power_218, Rd_some, Wr_some, Cont_some, Cont_none, iso_O, true_and, hg_s, hg_n, hput_hput, x41, HW_58, HW_59, HW_p59]
    rw [mix_up h0 rfl]
    exact ih (i + 1) (by omega) (by omega)
theorem lp_pw1 {P : Int} (h41 : hget H 41 = cM S) (hP : 1 < P ∧ P < 1073741824) {o X : Int → Int} (hn : 1 ≤ n ∧ n ≤ 64) (ho : mo P o 64) (hoX : ∀ j, 0 ≤ j → j < 64 → o j = X j) (ht : 0 ≤ t ∧ t ≤ 1000) {l1 l2 l5 : Option Value} (hq : ∀ tw w l8 l9 l10 l11 l12, (∀ j, 0 ≤ j → j < n → w j = cpow X t.toNat j % P) → Go 166 227 [some (.ref 41), l1, l2, some (vi t), some (vi n), l5, some (vl P), none, l8, l9, l10, l11, l12] [] (HW H o tw w) Q) : ∀ (e k : Nat) (tw w : Int → Int) (l9 l10 l11 l12 : Option Value), (k : Int) + e = t → mo P w 64 → (∀ j, 0 ≤ j → j < n → w j = cpow X k j % P) → Go 166 114 [some (.ref 41), l1, l2, some (vi t), some (vi n), l5, some (vl P), none, some (vi (k : Int)), l9, l10, l11, l12] [] (HW H o tw w) Q := by
  intro e
  induction e with
  | zero =>
    intro k tw w l9 l10 l11 l12 hk hm hw
    rw [gX9_power_114]
    simp (disch := omega) only [gX9_power_116, gX9_power_117T, gX9_power_117F, Rd_some, Wr_some, Cont_some, Cont_none, iso_O, true_and, hg_s, hg_n, hput_hput]
    exact hq tw w _ _ _ _ _ (fun j j0 j1 => by rw [show t.toNat = k by omega]; exact hw j j0 j1)
  | succ e ih =>
    intro k tw w l9 l10 l11 l12 hk hm hw
    rw [gX9_power_114]
    simp (disch := omega) only [gX9_power_116, gX9_power_117T, gX9_power_117F, gX9_power_120, gX9_power_122, gX9_power_123, gX9_power_124, Rd_some, Wr_some, Cont_some, Cont_none, iso_O, true_and, hg_s, hg_n, hput_hput]
    have key := lp_pw2 (H := H) (Q := Q) (S := S) (n := n) (l1 := l1) (l2 := l2) (l3 := some (vi t)) (l5 := l5) (l8 := some (vi (k : Int))) h41 hP hn ho hm (fun tw' l10 l11 l12 htw => by
      simp (disch := omega) only [gX9_power_191, gX9_power_192, Rd_some, Wr_some, Cont_some, Cont_none, iso_O, true_and, hg_s, hg_n, hput_hput]
      have e0 : HW H o tw' w = HW H o tw' (mix tw' w 0) := by rw [mix_0]
      rw [e0, lp_pw4 h41 hn n.toNat 0 (by omega) (by omega)]
      simp (disch := omega) only [gX9_power_221, gX9_power_224, Rd_some, Wr_some, Cont_some, Cont_none, iso_O, true_and, hg_s, hg_n, hput_hput]
      refine ih (k + 1) tw' _ _ _ _ _ (by omega) (fun j j0 j1 => ?_) (fun j j0 j1 => ?_)
      · unfold mix
        split
        · rename_i h; rw [htw j h.1 h.2]; exact em (by omega) _
        · exact hm j j0 j1
      · rw [mix_in ⟨j0, j1⟩, htw j j0 j1]
        exact cp_cg (fun i i0 i1 => by rw [hoX i i0 (by omega)]; exact cg.rf) (fun i i0 i1 => by rw [hw i i0 (by omega)]; exact cg.md) j0) n.toNat tw l10 l11 l12 (by omega) (fun j j0 j1 => by omega)
    rw [show ((n.toNat : Nat) : Int) = n by omega] at key
    exact key

theorem mx_pow (hm : MJ H S) (c : (-2147483648 ≤ a ∧ a ≤ 2147483647) ∧ (-2147483648 ≤ u ∧ u ≤ 2147483647) ∧ (-2147483648 ≤ t ∧ t ≤ 2147483647) ∧ (-2147483648 ≤ n ∧ n ≤ 2147483647)) (hq : MG H Q (o_pow S a u t n)) : Go 166 0 [some (.ref 41), some (vi a), some (vi u), some (vi t), some (vi n), none, none, none, none, none, none, none, none] [] H Q := by
  obtain ⟨T, h1, h2, h3, h4⟩ := hm
  have hx := h1.v.1
  unfold o_pow MG at hq
  by_cases ha : 0 ≤ a ∧ a < 12
  · by_cases hw0 : 0 ≤ u ∧ u ≤ 2
    · rw [if_pos ⟨ha, hw0⟩] at hq
      by_cases hv0 : (0 ≤ t ∧ t ≤ 1000) ∧ 1 ≤ n ∧ n ≤ 64
      · rw [if_pos hv0] at hq
        have m1 := h1.ft 0
        unfold o_one at hq
        simp (disch := omega) only [gX9_power_0, gX9_power_1, gX9_power_2, pf_9_0, gX9_power_5, gX9_power_6, gX9_power_9T, gX9_power_9F, gX9_power_12, gX9_power_13, gX9_power_16T, gX9_power_16F, gX9_power_19, gX9_power_20, gX9_power_21, gX9_power_22, gX9_power_23, gX9_power_26, gX9_power_29T, gX9_power_29F, gX9_power_32, gX9_power_34, gX9_power_35, gX9_power_37, gX9_power_40T, gX9_power_40F, gX9_power_43, gX9_power_45, gX9_power_46, gX9_power_47, gX9_power_48, Rd_some, Wr_some, Cont_some, Cont_none, iso_O, true_and, hg_s, hg_n, hput_hput, hx, sp_mplT, sp_mprT, sp_wiT]
        change Go _ _ _ _ (hput H 41 (cM (wFt S 0))) _
        cases hoa : S.1.1 a with
        | none =>
          rw [hoa] at hq
          dsimp only at hq
          rw [sp_a1N (S := wFt S 0) m1 h2 ha hoa]
          simp (disch := omega) only [gX9_power_51, gX9_power_53, gX9_power_55T, gX9_power_55F, gX9_power_58, gX9_power_60, Rd_some, Wr_some, Cont_some, Cont_none, iso_O, true_and, hg_s, hg_n, hput_hput]
          exact hq _ (MJ.ft h1 h2 h3 h4 1) (Fm.rf.put (by omega))
        | some k =>
          rw [hoa] at hq
          dsimp only at hq
          have ka := h4 k ⟨a, ha.1, ha.2, hoa⟩
          have la := ka.1
          by_cases hl : (S.1.2 k).1 ≤ 3
          · rw [if_pos hl] at hq
            rw [sp_a1O (S := wFt S 0) m1 h2 ha hoa la hl]
            have va : VR (hput H 41 (cM (wFt S 0))) (wFt S 0) a (S.1.2 k) := m1.vr (S := wFt S 0) h2 h4 ha hoa
            have f1 : Fm 41 60 H (hput H 41 (cM (wFt S 0))) := Fm.rf.put (by omega)
            generalize hput H 41 (cM (wFt S 0)) = H1 at m1 va f1
            simp (disch := omega) only [gX9_power_51, gX9_power_53, gX9_power_55T, gX9_power_55F, gX9_power_58, gX9_power_60, Rd_some, Wr_some, Cont_some, Cont_none, iso_O, true_and, hg_s, hg_n, hput_hput]
            have hP := PV_r u
            have nA := ka.2.1
            obtain ⟨o0, h57⟩ := m1 57 (by decide) (by decide)
            obtain ⟨t0, h58⟩ := m1 58 (by decide) (by decide)
            obtain ⟨w0, h59⟩ := m1 59 (by decide) (by decide)
            obtain ⟨b0, h60⟩ := m1 60 (by decide) (by decide)
            obtain ⟨g0, h49, -⟩ := m1 49 (by decide) (by decide)
            have vA : ∀ H', hget H' 41 = cM (wFt S 0) → (∀ q, 42 ≤ q → q ≤ 45 → hget H' q = hget H1 q) → VR H' (wFt S 0) a (S.1.2 k) := fun H' e1 e2 => m1.vr2 (S := wFt S 0) h2 h4 ha hoa e1 e2
            have t1 := fun Q => sp_take (H := H1) (Q := Q) (S := wFt S 0) (A := 57) (by decide) hP (fun c => vA _ (by rw [hg_n (by omega)]; exact va.1) (fun q q1 q2 => hg_n (by omega))) ka.2.2.1 h57
            simp (disch := omega) only [gX9_power_61, gX9_power_62, gX9_power_65, gX9_power_67, gX9_power_68, gX9_power_69, fl_9_23, gX9_power_72, gX9_power_73, gX9_power_75, Rd_some, Wr_some, Cont_some, Cont_none, iso_O, true_and, hg_s, hg_n, hput_hput, va.1, sp_prime, t1]
            generalize hO : mix (Xz (PV u) (S.1.2 k).2.2 (S.1.2 k).2.1) o0 64 = O
            have vO : ∀ j, 0 ≤ j → j < 64 → O j = Xz (PV u) (S.1.2 k).2.2 (S.1.2 k).2.1 j := fun j j0 j1 => by rw [← hO]; exact mix_in ⟨j0, j1⟩
            simp (disch := omega) only [gX9_power_78, gX9_power_79, Rd_some, Wr_some, Cont_some, Cont_none, iso_O, true_and, hg_s, hg_n, hput_hput]
            have eH : hput H1 57 (cL 64 O) = HW H1 O t0 (mix un w0 0) := by
              unfold HW
              have e58 : hput (hput H1 57 (cL 64 O)) 58 (cL 64 t0) = hput H1 57 (cL 64 O) := hput_same (by rw [hg_n (by omega)]; exact h58)
              have e59 : hput (hput H1 57 (cL 64 O)) 59 (cL 64 w0) = hput H1 57 (cL 64 O) := hput_same (by rw [hg_n (by omega)]; exact h59)
              rw [mix_0, e58, e59]
            rw [eH, lp_pw0 va.1 64 0 (by omega) (by omega)]
            simp (disch := omega) only [gX9_power_111, gX9_power_112, Rd_some, Wr_some, Cont_some, Cont_none, iso_O, true_and, hg_s, hg_n, hput_hput]
            have key := lp_pw1 (H := H1) (Q := Q) (S := wFt S 0) (P := PV u) (o := O) (X := Xz (PV u) (S.1.2 k).2.2 (S.1.2 k).2.1) (n := n) (t := t) (l1 := some (vi a)) (l2 := some (vi u)) (l5 := some (vi 0)) va.1 hP (by omega) (fun j j0 j1 => by rw [vO j j0 j1]; exact Xz_r (by omega) _ _ _) vO (by omega) (fun tw w l8 l9 l10 l11 l12 hw => by
              have z41 : hget (HW H1 O tw w) 41 = cM (wFt S 0) := by rw [HW_q (by omega)]; exact va.1
              simp (disch := omega) only [gX9_power_227, gX9_power_228, gX9_power_230, Rd_some, Wr_some, Cont_some, Cont_none, iso_O, true_and, hg_s, hg_n, hput_hput, z41]
              rw [sp_kp (S := wFt S 0) z41 (PW u (S.1.2 k) t) HW_59 (g := g0) (by rw [HW_q (by omega)]; exact h49) (by omega)]
              simp (disch := omega) only [gX9_power_233, Rd_some, Wr_some, Cont_some, Cont_none, iso_O, true_and, hg_s, hg_n, hput_hput]
              refine hq _ (MJ.sh3 (S1 := wFt S 0) m1 h2 h3 h4 (fun q q1 q2 q3 => by rw [hg_n q3, hg_n (by omega), HW_q (by omega)]) (by rw [hg_n (by omega), hg_s]) hg_s (fun j j0 j1 => ?_) (by omega) ⟨O, by rw [hg_n (by omega), hg_n (by omega)]; exact HW_57⟩ ⟨tw, by rw [hg_n (by omega), hg_n (by omega)]; exact HW_58⟩ ⟨w, by rw [hg_n (by omega), hg_n (by omega)]; exact HW_59⟩ ⟨b0, by rw [hg_n (by omega), hg_n (by omega), HW_q (by omega)]; exact h60⟩) (((HW_fm f1).put (by omega)).put (by omega))
              have j1 : j < n := j1
              rw [mix_in ⟨j0, j1⟩]
              exact hw j j0 j1) t.toNat 0 t0 (mix un w0 64) none none none none (by omega) (fun j j0 j1 => by rw [mix_in ⟨j0, j1⟩]; unfold un; split <;> omega) (fun j j0 j1 => by
                rw [mix_in ⟨j0, by omega⟩]
                show un j = un j % PV u
                unfold un
                split
                · rw [Int.emod_eq_of_lt (by decide) hP.1]
                · rfl)
            exact key
          · rw [if_neg hl] at hq
            rw [sp_a1C (S := wFt S 0) m1 h2 ha hoa la hl]
            simp (disch := omega) only [gX9_power_51, gX9_power_53, gX9_power_55T, gX9_power_55F, gX9_power_58, gX9_power_60, Rd_some, Wr_some, Cont_some, Cont_none, iso_O, true_and, hg_s, hg_n, hput_hput]
            exact hq _ (MJ.ft h1 h2 h3 h4 2) (Fm.rf.put (by omega))
      · rw [if_neg hv0] at hq
        by_cases ht : 0 ≤ t ∧ t ≤ 1000 <;> simp (disch := omega) only [gX9_power_0, gX9_power_1, gX9_power_2, pf_9_0, gX9_power_5, gX9_power_6, gX9_power_9T, gX9_power_9F, gX9_power_12, gX9_power_13, gX9_power_16T, gX9_power_16F, gX9_power_19, gX9_power_20, gX9_power_21, gX9_power_22, gX9_power_23, gX9_power_26, gX9_power_29T, gX9_power_29F, gX9_power_32, gX9_power_34, gX9_power_35, gX9_power_37, gX9_power_40T, gX9_power_40F, gX9_power_43, gX9_power_45, gX9_power_46, gX9_power_47, gX9_power_48, gX9_power_51, gX9_power_53, gX9_power_55T, gX9_power_55F, gX9_power_58, gX9_power_60, gX9_power_61, gX9_power_62, gX9_power_65, gX9_power_67, gX9_power_68, gX9_power_69, fl_9_23, gX9_power_72, gX9_power_73, gX9_power_75, gX9_power_78, gX9_power_79, gX9_power_81, gX9_power_83, gX9_power_85T, gX9_power_85F, gX9_power_88, gX9_power_89, fl_9_25, gX9_power_92, gX9_power_94, gX9_power_96T, gX9_power_96F, gX9_power_99, gX9_power_100, gX9_power_103, gX9_power_104, sL_p, gX9_power_105, gX9_power_108, gX9_power_111, gX9_power_112, gX9_power_114, gX9_power_116, gX9_power_117T, gX9_power_117F, gX9_power_120, gX9_power_122, gX9_power_123, gX9_power_124, gX9_power_126, gX9_power_128T, gX9_power_128F, gX9_power_131, gX9_power_132, gX9_power_134, gX9_power_135, gX9_power_137, gX9_power_139, gX9_power_141T, gX9_power_141F, gX9_power_144, gX9_power_146, gX9_power_147, gX9_power_150, gX9_power_152, gX9_power_154, gX9_power_155, aL_g, gX9_power_156, gX9_power_157, gX9_power_160, gX9_power_162, gX9_power_163, gX9_power_164, gX9_power_165, gX9_power_167, gX9_power_168, gX9_power_170, gX9_power_173, gX9_power_176, gX9_power_177, fl_9_24, gX9_power_180, gX9_power_182, gX9_power_184, gX9_power_185, gX9_power_188, gX9_power_191, gX9_power_192, gX9_power_194, gX9_power_196, gX9_power_198T, gX9_power_198F, gX9_power_201, gX9_power_202, gX9_power_205, gX9_power_207, gX9_power_208, gX9_power_211, gX9_power_213, gX9_power_214, gX9_power_215, gX9_power_218, gX9_power_221, gX9_power_224, gX9_power_227, gX9_power_228, gX9_power_230, gX9_power_233, Rd_some, Wr_some, Cont_some, Cont_none, iso_O, true_and, hg_s, hg_n, hput_hput, hx, sp_mplT, sp_mprT, sp_wiT, sp_wiF] <;> exact hq _ (MJ.ft h1 h2 h3 h4 0) (Fm.rf.put (by omega))
    · rw [if_neg (fun t => hw0 t.2)] at hq
      simp (disch := omega) only [gX9_power_0, gX9_power_1, gX9_power_2, pf_9_0, gX9_power_5, gX9_power_6, gX9_power_9T, gX9_power_9F, gX9_power_12, gX9_power_13, gX9_power_16T, gX9_power_16F, gX9_power_19, gX9_power_20, gX9_power_21, gX9_power_22, gX9_power_23, gX9_power_26, gX9_power_29T, gX9_power_29F, gX9_power_32, gX9_power_34, gX9_power_35, gX9_power_37, gX9_power_40T, gX9_power_40F, gX9_power_43, gX9_power_45, gX9_power_46, gX9_power_47, gX9_power_48, gX9_power_51, gX9_power_53, gX9_power_55T, gX9_power_55F, gX9_power_58, gX9_power_60, gX9_power_61, gX9_power_62, gX9_power_65, gX9_power_67, gX9_power_68, gX9_power_69, fl_9_23, gX9_power_72, gX9_power_73, gX9_power_75, gX9_power_78, gX9_power_79, gX9_power_81, gX9_power_83, gX9_power_85T, gX9_power_85F, gX9_power_88, gX9_power_89, fl_9_25, gX9_power_92, gX9_power_94, gX9_power_96T, gX9_power_96F, gX9_power_99, gX9_power_100, gX9_power_103, gX9_power_104, sL_p, gX9_power_105, gX9_power_108, gX9_power_111, gX9_power_112, gX9_power_114, gX9_power_116, gX9_power_117T, gX9_power_117F, gX9_power_120, gX9_power_122, gX9_power_123, gX9_power_124, gX9_power_126, gX9_power_128T, gX9_power_128F, gX9_power_131, gX9_power_132, gX9_power_134, gX9_power_135, gX9_power_137, gX9_power_139, gX9_power_141T, gX9_power_141F, gX9_power_144, gX9_power_146, gX9_power_147, gX9_power_150, gX9_power_152, gX9_power_154, gX9_power_155, aL_g, gX9_power_156, gX9_power_157, gX9_power_160, gX9_power_162, gX9_power_163, gX9_power_164, gX9_power_165, gX9_power_167, gX9_power_168, gX9_power_170, gX9_power_173, gX9_power_176, gX9_power_177, fl_9_24, gX9_power_180, gX9_power_182, gX9_power_184, gX9_power_185, gX9_power_188, gX9_power_191, gX9_power_192, gX9_power_194, gX9_power_196, gX9_power_198T, gX9_power_198F, gX9_power_201, gX9_power_202, gX9_power_205, gX9_power_207, gX9_power_208, gX9_power_211, gX9_power_213, gX9_power_214, gX9_power_215, gX9_power_218, gX9_power_221, gX9_power_224, gX9_power_227, gX9_power_228, gX9_power_230, gX9_power_233, Rd_some, Wr_some, Cont_some, Cont_none, iso_O, true_and, hg_s, hg_n, hput_hput, hx, sp_mplT, sp_mprT, sp_wiT, sp_mprF]
      exact hq _ (MJ.ft h1 h2 h3 h4 0) (Fm.rf.put (by omega))
  · rw [if_neg (fun t => ha t.1)] at hq
    simp (disch := omega) only [gX9_power_0, gX9_power_1, gX9_power_2, pf_9_0, gX9_power_5, gX9_power_6, gX9_power_9T, gX9_power_9F, gX9_power_12, gX9_power_13, gX9_power_16T, gX9_power_16F, gX9_power_19, gX9_power_20, gX9_power_21, gX9_power_22, gX9_power_23, gX9_power_26, gX9_power_29T, gX9_power_29F, gX9_power_32, gX9_power_34, gX9_power_35, gX9_power_37, gX9_power_40T, gX9_power_40F, gX9_power_43, gX9_power_45, gX9_power_46, gX9_power_47, gX9_power_48, gX9_power_51, gX9_power_53, gX9_power_55T, gX9_power_55F, gX9_power_58, gX9_power_60, gX9_power_61, gX9_power_62, gX9_power_65, gX9_power_67, gX9_power_68, gX9_power_69, fl_9_23, gX9_power_72, gX9_power_73, gX9_power_75, gX9_power_78, gX9_power_79, gX9_power_81, gX9_power_83, gX9_power_85T, gX9_power_85F, gX9_power_88, gX9_power_89, fl_9_25, gX9_power_92, gX9_power_94, gX9_power_96T, gX9_power_96F, gX9_power_99, gX9_power_100, gX9_power_103, gX9_power_104, sL_p, gX9_power_105, gX9_power_108, gX9_power_111, gX9_power_112, gX9_power_114, gX9_power_116, gX9_power_117T, gX9_power_117F, gX9_power_120, gX9_power_122, gX9_power_123, gX9_power_124, gX9_power_126, gX9_power_128T, gX9_power_128F, gX9_power_131, gX9_power_132, gX9_power_134, gX9_power_135, gX9_power_137, gX9_power_139, gX9_power_141T, gX9_power_141F, gX9_power_144, gX9_power_146, gX9_power_147, gX9_power_150, gX9_power_152, gX9_power_154, gX9_power_155, aL_g, gX9_power_156, gX9_power_157, gX9_power_160, gX9_power_162, gX9_power_163, gX9_power_164, gX9_power_165, gX9_power_167, gX9_power_168, gX9_power_170, gX9_power_173, gX9_power_176, gX9_power_177, fl_9_24, gX9_power_180, gX9_power_182, gX9_power_184, gX9_power_185, gX9_power_188, gX9_power_191, gX9_power_192, gX9_power_194, gX9_power_196, gX9_power_198T, gX9_power_198F, gX9_power_201, gX9_power_202, gX9_power_205, gX9_power_207, gX9_power_208, gX9_power_211, gX9_power_213, gX9_power_214, gX9_power_215, gX9_power_218, gX9_power_221, gX9_power_224, gX9_power_227, gX9_power_228, gX9_power_230, gX9_power_233, Rd_some, Wr_some, Cont_some, Cont_none, iso_O, true_and, hg_s, hg_n, hput_hput, hx, sp_mplT, sp_mprT, sp_wiT, sp_mplF]
    exact hq _ (MJ.ft h1 h2 h3 h4 0) (Fm.rf.put (by omega))

end PWO

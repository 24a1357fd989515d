/-! interpolate on both sides (begun by program: wip/gen/itp.py) -/
def eqb (P : Int) (g : Int → Int) (i : Int) : Nat → Bool
  | 0 => false
  | j + 1 => eqb P g i j || decide (g i % P = g j % P)
def alb (P : Int) (g : Int → Int) : Nat → Bool
  | 0 => false
  | i + 1 => alb P g i || eqb P g i i
theorem eqb_ex {P : Int} {g : Int → Int} {i : Int} {n : Nat} : eqb P g i n = true ↔ ∃ j : Int, 0 ≤ j ∧ j < n ∧ g i % P = g j % P := by
  induction n with
  | zero => exact ⟨fun h => (by cases h), fun ⟨j, q⟩ => (by omega)⟩
  | succ n ih =>
    rw [eqb, Bool.or_eq_true, ih, decide_eq_true_eq]
    constructor
    · rintro (⟨j, j0, j1, j2⟩ | h)
      · exact ⟨j, j0, by omega, j2⟩
      · exact ⟨n, by omega, by omega, h⟩
    · rintro ⟨j, j0, j1, j2⟩
      by_cases e : j = n
      · rw [e] at j2; exact Or.inr j2
      · exact Or.inl ⟨j, j0, by omega, j2⟩
theorem alb_alk {P : Int} {g : Int → Int} {n : Nat} : alb P g n = true ↔ alk P g n := by
  induction n with
  | zero => exact ⟨fun h => (by cases h), fun ⟨i, j, q⟩ => (by omega)⟩
  | succ n ih =>
    rw [alb, Bool.or_eq_true, ih, eqb_ex]
    constructor
    · rintro (⟨i, j, j0, j1, j2, j3⟩ | ⟨j, j0, j1, j2⟩)
      · exact ⟨i, j, j0, j1, by omega, j3⟩
      · exact ⟨n, j, j0, j1, by omega, j2⟩
    · rintro ⟨i, j, j0, j1, j2, j3⟩
      by_cases e : i = n
      · rw [e] at j1 j3; exact Or.inr ⟨j, j0, j1, j3⟩
      · exact Or.inl ⟨i, j, j0, j1, by omega, j3⟩
def ITP (u : Int) (d e : RD) (j : Int) : Int := itv (PV u) (Xz (PV u) d.2.2 d.2.1) e.2.2 d.2.1.toNat j d.2.1.toNat % PV u
def o_itp (S : SS) (a b u : Int) : Value × SS := if (0 ≤ a ∧ a < 12) ∧ (0 ≤ b ∧ b < 12) ∧ 0 ≤ u ∧ u ≤ 2 then o_two S a b 3 (fun k l => if (S.1.2 k).2.1 = (S.1.2 l).2.1 then (if alb (PV u) (S.1.2 k).2.2 (S.1.2 k).2.1.toNat = true then fo S 5 else (vi (S.1.2 k).2.1, wSh (wFt S 0) 3 (S.1.2 k).2.1 (ITP u (S.1.2 k) (S.1.2 l)))) else (vi (-3), wFt S 0)) else (vi (-1), wFt S 0)
section ITO
variable {H : HP} {S : SS} {T : TT} {Q : Option Value → HP → Prop} {a b u n : Int}

theorem cx_itp (hc : CI H S) (c : (-2147483648 ≤ a ∧ a ≤ 2147483647) ∧ (-2147483648 ≤ b ∧ b ≤ 2147483647) ∧ (-2147483648 ≤ u ∧ u ≤ 2147483647)) (hq : CG H Q (o_itp S a b u)) : Go 96 0 [some (.ref 1), some (vi a), some (vi b), some (vi u), none, none] [] H Q := by
  have hx := hc.x
  have h2 := hc.pl
  unfold o_itp CG at hq
  by_cases ha : 0 ≤ a ∧ a < 12
  · by_cases hb : 0 ≤ b ∧ b < 12
    · by_cases hw0 : 0 ≤ u ∧ u ≤ 2
      · rw [if_pos ⟨ha, hb, hw0⟩] at hq
        have hc1 := hc.ft 0
        unfold o_two at hq
        cases hoa : S.1.1 a with
        | none =>
          cases hob : S.1.1 b with
          | none =>
            rw [hoa, hob] at hq
            dsimp only at hq
            simp (disch := omega) only [gX8_interpolate_0, gX8_interpolate_1, gX8_interpolate_2, pf_8_12, gX8_interpolate_5, gX8_interpolate_6, gX8_interpolate_9T, gX8_interpolate_9F, gX8_interpolate_12, gX8_interpolate_13, gX8_interpolate_16T, gX8_interpolate_16F, gX8_interpolate_19, gX8_interpolate_20, gX8_interpolate_23T, gX8_interpolate_23F, gX8_interpolate_26, gX8_interpolate_27, gX8_interpolate_28, gX8_interpolate_29, fl_8_0, gX8_interpolate_32, gX8_interpolate_33, aR_g, gX8_interpolate_34, gX8_interpolate_34N, gX8_interpolate_36, gX8_interpolate_37, gX8_interpolate_40, gX8_interpolate_41, gX8_interpolate_42, gX8_interpolate_42N, gX8_interpolate_44, gX8_interpolate_44N, gX8_interpolate_46T, gX8_interpolate_46F, gX8_interpolate_49, gX8_interpolate_49N, gX8_interpolate_51T, gX8_interpolate_51F, gX8_interpolate_54, gX8_interpolate_55, gX8_interpolate_56, gX8_interpolate_59, gX8_interpolate_60, gX8_interpolate_60N, gX8_interpolate_62, fl_5_0, gX8_interpolate_65, gX8_interpolate_66T, gX8_interpolate_66F, gX8_interpolate_69, gX8_interpolate_69N, gX8_interpolate_71, gX8_interpolate_74, gX8_interpolate_75T, gX8_interpolate_75F, gX8_interpolate_78, gX8_interpolate_79, gX8_interpolate_80, gX8_interpolate_83, gX8_interpolate_84, gX8_interpolate_84N, gX8_interpolate_86, gX8_interpolate_89, gX8_interpolate_89N, gX8_interpolate_91, gX8_interpolate_94T, gX8_interpolate_94F, gX8_interpolate_97, gX8_interpolate_99, gX8_interpolate_100, gX8_interpolate_101, fl_8_1, gX8_interpolate_104, gX8_interpolate_105, gX8_interpolate_106, gX8_interpolate_106N, gX8_interpolate_108, gX8_interpolate_111T, gX8_interpolate_111F, gX8_interpolate_114, gX8_interpolate_115, gX8_interpolate_116, gX8_interpolate_119, gX8_interpolate_120, gX8_interpolate_121, fl_8_6, gX8_interpolate_124, gX8_interpolate_124N, gX8_interpolate_126, gX8_interpolate_129, pf_6_1, gX8_interpolate_132, gX8_interpolate_133, fl_8_3, gX8_interpolate_136, gX8_interpolate_136N, gX8_interpolate_138, gX8_interpolate_138N, gX8_interpolate_140, gX8_interpolate_141, gX8_interpolate_144, gX8_interpolate_145, gX8_interpolate_146, gX8_interpolate_147, gX8_interpolate_150, gX8_interpolate_153, gX8_interpolate_154, gX8_interpolate_157, fl_6_1, gX8_interpolate_160, Rd_some, Wr_some, Cont_some, Cont_none, iso_O, true_and, hg_s, hg_n, hput_hput, gX8_faulted_0, gX8_faulted_1, gX8_faulted_2, pf_8_12, gX8_faulted_5, gX8_faulted_7, gX8_faulted_8, gX8_faulted_9, Rd_some, Wr_some, Cont_some, Cont_none, iso_O, true_and, hg_s, hg_n, hput_hput, hx, h2, sp_plT, sp_prT, aR_g, hoa, hob, va_rf_n]
            exact hq _ (hc.ft 1) (FX.put (by decide))
          | some l =>
            rw [hoa, hob] at hq
            dsimp only at hq
            simp (disch := omega) only [gX8_interpolate_0, gX8_interpolate_1, gX8_interpolate_2, pf_8_12, gX8_interpolate_5, gX8_interpolate_6, gX8_interpolate_9T, gX8_interpolate_9F, gX8_interpolate_12, gX8_interpolate_13, gX8_interpolate_16T, gX8_interpolate_16F, gX8_interpolate_19, gX8_interpolate_20, gX8_interpolate_23T, gX8_interpolate_23F, gX8_interpolate_26, gX8_interpolate_27, gX8_interpolate_28, gX8_interpolate_29, fl_8_0, gX8_interpolate_32, gX8_interpolate_33, aR_g, gX8_interpolate_34, gX8_interpolate_34N, gX8_interpolate_36, gX8_interpolate_37, gX8_interpolate_40, gX8_interpolate_41, gX8_interpolate_42, gX8_interpolate_42N, gX8_interpolate_44, gX8_interpolate_44N, gX8_interpolate_46T, gX8_interpolate_46F, gX8_interpolate_49, gX8_interpolate_49N, gX8_interpolate_51T, gX8_interpolate_51F, gX8_interpolate_54, gX8_interpolate_55, gX8_interpolate_56, gX8_interpolate_59, gX8_interpolate_60, gX8_interpolate_60N, gX8_interpolate_62, fl_5_0, gX8_interpolate_65, gX8_interpolate_66T, gX8_interpolate_66F, gX8_interpolate_69, gX8_interpolate_69N, gX8_interpolate_71, gX8_interpolate_74, gX8_interpolate_75T, gX8_interpolate_75F, gX8_interpolate_78, gX8_interpolate_79, gX8_interpolate_80, gX8_interpolate_83, gX8_interpolate_84, gX8_interpolate_84N, gX8_interpolate_86, gX8_interpolate_89, gX8_interpolate_89N, gX8_interpolate_91, gX8_interpolate_94T, gX8_interpolate_94F, gX8_interpolate_97, gX8_interpolate_99, gX8_interpolate_100, gX8_interpolate_101, fl_8_1, gX8_interpolate_104, gX8_interpolate_105, gX8_interpolate_106, gX8_interpolate_106N, gX8_interpolate_108, gX8_interpolate_111T, gX8_interpolate_111F, gX8_interpolate_114, gX8_interpolate_115, gX8_interpolate_116, gX8_interpolate_119, gX8_interpolate_120, gX8_interpolate_121, fl_8_6, gX8_interpolate_124, gX8_interpolate_124N, gX8_interpolate_126, gX8_interpolate_129, pf_6_1, gX8_interpolate_132, gX8_interpolate_133, fl_8_3, gX8_interpolate_136, gX8_interpolate_136N, gX8_interpolate_138, gX8_interpolate_138N, gX8_interpolate_140, gX8_interpolate_141, gX8_interpolate_144, gX8_interpolate_145, gX8_interpolate_146, gX8_interpolate_147, gX8_interpolate_150, gX8_interpolate_153, gX8_interpolate_154, gX8_interpolate_157, fl_6_1, gX8_interpolate_160, Rd_some, Wr_some, Cont_some, Cont_none, iso_O, true_and, hg_s, hg_n, hput_hput, gX8_faulted_0, gX8_faulted_1, gX8_faulted_2, pf_8_12, gX8_faulted_5, gX8_faulted_7, gX8_faulted_8, gX8_faulted_9, Rd_some, Wr_some, Cont_some, Cont_none, iso_O, true_and, hg_s, hg_n, hput_hput, hx, h2, sp_plT, sp_prT, aR_g, hoa, hob, va_rf_n, va_rf_s]
            exact hq _ (hc.ft 1) (FX.put (by decide))
        | some k =>
          cases hob : S.1.1 b with
          | none =>
            rw [hoa, hob] at hq
            dsimp only at hq
            simp (disch := omega) only [gX8_interpolate_0, gX8_interpolate_1, gX8_interpolate_2, pf_8_12, gX8_interpolate_5, gX8_interpolate_6, gX8_interpolate_9T, gX8_interpolate_9F, gX8_interpolate_12, gX8_interpolate_13, gX8_interpolate_16T, gX8_interpolate_16F, gX8_interpolate_19, gX8_interpolate_20, gX8_interpolate_23T, gX8_interpolate_23F, gX8_interpolate_26, gX8_interpolate_27, gX8_interpolate_28, gX8_interpolate_29, fl_8_0, gX8_interpolate_32, gX8_interpolate_33, aR_g, gX8_interpolate_34, gX8_interpolate_34N, gX8_interpolate_36, gX8_interpolate_37, gX8_interpolate_40, gX8_interpolate_41, gX8_interpolate_42, gX8_interpolate_42N, gX8_interpolate_44, gX8_interpolate_44N, gX8_interpolate_46T, gX8_interpolate_46F, gX8_interpolate_49, gX8_interpolate_49N, gX8_interpolate_51T, gX8_interpolate_51F, gX8_interpolate_54, gX8_interpolate_55, gX8_interpolate_56, gX8_interpolate_59, gX8_interpolate_60, gX8_interpolate_60N, gX8_interpolate_62, fl_5_0, gX8_interpolate_65, gX8_interpolate_66T, gX8_interpolate_66F, gX8_interpolate_69, gX8_interpolate_69N, gX8_interpolate_71, gX8_interpolate_74, gX8_interpolate_75T, gX8_interpolate_75F, gX8_interpolate_78, gX8_interpolate_79, gX8_interpolate_80, gX8_interpolate_83, gX8_interpolate_84, gX8_interpolate_84N, gX8_interpolate_86, gX8_interpolate_89, gX8_interpolate_89N, gX8_interpolate_91, gX8_interpolate_94T, gX8_interpolate_94F, gX8_interpolate_97, gX8_interpolate_99, gX8_interpolate_100, gX8_interpolate_101, fl_8_1, gX8_interpolate_104, gX8_interpolate_105, gX8_interpolate_106, gX8_interpolate_106N, gX8_interpolate_108, gX8_interpolate_111T, gX8_interpolate_111F, gX8_interpolate_114, gX8_interpolate_115, gX8_interpolate_116, gX8_interpolate_119, gX8_interpolate_120, gX8_interpolate_121, fl_8_6, gX8_interpolate_124, gX8_interpolate_124N, gX8_interpolate_126, gX8_interpolate_129, pf_6_1, gX8_interpolate_132, gX8_interpolate_133, fl_8_3, gX8_interpolate_136, gX8_interpolate_136N, gX8_interpolate_138, gX8_interpolate_138N, gX8_interpolate_140, gX8_interpolate_141, gX8_interpolate_144, gX8_interpolate_145, gX8_interpolate_146, gX8_interpolate_147, gX8_interpolate_150, gX8_interpolate_153, gX8_interpolate_154, gX8_interpolate_157, fl_6_1, gX8_interpolate_160, Rd_some, Wr_some, Cont_some, Cont_none, iso_O, true_and, hg_s, hg_n, hput_hput, gX8_faulted_0, gX8_faulted_1, gX8_faulted_2, pf_8_12, gX8_faulted_5, gX8_faulted_7, gX8_faulted_8, gX8_faulted_9, Rd_some, Wr_some, Cont_some, Cont_none, iso_O, true_and, hg_s, hg_n, hput_hput, hx, h2, sp_plT, sp_prT, aR_g, hoa, hob, va_rf_n, va_rf_s]
            exact hq _ (hc.ft 1) (FX.put (by decide))
          | some l =>
            rw [hoa, hob] at hq
            dsimp only at hq
            have ra : Rw (hput H 1 (cX (wFt S 0))) k (S.1.2 k) := hc1.rw' (S := wFt S 0) ha hoa
            have rb : Rw (hput H 1 (cX (wFt S 0))) l (S.1.2 l) := hc1.rw' (S := wFt S 0) hb hob
            have la := ra.2.2.2.1
            have lb := rb.2.2.2.1
            have f1 : FX H (hput H 1 (cX (wFt S 0))) := FX.put (by decide)
            simp (disch := omega) only [gX8_interpolate_0, gX8_interpolate_1, gX8_interpolate_2, pf_8_12, gX8_interpolate_5, gX8_interpolate_6, gX8_interpolate_9T, gX8_interpolate_9F, gX8_interpolate_12, gX8_interpolate_13, gX8_interpolate_16T, gX8_interpolate_16F, gX8_interpolate_19, gX8_interpolate_20, gX8_interpolate_23T, gX8_interpolate_23F, gX8_interpolate_26, gX8_interpolate_27, gX8_interpolate_28, gX8_interpolate_29, fl_8_0, gX8_interpolate_32, gX8_interpolate_33, aR_g, gX8_interpolate_34, gX8_interpolate_34N, gX8_interpolate_36, gX8_interpolate_37, gX8_interpolate_40, gX8_interpolate_41, gX8_interpolate_42, gX8_interpolate_42N, Rd_some, Wr_some, Cont_some, Cont_none, iso_O, true_and, hg_s, hg_n, hput_hput, hx, h2, sp_plT, sp_prT, aR_g, hoa, hob, va_rf_s]
            change Go _ _ _ _ (hput H 1 (cX (wFt S 0))) _
            by_cases hl : (S.1.2 k).1 ≤ 3 ∧ (S.1.2 l).1 ≤ 3
            · rw [if_pos hl] at hq
              generalize hput H 1 (cX (wFt S 0)) = H1 at hc1 ra rb f1
              simp (disch := omega) only [gX8_interpolate_44, gX8_interpolate_44N, gX8_interpolate_46T, gX8_interpolate_46F, gX8_interpolate_49, gX8_interpolate_49N, gX8_interpolate_51T, gX8_interpolate_51F, gX8_interpolate_54, gX8_interpolate_55, gX8_interpolate_56, gX8_interpolate_59, gX8_interpolate_60, gX8_interpolate_60N, gX8_interpolate_62, fl_5_0, gX8_interpolate_65, gX8_interpolate_66T, gX8_interpolate_66F, gX8_interpolate_69, gX8_interpolate_69N, gX8_interpolate_71, gX8_interpolate_74, gX8_interpolate_75T, gX8_interpolate_75F, gX8_interpolate_78, gX8_interpolate_79, gX8_interpolate_80, gX8_interpolate_83, Rd_some, Wr_some, Cont_some, Cont_none, iso_O, true_and, hg_s, hg_n, hput_hput, ra.2.1, rb.2.1]
              have hA := ra.RW
              have nA := hA.2.2.2.1
              have oA := ra.1
              have hp := hc1.pv hw0
              have hP := PV_r u
              obtain ⟨g0, g1, -⟩ := hc1.c 17 (by decide)
              obtain ⟨f0, h5⟩ := hc1.c 5 (by decide)
              have h4 : hget H1 4 = cO 2 [.ref 5, .ref 6, .ref 7] := hc1.c 4 (by decide)
              have h16 : hget H1 16 = cO 6 [.ref 17, vi ((wFt S 0).2.2 3).1] := hc1.c 16 (by decide)
              have hB := rb.RW
              have nB := hB.2.2.2.1
              have oB := rb.1
              have al := fun Q => sp_alike (Q := Q) hp hP hA.1 hA.2.1 hA.sz hA.2.2.2.2
              have cN : (((S.1.2 k).2.1.toNat : Nat) : Int) = (S.1.2 k).2.1 := by omega
              by_cases hn : (S.1.2 k).2.1 = (S.1.2 l).2.1
              · rw [if_pos hn] at hq
                by_cases hz : alb (PV u) (S.1.2 k).2.2 (S.1.2 k).2.1.toNat = true
                · rw [if_pos hz] at hq
                  have hz' := alb_alk.mp hz
                  rw [cN] at hz'
                  simp (disch := omega) only [gX8_interpolate_84, gX8_interpolate_84N, gX8_interpolate_86, gX8_interpolate_89, gX8_interpolate_89N, gX8_interpolate_91, gX8_interpolate_94T, gX8_interpolate_94F, gX8_interpolate_97, gX8_interpolate_99, gX8_interpolate_100, gX8_interpolate_101, fl_8_1, gX8_interpolate_104, gX8_interpolate_105, aR_g, gX8_interpolate_106, gX8_interpolate_106N, gX8_interpolate_108, Rd_some, Wr_some, Cont_some, Cont_none, iso_O, true_and, hg_s, hg_n, hput_hput, hc1.x, hc1.pm, aR_g, va_rf_s, pmf_v, ra.2.1, rb.2.1, hp, sp_size hA.1 hA.2.1 hA.sz, sp_size hB.1 hB.2.1 hB.sz]
                  rw [(al _).1 hz']
                  simp (disch := omega) only [gX8_interpolate_111T, gX8_interpolate_111F, gX8_interpolate_114, gX8_interpolate_115, gX8_interpolate_116, gX8_interpolate_119, Rd_some, Wr_some, Cont_some, Cont_none, iso_O, true_and, hg_s, hg_n, hput_hput, gX8_faulted_0, gX8_faulted_1, gX8_faulted_2, pf_8_12, gX8_faulted_5, gX8_faulted_7, gX8_faulted_8, gX8_faulted_9, Rd_some, Wr_some, Cont_some, Cont_none, iso_O, true_and, hg_s, hg_n, hput_hput, hc1.x]
                  exact hq _ (hc1.ft 5) (f1.same rfl rfl (fun q hq => hg_n (by omega)))
                · rw [if_neg hz] at hq
                  have hz' : ¬ alk (PV u) (S.1.2 k).2.2 (S.1.2 k).2.1 := fun t => hz (alb_alk.mpr (by rw [cN]; exact t))
                  obtain ⟨f6, h6⟩ := hc1.c 6 (by decide)
                  obtain ⟨f7, h7⟩ := hc1.c 7 (by decide)
                  simp (disch := omega) only [gX8_interpolate_84, gX8_interpolate_84N, gX8_interpolate_86, gX8_interpolate_89, gX8_interpolate_89N, gX8_interpolate_91, gX8_interpolate_94T, gX8_interpolate_94F, gX8_interpolate_97, gX8_interpolate_99, gX8_interpolate_100, gX8_interpolate_101, fl_8_1, gX8_interpolate_104, gX8_interpolate_105, aR_g, gX8_interpolate_106, gX8_interpolate_106N, gX8_interpolate_108, Rd_some, Wr_some, Cont_some, Cont_none, iso_O, true_and, hg_s, hg_n, hput_hput, hc1.x, hc1.pm, aR_g, va_rf_s, pmf_v, ra.2.1, rb.2.1, hp, sp_size hA.1 hA.2.1 hA.sz, sp_size hB.1 hB.2.1 hB.sz]
                  rw [(al _).2 hz']
                  simp (disch := omega) only [gX8_interpolate_111T, gX8_interpolate_111F, gX8_interpolate_114, gX8_interpolate_115, gX8_interpolate_116, gX8_interpolate_119, gX8_interpolate_120, gX8_interpolate_121, fl_8_6, gX8_interpolate_124, gX8_interpolate_124N, gX8_interpolate_126, gX8_interpolate_129, pf_6_1, Rd_some, Wr_some, Cont_some, Cont_none, iso_O, true_and, hg_s, hg_n, hput_hput, hc1.x, h16, ra.2.1, sp_size hA.1 hA.2.1 hA.sz]
                  have k0 : ∀ q, q ≠ 16 → hget (hput H1 16 (cO 6 [.ref 17, vi (S.1.2 k).2.1])) q = hget H1 q := fun q h => hg_n h
                  have k16 : hget (hput H1 16 (cO 6 [.ref 17, vi (S.1.2 k).2.1])) 16 = cO 6 [.ref 17, vi (S.1.2 k).2.1] := hg_s
                  have s1 : (hput H1 16 (cO 6 [.ref 17, vi (S.1.2 k).2.1])).1 = H1.1 := rfl
                  have s2 : (hput H1 16 (cO 6 [.ref 17, vi (S.1.2 k).2.1])).2.1 = H1.2.1 := rfl
                  change Go _ _ _ _ (hput H1 16 (cO 6 [.ref 17, vi (S.1.2 k).2.1])) _
                  generalize hput H1 16 (cO 6 [.ref 17, vi (S.1.2 k).2.1]) = H2 at *
                  have x1 : hget H2 1 = cX (wFt S 0) := by rw [k0 1 (by omega)]; exact hc1.x
                  have x3 : hget H2 3 = cR (.object (vCn 3)) 3 pmf := by rw [k0 3 (by omega)]; exact hc1.pm
                  have x4 : hget H2 4 = cO 2 [.ref 5, .ref 6, .ref 7] := by rw [k0 4 (by omega)]; exact h4
                  have x5 : hget H2 5 = cL 64 f0 := by rw [k0 5 (by omega)]; exact h5
                  have x17 : hget H2 17 = cL 64 g0 := by rw [k0 17 (by omega)]; exact g1
                  have xp : hget H2 (25 + u.toNat) = cO 3 [vl (PV u)] := by rw [k0 _ (by omega)]; exact hp
                  have xA : RW H2 k (k + 1) (S.1.2 k).1 (S.1.2 k).2.1 (S.1.2 k).2.2 := ⟨by rw [k0 k (by omega)]; exact hA.1, by rw [k0 (k + 1) (by omega)]; exact hA.2.1, hA.2.2⟩
                  have xB : RW H2 l (l + 1) (S.1.2 l).1 (S.1.2 l).2.1 (S.1.2 l).2.2 := ⟨by rw [k0 l (by omega)]; exact hB.1, by rw [k0 (l + 1) (by omega)]; exact hB.2.1, hB.2.2⟩
                  have x6 : hget H2 6 = cL 64 f6 := by rw [k0 6 (by omega)]; exact h6
                  have x7 : hget H2 7 = cL 65 f7 := by rw [k0 7 (by omega)]; exact h7
                  rw [← hn] at xB
                  simp (disch := omega) only [gX8_interpolate_132, gX8_interpolate_133, fl_8_3, gX8_interpolate_136, gX8_interpolate_136N, gX8_interpolate_138, gX8_interpolate_138N, gX8_interpolate_140, gX8_interpolate_141, fl_8_1, gX8_interpolate_144, gX8_interpolate_145, aR_g, gX8_interpolate_146, gX8_interpolate_147, fl_8_6, gX8_interpolate_150, Rd_some, Wr_some, Cont_some, Cont_none, iso_O, true_and, hg_s, hg_n, hput_hput, x1, x3, x4, aR_g, va_rf_s, pmf_v]
                  refine sp_thr xp hP (by omega) x4 xA xB k16 x5 x6 x7 x17 (fun H' t1 t2 t3 t5 t6 t7 t17 => ?_)
                  obtain ⟨G, G1, G2⟩ := t17
                  have z1 : hget H' 1 = cX (wFt S 0) := by rw [t3 1 (by omega) (by omega) (by omega) (by omega)]; exact x1
                  have z16 : hget H' 16 = cO 6 [.ref 17, vi (S.1.2 k).2.1] := by rw [t3 16 (by omega) (by omega) (by omega) (by omega)]; exact k16
                  simp (disch := omega) only [gX8_interpolate_153, gX8_interpolate_154, fl_8_6, gX8_interpolate_157, fl_6_1, gX8_interpolate_160, Rd_some, Wr_some, Cont_some, Cont_none, iso_O, true_and, hg_s, hg_n, hput_hput, z1, z16]
                  exact hq _ (hc1.sh3 (t1.trans s1) (fun q q1 q2 q3 q4 q5 => by rw [t3 q q1 q2 q3 q5]; exact k0 q q4) t5 t6 t7 z16 G1 (fun j j0 j1 => G2 j j0 j1) (by omega)) (f1.same (t1.trans s1) (t2.trans s2) (fun q hq => by rw [t3 q (by omega) (by omega) (by omega) (by omega)]; exact k0 q (by omega)))
              · rw [if_neg hn] at hq
                simp (disch := omega) only [gX8_interpolate_84, gX8_interpolate_84N, gX8_interpolate_86, gX8_interpolate_89, gX8_interpolate_89N, gX8_interpolate_91, gX8_interpolate_94T, gX8_interpolate_94F, gX8_interpolate_97, gX8_interpolate_99, Rd_some, Wr_some, Cont_some, Cont_none, iso_O, true_and, hg_s, hg_n, hput_hput, ra.2.1, rb.2.1, sp_size hA.1 hA.2.1 hA.sz, sp_size hB.1 hB.2.1 hB.sz]
                exact hq _ hc1 f1
            · rw [if_neg hl] at hq
              by_cases hl2 : (S.1.2 k).1 ≤ 3 <;> simp (disch := omega) only [gX8_interpolate_44, gX8_interpolate_44N, gX8_interpolate_46T, gX8_interpolate_46F, gX8_interpolate_49, gX8_interpolate_49N, gX8_interpolate_51T, gX8_interpolate_51F, gX8_interpolate_54, gX8_interpolate_55, gX8_interpolate_56, gX8_interpolate_59, gX8_interpolate_60, gX8_interpolate_60N, gX8_interpolate_62, fl_5_0, gX8_interpolate_65, gX8_interpolate_66T, gX8_interpolate_66F, gX8_interpolate_69, gX8_interpolate_69N, gX8_interpolate_71, gX8_interpolate_74, gX8_interpolate_75T, gX8_interpolate_75F, gX8_interpolate_78, gX8_interpolate_79, gX8_interpolate_80, gX8_interpolate_83, Rd_some, Wr_some, Cont_some, Cont_none, iso_O, true_and, hg_s, hg_n, hput_hput, gX8_faulted_0, gX8_faulted_1, gX8_faulted_2, pf_8_12, gX8_faulted_5, gX8_faulted_7, gX8_faulted_8, gX8_faulted_9, Rd_some, Wr_some, Cont_some, Cont_none, iso_O, true_and, hg_s, hg_n, hput_hput, ra.2.1, rb.2.1] <;> exact hq _ (hc.ft 2) (FX.put (by decide))
      · rw [if_neg (fun t => hw0 t.2.2)] at hq
        simp (disch := omega) only [gX8_interpolate_0, gX8_interpolate_1, gX8_interpolate_2, pf_8_12, gX8_interpolate_5, gX8_interpolate_6, gX8_interpolate_9T, gX8_interpolate_9F, gX8_interpolate_12, gX8_interpolate_13, gX8_interpolate_16T, gX8_interpolate_16F, gX8_interpolate_19, gX8_interpolate_20, gX8_interpolate_23T, gX8_interpolate_23F, gX8_interpolate_26, gX8_interpolate_27, gX8_interpolate_28, gX8_interpolate_29, fl_8_0, gX8_interpolate_32, gX8_interpolate_33, aR_g, gX8_interpolate_34, gX8_interpolate_34N, gX8_interpolate_36, gX8_interpolate_37, gX8_interpolate_40, gX8_interpolate_41, gX8_interpolate_42, gX8_interpolate_42N, gX8_interpolate_44, gX8_interpolate_44N, gX8_interpolate_46T, gX8_interpolate_46F, gX8_interpolate_49, gX8_interpolate_49N, gX8_interpolate_51T, gX8_interpolate_51F, gX8_interpolate_54, gX8_interpolate_55, gX8_interpolate_56, gX8_interpolate_59, gX8_interpolate_60, gX8_interpolate_60N, gX8_interpolate_62, fl_5_0, gX8_interpolate_65, gX8_interpolate_66T, gX8_interpolate_66F, gX8_interpolate_69, gX8_interpolate_69N, gX8_interpolate_71, gX8_interpolate_74, gX8_interpolate_75T, gX8_interpolate_75F, gX8_interpolate_78, gX8_interpolate_79, gX8_interpolate_80, gX8_interpolate_83, gX8_interpolate_84, gX8_interpolate_84N, gX8_interpolate_86, gX8_interpolate_89, gX8_interpolate_89N, gX8_interpolate_91, gX8_interpolate_94T, gX8_interpolate_94F, gX8_interpolate_97, gX8_interpolate_99, gX8_interpolate_100, gX8_interpolate_101, fl_8_1, gX8_interpolate_104, gX8_interpolate_105, gX8_interpolate_106, gX8_interpolate_106N, gX8_interpolate_108, gX8_interpolate_111T, gX8_interpolate_111F, gX8_interpolate_114, gX8_interpolate_115, gX8_interpolate_116, gX8_interpolate_119, gX8_interpolate_120, gX8_interpolate_121, fl_8_6, gX8_interpolate_124, gX8_interpolate_124N, gX8_interpolate_126, gX8_interpolate_129, pf_6_1, gX8_interpolate_132, gX8_interpolate_133, fl_8_3, gX8_interpolate_136, gX8_interpolate_136N, gX8_interpolate_138, gX8_interpolate_138N, gX8_interpolate_140, gX8_interpolate_141, gX8_interpolate_144, gX8_interpolate_145, gX8_interpolate_146, gX8_interpolate_147, gX8_interpolate_150, gX8_interpolate_153, gX8_interpolate_154, gX8_interpolate_157, fl_6_1, gX8_interpolate_160, Rd_some, Wr_some, Cont_some, Cont_none, iso_O, true_and, hg_s, hg_n, hput_hput, hx, sp_plT, sp_prT, sp_prF]
        exact hq _ (hc.ft 0) (FX.put (by decide))
    · rw [if_neg (fun t => hb t.2.1)] at hq
      simp (disch := omega) only [gX8_interpolate_0, gX8_interpolate_1, gX8_interpolate_2, pf_8_12, gX8_interpolate_5, gX8_interpolate_6, gX8_interpolate_9T, gX8_interpolate_9F, gX8_interpolate_12, gX8_interpolate_13, gX8_interpolate_16T, gX8_interpolate_16F, gX8_interpolate_19, gX8_interpolate_20, gX8_interpolate_23T, gX8_interpolate_23F, gX8_interpolate_26, gX8_interpolate_27, gX8_interpolate_28, gX8_interpolate_29, fl_8_0, gX8_interpolate_32, gX8_interpolate_33, aR_g, gX8_interpolate_34, gX8_interpolate_34N, gX8_interpolate_36, gX8_interpolate_37, gX8_interpolate_40, gX8_interpolate_41, gX8_interpolate_42, gX8_interpolate_42N, gX8_interpolate_44, gX8_interpolate_44N, gX8_interpolate_46T, gX8_interpolate_46F, gX8_interpolate_49, gX8_interpolate_49N, gX8_interpolate_51T, gX8_interpolate_51F, gX8_interpolate_54, gX8_interpolate_55, gX8_interpolate_56, gX8_interpolate_59, gX8_interpolate_60, gX8_interpolate_60N, gX8_interpolate_62, fl_5_0, gX8_interpolate_65, gX8_interpolate_66T, gX8_interpolate_66F, gX8_interpolate_69, gX8_interpolate_69N, gX8_interpolate_71, gX8_interpolate_74, gX8_interpolate_75T, gX8_interpolate_75F, gX8_interpolate_78, gX8_interpolate_79, gX8_interpolate_80, gX8_interpolate_83, gX8_interpolate_84, gX8_interpolate_84N, gX8_interpolate_86, gX8_interpolate_89, gX8_interpolate_89N, gX8_interpolate_91, gX8_interpolate_94T, gX8_interpolate_94F, gX8_interpolate_97, gX8_interpolate_99, gX8_interpolate_100, gX8_interpolate_101, fl_8_1, gX8_interpolate_104, gX8_interpolate_105, gX8_interpolate_106, gX8_interpolate_106N, gX8_interpolate_108, gX8_interpolate_111T, gX8_interpolate_111F, gX8_interpolate_114, gX8_interpolate_115, gX8_interpolate_116, gX8_interpolate_119, gX8_interpolate_120, gX8_interpolate_121, fl_8_6, gX8_interpolate_124, gX8_interpolate_124N, gX8_interpolate_126, gX8_interpolate_129, pf_6_1, gX8_interpolate_132, gX8_interpolate_133, fl_8_3, gX8_interpolate_136, gX8_interpolate_136N, gX8_interpolate_138, gX8_interpolate_138N, gX8_interpolate_140, gX8_interpolate_141, gX8_interpolate_144, gX8_interpolate_145, gX8_interpolate_146, gX8_interpolate_147, gX8_interpolate_150, gX8_interpolate_153, gX8_interpolate_154, gX8_interpolate_157, fl_6_1, gX8_interpolate_160, Rd_some, Wr_some, Cont_some, Cont_none, iso_O, true_and, hg_s, hg_n, hput_hput, hx, sp_plT, sp_prT, sp_plF]
      exact hq _ (hc.ft 0) (FX.put (by decide))
  · rw [if_neg (fun t => ha t.1)] at hq
    simp (disch := omega) only [gX8_interpolate_0, gX8_interpolate_1, gX8_interpolate_2, pf_8_12, gX8_interpolate_5, gX8_interpolate_6, gX8_interpolate_9T, gX8_interpolate_9F, gX8_interpolate_12, gX8_interpolate_13, gX8_interpolate_16T, gX8_interpolate_16F, gX8_interpolate_19, gX8_interpolate_20, gX8_interpolate_23T, gX8_interpolate_23F, gX8_interpolate_26, gX8_interpolate_27, gX8_interpolate_28, gX8_interpolate_29, fl_8_0, gX8_interpolate_32, gX8_interpolate_33, aR_g, gX8_interpolate_34, gX8_interpolate_34N, gX8_interpolate_36, gX8_interpolate_37, gX8_interpolate_40, gX8_interpolate_41, gX8_interpolate_42, gX8_interpolate_42N, gX8_interpolate_44, gX8_interpolate_44N, gX8_interpolate_46T, gX8_interpolate_46F, gX8_interpolate_49, gX8_interpolate_49N, gX8_interpolate_51T, gX8_interpolate_51F, gX8_interpolate_54, gX8_interpolate_55, gX8_interpolate_56, gX8_interpolate_59, gX8_interpolate_60, gX8_interpolate_60N, gX8_interpolate_62, fl_5_0, gX8_interpolate_65, gX8_interpolate_66T, gX8_interpolate_66F, gX8_interpolate_69, gX8_interpolate_69N, gX8_interpolate_71, gX8_interpolate_74, gX8_interpolate_75T, gX8_interpolate_75F, gX8_interpolate_78, gX8_interpolate_79, gX8_interpolate_80, gX8_interpolate_83, gX8_interpolate_84, gX8_interpolate_84N, gX8_interpolate_86, gX8_interpolate_89, gX8_interpolate_89N, gX8_interpolate_91, gX8_interpolate_94T, gX8_interpolate_94F, gX8_interpolate_97, gX8_interpolate_99, gX8_interpolate_100, gX8_interpolate_101, fl_8_1, gX8_interpolate_104, gX8_interpolate_105, gX8_interpolate_106, gX8_interpolate_106N, gX8_interpolate_108, gX8_interpolate_111T, gX8_interpolate_111F, gX8_interpolate_114, gX8_interpolate_115, gX8_interpolate_116, gX8_interpolate_119, gX8_interpolate_120, gX8_interpolate_121, fl_8_6, gX8_interpolate_124, gX8_interpolate_124N, gX8_interpolate_126, gX8_interpolate_129, pf_6_1, gX8_interpolate_132, gX8_interpolate_133, fl_8_3, gX8_interpolate_136, gX8_interpolate_136N, gX8_interpolate_138, gX8_interpolate_138N, gX8_interpolate_140, gX8_interpolate_141, gX8_interpolate_144, gX8_interpolate_145, gX8_interpolate_146, gX8_interpolate_147, gX8_interpolate_150, gX8_interpolate_153, gX8_interpolate_154, gX8_interpolate_157, fl_6_1, gX8_interpolate_160, Rd_some, Wr_some, Cont_some, Cont_none, iso_O, true_and, hg_s, hg_n, hput_hput, hx, sp_plT, sp_prT, sp_plF]
    exact hq _ (hc.ft 0) (FX.put (by decide))

theorem lp_ia2 {P : Int} (h41 : hget H 41 = cM S) (hP : 1 < P ∧ P < 1073741824) {O x : Int → Int} (h57 : hget H 57 = cL 64 O) (hn : 0 ≤ n ∧ n ≤ 64) (hO : ∀ j, 0 ≤ j → j < n → O j = x j % P) {l1 l2 l3 l4 l5 l6 l7 l10 l11 l12 l13 : Option Value} {i : Nat} (hi : (i : Int) < n) (hF : eqb P x i i = true → Q (some (vi (-10 - 5))) (hput H 41 (cM (wFt S 5)))) (hC : eqb P x i i = false → Go 170 145 [some (.ref 41), l1, l2, l3, l4, l5, l6, l7, some (vi (i : Int)), some (vi (i : Int)), l10, l11, l12, l13] [] H Q) : ∀ (e j : Nat), j + e = i → eqb P x i j = false → Go 170 108 [some (.ref 41), l1, l2, l3, l4, l5, l6, l7, some (vi (i : Int)), some (vi (j : Int)), l10, l11, l12, l13] [] H Q := by
  have o1 := hO i (by omega) hi
  have m1 := em (P := P) (by omega) (x i)
  intro e
  induction e with
  | zero =>
    intro j hj hb
    rw [show j = i by omega] at hb ⊢
    rw [gX9_interpolate_108]
    simp (disch := omega) only [gX9_interpolate_110, gX9_interpolate_112T, gX9_interpolate_112F, Rd_some, Wr_some, Cont_some, Cont_none, iso_O, true_and, hg_s, hg_n, hput_hput]
    exact hC hb
  | succ e ih =>
    intro j hj hb
    have o2 := hO j (by omega) (by omega)
    have m2 := em (P := P) (by omega) (x j)
    rw [gX9_interpolate_108]
    by_cases he : x i % P = x j % P
    · simp (disch := omega) only [gX9_interpolate_110, gX9_interpolate_112T, gX9_interpolate_112F, gX9_interpolate_115, gX9_interpolate_116, fl_9_23, gX9_interpolate_119, gX9_interpolate_121, aL_g, gX9_interpolate_122, gX9_interpolate_123, gX9_interpolate_126, gX9_interpolate_128, gX9_interpolate_129T, gX9_interpolate_129F, gX9_interpolate_130T, gX9_interpolate_130F, gX9_interpolate_133, gX9_interpolate_134, gX9_interpolate_135, gX9_interpolate_138, Rd_some, Wr_some, Cont_some, Cont_none, iso_O, true_and, hg_s, hg_n, hput_hput, gX9_fails_0, gX9_fails_1, gX9_fails_2, pf_9_0, gX9_fails_5, gX9_fails_7, gX9_fails_8, gX9_fails_9, Rd_some, Wr_some, Cont_some, Cont_none, iso_O, true_and, hg_s, hg_n, hput_hput, h41, h57, o1, o2]
      exact hF (eqb_ex.mpr ⟨j, by omega, by omega, he⟩)
    · simp (disch := omega) only [gX9_interpolate_110, gX9_interpolate_112T, gX9_interpolate_112F, gX9_interpolate_115, gX9_interpolate_116, fl_9_23, gX9_interpolate_119, gX9_interpolate_121, aL_g, gX9_interpolate_122, gX9_interpolate_123, gX9_interpolate_126, gX9_interpolate_128, gX9_interpolate_129T, gX9_interpolate_129F, gX9_interpolate_130T, gX9_interpolate_130F, gX9_interpolate_133, gX9_interpolate_134, gX9_interpolate_135, gX9_interpolate_138, gX9_interpolate_139, gX9_interpolate_142, Rd_some, Wr_some, Cont_some, Cont_none, iso_O, true_and, hg_s, hg_n, hput_hput, h41, h57, o1, o2]
      exact ih (j + 1) (by omega) (by rw [eqb, hb, decide_eq_false he]; rfl)
theorem eqb_alb {P : Int} {x : Int → Int} {i n : Nat} (h : eqb P x i i = true) (hi : i < n) : alb P x n = true := by
  rw [alb_alk]
  obtain ⟨j, j0, j1, j2⟩ := eqb_ex.mp h
  exact ⟨i, j, j0, j1, by omega, j2⟩
theorem lp_ia1 {P : Int} (h41 : hget H 41 = cM S) (hP : 1 < P ∧ P < 1073741824) {O x : Int → Int} (h57 : hget H 57 = cL 64 O) (hn : 0 ≤ n ∧ n ≤ 64) (hO : ∀ j, 0 ≤ j → j < n → O j = x j % P) {l1 l2 l3 l4 l5 l6 l10 l11 l12 l13 : Option Value} (hF : alb P x n.toNat = true → Q (some (vi (-10 - 5))) (hput H 41 (cM (wFt S 5)))) (hC : ∀ l9, alb P x n.toNat = false → Go 170 151 [some (.ref 41), l1, l2, l3, l4, l5, l6, some (vi n), some (vi n), l9, l10, l11, l12, l13] [] H Q) : ∀ (e i : Nat) (l9 : Option Value), (i : Int) + e = n → alb P x i = false → Go 170 98 [some (.ref 41), l1, l2, l3, l4, l5, l6, some (vi n), some (vi (i : Int)), l9, l10, l11, l12, l13] [] H Q := by
  intro e
  induction e with
  | zero =>
    intro i l9 hi hb
    rw [show (i : Int) = n by omega, gX9_interpolate_98]
    simp (disch := omega) only [gX9_interpolate_100, gX9_interpolate_102T, gX9_interpolate_102F, Rd_some, Wr_some, Cont_some, Cont_none, iso_O, true_and, hg_s, hg_n, hput_hput]
    exact hC _ (by rw [show n.toNat = i by omega]; exact hb)
  | succ e ih =>
    intro i l9 hi hb
    rw [gX9_interpolate_98]
    simp (disch := omega) only [gX9_interpolate_100, gX9_interpolate_102T, gX9_interpolate_102F, gX9_interpolate_105, gX9_interpolate_106, Rd_some, Wr_some, Cont_some, Cont_none, iso_O, true_and, hg_s, hg_n, hput_hput]
    refine lp_ia2 h41 hP h57 hn hO (i := i) (by omega) (fun t => hF (eqb_alb t (by omega))) (fun t => ?_) i 0 (by omega) rfl
    simp (disch := omega) only [gX9_interpolate_145, gX9_interpolate_148, Rd_some, Wr_some, Cont_some, Cont_none, iso_O, true_and, hg_s, hg_n, hput_hput]
    exact ih (i + 1) _ (by omega) (by rw [alb, hb, t]; rfl)
theorem lp_iz (h41 : hget H 41 = cM S) {w : Int → Int} (hn : 0 ≤ n ∧ n ≤ 64) {l1 l2 l3 l4 l5 l6 l9 l10 l11 l12 l13 : Option Value} : ∀ (e : Nat) (i : Int), i + e = n → 0 ≤ i → (Go 170 154 [some (.ref 41), l1, l2, l3, l4, l5, l6, some (vi n), some (vi i), l9, l10, l11, l12, l13] [] (hput H 59 (cL 64 (mix (fun _ => 0) w i))) Q ↔ Go 170 175 [some (.ref 41), l1, l2, l3, l4, l5, l6, some (vi n), some (vi n), l9, l10, l11, l12, l13] [] (hput H 59 (cL 64 (mix (fun _ => 0) w n))) Q) := by
  have x41 : ∀ c, hget (hput H 59 c) 41 = cM S := fun c => by rw [hg_n (by omega)]; exact h41
  intro e
  induction e with
  | zero =>
    intro i hi h0
    rw [show i = n by omega, gX9_interpolate_154]
    simp (disch := omega) only [gX9_interpolate_156, gX9_interpolate_158T, gX9_interpolate_158F, Rd_some, Wr_some, Cont_some, Cont_none, iso_O, true_and, hg_s, hg_n, hput_hput]
  | succ e ih =>
    intro i hi h0
    rw [gX9_interpolate_154]
    simp (disch := omega) only [gX9_interpolate_156, gX9_interpolate_158T, gX9_interpolate_158F, gX9_interpolate_161, gX9_interpolate_162, fl_9_25, gX9_interpolate_165, gX9_interpolate_167, gX9_interpolate_168, sL_p, gX9_interpolate_169, gX9_interpolate_172, Rd_some, Wr_some, Cont_some, Cont_none, iso_O, true_and, hg_s, hg_n, hput_hput, x41]
    rw [mix_up h0 rfl]
    exact ih (i + 1) (by omega) (by omega)
def HB (H : HP) (o c : Int → Int) : HP := hput (hput H 59 (cL 64 o)) 60 (cL 65 c)
theorem HB_59 {o c : Int → Int} : hget (HB H o c) 59 = cL 64 o := by unfold HB; rw [hg_n (by omega), hg_s]
theorem HB_60 {o c : Int → Int} : hget (HB H o c) 60 = cL 65 c := hg_s
theorem HB_q {o c : Int → Int} {q : Nat} (h : q ≠ 59 ∧ q ≠ 60) : hget (HB H o c) q = hget H q := by unfold HB; rw [hg_n h.2, hg_n h.1]
theorem HB_p59 {o c o' : Int → Int} : hput (HB H o c) 59 (cL 64 o') = HB H o' c := by unfold HB; rw [hput_comm (by omega), hput_hput]
theorem HB_p60 {o c c' : Int → Int} : hput (HB H o c) 60 (cL 65 c') = HB H o c' := by unfold HB; rw [hput_hput]
theorem lp_ib0 (h41 : hget H 41 = cM S) {o c : Int → Int} (hn : 0 ≤ n ∧ n ≤ 64) {l1 l2 l3 l4 l5 l6 l8 l10 l11 l12 l13 : Option Value} : ∀ (e : Nat) (i : Int), i + e = n + 1 → 0 ≤ i → (Go 170 188 [some (.ref 41), l1, l2, l3, l4, l5, l6, some (vi n), l8, some (vi i), l10, l11, l12, l13] [] (HB H o (mix un c i)) Q ↔ Go 170 218 [some (.ref 41), l1, l2, l3, l4, l5, l6, some (vi n), l8, some (vi (n + 1)), l10, l11, l12, l13] [] (HB H o (mix un c (n + 1))) Q) := by
  have x41 : ∀ o c, hget (HB H o c) 41 = cM S := fun o c => by rw [HB_q (by omega)]; exact h41
  intro e
  induction e with
  | zero =>
    intro i hi h0
    rw [show i = n + 1 by omega, gX9_interpolate_188]
    simp (disch := omega) only [gX9_interpolate_190, gX9_interpolate_192T, gX9_interpolate_192F, Rd_some, Wr_some, Cont_some, Cont_none, iso_O, true_and, hg_s, hg_n, hput_hput]
  | succ e ih =>
    intro i hi h0
    rw [gX9_interpolate_188]
    by_cases hz : i = 0
    · simp (disch := omega) only [gX9_interpolate_190, gX9_interpolate_192T, gX9_interpolate_192F, gX9_interpolate_195, gX9_interpolate_196, fl_9_26, gX9_interpolate_199, gX9_interpolate_201, gX9_interpolate_203T, gX9_interpolate_203F, gX9_interpolate_206, gX9_interpolate_207, gX9_interpolate_210, gX9_interpolate_211, sL_p, gX9_interpolate_212, gX9_interpolate_215, Rd_some, Wr_some, Cont_some, Cont_none, iso_O, true_and, hg_s, hg_n, hput_hput, x41, HB_60, HB_p60]
      rw [mix_up h0 (show 1 = un i from (if_pos hz).symm)]
      exact ih (i + 1) (by omega) (by omega)
    · simp (disch := omega) only [gX9_interpolate_190, gX9_interpolate_192T, gX9_interpolate_192F, gX9_interpolate_195, gX9_interpolate_196, fl_9_26, gX9_interpolate_199, gX9_interpolate_201, gX9_interpolate_203T, gX9_interpolate_203F, gX9_interpolate_206, gX9_interpolate_207, gX9_interpolate_210, gX9_interpolate_211, sL_p, gX9_interpolate_212, gX9_interpolate_215, Rd_some, Wr_some, Cont_some, Cont_none, iso_O, true_and, hg_s, hg_n, hput_hput, x41, HB_60, HB_p60]
      rw [mix_up h0 (show 0 = un i from (if_neg hz).symm)]
      exact ih (i + 1) (by omega) (by omega)
theorem lp_ib2 {P : Int} (h41 : hget H 41 = cM S) (hP : 1 < P ∧ P < 1073741824) {O o A f : Int → Int} (h57 : hget H 57 = cL 64 O) (hn : 0 ≤ n ∧ n ≤ 64) {j : Nat} (hj : j < 64) (hO : O j = A j ∧ 0 ≤ A j ∧ A j < P) {l1 l2 l3 l4 l8 l9 l10 l13 : Option Value} (hq : ∀ c, (∀ d, 0 ≤ d → d ≤ n → c d = lin (A j) f d % P) → Go 170 303 [some (.ref 41), l1, l2, l3, l4, some (vl P), none, some (vi n), l8, l9, l10, some (vi (j : Int)), some (vi (-1)), l13] [] (HB H o c) Q) : ∀ (k : Nat) (c : Int → Int), (k : Int) ≤ n + 1 → (∀ d, 0 ≤ d → d < (k : Int) → c d = f d % P) → (∀ d, (k : Int) ≤ d → d ≤ n → c d = lin (A j) f d % P) → Go 170 245 [some (.ref 41), l1, l2, l3, l4, some (vl P), none, some (vi n), l8, l9, l10, some (vi (j : Int)), some (vi ((k : Int) - 1)), l13] [] (HB H o c) Q := by
  have x41 : ∀ o c, hget (HB H o c) 41 = cM S := fun o c => by rw [HB_q (by omega)]; exact h41
  have x57 : ∀ o c, hget (HB H o c) 57 = cL 64 O := fun o c => by rw [HB_q (by omega)]; exact h57
  intro k
  induction k with
  | zero =>
    intro c hk h1 h2
    rw [show ((0 : Nat) : Int) - 1 = -1 from rfl, gX9_interpolate_245]
    simp (disch := omega) only [gX9_interpolate_247T, gX9_interpolate_247F, Rd_some, Wr_some, Cont_some, Cont_none, iso_O, true_and, hg_s, hg_n, hput_hput]
    exact hq c h2
  | succ k ih =>
    intro c hk h1 h2
    have c1 := h1 k (by omega) (by omega)
    have m1 := em (P := P) (by omega) (f k)
    have m3 := mb (x := P - A j) (y := f k % P) (by omega)
    have o1 := hO.1
    have fin : ∀ X : Int, X = lin (A j) f k % P → Go 170 245 [some (.ref 41), l1, l2, l3, l4, some (vl P), none, some (vi n), l8, l9, l10, some (vi (j : Int)), some (vi ((k : Int) - 1)), l13] [] (HB H o (up c (k : Int) X)) Q := by
      intro X hX
      refine ih _ (by omega) (fun d d0 d1 => ?_) (fun d d0 d1 => ?_)
      · unfold up
        rw [if_neg (by omega)]
        exact h1 d d0 (by omega)
      · unfold up
        by_cases e : d = (k : Int)
        · rw [if_pos e, e]; exact hX
        · rw [if_neg e]; exact h2 d (by omega) d1
    have cgA : ∀ B : Int, cg P (B + (P - A j) * (f k % P)) (B - A j * f k) := fun B => by
      have e1 : (P - A j) * (f k % P) = -(A j * (f k % P)) + P * (f k % P) := by rw [Int.sub_mul]; omega
      have e2 : cg P (B + (P - A j) * (f k % P)) (B - A j * (f k % P)) := by
        rw [e1, show B + (-(A j * (f k % P)) + P * (f k % P)) = B - A j * (f k % P) + P * (f k % P) by omega]
        exact Int.add_mul_emod_self_left _ _ _
      exact e2.tr (cg.sb cg.rf (cg.rf.ml cg.md))
    rw [show ((k + 1 : Nat) : Int) - 1 = (k : Int) by omega, gX9_interpolate_245]
    by_cases hz : (k : Int) ≤ 0
    · have e1 : (0 + (P - A j) * (f k % P)).tmod P = lin (A j) f k % P := by
        rw [Int.tmod_eq_emod_of_nonneg (by omega)]
        unfold lin
        rw [if_neg (by omega)]
        exact cgA 0
      simp (disch := omega) only [gX9_interpolate_247T, gX9_interpolate_247F, gX9_interpolate_250, gX9_interpolate_251, fl_9_26, gX9_interpolate_254, gX9_interpolate_256, gX9_interpolate_258T, gX9_interpolate_258F, gX9_interpolate_261, gX9_interpolate_262, gX9_interpolate_265, gX9_interpolate_267, gX9_interpolate_268, gX9_interpolate_269, aL_g, gX9_interpolate_270, gX9_interpolate_273, gX9_interpolate_274, gX9_interpolate_276, gX9_interpolate_277, fl_9_23, gX9_interpolate_280, gX9_interpolate_282, gX9_interpolate_283, gX9_interpolate_284, gX9_interpolate_285, gX9_interpolate_288, gX9_interpolate_290, gX9_interpolate_291, gX9_interpolate_292, gX9_interpolate_293, gX9_interpolate_295, gX9_interpolate_296, sL_p, gX9_interpolate_297, gX9_interpolate_300, Rd_some, Wr_some, Cont_some, Cont_none, iso_O, true_and, hg_s, hg_n, hput_hput, x41, x57, HB_60, HB_p60, c1, o1, e1]
      rw [show (k : Int) + -1 = (k : Int) - 1 by omega]
      exact fin _ rfl
    · have c0 := h1 ((k : Int) - 1) (by omega) (by omega)
      have m0 := em (P := P) (by omega) (f ((k : Int) - 1))
      have e1 : (f ((k : Int) - 1) % P + (P - A j) * (f k % P)).tmod P = lin (A j) f k % P := by
        rw [Int.tmod_eq_emod_of_nonneg (by omega)]
        unfold lin
        rw [if_pos (by omega)]
        exact (cgA _).tr (cg.sb cg.md cg.rf)
      simp (disch := omega) only [gX9_interpolate_247T, gX9_interpolate_247F, gX9_interpolate_250, gX9_interpolate_251, fl_9_26, gX9_interpolate_254, gX9_interpolate_256, gX9_interpolate_258T, gX9_interpolate_258F, gX9_interpolate_261, gX9_interpolate_262, gX9_interpolate_265, gX9_interpolate_267, gX9_interpolate_268, gX9_interpolate_269, aL_g, gX9_interpolate_270, gX9_interpolate_273, gX9_interpolate_274, gX9_interpolate_276, gX9_interpolate_277, fl_9_23, gX9_interpolate_280, gX9_interpolate_282, gX9_interpolate_283, gX9_interpolate_284, gX9_interpolate_285, gX9_interpolate_288, gX9_interpolate_290, gX9_interpolate_291, gX9_interpolate_292, gX9_interpolate_293, gX9_interpolate_295, gX9_interpolate_296, sL_p, gX9_interpolate_297, gX9_interpolate_300, Rd_some, Wr_some, Cont_some, Cont_none, iso_O, true_and, hg_s, hg_n, hput_hput, x41, x57, HB_60, HB_p60, c1, c0, o1, e1]
      rw [show (k : Int) + -1 = (k : Int) - 1 by omega]
      exact fin _ rfl
theorem lp_ib1 {P : Int} (h41 : hget H 41 = cM S) (hP : 1 < P ∧ P < 1073741824) {O o A : Int → Int} (h57 : hget H 57 = cL 64 O) (hn : 0 ≤ n ∧ n ≤ 64) (hO : ∀ j, 0 ≤ j → j < n → O j = A j ∧ 0 ≤ A j ∧ A j < P) {i : Nat} (hi : (i : Int) < n) {l1 l2 l3 l4 l13 : Option Value} (hq : ∀ c l11 l12, (∀ d, 0 ≤ d → d ≤ n → c d = bs A i n.toNat d % P) → Go 170 335 [some (.ref 41), l1, l2, l3, l4, some (vl P), none, some (vi n), some (vi (i : Int)), some (vl (und A i n.toNat % P)), none, l11, l12, l13] [] (HB H o c) Q) : ∀ (e j : Nat) (c : Int → Int) (l12 : Option Value), (j : Int) + e = n → (∀ d, 0 ≤ d → d ≤ n → c d = bs A i j d % P) → Go 170 224 [some (.ref 41), l1, l2, l3, l4, some (vl P), none, some (vi n), some (vi (i : Int)), some (vl (und A i j % P)), none, some (vi (j : Int)), l12, l13] [] (HB H o c) Q := by
  have x41 : ∀ o c, hget (HB H o c) 41 = cM S := fun o c => by rw [HB_q (by omega)]; exact h41
  have x57 : ∀ o c, hget (HB H o c) 57 = cL 64 O := fun o c => by rw [HB_q (by omega)]; exact h57
  obtain ⟨oi, ai⟩ := hO i (by omega) hi
  intro e
  induction e with
  | zero =>
    intro j c l12 hj hc
    rw [gX9_interpolate_224]
    simp (disch := omega) only [gX9_interpolate_226, gX9_interpolate_228T, gX9_interpolate_228F, Rd_some, Wr_some, Cont_some, Cont_none, iso_O, true_and, hg_s, hg_n, hput_hput]
    have := hq c (some (vi (j : Int))) l12 (fun d d0 d1 => by rw [show n.toNat = j by omega]; exact hc d d0 d1)
    rw [show n.toNat = j by omega] at this
    exact this
  | succ e ih =>
    intro j c l12 hj hc
    obtain ⟨oj, aj⟩ := hO j (by omega) (by omega)
    rw [gX9_interpolate_224]
    by_cases hji : j = i
    · simp (disch := omega) only [gX9_interpolate_226, gX9_interpolate_228T, gX9_interpolate_228F, gX9_interpolate_231, gX9_interpolate_233, gX9_interpolate_235T, gX9_interpolate_235F, gX9_interpolate_238, gX9_interpolate_329, gX9_interpolate_332, Rd_some, Wr_some, Cont_some, Cont_none, iso_O, true_and, hg_s, hg_n, hput_hput]
      have := ih (j + 1) c l12 (by omega) (by rw [bs, if_pos hji]; exact hc)
      rw [und, if_pos hji] at this
      exact this
    · simp (disch := omega) only [gX9_interpolate_226, gX9_interpolate_228T, gX9_interpolate_228F, gX9_interpolate_231, gX9_interpolate_233, gX9_interpolate_235T, gX9_interpolate_235F, gX9_interpolate_238, gX9_interpolate_241, gX9_interpolate_243, Rd_some, Wr_some, Cont_some, Cont_none, iso_O, true_and, hg_s, hg_n, hput_hput]
      have key := lp_ib2 (H := H) (Q := Q) (S := S) (o := o) (f := bs A i j) h41 hP h57 hn (j := j) (by omega) ⟨oj, aj⟩ (l1 := l1) (l2 := l2) (l3 := l3) (l4 := l4) (l8 := some (vi (i : Int))) (l9 := some (vl (und A i j % P))) (l10 := none) (l13 := l13) (fun c' hc' => by
        have mu := em (P := P) (by omega) (und A i j)
        have m3 := mb (x := und A i j % P) (y := A i + P - A j) (by omega)
        have e1 : (und A i j % P * (A i + P - A j)).tmod P = und A i (j + 1) % P := by
          rw [Int.tmod_eq_emod_of_nonneg m3.1, und, if_neg hji]
          refine cg.md.ml ?_
          rw [show A i + P - A j = A i - A j + P by omega]
          exact Int.add_emod_right _ _
        simp (disch := omega) only [gX9_interpolate_303, gX9_interpolate_305, gX9_interpolate_306, fl_9_23, gX9_interpolate_309, gX9_interpolate_311, aL_g, gX9_interpolate_312, gX9_interpolate_314, gX9_interpolate_315, gX9_interpolate_316, gX9_interpolate_319, gX9_interpolate_321, gX9_interpolate_322, gX9_interpolate_323, gX9_interpolate_324, gX9_interpolate_326, gX9_interpolate_327, gX9_interpolate_329, gX9_interpolate_332, Rd_some, Wr_some, Cont_some, Cont_none, iso_O, true_and, hg_s, hg_n, hput_hput, x41, x57, oi, oj, e1]
        exact ih (j + 1) c' _ (by omega) (by rw [bs, if_neg hji]; exact hc')) (n + 1).toNat c (by omega) (fun d d0 d1 => hc d d0 (by omega)) (fun d d0 d1 => by omega)
      rw [show (((n + 1).toNat : Nat) : Int) - 1 = n by omega] at key
      exact key
theorem lp_ib3 {P : Int} (h41 : hget H 41 = cM S) (hP : 1 < P ∧ P < 1073741824) {o c : Int → Int} (hn : 0 ≤ n ∧ n ≤ 64) (ho : mo P o n) (hc : mo P c (n + 1)) {y : Int} (hy : 0 ≤ y ∧ y < P) {l1 l2 l3 l4 l8 l9 l10 : Option Value} : ∀ (e : Nat) (d : Int), d + e = n → 0 ≤ d → (Go 170 358 [some (.ref 41), l1, l2, l3, l4, some (vl P), none, some (vi n), l8, l9, l10, some (vl y), none, some (vi d)] [] (HB H (mix (fun j => (o j + y * c j) % P) o d) c) Q ↔ Go 170 399 [some (.ref 41), l1, l2, l3, l4, some (vl P), none, some (vi n), l8, l9, l10, some (vl y), none, some (vi n)] [] (HB H (mix (fun j => (o j + y * c j) % P) o n) c) Q) := by
  have x41 : ∀ o c, hget (HB H o c) 41 = cM S := fun o c => by rw [HB_q (by omega)]; exact h41
  intro e
  induction e with
  | zero =>
    intro d hd h0
    rw [show d = n by omega, gX9_interpolate_358]
    simp (disch := omega) only [gX9_interpolate_360, gX9_interpolate_362T, gX9_interpolate_362F, Rd_some, Wr_some, Cont_some, Cont_none, iso_O, true_and, hg_s, hg_n, hput_hput]
  | succ e ih =>
    intro d hd h0
    have m1 := ho d h0 (by omega)
    have m2 := hc d h0 (by omega)
    obtain ⟨k1, k2⟩ := ms hP m1 m2 hy
    have e1 : mix (fun j => (o j + y * c j) % P) o d d = o d := mix_out (by omega)
    rw [gX9_interpolate_358]
    simp (disch := omega) only [gX9_interpolate_360, gX9_interpolate_362T, gX9_interpolate_362F, gX9_interpolate_365, gX9_interpolate_366, fl_9_25, gX9_interpolate_369, gX9_interpolate_371, gX9_interpolate_372, gX9_interpolate_375, gX9_interpolate_377, aL_g, gX9_interpolate_378, gX9_interpolate_379, fl_9_26, gX9_interpolate_382, gX9_interpolate_384, gX9_interpolate_385, gX9_interpolate_387, gX9_interpolate_388, gX9_interpolate_389, gX9_interpolate_391, gX9_interpolate_392, sL_p, gX9_interpolate_393, gX9_interpolate_396, Rd_some, Wr_some, Cont_some, Cont_none, iso_O, true_and, hg_s, hg_n, hput_hput, x41, HB_59, HB_60, HB_p59, e1, k2]
    rw [mix_up h0 (show (o d + c d * y) % P = (o d + y * c d) % P by rw [Int.mul_comm y])]
    exact ih (d + 1) (by omega) (by omega)
theorem lp_i1 {P : Int} (h41 : hget H 41 = cM S) (hP : 1 < P ∧ P < 1073741824) {O T2 A y : Int → Int} (h57 : hget H 57 = cL 64 O) (h58 : hget H 58 = cL 64 T2) (hn : 0 ≤ n ∧ n ≤ 64) (hO : ∀ j, 0 ≤ j → j < n → O j = A j ∧ 0 ≤ A j ∧ A j < P) (hT : ∀ j, 0 ≤ j → j < n → T2 j = y j % P) {l1 l2 l3 l4 : Option Value} (hq : ∀ o c l8 l9 l10 l11 l12 l13, (∀ j, 0 ≤ j → j < n → o j = itv P A y n.toNat j n.toNat % P) → Go 170 405 [some (.ref 41), l1, l2, l3, l4, some (vl P), none, some (vi n), l8, l9, l10, l11, l12, l13] [] (HB H o c) Q) : ∀ (e i : Nat) (o c : Int → Int) (l9 l10 l11 l12 l13 : Option Value), (i : Int) + e = n → (∀ j, 0 ≤ j → j < n → o j = itv P A y n.toNat j i % P) → Go 170 178 [some (.ref 41), l1, l2, l3, l4, some (vl P), none, some (vi n), some (vi (i : Int)), l9, l10, l11, l12, l13] [] (HB H o c) Q := by
  have x41 : ∀ o c, hget (HB H o c) 41 = cM S := fun o c => by rw [HB_q (by omega)]; exact h41
  have x58 : ∀ o c, hget (HB H o c) 58 = cL 64 T2 := fun o c => by rw [HB_q (by omega)]; exact h58
  intro e
  induction e with
  | zero =>
    intro i o c l9 l10 l11 l12 l13 hi ho
    rw [gX9_interpolate_178]
    simp (disch := omega) only [gX9_interpolate_180, gX9_interpolate_182T, gX9_interpolate_182F, Rd_some, Wr_some, Cont_some, Cont_none, iso_O, true_and, hg_s, hg_n, hput_hput]
    exact hq o c _ _ _ _ _ _ (fun j j0 j1 => by rw [ho j j0 j1, show n.toNat = i by omega])
  | succ e ih =>
    intro i o c l9 l10 l11 l12 l13 hi ho
    rw [gX9_interpolate_178]
    simp (disch := omega) only [gX9_interpolate_180, gX9_interpolate_182T, gX9_interpolate_182F, gX9_interpolate_185, gX9_interpolate_186, Rd_some, Wr_some, Cont_some, Cont_none, iso_O, true_and, hg_s, hg_n, hput_hput]
    have e0 : HB H o c = HB H o (mix un c 0) := by rw [mix_0]
    rw [e0, lp_ib0 h41 hn (n + 1).toNat 0 (by omega) (by omega)]
    simp (disch := omega) only [gX9_interpolate_218, gX9_interpolate_219, gX9_interpolate_221, gX9_interpolate_222, Rd_some, Wr_some, Cont_some, Cont_none, iso_O, true_and, hg_s, hg_n, hput_hput]
    have key := lp_ib1 (H := H) (Q := Q) (S := S) (o := o) h41 hP h57 hn hO (i := i) (by omega) (l1 := l1) (l2 := l2) (l3 := l3) (l4 := l4) (l13 := l13) (fun c' l11 l12 hc' => by
      have t1 := hT i (by omega) (by omega)
      have mu := em (P := P) (by omega) (und A i n.toNat)
      have msc := em (P := P) (by omega) ((und A i n.toNat % P) ^ (P - 2).toNat)
      have mr := em (P := P) (by omega) (y i)
      have mf := em (P := P) (by omega) (y i % P * ((und A i n.toNat % P) ^ (P - 2).toNat % P))
      have m3 := mb (x := y i % P) (y := (und A i n.toNat % P) ^ (P - 2).toNat % P) (by omega)
      have t2 : (y i % P * ((und A i n.toNat % P) ^ (P - 2).toNat % P)).tmod P = y i % P * ((und A i n.toNat % P) ^ (P - 2).toNat % P) % P := Int.tmod_eq_emod_of_nonneg m3.1
      have mo' : mo P o n := fun j j0 j1 => by rw [ho j j0 j1]; exact em (by omega) _
      have mc' : mo P c' (n + 1) := fun j j0 j1 => by rw [hc' j j0 (by omega)]; exact em (by omega) _
      simp (disch := omega) only [gX9_interpolate_335, gX9_interpolate_336, fl_9_24, gX9_interpolate_339, gX9_interpolate_341, aL_g, gX9_interpolate_342, gX9_interpolate_344, gX9_interpolate_346, gX9_interpolate_349, gX9_interpolate_350, gX9_interpolate_352, gX9_interpolate_353, gX9_interpolate_355, gX9_interpolate_356, Rd_some, Wr_some, Cont_some, Cont_none, iso_O, true_and, hg_s, hg_n, hput_hput, x41, x58, t1, sp_inv hP, t2]
      have e1 : HB H o c' = HB H (mix (fun j => (o j + y i % P * ((und A i n.toNat % P) ^ (P - 2).toNat % P) % P * c' j) % P) o 0) c' := by rw [mix_0]
      rw [e1, lp_ib3 h41 hP hn mo' mc' mf n.toNat 0 (by omega) (by omega)]
      simp (disch := omega) only [gX9_interpolate_399, gX9_interpolate_402, Rd_some, Wr_some, Cont_some, Cont_none, iso_O, true_and, hg_s, hg_n, hput_hput]
      refine ih (i + 1) _ _ _ _ _ _ _ (by omega) (fun j j0 j1 => ?_)
      rw [mix_in ⟨j0, j1⟩]
      unfold itv
      rw [sm]
      refine cg.ad (by rw [ho j j0 j1]; exact cg.md) ?_
      unfold itf
      rw [Int.toNat_natCast, hc' j j0 (by omega)]
      exact cg.rf.ml cg.md) n.toNat 0 (mix un c (n + 1)) l12 (by omega) (fun d d0 d1 => by
        rw [mix_in ⟨d0, by omega⟩]
        show un d = un d % P
        unfold un
        split
        · rw [Int.emod_eq_of_lt (by decide) hP.1]
        · rfl)
    rw [show und A i 0 % P = 1 from (Int.emod_eq_of_lt (by decide) hP.1 : (1:Int) % P = 1)] at key
    exact key

theorem mx_itp (hm : MJ H S) (c : (-2147483648 ≤ a ∧ a ≤ 2147483647) ∧ (-2147483648 ≤ b ∧ b ≤ 2147483647) ∧ (-2147483648 ≤ u ∧ u ≤ 2147483647)) (hq : MG H Q (o_itp S a b u)) : Go 170 0 [some (.ref 41), some (vi a), some (vi b), some (vi u), none, none, none, none, none, none, none, none, none, none] [] H Q := by
  obtain ⟨T, h1, h2, h3, h4⟩ := hm
  have hx := h1.v.1
  unfold o_itp MG at hq
  by_cases ha : 0 ≤ a ∧ a < 12
  · by_cases hb : 0 ≤ b ∧ b < 12
    · by_cases hw0 : 0 ≤ u ∧ u ≤ 2
      · rw [if_pos ⟨ha, hb, hw0⟩] at hq
        have m1 := h1.ft 0
        unfold o_two at hq
        simp (disch := omega) only [gX9_interpolate_0, gX9_interpolate_1, gX9_interpolate_2, pf_9_0, gX9_interpolate_5, gX9_interpolate_6, gX9_interpolate_9T, gX9_interpolate_9F, gX9_interpolate_12, gX9_interpolate_13, gX9_interpolate_16T, gX9_interpolate_16F, gX9_interpolate_19, gX9_interpolate_20, gX9_interpolate_23T, gX9_interpolate_23F, gX9_interpolate_26, gX9_interpolate_27, gX9_interpolate_28, gX9_interpolate_29, gX9_interpolate_30, gX9_interpolate_31, Rd_some, Wr_some, Cont_some, Cont_none, iso_O, true_and, hg_s, hg_n, hput_hput, hx, sp_mplT, sp_mprT]
        change Go _ _ _ _ (hput H 41 (cM (wFt S 0))) _
        cases hoa : S.1.1 a with
        | none =>
          cases hob : S.1.1 b with
          | none =>
            rw [hoa, hob] at hq
            dsimp only at hq
            rw [sp_a2N (S := wFt S 0) m1 h2 ha hb (Or.inl hoa)]
            simp (disch := omega) only [gX9_interpolate_34, gX9_interpolate_36, gX9_interpolate_38T, gX9_interpolate_38F, gX9_interpolate_41, gX9_interpolate_43, Rd_some, Wr_some, Cont_some, Cont_none, iso_O, true_and, hg_s, hg_n, hput_hput]
            exact hq _ (MJ.ft h1 h2 h3 h4 1) (Fm.rf.put (by omega))
          | some l =>
            rw [hoa, hob] at hq
            dsimp only at hq
            rw [sp_a2N (S := wFt S 0) m1 h2 ha hb (Or.inl hoa)]
            simp (disch := omega) only [gX9_interpolate_34, gX9_interpolate_36, gX9_interpolate_38T, gX9_interpolate_38F, gX9_interpolate_41, gX9_interpolate_43, Rd_some, Wr_some, Cont_some, Cont_none, iso_O, true_and, hg_s, hg_n, hput_hput]
            exact hq _ (MJ.ft h1 h2 h3 h4 1) (Fm.rf.put (by omega))
        | some k =>
          cases hob : S.1.1 b with
          | none =>
            rw [hoa, hob] at hq
            dsimp only at hq
            rw [sp_a2N (S := wFt S 0) m1 h2 ha hb (Or.inr hob)]
            simp (disch := omega) only [gX9_interpolate_34, gX9_interpolate_36, gX9_interpolate_38T, gX9_interpolate_38F, gX9_interpolate_41, gX9_interpolate_43, Rd_some, Wr_some, Cont_some, Cont_none, iso_O, true_and, hg_s, hg_n, hput_hput]
            exact hq _ (MJ.ft h1 h2 h3 h4 1) (Fm.rf.put (by omega))
          | some l =>
            rw [hoa, hob] at hq
            dsimp only at hq
            have ka := h4 k ⟨a, ha.1, ha.2, hoa⟩
            have kb := h4 l ⟨b, hb.1, hb.2, hob⟩
            have la := ka.1
            have lb := kb.1
            by_cases hl : (S.1.2 k).1 ≤ 3 ∧ (S.1.2 l).1 ≤ 3
            · rw [if_pos hl] at hq
              rw [sp_a2O (S := wFt S 0) m1 h2 ha hb hoa hob la lb hl]
              have va : VR (hput H 41 (cM (wFt S 0))) (wFt S 0) a (S.1.2 k) := m1.vr (S := wFt S 0) h2 h4 ha hoa
              have vb : VR (hput H 41 (cM (wFt S 0))) (wFt S 0) b (S.1.2 l) := m1.vr (S := wFt S 0) h2 h4 hb hob
              have f1 : Fm 41 60 H (hput H 41 (cM (wFt S 0))) := Fm.rf.put (by omega)
              generalize hput H 41 (cM (wFt S 0)) = H1 at m1 va vb f1
              simp (disch := omega) only [gX9_interpolate_34, gX9_interpolate_36, gX9_interpolate_38T, gX9_interpolate_38F, gX9_interpolate_41, gX9_interpolate_43, Rd_some, Wr_some, Cont_some, Cont_none, iso_O, true_and, hg_s, hg_n, hput_hput]
              have hP := PV_r u
              have nA := ka.2.1
              obtain ⟨o0, h57⟩ := m1 57 (by decide) (by decide)
              obtain ⟨t0, h58⟩ := m1 58 (by decide) (by decide)
              obtain ⟨w0, h59⟩ := m1 59 (by decide) (by decide)
              obtain ⟨b0, h60⟩ := m1 60 (by decide) (by decide)
              obtain ⟨g0, h49, -⟩ := m1 49 (by decide) (by decide)
              have vA : ∀ H', hget H' 41 = cM (wFt S 0) → (∀ q, 42 ≤ q → q ≤ 45 → hget H' q = hget H1 q) → VR H' (wFt S 0) a (S.1.2 k) := fun H' e1 e2 => m1.vr2 (S := wFt S 0) h2 h4 ha hoa e1 e2
              have vB : ∀ H', hget H' 41 = cM (wFt S 0) → (∀ q, 42 ≤ q → q ≤ 45 → hget H' q = hget H1 q) → VR H' (wFt S 0) b (S.1.2 l) := fun H' e1 e2 => m1.vr2 (S := wFt S 0) h2 h4 hb hob e1 e2
              have nB := kb.2.1
              have cN : (((S.1.2 k).2.1.toNat : Nat) : Int) = (S.1.2 k).2.1 := by omega
              by_cases hn : (S.1.2 k).2.1 = (S.1.2 l).2.1
              · rw [if_pos hn] at hq
                have t1 := fun Q => sp_take (H := H1) (Q := Q) (S := wFt S 0) (A := 57) (by decide) hP (fun c => vA _ (by rw [hg_n (by omega)]; exact va.1) (fun q q1 q2 => hg_n (by omega))) ka.2.2.1 h57
                simp (disch := omega) only [gX9_interpolate_44, gX9_interpolate_45, gX9_interpolate_46, gX9_interpolate_49, gX9_interpolate_50, gX9_interpolate_51, gX9_interpolate_54T, gX9_interpolate_54F, gX9_interpolate_57, gX9_interpolate_59, gX9_interpolate_60, gX9_interpolate_61, gX9_interpolate_64, gX9_interpolate_66, gX9_interpolate_67, gX9_interpolate_68, gX9_interpolate_71, gX9_interpolate_73, gX9_interpolate_74, gX9_interpolate_75, fl_9_23, gX9_interpolate_78, gX9_interpolate_79, gX9_interpolate_81, Rd_some, Wr_some, Cont_some, Cont_none, iso_O, true_and, hg_s, hg_n, hput_hput, va.1, vr_cnt va, vr_cnt vb, sp_prime, t1]
                generalize hO : mix (Xz (PV u) (S.1.2 k).2.2 (S.1.2 k).2.1) o0 64 = O
                have vO : ∀ j, 0 ≤ j → j < 64 → O j = Xz (PV u) (S.1.2 k).2.2 (S.1.2 k).2.1 j := fun j j0 j1 => by rw [← hO]; exact mix_in ⟨j0, j1⟩
                have y41 : ∀ c, hget (hput H1 57 c) 41 = cM (wFt S 0) := fun c => by rw [hg_n (by omega)]; exact va.1
                have t2 := fun Q c => sp_take (H := hput H1 57 c) (Q := Q) (S := wFt S 0) (A := 58) (by decide) hP (fun d => vB _ (by rw [hg_n (by omega)]; exact y41 c) (fun q q1 q2 => by rw [hg_n (by omega), hg_n (by omega)])) kb.2.2.1 (f := t0) (by rw [hg_n (by omega)]; exact h58)
                simp (disch := omega) only [gX9_interpolate_84, gX9_interpolate_85, gX9_interpolate_86, fl_9_24, gX9_interpolate_89, gX9_interpolate_90, gX9_interpolate_92, Rd_some, Wr_some, Cont_some, Cont_none, iso_O, true_and, hg_s, hg_n, hput_hput, y41, t2]
                generalize hT2 : mix (Xz (PV u) (S.1.2 l).2.2 (S.1.2 l).2.1) t0 64 = T2
                have vT : ∀ j, 0 ≤ j → j < 64 → T2 j = Xz (PV u) (S.1.2 l).2.2 (S.1.2 l).2.1 j := fun j j0 j1 => by rw [← hT2]; exact mix_in ⟨j0, j1⟩
                have q0 : ∀ q, q ≠ 57 → q ≠ 58 → hget (hput (hput H1 57 (cL 64 O)) 58 (cL 64 T2)) q = hget H1 q := fun q q1 q2 => by rw [hg_n q2, hg_n q1]
                have q57 : hget (hput (hput H1 57 (cL 64 O)) 58 (cL 64 T2)) 57 = cL 64 O := by rw [hg_n (by omega), hg_s]
                have q58 : hget (hput (hput H1 57 (cL 64 O)) 58 (cL 64 T2)) 58 = cL 64 T2 := hg_s
                have f2 : Fm 41 60 H (hput (hput H1 57 (cL 64 O)) 58 (cL 64 T2)) := (f1.put (by omega)).put (by omega)
                generalize hput (hput H1 57 (cL 64 O)) 58 (cL 64 T2) = H2 at *
                have q41 : hget H2 41 = cM (wFt S 0) := by rw [q0 41 (by omega) (by omega)]; exact va.1
                simp (disch := omega) only [gX9_interpolate_95, gX9_interpolate_96, Rd_some, Wr_some, Cont_some, Cont_none, iso_O, true_and, hg_s, hg_n, hput_hput]
                have vO' : ∀ j, 0 ≤ j → j < (S.1.2 k).2.1 → O j = (S.1.2 k).2.2 j % PV u := fun j j0 j1 => by rw [vO j j0 (by omega), Xz_in j1]
                refine lp_ia1 q41 hP q57 (by omega) vO' (fun t => ?_) (fun l9 t => ?_) (S.1.2 k).2.1.toNat 0 _ (by omega) rfl
                · rw [if_pos t] at hq
                  have MH2 : MH H2 (wFt S 0) T := m1.work (fun q q1 q2 => q0 q (by omega) (by omega)) ⟨O, q57⟩ ⟨T2, q58⟩ ⟨w0, by rw [q0 59 (by omega) (by omega)]; exact h59⟩ ⟨b0, by rw [q0 60 (by omega) (by omega)]; exact h60⟩
                  exact hq _ (MJ.ft (S := wFt S 0) MH2 h2 h3 h4 5) (f2.put (by omega))
                · rw [if_neg (by rw [t]; decide)] at hq
                  simp (disch := omega) only [gX9_interpolate_151, gX9_interpolate_152, Rd_some, Wr_some, Cont_some, Cont_none, iso_O, true_and, hg_s, hg_n, hput_hput]
                  have eH : H2 = hput H2 59 (cL 64 (mix (fun _ => 0) w0 0)) := by rw [mix_0]; exact (hput_same (by rw [q0 59 (by omega) (by omega)]; exact h59)).symm
                  rw [eH, lp_iz q41 (by omega) (S.1.2 k).2.1.toNat 0 (by omega) (by omega)]
                  simp (disch := omega) only [gX9_interpolate_175, gX9_interpolate_176, Rd_some, Wr_some, Cont_some, Cont_none, iso_O, true_and, hg_s, hg_n, hput_hput]
                  have eB : hput H2 59 (cL 64 (mix (fun _ => 0) w0 (S.1.2 k).2.1)) = HB H2 (mix (fun _ => 0) w0 (S.1.2 k).2.1) b0 := by
                    unfold HB
                    exact (hput_same (by rw [hg_n (by omega), q0 60 (by omega) (by omega)]; exact h60)).symm
                  rw [eB]
                  have key := lp_i1 (H := H2) (Q := Q) (S := wFt S 0) (P := PV u) (n := (S.1.2 k).2.1) (A := Xz (PV u) (S.1.2 k).2.2 (S.1.2 k).2.1) (y := (S.1.2 l).2.2) (l1 := some (vi a)) (l2 := some (vi b)) (l3 := some (vi u)) (l4 := some (vi 0)) q41 hP q57 q58 (by omega) (fun j j0 j1 => ⟨vO j j0 (by omega), Xz_r (by omega) _ _ _⟩) (fun j j0 j1 => by rw [vT j j0 (by omega), Xz_in (by omega)]) (fun o c l8 l9 l10 l11 l12 l13 ho => by
                    have z41 : hget (HB H2 o c) 41 = cM (wFt S 0) := by rw [HB_q (by omega)]; exact q41
                    have f3 : Fm 41 60 H (HB H2 o c) := by unfold HB; exact (f2.put (by omega)).put (by omega)
                    simp (disch := omega) only [gX9_interpolate_405, gX9_interpolate_406, gX9_interpolate_408, Rd_some, Wr_some, Cont_some, Cont_none, iso_O, true_and, hg_s, hg_n, hput_hput, z41]
                    rw [sp_kp (S := wFt S 0) z41 (ITP u (S.1.2 k) (S.1.2 l)) HB_59 (g := g0) (by rw [HB_q (by omega), q0 49 (by omega) (by omega)]; exact h49) (by omega)]
                    simp (disch := omega) only [gX9_interpolate_411, Rd_some, Wr_some, Cont_some, Cont_none, iso_O, true_and, hg_s, hg_n, hput_hput]
                    refine hq _ (MJ.sh3 (S1 := wFt S 0) m1 h2 h3 h4 (fun q q1 q2 q3 => by rw [hg_n q3, hg_n (by omega), HB_q (by omega)]; exact q0 q (by omega) (by omega)) (by rw [hg_n (by omega), hg_s]) hg_s (fun j j0 j1 => ?_) (by omega) ⟨O, by rw [hg_n (by omega), hg_n (by omega), HB_q (by omega)]; exact q57⟩ ⟨T2, by rw [hg_n (by omega), hg_n (by omega), HB_q (by omega)]; exact q58⟩ ⟨o, by rw [hg_n (by omega), hg_n (by omega)]; exact HB_59⟩ ⟨c, by rw [hg_n (by omega), hg_n (by omega)]; exact HB_60⟩) ((f3.put (by omega)).put (by omega))
                    have j1 : j < (S.1.2 k).2.1 := j1
                    rw [mix_in ⟨j0, j1⟩]
                    exact ho j j0 j1) (S.1.2 k).2.1.toNat 0 (mix (fun _ => 0) w0 (S.1.2 k).2.1) b0 l9 none none none none (by omega) (fun j j0 j1 => by rw [mix_in ⟨j0, j1⟩]; exact (Int.zero_emod _).symm)
                  exact key
              · rw [if_neg hn] at hq
                simp (disch := omega) only [gX9_interpolate_44, gX9_interpolate_45, gX9_interpolate_46, gX9_interpolate_49, gX9_interpolate_50, gX9_interpolate_51, gX9_interpolate_54T, gX9_interpolate_54F, gX9_interpolate_57, gX9_interpolate_59, Rd_some, Wr_some, Cont_some, Cont_none, iso_O, true_and, hg_s, hg_n, hput_hput, va.1, vr_cnt va, vr_cnt vb]
                exact hq _ (MJ.mk' m1 h2 h3 h4) f1
            · rw [if_neg hl] at hq
              rw [sp_a2C (S := wFt S 0) m1 h2 ha hb hoa hob la lb hl]
              simp (disch := omega) only [gX9_interpolate_34, gX9_interpolate_36, gX9_interpolate_38T, gX9_interpolate_38F, gX9_interpolate_41, gX9_interpolate_43, Rd_some, Wr_some, Cont_some, Cont_none, iso_O, true_and, hg_s, hg_n, hput_hput]
              exact hq _ (MJ.ft h1 h2 h3 h4 2) (Fm.rf.put (by omega))
      · rw [if_neg (fun t => hw0 t.2.2)] at hq
        simp (disch := omega) only [gX9_interpolate_0, gX9_interpolate_1, gX9_interpolate_2, pf_9_0, gX9_interpolate_5, gX9_interpolate_6, gX9_interpolate_9T, gX9_interpolate_9F, gX9_interpolate_12, gX9_interpolate_13, gX9_interpolate_16T, gX9_interpolate_16F, gX9_interpolate_19, gX9_interpolate_20, gX9_interpolate_23T, gX9_interpolate_23F, gX9_interpolate_26, gX9_interpolate_27, gX9_interpolate_28, gX9_interpolate_29, gX9_interpolate_30, gX9_interpolate_31, gX9_interpolate_34, gX9_interpolate_36, gX9_interpolate_38T, gX9_interpolate_38F, gX9_interpolate_41, gX9_interpolate_43, gX9_interpolate_44, gX9_interpolate_45, gX9_interpolate_46, gX9_interpolate_49, gX9_interpolate_50, gX9_interpolate_51, gX9_interpolate_54T, gX9_interpolate_54F, gX9_interpolate_57, gX9_interpolate_59, gX9_interpolate_60, gX9_interpolate_61, gX9_interpolate_64, gX9_interpolate_66, gX9_interpolate_67, gX9_interpolate_68, gX9_interpolate_71, gX9_interpolate_73, gX9_interpolate_74, gX9_interpolate_75, fl_9_23, gX9_interpolate_78, gX9_interpolate_79, gX9_interpolate_81, gX9_interpolate_84, gX9_interpolate_85, gX9_interpolate_86, fl_9_24, gX9_interpolate_89, gX9_interpolate_90, gX9_interpolate_92, gX9_interpolate_95, gX9_interpolate_96, gX9_interpolate_98, gX9_interpolate_100, gX9_interpolate_102T, gX9_interpolate_102F, gX9_interpolate_105, gX9_interpolate_106, gX9_interpolate_108, gX9_interpolate_110, gX9_interpolate_112T, gX9_interpolate_112F, gX9_interpolate_115, gX9_interpolate_116, gX9_interpolate_119, gX9_interpolate_121, aL_g, gX9_interpolate_122, gX9_interpolate_123, gX9_interpolate_126, gX9_interpolate_128, gX9_interpolate_129T, gX9_interpolate_129F, gX9_interpolate_130T, gX9_interpolate_130F, gX9_interpolate_133, gX9_interpolate_134, gX9_interpolate_135, gX9_interpolate_138, gX9_interpolate_139, gX9_interpolate_142, gX9_interpolate_145, gX9_interpolate_148, gX9_interpolate_151, gX9_interpolate_152, gX9_interpolate_154, gX9_interpolate_156, gX9_interpolate_158T, gX9_interpolate_158F, gX9_interpolate_161, gX9_interpolate_162, fl_9_25, gX9_interpolate_165, gX9_interpolate_167, gX9_interpolate_168, sL_p, gX9_interpolate_169, gX9_interpolate_172, gX9_interpolate_175, gX9_interpolate_176, gX9_interpolate_178, gX9_interpolate_180, gX9_interpolate_182T, gX9_interpolate_182F, gX9_interpolate_185, gX9_interpolate_186, gX9_interpolate_188, gX9_interpolate_190, gX9_interpolate_192T, gX9_interpolate_192F, gX9_interpolate_195, gX9_interpolate_196, fl_9_26, gX9_interpolate_199, gX9_interpolate_201, gX9_interpolate_203T, gX9_interpolate_203F, gX9_interpolate_206, gX9_interpolate_207, gX9_interpolate_210, gX9_interpolate_211, gX9_interpolate_212, gX9_interpolate_215, gX9_interpolate_218, gX9_interpolate_219, gX9_interpolate_221, gX9_interpolate_222, gX9_interpolate_224, gX9_interpolate_226, gX9_interpolate_228T, gX9_interpolate_228F, gX9_interpolate_231, gX9_interpolate_233, gX9_interpolate_235T, gX9_interpolate_235F, gX9_interpolate_238, gX9_interpolate_241, gX9_interpolate_243, gX9_interpolate_245, gX9_interpolate_247T, gX9_interpolate_247F, gX9_interpolate_250, gX9_interpolate_251, gX9_interpolate_254, gX9_interpolate_256, gX9_interpolate_258T, gX9_interpolate_258F, gX9_interpolate_261, gX9_interpolate_262, gX9_interpolate_265, gX9_interpolate_267, gX9_interpolate_268, gX9_interpolate_269, gX9_interpolate_270, gX9_interpolate_273, gX9_interpolate_274, gX9_interpolate_276, gX9_interpolate_277, gX9_interpolate_280, gX9_interpolate_282, gX9_interpolate_283, gX9_interpolate_284, gX9_interpolate_285, gX9_interpolate_288, gX9_interpolate_290, gX9_interpolate_291, gX9_interpolate_292, gX9_interpolate_293, gX9_interpolate_295, gX9_interpolate_296, gX9_interpolate_297, gX9_interpolate_300, gX9_interpolate_303, gX9_interpolate_305, gX9_interpolate_306, gX9_interpolate_309, gX9_interpolate_311, gX9_interpolate_312, gX9_interpolate_314, gX9_interpolate_315, gX9_interpolate_316, gX9_interpolate_319, gX9_interpolate_321, gX9_interpolate_322, gX9_interpolate_323, gX9_interpolate_324, gX9_interpolate_326, gX9_interpolate_327, gX9_interpolate_329, gX9_interpolate_332, gX9_interpolate_335, gX9_interpolate_336, gX9_interpolate_339, gX9_interpolate_341, gX9_interpolate_342, gX9_interpolate_344, gX9_interpolate_346, gX9_interpolate_349, gX9_interpolate_350, gX9_interpolate_352, gX9_interpolate_353, gX9_interpolate_355, gX9_interpolate_356, gX9_interpolate_358, gX9_interpolate_360, gX9_interpolate_362T, gX9_interpolate_362F, gX9_interpolate_365, gX9_interpolate_366, gX9_interpolate_369, gX9_interpolate_371, gX9_interpolate_372, gX9_interpolate_375, gX9_interpolate_377, gX9_interpolate_378, gX9_interpolate_379, gX9_interpolate_382, gX9_interpolate_384, gX9_interpolate_385, gX9_interpolate_387, gX9_interpolate_388, gX9_interpolate_389, gX9_interpolate_391, gX9_interpolate_392, gX9_interpolate_393, gX9_interpolate_396, gX9_interpolate_399, gX9_interpolate_402, gX9_interpolate_405, gX9_interpolate_406, gX9_interpolate_408, gX9_interpolate_411, Rd_some, Wr_some, Cont_some, Cont_none, iso_O, true_and, hg_s, hg_n, hput_hput, hx, sp_mplT, sp_mprT, sp_mprF]
        exact hq _ (MJ.ft h1 h2 h3 h4 0) (Fm.rf.put (by omega))
    · rw [if_neg (fun t => hb t.2.1)] at hq
      simp (disch := omega) only [gX9_interpolate_0, gX9_interpolate_1, gX9_interpolate_2, pf_9_0, gX9_interpolate_5, gX9_interpolate_6, gX9_interpolate_9T, gX9_interpolate_9F, gX9_interpolate_12, gX9_interpolate_13, gX9_interpolate_16T, gX9_interpolate_16F, gX9_interpolate_19, gX9_interpolate_20, gX9_interpolate_23T, gX9_interpolate_23F, gX9_interpolate_26, gX9_interpolate_27, gX9_interpolate_28, gX9_interpolate_29, gX9_interpolate_30, gX9_interpolate_31, gX9_interpolate_34, gX9_interpolate_36, gX9_interpolate_38T, gX9_interpolate_38F, gX9_interpolate_41, gX9_interpolate_43, gX9_interpolate_44, gX9_interpolate_45, gX9_interpolate_46, gX9_interpolate_49, gX9_interpolate_50, gX9_interpolate_51, gX9_interpolate_54T, gX9_interpolate_54F, gX9_interpolate_57, gX9_interpolate_59, gX9_interpolate_60, gX9_interpolate_61, gX9_interpolate_64, gX9_interpolate_66, gX9_interpolate_67, gX9_interpolate_68, gX9_interpolate_71, gX9_interpolate_73, gX9_interpolate_74, gX9_interpolate_75, fl_9_23, gX9_interpolate_78, gX9_interpolate_79, gX9_interpolate_81, gX9_interpolate_84, gX9_interpolate_85, gX9_interpolate_86, fl_9_24, gX9_interpolate_89, gX9_interpolate_90, gX9_interpolate_92, gX9_interpolate_95, gX9_interpolate_96, gX9_interpolate_98, gX9_interpolate_100, gX9_interpolate_102T, gX9_interpolate_102F, gX9_interpolate_105, gX9_interpolate_106, gX9_interpolate_108, gX9_interpolate_110, gX9_interpolate_112T, gX9_interpolate_112F, gX9_interpolate_115, gX9_interpolate_116, gX9_interpolate_119, gX9_interpolate_121, aL_g, gX9_interpolate_122, gX9_interpolate_123, gX9_interpolate_126, gX9_interpolate_128, gX9_interpolate_129T, gX9_interpolate_129F, gX9_interpolate_130T, gX9_interpolate_130F, gX9_interpolate_133, gX9_interpolate_134, gX9_interpolate_135, gX9_interpolate_138, gX9_interpolate_139, gX9_interpolate_142, gX9_interpolate_145, gX9_interpolate_148, gX9_interpolate_151, gX9_interpolate_152, gX9_interpolate_154, gX9_interpolate_156, gX9_interpolate_158T, gX9_interpolate_158F, gX9_interpolate_161, gX9_interpolate_162, fl_9_25, gX9_interpolate_165, gX9_interpolate_167, gX9_interpolate_168, sL_p, gX9_interpolate_169, gX9_interpolate_172, gX9_interpolate_175, gX9_interpolate_176, gX9_interpolate_178, gX9_interpolate_180, gX9_interpolate_182T, gX9_interpolate_182F, gX9_interpolate_185, gX9_interpolate_186, gX9_interpolate_188, gX9_interpolate_190, gX9_interpolate_192T, gX9_interpolate_192F, gX9_interpolate_195, gX9_interpolate_196, fl_9_26, gX9_interpolate_199, gX9_interpolate_201, gX9_interpolate_203T, gX9_interpolate_203F, gX9_interpolate_206, gX9_interpolate_207, gX9_interpolate_210, gX9_interpolate_211, gX9_interpolate_212, gX9_interpolate_215, gX9_interpolate_218, gX9_interpolate_219, gX9_interpolate_221, gX9_interpolate_222, gX9_interpolate_224, gX9_interpolate_226, gX9_interpolate_228T, gX9_interpolate_228F, gX9_interpolate_231, gX9_interpolate_233, gX9_interpolate_235T, gX9_interpolate_235F, gX9_interpolate_238, gX9_interpolate_241, gX9_interpolate_243, gX9_interpolate_245, gX9_interpolate_247T, gX9_interpolate_247F, gX9_interpolate_250, gX9_interpolate_251, gX9_interpolate_254, gX9_interpolate_256, gX9_interpolate_258T, gX9_interpolate_258F, gX9_interpolate_261, gX9_interpolate_262, gX9_interpolate_265, gX9_interpolate_267, gX9_interpolate_268, gX9_interpolate_269, gX9_interpolate_270, gX9_interpolate_273, gX9_interpolate_274, gX9_interpolate_276, gX9_interpolate_277, gX9_interpolate_280, gX9_interpolate_282, gX9_interpolate_283, gX9_interpolate_284, gX9_interpolate_285, gX9_interpolate_288, gX9_interpolate_290, gX9_interpolate_291, gX9_interpolate_292, gX9_interpolate_293, gX9_interpolate_295, gX9_interpolate_296, gX9_interpolate_297, gX9_interpolate_300, gX9_interpolate_303, gX9_interpolate_305, gX9_interpolate_306, gX9_interpolate_309, gX9_interpolate_311, gX9_interpolate_312, gX9_interpolate_314, gX9_interpolate_315, gX9_interpolate_316, gX9_interpolate_319, gX9_interpolate_321, gX9_interpolate_322, gX9_interpolate_323, gX9_interpolate_324, gX9_interpolate_326, gX9_interpolate_327, gX9_interpolate_329, gX9_interpolate_332, gX9_interpolate_335, gX9_interpolate_336, gX9_interpolate_339, gX9_interpolate_341, gX9_interpolate_342, gX9_interpolate_344, gX9_interpolate_346, gX9_interpolate_349, gX9_interpolate_350, gX9_interpolate_352, gX9_interpolate_353, gX9_interpolate_355, gX9_interpolate_356, gX9_interpolate_358, gX9_interpolate_360, gX9_interpolate_362T, gX9_interpolate_362F, gX9_interpolate_365, gX9_interpolate_366, gX9_interpolate_369, gX9_interpolate_371, gX9_interpolate_372, gX9_interpolate_375, gX9_interpolate_377, gX9_interpolate_378, gX9_interpolate_379, gX9_interpolate_382, gX9_interpolate_384, gX9_interpolate_385, gX9_interpolate_387, gX9_interpolate_388, gX9_interpolate_389, gX9_interpolate_391, gX9_interpolate_392, gX9_interpolate_393, gX9_interpolate_396, gX9_interpolate_399, gX9_interpolate_402, gX9_interpolate_405, gX9_interpolate_406, gX9_interpolate_408, gX9_interpolate_411, Rd_some, Wr_some, Cont_some, Cont_none, iso_O, true_and, hg_s, hg_n, hput_hput, hx, sp_mplT, sp_mprT, sp_mplF]
      exact hq _ (MJ.ft h1 h2 h3 h4 0) (Fm.rf.put (by omega))
  · rw [if_neg (fun t => ha t.1)] at hq
    simp (disch := omega) only [gX9_interpolate_0, gX9_interpolate_1, gX9_interpolate_2, pf_9_0, gX9_interpolate_5, gX9_interpolate_6, gX9_interpolate_9T, gX9_interpolate_9F, gX9_interpolate_12, gX9_interpolate_13, gX9_interpolate_16T, gX9_interpolate_16F, gX9_interpolate_19, gX9_interpolate_20, gX9_interpolate_23T, gX9_interpolate_23F, gX9_interpolate_26, gX9_interpolate_27, gX9_interpolate_28, gX9_interpolate_29, gX9_interpolate_30, gX9_interpolate_31, gX9_interpolate_34, gX9_interpolate_36, gX9_interpolate_38T, gX9_interpolate_38F, gX9_interpolate_41, gX9_interpolate_43, gX9_interpolate_44, gX9_interpolate_45, gX9_interpolate_46, gX9_interpolate_49, gX9_interpolate_50, gX9_interpolate_51, gX9_interpolate_54T, gX9_interpolate_54F, gX9_interpolate_57, gX9_interpolate_59, gX9_interpolate_60, gX9_interpolate_61, gX9_interpolate_64, gX9_interpolate_66, gX9_interpolate_67, gX9_interpolate_68, gX9_interpolate_71, gX9_interpolate_73, gX9_interpolate_74, gX9_interpolate_75, fl_9_23, gX9_interpolate_78, gX9_interpolate_79, gX9_interpolate_81, gX9_interpolate_84, gX9_interpolate_85, gX9_interpolate_86, fl_9_24, gX9_interpolate_89, gX9_interpolate_90, gX9_interpolate_92, gX9_interpolate_95, gX9_interpolate_96, gX9_interpolate_98, gX9_interpolate_100, gX9_interpolate_102T, gX9_interpolate_102F, gX9_interpolate_105, gX9_interpolate_106, gX9_interpolate_108, gX9_interpolate_110, gX9_interpolate_112T, gX9_interpolate_112F, gX9_interpolate_115, gX9_interpolate_116, gX9_interpolate_119, gX9_interpolate_121, aL_g, gX9_interpolate_122, gX9_interpolate_123, gX9_interpolate_126, gX9_interpolate_128, gX9_interpolate_129T, gX9_interpolate_129F, gX9_interpolate_130T, gX9_interpolate_130F, gX9_interpolate_133, gX9_interpolate_134, gX9_interpolate_135, gX9_interpolate_138, gX9_interpolate_139, gX9_interpolate_142, gX9_interpolate_145, gX9_interpolate_148, gX9_interpolate_151, gX9_interpolate_152, gX9_interpolate_154, gX9_interpolate_156, gX9_interpolate_158T, gX9_interpolate_158F, gX9_interpolate_161, gX9_interpolate_162, fl_9_25, gX9_interpolate_165, gX9_interpolate_167, gX9_interpolate_168, sL_p, gX9_interpolate_169, gX9_interpolate_172, gX9_interpolate_175, gX9_interpolate_176, gX9_interpolate_178, gX9_interpolate_180, gX9_interpolate_182T, gX9_interpolate_182F, gX9_interpolate_185, gX9_interpolate_186, gX9_interpolate_188, gX9_interpolate_190, gX9_interpolate_192T, gX9_interpolate_192F, gX9_interpolate_195, gX9_interpolate_196, fl_9_26, gX9_interpolate_199, gX9_interpolate_201, gX9_interpolate_203T, gX9_interpolate_203F, gX9_interpolate_206, gX9_interpolate_207, gX9_interpolate_210, gX9_interpolate_211, gX9_interpolate_212, gX9_interpolate_215, gX9_interpolate_218, gX9_interpolate_219, gX9_interpolate_221, gX9_interpolate_222, gX9_interpolate_224, gX9_interpolate_226, gX9_interpolate_228T, gX9_interpolate_228F, gX9_interpolate_231, gX9_interpolate_233, gX9_interpolate_235T, gX9_interpolate_235F, gX9_interpolate_238, gX9_interpolate_241, gX9_interpolate_243, gX9_interpolate_245, gX9_interpolate_247T, gX9_interpolate_247F, gX9_interpolate_250, gX9_interpolate_251, gX9_interpolate_254, gX9_interpolate_256, gX9_interpolate_258T, gX9_interpolate_258F, gX9_interpolate_261, gX9_interpolate_262, gX9_interpolate_265, gX9_interpolate_267, gX9_interpolate_268, gX9_interpolate_269, gX9_interpolate_270, gX9_interpolate_273, gX9_interpolate_274, gX9_interpolate_276, gX9_interpolate_277, gX9_interpolate_280, gX9_interpolate_282, gX9_interpolate_283, gX9_interpolate_284, gX9_interpolate_285, gX9_interpolate_288, gX9_interpolate_290, gX9_interpolate_291, gX9_interpolate_292, gX9_interpolate_293, gX9_interpolate_295, gX9_interpolate_296, gX9_interpolate_297, gX9_interpolate_300, gX9_interpolate_303, gX9_interpolate_305, gX9_interpolate_306, gX9_interpolate_309, gX9_interpolate_311, gX9_interpolate_312, gX9_interpolate_314, gX9_interpolate_315, gX9_interpolate_316, gX9_interpolate_319, gX9_interpolate_321, gX9_interpolate_322, gX9_interpolate_323, gX9_interpolate_324, gX9_interpolate_326, gX9_interpolate_327, gX9_interpolate_329, gX9_interpolate_332, gX9_interpolate_335, gX9_interpolate_336, gX9_interpolate_339, gX9_interpolate_341, gX9_interpolate_342, gX9_interpolate_344, gX9_interpolate_346, gX9_interpolate_349, gX9_interpolate_350, gX9_interpolate_352, gX9_interpolate_353, gX9_interpolate_355, gX9_interpolate_356, gX9_interpolate_358, gX9_interpolate_360, gX9_interpolate_362T, gX9_interpolate_362F, gX9_interpolate_365, gX9_interpolate_366, gX9_interpolate_369, gX9_interpolate_371, gX9_interpolate_372, gX9_interpolate_375, gX9_interpolate_377, gX9_interpolate_378, gX9_interpolate_379, gX9_interpolate_382, gX9_interpolate_384, gX9_interpolate_385, gX9_interpolate_387, gX9_interpolate_388, gX9_interpolate_389, gX9_interpolate_391, gX9_interpolate_392, gX9_interpolate_393, gX9_interpolate_396, gX9_interpolate_399, gX9_interpolate_402, gX9_interpolate_405, gX9_interpolate_406, gX9_interpolate_408, gX9_interpolate_411, Rd_some, Wr_some, Cont_some, Cont_none, iso_O, true_and, hg_s, hg_n, hput_hput, hx, sp_mplT, sp_mprT, sp_mplF]
    exact hq _ (MJ.ft h1 h2 h3 h4 0) (Fm.rf.put (by omega))

end ITO

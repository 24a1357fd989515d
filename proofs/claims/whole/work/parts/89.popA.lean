/-! x: over a prime (begun by program: wip/gen/polyops.py) -/
def o_eval (S : SS) (a b u : Int) : Value × SS := if (0 ≤ a ∧ a < 12) ∧ (0 ≤ b ∧ b < 12) ∧ 0 ≤ u ∧ u ≤ 2 then o_two S a b 3 (fun k l => (vi (S.1.2 l).2.1, wSh (wFt S 0) 3 (S.1.2 l).2.1 (fun j => EV (PV u) (S.1.2 k).2.2 (S.1.2 k).2.1 ((S.1.2 l).2.2 j)))) else (vi (-1), wFt S 0)
def SR (u : Int) (d : RD) (n : Int) : Int → Int := ser (PV u) ((d.2.2 0 % PV u) ^ (PV u - 2).toNat % PV u) (Xz (PV u) d.2.2 d.2.1) n.toNat
def o_series (S : SS) (a u n : Int) : Value × SS := if (0 ≤ a ∧ a < 12) ∧ 0 ≤ u ∧ u ≤ 2 then (if 1 ≤ n ∧ n ≤ 64 then o_one S a 3 (fun k => if (S.1.2 k).2.2 0 % PV u = 0 then fo S 5 else (vi n, wSh (wFt S 0) 3 n (SR u (S.1.2 k) n))) else (vi (-2), wFt S 0)) else (vi (-1), wFt S 0)
def DGR (u : Int) (e : RD) : Int := dg (PV u) e.2.2 e.2.1.toNat
def DQN (u : Int) (d e : RD) : Int := max (d.2.1 - DGR u e) 0
def DSC (u : Int) (e : RD) : Int := (e.2.2 (DGR u e) % PV u) ^ (PV u - 2).toNat % PV u
def DQT (u : Int) (d e : RD) (j : Int) : Int := dq (PV u) (DSC u e) (Xz (PV u) e.2.2 e.2.1) (DGR u e).toNat (Xz (PV u) d.2.2 d.2.1) (DQN u d e).toNat j.toNat
def DRS (u : Int) (d e : RD) (j : Int) : Int := dv (PV u) (DSC u e) (Xz (PV u) e.2.2 e.2.1) (DGR u e).toNat (Xz (PV u) d.2.2 d.2.1) (DQN u d e).toNat (DQN u d e).toNat j
def o_div (S : SS) (a b u : Int) : Value × SS := if (0 ≤ a ∧ a < 12) ∧ (0 ≤ b ∧ b < 12) ∧ 0 ≤ u ∧ u ≤ 2 then o_two S a b 3 (fun k l => if DGR u (S.1.2 l) < 0 then fo S 5 else (vi (DQN u (S.1.2 k) (S.1.2 l)), wSh (wSh (wFt S 0) 3 (DQN u (S.1.2 k) (S.1.2 l)) (DQT u (S.1.2 k) (S.1.2 l))) 4 (DGR u (S.1.2 l)) (DRS u (S.1.2 k) (S.1.2 l)))) else (vi (-1), wFt S 0)
theorem dg_r (P : Int) (g : Int → Int) (k : Nat) : -1 ≤ dg P g k ∧ dg P g k < k := by
  induction k with
  | zero => rw [dg]; omega
  | succ k ih => rw [dg]; split <;> omega
section POP
variable {H : HP} {S : SS} {Q : Option Value → HP → Prop} {a b u n : Int}
theorem CI.sh3 {H' : HP} {V g : Int → Int} (h : CI H S) (h1 : H'.1 = H.1) (e : ∀ q, q ≠ 5 → q ≠ 6 → q ≠ 7 → q ≠ 16 → q ≠ 17 → hget H' q = hget H q) (w5 : ∃ f, hget H' 5 = cL 64 f) (w6 : ∃ f, hget H' 6 = cL 64 f) (w7 : ∃ f, hget H' 7 = cL 65 f) (h16 : hget H' 16 = cO 6 [.ref 17, vi n]) (h17 : hget H' 17 = cL 64 g) (hv : eqn g (n, V)) (hn : 0 ≤ n ∧ n ≤ 64) : CI H' (wSh S 3 n V) := by
  refine h.upd h1 (fun q hq => e q (by omega) (by omega) (by omega) (by omega) (by omega)) rfl (fun q hq => ?_) ?_
  · by_cases e1 : q = 5
    · subst e1; exact w5
    · by_cases e2 : q = 6
      · subst e2; exact w6
      · by_cases e3 : q = 7
        · subst e3; exact w7
        · by_cases e4 : q = 16
          · subst e4; exact h16
          · by_cases e5 : q = 17
            · subst e5; exact ⟨g, h17, hv⟩
            · rw [e q e1 e2 e3 e4 e5]; exact (Sh_3 ⟨e4, e5⟩).mpr (h.1 q hq)
  · obtain ⟨s1, s2, s3, s4, s5, s6, s7, s8⟩ := h.2.2.1
    exact ⟨s1, s2, s3, hn, s5, s6, s7, s8⟩
theorem CI.sh34 {H' : HP} {V W g r : Int → Int} {m : Int} (h : CI H S) (h1 : H'.1 = H.1) (e : ∀ q, q ≠ 5 → q ≠ 6 → q ≠ 16 → q ≠ 17 → q ≠ 18 → q ≠ 19 → hget H' q = hget H q) (w5 : ∃ f, hget H' 5 = cL 64 f) (w6 : ∃ f, hget H' 6 = cL 64 f) (h16 : hget H' 16 = cO 6 [.ref 17, vi n]) (h17 : hget H' 17 = cL 64 g) (hv : eqn g (n, V)) (hn : 0 ≤ n ∧ n ≤ 64) (h18 : hget H' 18 = cO 6 [.ref 19, vi m]) (h19 : hget H' 19 = cL 64 r) (hr : eqn r (m, W)) (hm : 0 ≤ m ∧ m ≤ 64) : CI H' (wSh (wSh S 3 n V) 4 m W) := by
  refine h.upd h1 (fun q hq => e q (by omega) (by omega) (by omega) (by omega) (by omega) (by omega)) rfl (fun q hq => ?_) ?_
  · by_cases e1 : q = 5
    · subst e1; exact w5
    · by_cases e2 : q = 6
      · subst e2; exact w6
      · by_cases e4 : q = 16
        · subst e4; exact h16
        · by_cases e5 : q = 17
          · subst e5; exact ⟨g, h17, hv⟩
          · by_cases e6 : q = 18
            · subst e6; exact h18
            · by_cases e7 : q = 19
              · subst e7; exact ⟨r, h19, hr⟩
              · rw [e q e1 e2 e4 e5 e6 e7]; exact (Sh_4 ⟨e6, e7⟩).mpr ((Sh_3 ⟨e4, e5⟩).mpr (h.1 q hq))
  · obtain ⟨s1, s2, s3, s4, s5, s6, s7, s8⟩ := h.2.2.1
    exact ⟨s1, s2, s3, hn, hm, s6, s7, s8⟩

theorem cx_eval (hc : CI H S) (c : (-2147483648 ≤ a ∧ a ≤ 2147483647) ∧ (-2147483648 ≤ b ∧ b ≤ 2147483647) ∧ (-2147483648 ≤ u ∧ u ≤ 2147483647)) (hq : CG H Q (o_eval S a b u)) : Go 95 0 [some (.ref 1), some (vi a), some (vi b), some (vi u), none, none] [] H Q := by
  have hx := hc.x
  have h2 := hc.pl
  unfold o_eval CG at hq
  by_cases ha : 0 ≤ a ∧ a < 12
  · by_cases hb : 0 ≤ b ∧ b < 12
    · by_cases hw0 : 0 ≤ u ∧ u ≤ 2
      · rw [if_pos ⟨ha, hb, hw0⟩] at hq
        have hc1 := hc.ft 0
        unfold o_two at hq
        cases hoa : S.1.1 a with
        | none =>
          cases hob : S.1.1 b with
          | none =>
            rw [hoa, hob] at hq
            dsimp only at hq
            simp (disch := omega) only [gX8_evaluate_0, gX8_evaluate_1, gX8_evaluate_2, pf_8_12, gX8_evaluate_5, gX8_evaluate_6, gX8_evaluate_9T, gX8_evaluate_9F, gX8_evaluate_12, gX8_evaluate_13, gX8_evaluate_16T, gX8_evaluate_16F, gX8_evaluate_19, gX8_evaluate_20, gX8_evaluate_23T, gX8_evaluate_23F, gX8_evaluate_26, gX8_evaluate_27, gX8_evaluate_28, gX8_evaluate_29, fl_8_0, gX8_evaluate_32, gX8_evaluate_33, aR_g, gX8_evaluate_34, gX8_evaluate_34N, gX8_evaluate_36, gX8_evaluate_37, gX8_evaluate_40, gX8_evaluate_41, gX8_evaluate_42, gX8_evaluate_42N, gX8_evaluate_44, gX8_evaluate_44N, gX8_evaluate_46T, gX8_evaluate_46F, gX8_evaluate_49, gX8_evaluate_49N, gX8_evaluate_51T, gX8_evaluate_51F, gX8_evaluate_54, gX8_evaluate_55, gX8_evaluate_56, gX8_evaluate_59, gX8_evaluate_60, gX8_evaluate_60N, gX8_evaluate_62, fl_5_0, gX8_evaluate_65, gX8_evaluate_66T, gX8_evaluate_66F, gX8_evaluate_69, gX8_evaluate_69N, gX8_evaluate_71, gX8_evaluate_74, gX8_evaluate_75T, gX8_evaluate_75F, gX8_evaluate_78, gX8_evaluate_79, gX8_evaluate_80, gX8_evaluate_83, gX8_evaluate_84, gX8_evaluate_85, fl_8_6, gX8_evaluate_88, gX8_evaluate_88N, gX8_evaluate_90, gX8_evaluate_93, pf_6_1, gX8_evaluate_96, gX8_evaluate_97, fl_8_3, gX8_evaluate_100, gX8_evaluate_100N, gX8_evaluate_102, gX8_evaluate_102N, gX8_evaluate_104, gX8_evaluate_105, fl_8_1, gX8_evaluate_108, gX8_evaluate_109, gX8_evaluate_110, gX8_evaluate_111, gX8_evaluate_114, gX8_evaluate_117, gX8_evaluate_118, gX8_evaluate_121, fl_6_1, gX8_evaluate_124, Rd_some, Wr_some, Cont_some, Cont_none, iso_O, true_and, hg_s, hg_n, hput_hput, gX8_faulted_0, gX8_faulted_1, gX8_faulted_2, pf_8_12, gX8_faulted_5, gX8_faulted_7, gX8_faulted_8, gX8_faulted_9, Rd_some, Wr_some, Cont_some, Cont_none, iso_O, true_and, hg_s, hg_n, hput_hput, hx, h2, sp_plT, sp_prT, aR_g, hoa, hob, va_rf_n]
            exact hq _ (hc.ft 1) (FX.put (by decide))
          | some l =>
            rw [hoa, hob] at hq
            dsimp only at hq
            simp (disch := omega) only [gX8_evaluate_0, gX8_evaluate_1, gX8_evaluate_2, pf_8_12, gX8_evaluate_5, gX8_evaluate_6, gX8_evaluate_9T, gX8_evaluate_9F, gX8_evaluate_12, gX8_evaluate_13, gX8_evaluate_16T, gX8_evaluate_16F, gX8_evaluate_19, gX8_evaluate_20, gX8_evaluate_23T, gX8_evaluate_23F, gX8_evaluate_26, gX8_evaluate_27, gX8_evaluate_28, gX8_evaluate_29, fl_8_0, gX8_evaluate_32, gX8_evaluate_33, aR_g, gX8_evaluate_34, gX8_evaluate_34N, gX8_evaluate_36, gX8_evaluate_37, gX8_evaluate_40, gX8_evaluate_41, gX8_evaluate_42, gX8_evaluate_42N, gX8_evaluate_44, gX8_evaluate_44N, gX8_evaluate_46T, gX8_evaluate_46F, gX8_evaluate_49, gX8_evaluate_49N, gX8_evaluate_51T, gX8_evaluate_51F, gX8_evaluate_54, gX8_evaluate_55, gX8_evaluate_56, gX8_evaluate_59, gX8_evaluate_60, gX8_evaluate_60N, gX8_evaluate_62, fl_5_0, gX8_evaluate_65, gX8_evaluate_66T, gX8_evaluate_66F, gX8_evaluate_69, gX8_evaluate_69N, gX8_evaluate_71, gX8_evaluate_74, gX8_evaluate_75T, gX8_evaluate_75F, gX8_evaluate_78, gX8_evaluate_79, gX8_evaluate_80, gX8_evaluate_83, gX8_evaluate_84, gX8_evaluate_85, fl_8_6, gX8_evaluate_88, gX8_evaluate_88N, gX8_evaluate_90, gX8_evaluate_93, pf_6_1, gX8_evaluate_96, gX8_evaluate_97, fl_8_3, gX8_evaluate_100, gX8_evaluate_100N, gX8_evaluate_102, gX8_evaluate_102N, gX8_evaluate_104, gX8_evaluate_105, fl_8_1, gX8_evaluate_108, gX8_evaluate_109, gX8_evaluate_110, gX8_evaluate_111, gX8_evaluate_114, gX8_evaluate_117, gX8_evaluate_118, gX8_evaluate_121, fl_6_1, gX8_evaluate_124, Rd_some, Wr_some, Cont_some, Cont_none, iso_O, true_and, hg_s, hg_n, hput_hput, gX8_faulted_0, gX8_faulted_1, gX8_faulted_2, pf_8_12, gX8_faulted_5, gX8_faulted_7, gX8_faulted_8, gX8_faulted_9, Rd_some, Wr_some, Cont_some, Cont_none, iso_O, true_and, hg_s, hg_n, hput_hput, hx, h2, sp_plT, sp_prT, aR_g, hoa, hob, va_rf_n, va_rf_s]
            exact hq _ (hc.ft 1) (FX.put (by decide))
        | some k =>
          cases hob : S.1.1 b with
          | none =>
            rw [hoa, hob] at hq
            dsimp only at hq
            simp (disch := omega) only [gX8_evaluate_0, gX8_evaluate_1, gX8_evaluate_2, pf_8_12, gX8_evaluate_5, gX8_evaluate_6, gX8_evaluate_9T, gX8_evaluate_9F, gX8_evaluate_12, gX8_evaluate_13, gX8_evaluate_16T, gX8_evaluate_16F, gX8_evaluate_19, gX8_evaluate_20, gX8_evaluate_23T, gX8_evaluate_23F, gX8_evaluate_26, gX8_evaluate_27, gX8_evaluate_28, gX8_evaluate_29, fl_8_0, gX8_evaluate_32, gX8_evaluate_33, aR_g, gX8_evaluate_34, gX8_evaluate_34N, gX8_evaluate_36, gX8_evaluate_37, gX8_evaluate_40, gX8_evaluate_41, gX8_evaluate_42, gX8_evaluate_42N, gX8_evaluate_44, gX8_evaluate_44N, gX8_evaluate_46T, gX8_evaluate_46F, gX8_evaluate_49, gX8_evaluate_49N, gX8_evaluate_51T, gX8_evaluate_51F, gX8_evaluate_54, gX8_evaluate_55, gX8_evaluate_56, gX8_evaluate_59, gX8_evaluate_60, gX8_evaluate_60N, gX8_evaluate_62, fl_5_0, gX8_evaluate_65, gX8_evaluate_66T, gX8_evaluate_66F, gX8_evaluate_69, gX8_evaluate_69N, gX8_evaluate_71, gX8_evaluate_74, gX8_evaluate_75T, gX8_evaluate_75F, gX8_evaluate_78, gX8_evaluate_79, gX8_evaluate_80, gX8_evaluate_83, gX8_evaluate_84, gX8_evaluate_85, fl_8_6, gX8_evaluate_88, gX8_evaluate_88N, gX8_evaluate_90, gX8_evaluate_93, pf_6_1, gX8_evaluate_96, gX8_evaluate_97, fl_8_3, gX8_evaluate_100, gX8_evaluate_100N, gX8_evaluate_102, gX8_evaluate_102N, gX8_evaluate_104, gX8_evaluate_105, fl_8_1, gX8_evaluate_108, gX8_evaluate_109, gX8_evaluate_110, gX8_evaluate_111, gX8_evaluate_114, gX8_evaluate_117, gX8_evaluate_118, gX8_evaluate_121, fl_6_1, gX8_evaluate_124, Rd_some, Wr_some, Cont_some, Cont_none, iso_O, true_and, hg_s, hg_n, hput_hput, gX8_faulted_0, gX8_faulted_1, gX8_faulted_2, pf_8_12, gX8_faulted_5, gX8_faulted_7, gX8_faulted_8, gX8_faulted_9, Rd_some, Wr_some, Cont_some, Cont_none, iso_O, true_and, hg_s, hg_n, hput_hput, hx, h2, sp_plT, sp_prT, aR_g, hoa, hob, va_rf_n, va_rf_s]
            exact hq _ (hc.ft 1) (FX.put (by decide))
          | some l =>
            rw [hoa, hob] at hq
            dsimp only at hq
            have ra : Rw (hput H 1 (cX (wFt S 0))) k (S.1.2 k) := hc1.rw' (S := wFt S 0) ha hoa
            have rb : Rw (hput H 1 (cX (wFt S 0))) l (S.1.2 l) := hc1.rw' (S := wFt S 0) hb hob
            have la := ra.2.2.2.1
            have lb := rb.2.2.2.1
            have f1 : FX H (hput H 1 (cX (wFt S 0))) := FX.put (by decide)
            simp (disch := omega) only [gX8_evaluate_0, gX8_evaluate_1, gX8_evaluate_2, pf_8_12, gX8_evaluate_5, gX8_evaluate_6, gX8_evaluate_9T, gX8_evaluate_9F, gX8_evaluate_12, gX8_evaluate_13, gX8_evaluate_16T, gX8_evaluate_16F, gX8_evaluate_19, gX8_evaluate_20, gX8_evaluate_23T, gX8_evaluate_23F, gX8_evaluate_26, gX8_evaluate_27, gX8_evaluate_28, gX8_evaluate_29, fl_8_0, gX8_evaluate_32, gX8_evaluate_33, aR_g, gX8_evaluate_34, gX8_evaluate_34N, gX8_evaluate_36, gX8_evaluate_37, gX8_evaluate_40, gX8_evaluate_41, gX8_evaluate_42, gX8_evaluate_42N, Rd_some, Wr_some, Cont_some, Cont_none, iso_O, true_and, hg_s, hg_n, hput_hput, hx, h2, sp_plT, sp_prT, aR_g, hoa, hob, va_rf_s]
            change Go _ _ _ _ (hput H 1 (cX (wFt S 0))) _
            by_cases hl : (S.1.2 k).1 ≤ 3 ∧ (S.1.2 l).1 ≤ 3
            · rw [if_pos hl] at hq
              generalize hput H 1 (cX (wFt S 0)) = H1 at hc1 ra rb f1
              simp (disch := omega) only [gX8_evaluate_44, gX8_evaluate_44N, gX8_evaluate_46T, gX8_evaluate_46F, gX8_evaluate_49, gX8_evaluate_49N, gX8_evaluate_51T, gX8_evaluate_51F, gX8_evaluate_54, gX8_evaluate_55, gX8_evaluate_56, gX8_evaluate_59, gX8_evaluate_60, gX8_evaluate_60N, gX8_evaluate_62, fl_5_0, gX8_evaluate_65, gX8_evaluate_66T, gX8_evaluate_66F, gX8_evaluate_69, gX8_evaluate_69N, gX8_evaluate_71, gX8_evaluate_74, gX8_evaluate_75T, gX8_evaluate_75F, gX8_evaluate_78, gX8_evaluate_79, gX8_evaluate_80, gX8_evaluate_83, Rd_some, Wr_some, Cont_some, Cont_none, iso_O, true_and, hg_s, hg_n, hput_hput, ra.2.1, rb.2.1]
              have hA := ra.RW
              have nA := hA.2.2.2.1
              have oA := ra.1
              have hp := hc1.pv hw0
              have hP := PV_r u
              obtain ⟨g0, g1, -⟩ := hc1.c 17 (by decide)
              obtain ⟨f0, h5⟩ := hc1.c 5 (by decide)
              have h4 : hget H1 4 = cO 2 [.ref 5, .ref 6, .ref 7] := hc1.c 4 (by decide)
              have h16 : hget H1 16 = cO 6 [.ref 17, vi ((wFt S 0).2.2 3).1] := hc1.c 16 (by decide)
              have hB := rb.RW
              have nB := hB.2.2.2.1
              have oB := rb.1
              simp (disch := omega) only [gX8_evaluate_84, gX8_evaluate_85, fl_8_6, gX8_evaluate_88, gX8_evaluate_88N, gX8_evaluate_90, gX8_evaluate_93, pf_6_1, Rd_some, Wr_some, Cont_some, Cont_none, iso_O, true_and, hg_s, hg_n, hput_hput, hc1.x, h16, rb.2.1, sp_size hB.1 hB.2.1 hB.sz]
              have k0 : ∀ q, q ≠ 16 → hget (hput H1 16 (cO 6 [.ref 17, vi (S.1.2 l).2.1])) q = hget H1 q := fun q h => hg_n h
              have k16 : hget (hput H1 16 (cO 6 [.ref 17, vi (S.1.2 l).2.1])) 16 = cO 6 [.ref 17, vi (S.1.2 l).2.1] := hg_s
              have s1 : (hput H1 16 (cO 6 [.ref 17, vi (S.1.2 l).2.1])).1 = H1.1 := rfl
              have s2 : (hput H1 16 (cO 6 [.ref 17, vi (S.1.2 l).2.1])).2.1 = H1.2.1 := rfl
              change Go _ _ _ _ (hput H1 16 (cO 6 [.ref 17, vi (S.1.2 l).2.1])) _
              generalize hput H1 16 (cO 6 [.ref 17, vi (S.1.2 l).2.1]) = H2 at *
              have x1 : hget H2 1 = cX (wFt S 0) := by rw [k0 1 (by omega)]; exact hc1.x
              have x3 : hget H2 3 = cR (.object (vCn 3)) 3 pmf := by rw [k0 3 (by omega)]; exact hc1.pm
              have x4 : hget H2 4 = cO 2 [.ref 5, .ref 6, .ref 7] := by rw [k0 4 (by omega)]; exact h4
              have x5 : hget H2 5 = cL 64 f0 := by rw [k0 5 (by omega)]; exact h5
              have x17 : hget H2 17 = cL 64 g0 := by rw [k0 17 (by omega)]; exact g1
              have xp : hget H2 (25 + u.toNat) = cO 3 [vl (PV u)] := by rw [k0 _ (by omega)]; exact hp
              have xA : RW H2 k (k + 1) (S.1.2 k).1 (S.1.2 k).2.1 (S.1.2 k).2.2 := ⟨by rw [k0 k (by omega)]; exact hA.1, by rw [k0 (k + 1) (by omega)]; exact hA.2.1, hA.2.2⟩
              have xB : RW H2 l (l + 1) (S.1.2 l).1 (S.1.2 l).2.1 (S.1.2 l).2.2 := ⟨by rw [k0 l (by omega)]; exact hB.1, by rw [k0 (l + 1) (by omega)]; exact hB.2.1, hB.2.2⟩
              simp (disch := omega) only [gX8_evaluate_96, gX8_evaluate_97, fl_8_3, gX8_evaluate_100, gX8_evaluate_100N, gX8_evaluate_102, gX8_evaluate_102N, gX8_evaluate_104, gX8_evaluate_105, fl_8_1, gX8_evaluate_108, gX8_evaluate_109, aR_g, gX8_evaluate_110, gX8_evaluate_111, fl_8_6, gX8_evaluate_114, Rd_some, Wr_some, Cont_some, Cont_none, iso_O, true_and, hg_s, hg_n, hput_hput, x1, x3, x4, aR_g, va_rf_s, pmf_v]
              refine sp_va xp hP (by omega) x4 xA xB k16 x5 x17 (fun F => ?_)
              have z1 : ∀ c d, hget (hput (hput H2 5 c) 17 d) 1 = cX (wFt S 0) := fun c d => by rw [hg_n (by omega), hg_n (by omega)]; exact x1
              have z16 : ∀ c d, hget (hput (hput H2 5 c) 17 d) 16 = cO 6 [.ref 17, vi (S.1.2 l).2.1] := fun c d => by rw [hg_n (by omega), hg_n (by omega)]; exact k16
              simp (disch := omega) only [gX8_evaluate_117, gX8_evaluate_118, fl_8_6, gX8_evaluate_121, fl_6_1, gX8_evaluate_124, Rd_some, Wr_some, Cont_some, Cont_none, iso_O, true_and, hg_s, hg_n, hput_hput, z1, z16]
              refine hq _ (hc1.sh3 s1 (fun q q1 q2 q3 q4 q5 => by rw [hg_n q5, hg_n q1]; exact k0 q q4) ⟨F, by rw [hg_n (by omega), hg_s]⟩ (by obtain ⟨f, hf⟩ := hc1.c 6 (by decide); exact ⟨f, by rw [hg_n (by omega), hg_n (by omega), k0 6 (by omega)]; exact hf⟩) (by obtain ⟨f, hf⟩ := hc1.c 7 (by decide); exact ⟨f, by rw [hg_n (by omega), hg_n (by omega), k0 7 (by omega)]; exact hf⟩) (z16 _ _) hg_s (fun j j0 j1 => by rw [mix_in ⟨j0, j1⟩]) (by omega)) (f1.same s1 s2 (fun q hq => by rw [hg_n (by omega), hg_n (by omega)]; exact k0 q (by omega)))
            · rw [if_neg hl] at hq
              by_cases hl2 : (S.1.2 k).1 ≤ 3 <;> simp (disch := omega) only [gX8_evaluate_44, gX8_evaluate_44N, gX8_evaluate_46T, gX8_evaluate_46F, gX8_evaluate_49, gX8_evaluate_49N, gX8_evaluate_51T, gX8_evaluate_51F, gX8_evaluate_54, gX8_evaluate_55, gX8_evaluate_56, gX8_evaluate_59, gX8_evaluate_60, gX8_evaluate_60N, gX8_evaluate_62, fl_5_0, gX8_evaluate_65, gX8_evaluate_66T, gX8_evaluate_66F, gX8_evaluate_69, gX8_evaluate_69N, gX8_evaluate_71, gX8_evaluate_74, gX8_evaluate_75T, gX8_evaluate_75F, gX8_evaluate_78, gX8_evaluate_79, gX8_evaluate_80, gX8_evaluate_83, Rd_some, Wr_some, Cont_some, Cont_none, iso_O, true_and, hg_s, hg_n, hput_hput, gX8_faulted_0, gX8_faulted_1, gX8_faulted_2, pf_8_12, gX8_faulted_5, gX8_faulted_7, gX8_faulted_8, gX8_faulted_9, Rd_some, Wr_some, Cont_some, Cont_none, iso_O, true_and, hg_s, hg_n, hput_hput, ra.2.1, rb.2.1] <;> exact hq _ (hc.ft 2) (FX.put (by decide))
      · rw [if_neg (fun t => hw0 t.2.2)] at hq
        simp (disch := omega) only [gX8_evaluate_0, gX8_evaluate_1, gX8_evaluate_2, pf_8_12, gX8_evaluate_5, gX8_evaluate_6, gX8_evaluate_9T, gX8_evaluate_9F, gX8_evaluate_12, gX8_evaluate_13, gX8_evaluate_16T, gX8_evaluate_16F, gX8_evaluate_19, gX8_evaluate_20, gX8_evaluate_23T, gX8_evaluate_23F, gX8_evaluate_26, gX8_evaluate_27, gX8_evaluate_28, gX8_evaluate_29, fl_8_0, gX8_evaluate_32, gX8_evaluate_33, aR_g, gX8_evaluate_34, gX8_evaluate_34N, gX8_evaluate_36, gX8_evaluate_37, gX8_evaluate_40, gX8_evaluate_41, gX8_evaluate_42, gX8_evaluate_42N, gX8_evaluate_44, gX8_evaluate_44N, gX8_evaluate_46T, gX8_evaluate_46F, gX8_evaluate_49, gX8_evaluate_49N, gX8_evaluate_51T, gX8_evaluate_51F, gX8_evaluate_54, gX8_evaluate_55, gX8_evaluate_56, gX8_evaluate_59, gX8_evaluate_60, gX8_evaluate_60N, gX8_evaluate_62, fl_5_0, gX8_evaluate_65, gX8_evaluate_66T, gX8_evaluate_66F, gX8_evaluate_69, gX8_evaluate_69N, gX8_evaluate_71, gX8_evaluate_74, gX8_evaluate_75T, gX8_evaluate_75F, gX8_evaluate_78, gX8_evaluate_79, gX8_evaluate_80, gX8_evaluate_83, gX8_evaluate_84, gX8_evaluate_85, fl_8_6, gX8_evaluate_88, gX8_evaluate_88N, gX8_evaluate_90, gX8_evaluate_93, pf_6_1, gX8_evaluate_96, gX8_evaluate_97, fl_8_3, gX8_evaluate_100, gX8_evaluate_100N, gX8_evaluate_102, gX8_evaluate_102N, gX8_evaluate_104, gX8_evaluate_105, fl_8_1, gX8_evaluate_108, gX8_evaluate_109, gX8_evaluate_110, gX8_evaluate_111, gX8_evaluate_114, gX8_evaluate_117, gX8_evaluate_118, gX8_evaluate_121, fl_6_1, gX8_evaluate_124, Rd_some, Wr_some, Cont_some, Cont_none, iso_O, true_and, hg_s, hg_n, hput_hput, hx, sp_plT, sp_prT, sp_prF]
        exact hq _ (hc.ft 0) (FX.put (by decide))
    · rw [if_neg (fun t => hb t.2.1)] at hq
      simp (disch := omega) only [gX8_evaluate_0, gX8_evaluate_1, gX8_evaluate_2, pf_8_12, gX8_evaluate_5, gX8_evaluate_6, gX8_evaluate_9T, gX8_evaluate_9F, gX8_evaluate_12, gX8_evaluate_13, gX8_evaluate_16T, gX8_evaluate_16F, gX8_evaluate_19, gX8_evaluate_20, gX8_evaluate_23T, gX8_evaluate_23F, gX8_evaluate_26, gX8_evaluate_27, gX8_evaluate_28, gX8_evaluate_29, fl_8_0, gX8_evaluate_32, gX8_evaluate_33, aR_g, gX8_evaluate_34, gX8_evaluate_34N, gX8_evaluate_36, gX8_evaluate_37, gX8_evaluate_40, gX8_evaluate_41, gX8_evaluate_42, gX8_evaluate_42N, gX8_evaluate_44, gX8_evaluate_44N, gX8_evaluate_46T, gX8_evaluate_46F, gX8_evaluate_49, gX8_evaluate_49N, gX8_evaluate_51T, gX8_evaluate_51F, gX8_evaluate_54, gX8_evaluate_55, gX8_evaluate_56, gX8_evaluate_59, gX8_evaluate_60, gX8_evaluate_60N, gX8_evaluate_62, fl_5_0, gX8_evaluate_65, gX8_evaluate_66T, gX8_evaluate_66F, gX8_evaluate_69, gX8_evaluate_69N, gX8_evaluate_71, gX8_evaluate_74, gX8_evaluate_75T, gX8_evaluate_75F, gX8_evaluate_78, gX8_evaluate_79, gX8_evaluate_80, gX8_evaluate_83, gX8_evaluate_84, gX8_evaluate_85, fl_8_6, gX8_evaluate_88, gX8_evaluate_88N, gX8_evaluate_90, gX8_evaluate_93, pf_6_1, gX8_evaluate_96, gX8_evaluate_97, fl_8_3, gX8_evaluate_100, gX8_evaluate_100N, gX8_evaluate_102, gX8_evaluate_102N, gX8_evaluate_104, gX8_evaluate_105, fl_8_1, gX8_evaluate_108, gX8_evaluate_109, gX8_evaluate_110, gX8_evaluate_111, gX8_evaluate_114, gX8_evaluate_117, gX8_evaluate_118, gX8_evaluate_121, fl_6_1, gX8_evaluate_124, Rd_some, Wr_some, Cont_some, Cont_none, iso_O, true_and, hg_s, hg_n, hput_hput, hx, sp_plT, sp_prT, sp_plF]
      exact hq _ (hc.ft 0) (FX.put (by decide))
  · rw [if_neg (fun t => ha t.1)] at hq
    simp (disch := omega) only [gX8_evaluate_0, gX8_evaluate_1, gX8_evaluate_2, pf_8_12, gX8_evaluate_5, gX8_evaluate_6, gX8_evaluate_9T, gX8_evaluate_9F, gX8_evaluate_12, gX8_evaluate_13, gX8_evaluate_16T, gX8_evaluate_16F, gX8_evaluate_19, gX8_evaluate_20, gX8_evaluate_23T, gX8_evaluate_23F, gX8_evaluate_26, gX8_evaluate_27, gX8_evaluate_28, gX8_evaluate_29, fl_8_0, gX8_evaluate_32, gX8_evaluate_33, aR_g, gX8_evaluate_34, gX8_evaluate_34N, gX8_evaluate_36, gX8_evaluate_37, gX8_evaluate_40, gX8_evaluate_41, gX8_evaluate_42, gX8_evaluate_42N, gX8_evaluate_44, gX8_evaluate_44N, gX8_evaluate_46T, gX8_evaluate_46F, gX8_evaluate_49, gX8_evaluate_49N, gX8_evaluate_51T, gX8_evaluate_51F, gX8_evaluate_54, gX8_evaluate_55, gX8_evaluate_56, gX8_evaluate_59, gX8_evaluate_60, gX8_evaluate_60N, gX8_evaluate_62, fl_5_0, gX8_evaluate_65, gX8_evaluate_66T, gX8_evaluate_66F, gX8_evaluate_69, gX8_evaluate_69N, gX8_evaluate_71, gX8_evaluate_74, gX8_evaluate_75T, gX8_evaluate_75F, gX8_evaluate_78, gX8_evaluate_79, gX8_evaluate_80, gX8_evaluate_83, gX8_evaluate_84, gX8_evaluate_85, fl_8_6, gX8_evaluate_88, gX8_evaluate_88N, gX8_evaluate_90, gX8_evaluate_93, pf_6_1, gX8_evaluate_96, gX8_evaluate_97, fl_8_3, gX8_evaluate_100, gX8_evaluate_100N, gX8_evaluate_102, gX8_evaluate_102N, gX8_evaluate_104, gX8_evaluate_105, fl_8_1, gX8_evaluate_108, gX8_evaluate_109, gX8_evaluate_110, gX8_evaluate_111, gX8_evaluate_114, gX8_evaluate_117, gX8_evaluate_118, gX8_evaluate_121, fl_6_1, gX8_evaluate_124, Rd_some, Wr_some, Cont_some, Cont_none, iso_O, true_and, hg_s, hg_n, hput_hput, hx, sp_plT, sp_prT, sp_plF]
    exact hq _ (hc.ft 0) (FX.put (by decide))

theorem cx_series (hc : CI H S) (c : (-2147483648 ≤ a ∧ a ≤ 2147483647) ∧ (-2147483648 ≤ u ∧ u ≤ 2147483647) ∧ (-2147483648 ≤ n ∧ n ≤ 2147483647)) (hq : CG H Q (o_series S a u n)) : Go 93 0 [some (.ref 1), some (vi a), some (vi u), some (vi n), none] [] H Q := by
  have hx := hc.x
  have h2 := hc.pl
  unfold o_series CG at hq
  by_cases ha : 0 ≤ a ∧ a < 12
  · by_cases hw0 : 0 ≤ u ∧ u ≤ 2
    · rw [if_pos ⟨ha, hw0⟩] at hq
      by_cases hv0 : 1 ≤ n ∧ n ≤ 64
      · rw [if_pos hv0] at hq
        have hc1 := hc.ft 0
        unfold o_one at hq
        cases hoa : S.1.1 a with
        | none =>
          rw [hoa] at hq
          dsimp only at hq
          simp (disch := omega) only [gX8_series_0, gX8_series_1, gX8_series_2, pf_8_12, gX8_series_5, gX8_series_6, gX8_series_9T, gX8_series_9F, gX8_series_12, gX8_series_13, gX8_series_16T, gX8_series_16F, gX8_series_19, gX8_series_20, gX8_series_21, gX8_series_22, gX8_series_25T, gX8_series_25F, gX8_series_28, gX8_series_30, gX8_series_31, gX8_series_32, fl_8_0, gX8_series_35, gX8_series_36, aR_g, gX8_series_37, gX8_series_37N, gX8_series_39, gX8_series_39N, gX8_series_41T, gX8_series_41F, gX8_series_44, gX8_series_45, gX8_series_46, gX8_series_49, gX8_series_50, gX8_series_50N, gX8_series_52, fl_5_0, gX8_series_55, gX8_series_56T, gX8_series_56F, gX8_series_59, gX8_series_60, gX8_series_61, gX8_series_64, gX8_series_65, gX8_series_66, fl_8_1, gX8_series_69, gX8_series_70, gX8_series_71, gX8_series_71N, gX8_series_73, fl_5_1, gX8_series_76, gX8_series_77, aL_g, gX8_series_78, gX8_series_81, gX8_series_82T, gX8_series_82F, gX8_series_83T, gX8_series_83F, gX8_series_86, gX8_series_87, gX8_series_88, gX8_series_91, gX8_series_92, gX8_series_93, fl_8_6, gX8_series_96, gX8_series_97, pf_6_1, gX8_series_100, gX8_series_101, fl_8_3, gX8_series_104, gX8_series_104N, gX8_series_106, gX8_series_107, gX8_series_110, gX8_series_111, gX8_series_112, gX8_series_113, gX8_series_116, gX8_series_119, gX8_series_120, Rd_some, Wr_some, Cont_some, Cont_none, iso_O, true_and, hg_s, hg_n, hput_hput, gX8_faulted_0, gX8_faulted_1, gX8_faulted_2, pf_8_12, gX8_faulted_5, gX8_faulted_7, gX8_faulted_8, gX8_faulted_9, Rd_some, Wr_some, Cont_some, Cont_none, iso_O, true_and, hg_s, hg_n, hput_hput, hx, h2, sp_plT, sp_prT, sp_cnT, aR_g, hoa, va_rf_n]
          exact hq _ (hc.ft 1) (FX.put (by decide))
        | some k =>
          rw [hoa] at hq
          dsimp only at hq
          have ra : Rw (hput H 1 (cX (wFt S 0))) k (S.1.2 k) := hc1.rw' (S := wFt S 0) ha hoa
          have la := ra.2.2.2.1
          have f1 : FX H (hput H 1 (cX (wFt S 0))) := FX.put (by decide)
          simp (disch := omega) only [gX8_series_0, gX8_series_1, gX8_series_2, pf_8_12, gX8_series_5, gX8_series_6, gX8_series_9T, gX8_series_9F, gX8_series_12, gX8_series_13, gX8_series_16T, gX8_series_16F, gX8_series_19, gX8_series_20, gX8_series_21, gX8_series_22, gX8_series_25T, gX8_series_25F, gX8_series_28, gX8_series_30, gX8_series_31, gX8_series_32, fl_8_0, gX8_series_35, gX8_series_36, aR_g, gX8_series_37, gX8_series_37N, Rd_some, Wr_some, Cont_some, Cont_none, iso_O, true_and, hg_s, hg_n, hput_hput, hx, h2, sp_plT, sp_prT, sp_cnT, aR_g, hoa, va_rf_s]
          change Go _ _ _ _ (hput H 1 (cX (wFt S 0))) _
          by_cases hl : (S.1.2 k).1 ≤ 3
          · rw [if_pos hl] at hq
            generalize hput H 1 (cX (wFt S 0)) = H1 at hc1 ra f1
            simp (disch := omega) only [gX8_series_39, gX8_series_39N, gX8_series_41T, gX8_series_41F, gX8_series_44, gX8_series_45, gX8_series_46, gX8_series_49, gX8_series_50, gX8_series_50N, gX8_series_52, fl_5_0, gX8_series_55, gX8_series_56T, gX8_series_56F, gX8_series_59, gX8_series_60, gX8_series_61, gX8_series_64, Rd_some, Wr_some, Cont_some, Cont_none, iso_O, true_and, hg_s, hg_n, hput_hput, ra.2.1]
            have hA := ra.RW
            have nA := hA.2.2.2.1
            have oA := ra.1
            have hp := hc1.pv hw0
            have hP := PV_r u
            obtain ⟨g0, g1, -⟩ := hc1.c 17 (by decide)
            obtain ⟨f0, h5⟩ := hc1.c 5 (by decide)
            have h4 : hget H1 4 = cO 2 [.ref 5, .ref 6, .ref 7] := hc1.c 4 (by decide)
            have h16 : hget H1 16 = cO 6 [.ref 17, vi ((wFt S 0).2.2 3).1] := hc1.c 16 (by decide)
            have r0 := hA.2.2.2.2 0 (by omega) (by omega)
            have m0 := em (P := PV u) (by omega) ((S.1.2 k).2.2 0)
            by_cases hz : (S.1.2 k).2.2 0 % PV u = 0
            · rw [if_pos hz] at hq
              simp (disch := omega) only [gX8_series_65, gX8_series_66, fl_8_1, gX8_series_69, gX8_series_70, aR_g, gX8_series_71, gX8_series_71N, gX8_series_73, fl_5_1, gX8_series_76, gX8_series_77, aL_g, gX8_series_78, gX8_series_81, gX8_series_82T, gX8_series_82F, gX8_series_83T, gX8_series_83F, gX8_series_86, gX8_series_87, gX8_series_88, gX8_series_91, Rd_some, Wr_some, Cont_some, Cont_none, iso_O, true_and, hg_s, hg_n, hput_hput, gX8_faulted_0, gX8_faulted_1, gX8_faulted_2, pf_8_12, gX8_faulted_5, gX8_faulted_7, gX8_faulted_8, gX8_faulted_9, Rd_some, Wr_some, Cont_some, Cont_none, iso_O, true_and, hg_s, hg_n, hput_hput, hc1.x, hc1.pm, aR_g, va_rf_s, pmf_v, ra.2.1, ra.2.2.1, hp, sp_reduced hp hP r0, hz]
              exact hq _ (hc1.ft 5) (f1.same rfl rfl (fun q hq => hg_n (by omega)))
            · rw [if_neg hz] at hq
              simp (disch := omega) only [gX8_series_65, gX8_series_66, fl_8_1, gX8_series_69, gX8_series_70, aR_g, gX8_series_71, gX8_series_71N, gX8_series_73, fl_5_1, gX8_series_76, gX8_series_77, aL_g, gX8_series_78, gX8_series_81, gX8_series_82T, gX8_series_82F, gX8_series_83T, gX8_series_83F, gX8_series_86, gX8_series_87, gX8_series_88, gX8_series_91, gX8_series_92, gX8_series_93, fl_8_6, gX8_series_96, gX8_series_97, pf_6_1, Rd_some, Wr_some, Cont_some, Cont_none, iso_O, true_and, hg_s, hg_n, hput_hput, hc1.x, hc1.pm, aR_g, va_rf_s, pmf_v, ra.2.1, ra.2.2.1, hp, h16, sp_reduced hp hP r0]
              have k0 : ∀ q, q ≠ 16 → hget (hput H1 16 (cO 6 [.ref 17, vi n])) q = hget H1 q := fun q h => hg_n h
              have k16 : hget (hput H1 16 (cO 6 [.ref 17, vi n])) 16 = cO 6 [.ref 17, vi n] := hg_s
              have s1 : (hput H1 16 (cO 6 [.ref 17, vi n])).1 = H1.1 := rfl
              have s2 : (hput H1 16 (cO 6 [.ref 17, vi n])).2.1 = H1.2.1 := rfl
              change Go _ _ _ _ (hput H1 16 (cO 6 [.ref 17, vi n])) _
              generalize hput H1 16 (cO 6 [.ref 17, vi n]) = H2 at *
              have x1 : hget H2 1 = cX (wFt S 0) := by rw [k0 1 (by omega)]; exact hc1.x
              have x3 : hget H2 3 = cR (.object (vCn 3)) 3 pmf := by rw [k0 3 (by omega)]; exact hc1.pm
              have x4 : hget H2 4 = cO 2 [.ref 5, .ref 6, .ref 7] := by rw [k0 4 (by omega)]; exact h4
              have x5 : hget H2 5 = cL 64 f0 := by rw [k0 5 (by omega)]; exact h5
              have x17 : hget H2 17 = cL 64 g0 := by rw [k0 17 (by omega)]; exact g1
              have xp : hget H2 (25 + u.toNat) = cO 3 [vl (PV u)] := by rw [k0 _ (by omega)]; exact hp
              have xA : RW H2 k (k + 1) (S.1.2 k).1 (S.1.2 k).2.1 (S.1.2 k).2.2 := ⟨by rw [k0 k (by omega)]; exact hA.1, by rw [k0 (k + 1) (by omega)]; exact hA.2.1, hA.2.2⟩
              simp (disch := omega) only [gX8_series_100, gX8_series_101, fl_8_3, gX8_series_104, gX8_series_104N, gX8_series_106, gX8_series_107, fl_8_1, gX8_series_110, gX8_series_111, aR_g, gX8_series_112, gX8_series_113, fl_8_6, gX8_series_116, Rd_some, Wr_some, Cont_some, Cont_none, iso_O, true_and, hg_s, hg_n, hput_hput, x1, x3, x4, aR_g, va_rf_s, pmf_v]
              refine sp_in xp hP (by omega) x4 xA (by omega) k16 x5 x17 (fun F C hC => ?_)
              have z1 : ∀ c d, hget (hput (hput H2 5 c) 17 d) 1 = cX (wFt S 0) := fun c d => by rw [hg_n (by omega), hg_n (by omega)]; exact x1
              have z16 : ∀ c d, hget (hput (hput H2 5 c) 17 d) 16 = cO 6 [.ref 17, vi n] := fun c d => by rw [hg_n (by omega), hg_n (by omega)]; exact k16
              simp (disch := omega) only [gX8_series_119, gX8_series_120, Rd_some, Wr_some, Cont_some, Cont_none, iso_O, true_and, hg_s, hg_n, hput_hput]
              refine hq _ (hc1.sh3 s1 (fun q q1 q2 q3 q4 q5 => by rw [hg_n q5, hg_n q1]; exact k0 q q4) ⟨F, by rw [hg_n (by omega), hg_s]⟩ (by obtain ⟨f, hf⟩ := hc1.c 6 (by decide); exact ⟨f, by rw [hg_n (by omega), hg_n (by omega), k0 6 (by omega)]; exact hf⟩) (by obtain ⟨f, hf⟩ := hc1.c 7 (by decide); exact ⟨f, by rw [hg_n (by omega), hg_n (by omega), k0 7 (by omega)]; exact hf⟩) (z16 _ _) hg_s (fun j j0 j1 => hC j j0 j1) (by omega)) (f1.same s1 s2 (fun q hq => by rw [hg_n (by omega), hg_n (by omega)]; exact k0 q (by omega)))
          · rw [if_neg hl] at hq
            simp (disch := omega) only [gX8_series_39, gX8_series_39N, gX8_series_41T, gX8_series_41F, gX8_series_44, gX8_series_45, gX8_series_46, gX8_series_49, gX8_series_50, gX8_series_50N, gX8_series_52, fl_5_0, gX8_series_55, gX8_series_56T, gX8_series_56F, gX8_series_59, gX8_series_60, gX8_series_61, gX8_series_64, Rd_some, Wr_some, Cont_some, Cont_none, iso_O, true_and, hg_s, hg_n, hput_hput, gX8_faulted_0, gX8_faulted_1, gX8_faulted_2, pf_8_12, gX8_faulted_5, gX8_faulted_7, gX8_faulted_8, gX8_faulted_9, Rd_some, Wr_some, Cont_some, Cont_none, iso_O, true_and, hg_s, hg_n, hput_hput, ra.2.1]
            exact hq _ (hc.ft 2) (FX.put (by decide))
      · rw [if_neg hv0] at hq
        simp (disch := omega) only [gX8_series_0, gX8_series_1, gX8_series_2, pf_8_12, gX8_series_5, gX8_series_6, gX8_series_9T, gX8_series_9F, gX8_series_12, gX8_series_13, gX8_series_16T, gX8_series_16F, gX8_series_19, gX8_series_20, gX8_series_21, gX8_series_22, gX8_series_25T, gX8_series_25F, gX8_series_28, gX8_series_30, gX8_series_31, gX8_series_32, fl_8_0, gX8_series_35, gX8_series_36, aR_g, gX8_series_37, gX8_series_37N, gX8_series_39, gX8_series_39N, gX8_series_41T, gX8_series_41F, gX8_series_44, gX8_series_45, gX8_series_46, gX8_series_49, gX8_series_50, gX8_series_50N, gX8_series_52, fl_5_0, gX8_series_55, gX8_series_56T, gX8_series_56F, gX8_series_59, gX8_series_60, gX8_series_61, gX8_series_64, gX8_series_65, gX8_series_66, fl_8_1, gX8_series_69, gX8_series_70, gX8_series_71, gX8_series_71N, gX8_series_73, fl_5_1, gX8_series_76, gX8_series_77, aL_g, gX8_series_78, gX8_series_81, gX8_series_82T, gX8_series_82F, gX8_series_83T, gX8_series_83F, gX8_series_86, gX8_series_87, gX8_series_88, gX8_series_91, gX8_series_92, gX8_series_93, fl_8_6, gX8_series_96, gX8_series_97, pf_6_1, gX8_series_100, gX8_series_101, fl_8_3, gX8_series_104, gX8_series_104N, gX8_series_106, gX8_series_107, gX8_series_110, gX8_series_111, gX8_series_112, gX8_series_113, gX8_series_116, gX8_series_119, gX8_series_120, Rd_some, Wr_some, Cont_some, Cont_none, iso_O, true_and, hg_s, hg_n, hput_hput, hx, sp_plT, sp_prT, sp_cnT, sp_cnF]
        exact hq _ (hc.ft 0) (FX.put (by decide))
    · rw [if_neg (fun t => hw0 t.2)] at hq
      simp (disch := omega) only [gX8_series_0, gX8_series_1, gX8_series_2, pf_8_12, gX8_series_5, gX8_series_6, gX8_series_9T, gX8_series_9F, gX8_series_12, gX8_series_13, gX8_series_16T, gX8_series_16F, gX8_series_19, gX8_series_20, gX8_series_21, gX8_series_22, gX8_series_25T, gX8_series_25F, gX8_series_28, gX8_series_30, gX8_series_31, gX8_series_32, fl_8_0, gX8_series_35, gX8_series_36, aR_g, gX8_series_37, gX8_series_37N, gX8_series_39, gX8_series_39N, gX8_series_41T, gX8_series_41F, gX8_series_44, gX8_series_45, gX8_series_46, gX8_series_49, gX8_series_50, gX8_series_50N, gX8_series_52, fl_5_0, gX8_series_55, gX8_series_56T, gX8_series_56F, gX8_series_59, gX8_series_60, gX8_series_61, gX8_series_64, gX8_series_65, gX8_series_66, fl_8_1, gX8_series_69, gX8_series_70, gX8_series_71, gX8_series_71N, gX8_series_73, fl_5_1, gX8_series_76, gX8_series_77, aL_g, gX8_series_78, gX8_series_81, gX8_series_82T, gX8_series_82F, gX8_series_83T, gX8_series_83F, gX8_series_86, gX8_series_87, gX8_series_88, gX8_series_91, gX8_series_92, gX8_series_93, fl_8_6, gX8_series_96, gX8_series_97, pf_6_1, gX8_series_100, gX8_series_101, fl_8_3, gX8_series_104, gX8_series_104N, gX8_series_106, gX8_series_107, gX8_series_110, gX8_series_111, gX8_series_112, gX8_series_113, gX8_series_116, gX8_series_119, gX8_series_120, Rd_some, Wr_some, Cont_some, Cont_none, iso_O, true_and, hg_s, hg_n, hput_hput, hx, sp_plT, sp_prT, sp_cnT, sp_prF]
      exact hq _ (hc.ft 0) (FX.put (by decide))
  · rw [if_neg (fun t => ha t.1)] at hq
    simp (disch := omega) only [gX8_series_0, gX8_series_1, gX8_series_2, pf_8_12, gX8_series_5, gX8_series_6, gX8_series_9T, gX8_series_9F, gX8_series_12, gX8_series_13, gX8_series_16T, gX8_series_16F, gX8_series_19, gX8_series_20, gX8_series_21, gX8_series_22, gX8_series_25T, gX8_series_25F, gX8_series_28, gX8_series_30, gX8_series_31, gX8_series_32, fl_8_0, gX8_series_35, gX8_series_36, aR_g, gX8_series_37, gX8_series_37N, gX8_series_39, gX8_series_39N, gX8_series_41T, gX8_series_41F, gX8_series_44, gX8_series_45, gX8_series_46, gX8_series_49, gX8_series_50, gX8_series_50N, gX8_series_52, fl_5_0, gX8_series_55, gX8_series_56T, gX8_series_56F, gX8_series_59, gX8_series_60, gX8_series_61, gX8_series_64, gX8_series_65, gX8_series_66, fl_8_1, gX8_series_69, gX8_series_70, gX8_series_71, gX8_series_71N, gX8_series_73, fl_5_1, gX8_series_76, gX8_series_77, aL_g, gX8_series_78, gX8_series_81, gX8_series_82T, gX8_series_82F, gX8_series_83T, gX8_series_83F, gX8_series_86, gX8_series_87, gX8_series_88, gX8_series_91, gX8_series_92, gX8_series_93, fl_8_6, gX8_series_96, gX8_series_97, pf_6_1, gX8_series_100, gX8_series_101, fl_8_3, gX8_series_104, gX8_series_104N, gX8_series_106, gX8_series_107, gX8_series_110, gX8_series_111, gX8_series_112, gX8_series_113, gX8_series_116, gX8_series_119, gX8_series_120, Rd_some, Wr_some, Cont_some, Cont_none, iso_O, true_and, hg_s, hg_n, hput_hput, hx, sp_plT, sp_prT, sp_cnT, sp_plF]
    exact hq _ (hc.ft 0) (FX.put (by decide))

theorem cx_div (hc : CI H S) (c : (-2147483648 ≤ a ∧ a ≤ 2147483647) ∧ (-2147483648 ≤ b ∧ b ≤ 2147483647) ∧ (-2147483648 ≤ u ∧ u ≤ 2147483647)) (hq : CG H Q (o_div S a b u)) : Go 94 0 [some (.ref 1), some (vi a), some (vi b), some (vi u), none, none, none] [] H Q := by
  have hx := hc.x
  have h2 := hc.pl
  unfold o_div CG at hq
  by_cases ha : 0 ≤ a ∧ a < 12
  · by_cases hb : 0 ≤ b ∧ b < 12
    · by_cases hw0 : 0 ≤ u ∧ u ≤ 2
      · rw [if_pos ⟨ha, hb, hw0⟩] at hq
        have hc1 := hc.ft 0
        unfold o_two at hq
        cases hoa : S.1.1 a with
        | none =>
          cases hob : S.1.1 b with
          | none =>
            rw [hoa, hob] at hq
            dsimp only at hq
            simp (disch := omega) only [gX8_divide_0, gX8_divide_1, gX8_divide_2, pf_8_12, gX8_divide_5, gX8_divide_6, gX8_divide_9T, gX8_divide_9F, gX8_divide_12, gX8_divide_13, gX8_divide_16T, gX8_divide_16F, gX8_divide_19, gX8_divide_20, gX8_divide_23T, gX8_divide_23F, gX8_divide_26, gX8_divide_27, gX8_divide_28, gX8_divide_29, fl_8_0, gX8_divide_32, gX8_divide_33, aR_g, gX8_divide_34, gX8_divide_34N, gX8_divide_36, gX8_divide_37, gX8_divide_40, gX8_divide_41, gX8_divide_42, gX8_divide_42N, gX8_divide_44, gX8_divide_44N, gX8_divide_46T, gX8_divide_46F, gX8_divide_49, gX8_divide_49N, gX8_divide_51T, gX8_divide_51F, gX8_divide_54, gX8_divide_55, gX8_divide_56, gX8_divide_59, gX8_divide_60, gX8_divide_60N, gX8_divide_62, fl_5_0, gX8_divide_65, gX8_divide_66T, gX8_divide_66F, gX8_divide_69, gX8_divide_69N, gX8_divide_71, gX8_divide_74, gX8_divide_75T, gX8_divide_75F, gX8_divide_78, gX8_divide_79, gX8_divide_80, gX8_divide_83, gX8_divide_84, gX8_divide_85, fl_8_1, gX8_divide_88, gX8_divide_89, gX8_divide_90, gX8_divide_90N, gX8_divide_92, gX8_divide_95, gX8_divide_97, gX8_divide_99T, gX8_divide_99F, gX8_divide_102, gX8_divide_103, gX8_divide_104, gX8_divide_107, gX8_divide_108, gX8_divide_109, fl_8_6, gX8_divide_112, gX8_divide_112N, gX8_divide_114, gX8_divide_117, gX8_divide_119, gX8_divide_120, gX8_divide_121, gX8_divide_124, pf_6_1, gX8_divide_127, gX8_divide_128, fl_8_7, gX8_divide_131, gX8_divide_133, gX8_divide_136, gX8_divide_137, fl_8_3, gX8_divide_140, gX8_divide_140N, gX8_divide_142, gX8_divide_142N, gX8_divide_144, gX8_divide_145, gX8_divide_148, gX8_divide_149, gX8_divide_150, gX8_divide_151, gX8_divide_154, gX8_divide_155, gX8_divide_158, gX8_divide_161, gX8_divide_162, gX8_divide_165, fl_6_1, gX8_divide_168, Rd_some, Wr_some, Cont_some, Cont_none, iso_O, true_and, hg_s, hg_n, hput_hput, gX8_faulted_0, gX8_faulted_1, gX8_faulted_2, pf_8_12, gX8_faulted_5, gX8_faulted_7, gX8_faulted_8, gX8_faulted_9, Rd_some, Wr_some, Cont_some, Cont_none, iso_O, true_and, hg_s, hg_n, hput_hput, hx, h2, sp_plT, sp_prT, aR_g, hoa, hob, va_rf_n]
            exact hq _ (hc.ft 1) (FX.put (by decide))
          | some l =>
            rw [hoa, hob] at hq
            dsimp only at hq
            simp (disch := omega) only [gX8_divide_0, gX8_divide_1, gX8_divide_2, pf_8_12, gX8_divide_5, gX8_divide_6, gX8_divide_9T, gX8_divide_9F, gX8_divide_12, gX8_divide_13, gX8_divide_16T, gX8_divide_16F, gX8_divide_19, gX8_divide_20, gX8_divide_23T, gX8_divide_23F, gX8_divide_26, gX8_divide_27, gX8_divide_28, gX8_divide_29, fl_8_0, gX8_divide_32, gX8_divide_33, aR_g, gX8_divide_34, gX8_divide_34N, gX8_divide_36, gX8_divide_37, gX8_divide_40, gX8_divide_41, gX8_divide_42, gX8_divide_42N, gX8_divide_44, gX8_divide_44N, gX8_divide_46T, gX8_divide_46F, gX8_divide_49, gX8_divide_49N, gX8_divide_51T, gX8_divide_51F, gX8_divide_54, gX8_divide_55, gX8_divide_56, gX8_divide_59, gX8_divide_60, gX8_divide_60N, gX8_divide_62, fl_5_0, gX8_divide_65, gX8_divide_66T, gX8_divide_66F, gX8_divide_69, gX8_divide_69N, gX8_divide_71, gX8_divide_74, gX8_divide_75T, gX8_divide_75F, gX8_divide_78, gX8_divide_79, gX8_divide_80, gX8_divide_83, gX8_divide_84, gX8_divide_85, fl_8_1, gX8_divide_88, gX8_divide_89, gX8_divide_90, gX8_divide_90N, gX8_divide_92, gX8_divide_95, gX8_divide_97, gX8_divide_99T, gX8_divide_99F, gX8_divide_102, gX8_divide_103, gX8_divide_104, gX8_divide_107, gX8_divide_108, gX8_divide_109, fl_8_6, gX8_divide_112, gX8_divide_112N, gX8_divide_114, gX8_divide_117, gX8_divide_119, gX8_divide_120, gX8_divide_121, gX8_divide_124, pf_6_1, gX8_divide_127, gX8_divide_128, fl_8_7, gX8_divide_131, gX8_divide_133, gX8_divide_136, gX8_divide_137, fl_8_3, gX8_divide_140, gX8_divide_140N, gX8_divide_142, gX8_divide_142N, gX8_divide_144, gX8_divide_145, gX8_divide_148, gX8_divide_149, gX8_divide_150, gX8_divide_151, gX8_divide_154, gX8_divide_155, gX8_divide_158, gX8_divide_161, gX8_divide_162, gX8_divide_165, fl_6_1, gX8_divide_168, Rd_some, Wr_some, Cont_some, Cont_none, iso_O, true_and, hg_s, hg_n, hput_hput, gX8_faulted_0, gX8_faulted_1, gX8_faulted_2, pf_8_12, gX8_faulted_5, gX8_faulted_7, gX8_faulted_8, gX8_faulted_9, Rd_some, Wr_some, Cont_some, Cont_none, iso_O, true_and, hg_s, hg_n, hput_hput, hx, h2, sp_plT, sp_prT, aR_g, hoa, hob, va_rf_n, va_rf_s]
            exact hq _ (hc.ft 1) (FX.put (by decide))
        | some k =>
          cases hob : S.1.1 b with
          | none =>
            rw [hoa, hob] at hq
            dsimp only at hq
            simp (disch := omega) only [gX8_divide_0, gX8_divide_1, gX8_divide_2, pf_8_12, gX8_divide_5, gX8_divide_6, gX8_divide_9T, gX8_divide_9F, gX8_divide_12, gX8_divide_13, gX8_divide_16T, gX8_divide_16F, gX8_divide_19, gX8_divide_20, gX8_divide_23T, gX8_divide_23F, gX8_divide_26, gX8_divide_27, gX8_divide_28, gX8_divide_29, fl_8_0, gX8_divide_32, gX8_divide_33, aR_g, gX8_divide_34, gX8_divide_34N, gX8_divide_36, gX8_divide_37, gX8_divide_40, gX8_divide_41, gX8_divide_42, gX8_divide_42N, gX8_divide_44, gX8_divide_44N, gX8_divide_46T, gX8_divide_46F, gX8_divide_49, gX8_divide_49N, gX8_divide_51T, gX8_divide_51F, gX8_divide_54, gX8_divide_55, gX8_divide_56, gX8_divide_59, gX8_divide_60, gX8_divide_60N, gX8_divide_62, fl_5_0, gX8_divide_65, gX8_divide_66T, gX8_divide_66F, gX8_divide_69, gX8_divide_69N, gX8_divide_71, gX8_divide_74, gX8_divide_75T, gX8_divide_75F, gX8_divide_78, gX8_divide_79, gX8_divide_80, gX8_divide_83, gX8_divide_84, gX8_divide_85, fl_8_1, gX8_divide_88, gX8_divide_89, gX8_divide_90, gX8_divide_90N, gX8_divide_92, gX8_divide_95, gX8_divide_97, gX8_divide_99T, gX8_divide_99F, gX8_divide_102, gX8_divide_103, gX8_divide_104, gX8_divide_107, gX8_divide_108, gX8_divide_109, fl_8_6, gX8_divide_112, gX8_divide_112N, gX8_divide_114, gX8_divide_117, gX8_divide_119, gX8_divide_120, gX8_divide_121, gX8_divide_124, pf_6_1, gX8_divide_127, gX8_divide_128, fl_8_7, gX8_divide_131, gX8_divide_133, gX8_divide_136, gX8_divide_137, fl_8_3, gX8_divide_140, gX8_divide_140N, gX8_divide_142, gX8_divide_142N, gX8_divide_144, gX8_divide_145, gX8_divide_148, gX8_divide_149, gX8_divide_150, gX8_divide_151, gX8_divide_154, gX8_divide_155, gX8_divide_158, gX8_divide_161, gX8_divide_162, gX8_divide_165, fl_6_1, gX8_divide_168, Rd_some, Wr_some, Cont_some, Cont_none, iso_O, true_and, hg_s, hg_n, hput_hput, gX8_faulted_0, gX8_faulted_1, gX8_faulted_2, pf_8_12, gX8_faulted_5, gX8_faulted_7, gX8_faulted_8, gX8_faulted_9, Rd_some, Wr_some, Cont_some, Cont_none, iso_O, true_and, hg_s, hg_n, hput_hput, hx, h2, sp_plT, sp_prT, aR_g, hoa, hob, va_rf_n, va_rf_s]
            exact hq _ (hc.ft 1) (FX.put (by decide))
          | some l =>
            rw [hoa, hob] at hq
            dsimp only at hq
            have ra : Rw (hput H 1 (cX (wFt S 0))) k (S.1.2 k) := hc1.rw' (S := wFt S 0) ha hoa
            have rb : Rw (hput H 1 (cX (wFt S 0))) l (S.1.2 l) := hc1.rw' (S := wFt S 0) hb hob
            have la := ra.2.2.2.1
            have lb := rb.2.2.2.1
            have f1 : FX H (hput H 1 (cX (wFt S 0))) := FX.put (by decide)
            simp (disch := omega) only [gX8_divide_0, gX8_divide_1, gX8_divide_2, pf_8_12, gX8_divide_5, gX8_divide_6, gX8_divide_9T, gX8_divide_9F, gX8_divide_12, gX8_divide_13, gX8_divide_16T, gX8_divide_16F, gX8_divide_19, gX8_divide_20, gX8_divide_23T, gX8_divide_23F, gX8_divide_26, gX8_divide_27, gX8_divide_28, gX8_divide_29, fl_8_0, gX8_divide_32, gX8_divide_33, aR_g, gX8_divide_34, gX8_divide_34N, gX8_divide_36, gX8_divide_37, gX8_divide_40, gX8_divide_41, gX8_divide_42, gX8_divide_42N, Rd_some, Wr_some, Cont_some, Cont_none, iso_O, true_and, hg_s, hg_n, hput_hput, hx, h2, sp_plT, sp_prT, aR_g, hoa, hob, va_rf_s]
            change Go _ _ _ _ (hput H 1 (cX (wFt S 0))) _
            by_cases hl : (S.1.2 k).1 ≤ 3 ∧ (S.1.2 l).1 ≤ 3
            · rw [if_pos hl] at hq
              generalize hput H 1 (cX (wFt S 0)) = H1 at hc1 ra rb f1
              simp (disch := omega) only [gX8_divide_44, gX8_divide_44N, gX8_divide_46T, gX8_divide_46F, gX8_divide_49, gX8_divide_49N, gX8_divide_51T, gX8_divide_51F, gX8_divide_54, gX8_divide_55, gX8_divide_56, gX8_divide_59, gX8_divide_60, gX8_divide_60N, gX8_divide_62, fl_5_0, gX8_divide_65, gX8_divide_66T, gX8_divide_66F, gX8_divide_69, gX8_divide_69N, gX8_divide_71, gX8_divide_74, gX8_divide_75T, gX8_divide_75F, gX8_divide_78, gX8_divide_79, gX8_divide_80, gX8_divide_83, Rd_some, Wr_some, Cont_some, Cont_none, iso_O, true_and, hg_s, hg_n, hput_hput, ra.2.1, rb.2.1]
              have hA := ra.RW
              have nA := hA.2.2.2.1
              have oA := ra.1
              have hp := hc1.pv hw0
              have hP := PV_r u
              obtain ⟨g0, g1, -⟩ := hc1.c 17 (by decide)
              obtain ⟨f0, h5⟩ := hc1.c 5 (by decide)
              have h4 : hget H1 4 = cO 2 [.ref 5, .ref 6, .ref 7] := hc1.c 4 (by decide)
              have h16 : hget H1 16 = cO 6 [.ref 17, vi ((wFt S 0).2.2 3).1] := hc1.c 16 (by decide)
              have hB := rb.RW
              have nB := hB.2.2.2.1
              have oB := rb.1
              have hdg := dg_r (PV u) (S.1.2 l).2.2 (S.1.2 l).2.1.toNat
              have hdg : -1 ≤ DGR u (S.1.2 l) ∧ DGR u (S.1.2 l) < ((S.1.2 l).2.1.toNat : Nat) := hdg
              have deg := fun Q => sp_degree (Q := Q) hp hP hB.1 hB.2.1 hB.sz hB.2.2.2.2
              change ∀ Q : Option Value → HP → Prop, Go _ _ _ _ H1 _ ↔ Q (some (vi (DGR u (S.1.2 l)))) H1 at deg
              by_cases hz : DGR u (S.1.2 l) < 0
              · rw [if_pos hz] at hq
                simp (disch := omega) only [gX8_divide_84, gX8_divide_85, fl_8_1, gX8_divide_88, gX8_divide_89, aR_g, gX8_divide_90, gX8_divide_90N, gX8_divide_92, gX8_divide_95, gX8_divide_97, gX8_divide_99T, gX8_divide_99F, gX8_divide_102, gX8_divide_103, gX8_divide_104, gX8_divide_107, Rd_some, Wr_some, Cont_some, Cont_none, iso_O, true_and, hg_s, hg_n, hput_hput, gX8_faulted_0, gX8_faulted_1, gX8_faulted_2, pf_8_12, gX8_faulted_5, gX8_faulted_7, gX8_faulted_8, gX8_faulted_9, Rd_some, Wr_some, Cont_some, Cont_none, iso_O, true_and, hg_s, hg_n, hput_hput, hc1.x, hc1.pm, aR_g, va_rf_s, pmf_v, hp, deg]
                exact hq _ (hc1.ft 5) (f1.same rfl rfl (fun q hq => hg_n (by omega)))
              · rw [if_neg hz] at hq
                have h18 : hget H1 18 = cO 6 [.ref 19, vi ((wFt S 0).2.2 4).1] := hc1.c 18 (by decide)
                obtain ⟨f6, h6⟩ := hc1.c 6 (by decide)
                obtain ⟨r0, r1, -⟩ := hc1.c 19 (by decide)
                simp (disch := omega) only [gX8_divide_84, gX8_divide_85, fl_8_1, gX8_divide_88, gX8_divide_89, aR_g, gX8_divide_90, gX8_divide_90N, gX8_divide_92, gX8_divide_95, gX8_divide_97, gX8_divide_99T, gX8_divide_99F, gX8_divide_102, gX8_divide_103, gX8_divide_104, gX8_divide_107, gX8_divide_108, gX8_divide_109, fl_8_6, gX8_divide_112, gX8_divide_112N, gX8_divide_114, gX8_divide_117, gX8_divide_119, gX8_divide_120, gX8_divide_121, gX8_divide_124, pf_6_1, gX8_divide_127, gX8_divide_128, fl_8_7, gX8_divide_131, gX8_divide_133, Rd_some, Wr_some, Cont_some, Cont_none, iso_O, true_and, hg_s, hg_n, hput_hput, hc1.x, hc1.pm, aR_g, va_rf_s, pmf_v, ra.2.1, hp, h16, h18, deg, sp_size hA.1 hA.2.1 hA.sz, sp_maxI]
                change Go _ _ _ _ (hput (hput H1 16 (cO 6 [.ref 17, vi (DQN u (S.1.2 k) (S.1.2 l))])) 18 (cO 6 [.ref 19, vi (DGR u (S.1.2 l))])) _
                have k0 : ∀ q, q ≠ 16 → q ≠ 18 → hget (hput (hput H1 16 (cO 6 [.ref 17, vi (DQN u (S.1.2 k) (S.1.2 l))])) 18 (cO 6 [.ref 19, vi (DGR u (S.1.2 l))])) q = hget H1 q := fun q h h2 => by rw [hg_n h2, hg_n h]
                have k16 : hget (hput (hput H1 16 (cO 6 [.ref 17, vi (DQN u (S.1.2 k) (S.1.2 l))])) 18 (cO 6 [.ref 19, vi (DGR u (S.1.2 l))])) 16 = cO 6 [.ref 17, vi (DQN u (S.1.2 k) (S.1.2 l))] := by rw [hg_n (by omega), hg_s]
                have k18 : hget (hput (hput H1 16 (cO 6 [.ref 17, vi (DQN u (S.1.2 k) (S.1.2 l))])) 18 (cO 6 [.ref 19, vi (DGR u (S.1.2 l))])) 18 = cO 6 [.ref 19, vi (DGR u (S.1.2 l))] := hg_s
                have s1 : (hput (hput H1 16 (cO 6 [.ref 17, vi (DQN u (S.1.2 k) (S.1.2 l))])) 18 (cO 6 [.ref 19, vi (DGR u (S.1.2 l))])).1 = H1.1 := rfl
                have s2 : (hput (hput H1 16 (cO 6 [.ref 17, vi (DQN u (S.1.2 k) (S.1.2 l))])) 18 (cO 6 [.ref 19, vi (DGR u (S.1.2 l))])).2.1 = H1.2.1 := rfl
                generalize hput (hput H1 16 (cO 6 [.ref 17, vi (DQN u (S.1.2 k) (S.1.2 l))])) 18 (cO 6 [.ref 19, vi (DGR u (S.1.2 l))]) = H2 at *
                have x1 : hget H2 1 = cX (wFt S 0) := by rw [k0 1 (by omega) (by omega)]; exact hc1.x
                have x3 : hget H2 3 = cR (.object (vCn 3)) 3 pmf := by rw [k0 3 (by omega) (by omega)]; exact hc1.pm
                have x4 : hget H2 4 = cO 2 [.ref 5, .ref 6, .ref 7] := by rw [k0 4 (by omega) (by omega)]; exact h4
                have x5 : hget H2 5 = cL 64 f0 := by rw [k0 5 (by omega) (by omega)]; exact h5
                have x6 : hget H2 6 = cL 64 f6 := by rw [k0 6 (by omega) (by omega)]; exact h6
                have x17 : hget H2 17 = cL 64 g0 := by rw [k0 17 (by omega) (by omega)]; exact g1
                have x19 : hget H2 19 = cL 64 r0 := by rw [k0 19 (by omega) (by omega)]; exact r1
                have xp : hget H2 (25 + u.toNat) = cO 3 [vl (PV u)] := by rw [k0 _ (by omega) (by omega)]; exact hp
                have xA : RW H2 k (k + 1) (S.1.2 k).1 (S.1.2 k).2.1 (S.1.2 k).2.2 := ⟨by rw [k0 k (by omega) (by omega)]; exact hA.1, by rw [k0 (k + 1) (by omega) (by omega)]; exact hA.2.1, hA.2.2⟩
                have xB : RW H2 l (l + 1) (S.1.2 l).1 (S.1.2 l).2.1 (S.1.2 l).2.2 := ⟨by rw [k0 l (by omega) (by omega)]; exact hB.1, by rw [k0 (l + 1) (by omega) (by omega)]; exact hB.2.1, hB.2.2⟩
                have hqn : 0 ≤ DQN u (S.1.2 k) (S.1.2 l) ∧ DQN u (S.1.2 k) (S.1.2 l) ≤ 64 := by unfold DQN; omega
                have cg : (((DGR u (S.1.2 l)).toNat : Nat) : Int) = DGR u (S.1.2 l) := by omega
                have cq : (((DQN u (S.1.2 k) (S.1.2 l)).toNat : Nat) : Int) = DQN u (S.1.2 k) (S.1.2 l) := by omega
                simp (disch := omega) only [gX8_divide_136, gX8_divide_137, fl_8_3, gX8_divide_140, gX8_divide_140N, gX8_divide_142, gX8_divide_142N, gX8_divide_144, gX8_divide_145, fl_8_1, gX8_divide_148, gX8_divide_149, aR_g, gX8_divide_150, gX8_divide_151, fl_8_6, gX8_divide_154, gX8_divide_155, fl_8_7, gX8_divide_158, Rd_some, Wr_some, Cont_some, Cont_none, iso_O, true_and, hg_s, hg_n, hput_hput, x1, x3, x4, aR_g, va_rf_s, pmf_v]
                refine sp_part xp hP (by omega) x4 xA xB (g := (DGR u (S.1.2 l)).toNat) (q := (DQN u (S.1.2 k) (S.1.2 l)).toNat) (by omega) (by rw [cg, cq]; rfl) (by rw [cq]; exact k16) (by rw [cg]; exact k18) x5 x6 x17 x19 (fun H' t1 t2 t3 t5 t6 t17 t19 => ?_)
                rw [cg] at t17 t19
                obtain ⟨C, c1, c2⟩ := t17
                obtain ⟨R, d1, d2⟩ := t19
                have z1 : hget H' 1 = cX (wFt S 0) := by rw [t3 1 (by omega) (by omega) (by omega) (by omega)]; exact x1
                have z16 : hget H' 16 = cO 6 [.ref 17, vi (DQN u (S.1.2 k) (S.1.2 l))] := by rw [t3 16 (by omega) (by omega) (by omega) (by omega)]; exact k16
                have z18 : hget H' 18 = cO 6 [.ref 19, vi (DGR u (S.1.2 l))] := by rw [t3 18 (by omega) (by omega) (by omega) (by omega)]; exact k18
                simp (disch := omega) only [gX8_divide_161, gX8_divide_162, fl_8_6, gX8_divide_165, fl_6_1, gX8_divide_168, Rd_some, Wr_some, Cont_some, Cont_none, iso_O, true_and, hg_s, hg_n, hput_hput, z1, z16]
                refine hq _ (hc1.sh34 (t1.trans s1) (fun q q1 q2 q3 q4 q5 q6 => by rw [t3 q q1 q2 q4 q6]; exact k0 q q3 q5) t5 t6 z16 c1 (fun j j0 j1 => ?_) hqn z18 d1 (fun j j0 j1 => ?_) (by omega)) (f1.same (t1.trans s1) (t2.trans s2) (fun q hq => by rw [t3 q (by omega) (by omega) (by omega) (by omega)]; exact k0 q (by omega) (by omega)))
                · have j1 : j < DQN u (S.1.2 k) (S.1.2 l) := j1
                  have := c2 j.toNat (by omega)
                  rw [show ((j.toNat : Nat) : Int) = j by omega] at this
                  exact this
                · have j1 : j < DGR u (S.1.2 l) := j1
                  have := d2 j.toNat (by omega)
                  rw [show ((j.toNat : Nat) : Int) = j by omega] at this
                  exact this
            · rw [if_neg hl] at hq
              by_cases hl2 : (S.1.2 k).1 ≤ 3 <;> simp (disch := omega) only [gX8_divide_44, gX8_divide_44N, gX8_divide_46T, gX8_divide_46F, gX8_divide_49, gX8_divide_49N, gX8_divide_51T, gX8_divide_51F, gX8_divide_54, gX8_divide_55, gX8_divide_56, gX8_divide_59, gX8_divide_60, gX8_divide_60N, gX8_divide_62, fl_5_0, gX8_divide_65, gX8_divide_66T, gX8_divide_66F, gX8_divide_69, gX8_divide_69N, gX8_divide_71, gX8_divide_74, gX8_divide_75T, gX8_divide_75F, gX8_divide_78, gX8_divide_79, gX8_divide_80, gX8_divide_83, Rd_some, Wr_some, Cont_some, Cont_none, iso_O, true_and, hg_s, hg_n, hput_hput, gX8_faulted_0, gX8_faulted_1, gX8_faulted_2, pf_8_12, gX8_faulted_5, gX8_faulted_7, gX8_faulted_8, gX8_faulted_9, Rd_some, Wr_some, Cont_some, Cont_none, iso_O, true_and, hg_s, hg_n, hput_hput, ra.2.1, rb.2.1] <;> exact hq _ (hc.ft 2) (FX.put (by decide))
      · rw [if_neg (fun t => hw0 t.2.2)] at hq
        simp (disch := omega) only [gX8_divide_0, gX8_divide_1, gX8_divide_2, pf_8_12, gX8_divide_5, gX8_divide_6, gX8_divide_9T, gX8_divide_9F, gX8_divide_12, gX8_divide_13, gX8_divide_16T, gX8_divide_16F, gX8_divide_19, gX8_divide_20, gX8_divide_23T, gX8_divide_23F, gX8_divide_26, gX8_divide_27, gX8_divide_28, gX8_divide_29, fl_8_0, gX8_divide_32, gX8_divide_33, aR_g, gX8_divide_34, gX8_divide_34N, gX8_divide_36, gX8_divide_37, gX8_divide_40, gX8_divide_41, gX8_divide_42, gX8_divide_42N, gX8_divide_44, gX8_divide_44N, gX8_divide_46T, gX8_divide_46F, gX8_divide_49, gX8_divide_49N, gX8_divide_51T, gX8_divide_51F, gX8_divide_54, gX8_divide_55, gX8_divide_56, gX8_divide_59, gX8_divide_60, gX8_divide_60N, gX8_divide_62, fl_5_0, gX8_divide_65, gX8_divide_66T, gX8_divide_66F, gX8_divide_69, gX8_divide_69N, gX8_divide_71, gX8_divide_74, gX8_divide_75T, gX8_divide_75F, gX8_divide_78, gX8_divide_79, gX8_divide_80, gX8_divide_83, gX8_divide_84, gX8_divide_85, fl_8_1, gX8_divide_88, gX8_divide_89, gX8_divide_90, gX8_divide_90N, gX8_divide_92, gX8_divide_95, gX8_divide_97, gX8_divide_99T, gX8_divide_99F, gX8_divide_102, gX8_divide_103, gX8_divide_104, gX8_divide_107, gX8_divide_108, gX8_divide_109, fl_8_6, gX8_divide_112, gX8_divide_112N, gX8_divide_114, gX8_divide_117, gX8_divide_119, gX8_divide_120, gX8_divide_121, gX8_divide_124, pf_6_1, gX8_divide_127, gX8_divide_128, fl_8_7, gX8_divide_131, gX8_divide_133, gX8_divide_136, gX8_divide_137, fl_8_3, gX8_divide_140, gX8_divide_140N, gX8_divide_142, gX8_divide_142N, gX8_divide_144, gX8_divide_145, gX8_divide_148, gX8_divide_149, gX8_divide_150, gX8_divide_151, gX8_divide_154, gX8_divide_155, gX8_divide_158, gX8_divide_161, gX8_divide_162, gX8_divide_165, fl_6_1, gX8_divide_168, Rd_some, Wr_some, Cont_some, Cont_none, iso_O, true_and, hg_s, hg_n, hput_hput, hx, sp_plT, sp_prT, sp_prF]
        exact hq _ (hc.ft 0) (FX.put (by decide))
    · rw [if_neg (fun t => hb t.2.1)] at hq
      simp (disch := omega) only [gX8_divide_0, gX8_divide_1, gX8_divide_2, pf_8_12, gX8_divide_5, gX8_divide_6, gX8_divide_9T, gX8_divide_9F, gX8_divide_12, gX8_divide_13, gX8_divide_16T, gX8_divide_16F, gX8_divide_19, gX8_divide_20, gX8_divide_23T, gX8_divide_23F, gX8_divide_26, gX8_divide_27, gX8_divide_28, gX8_divide_29, fl_8_0, gX8_divide_32, gX8_divide_33, aR_g, gX8_divide_34, gX8_divide_34N, gX8_divide_36, gX8_divide_37, gX8_divide_40, gX8_divide_41, gX8_divide_42, gX8_divide_42N, gX8_divide_44, gX8_divide_44N, gX8_divide_46T, gX8_divide_46F, gX8_divide_49, gX8_divide_49N, gX8_divide_51T, gX8_divide_51F, gX8_divide_54, gX8_divide_55, gX8_divide_56, gX8_divide_59, gX8_divide_60, gX8_divide_60N, gX8_divide_62, fl_5_0, gX8_divide_65, gX8_divide_66T, gX8_divide_66F, gX8_divide_69, gX8_divide_69N, gX8_divide_71, gX8_divide_74, gX8_divide_75T, gX8_divide_75F, gX8_divide_78, gX8_divide_79, gX8_divide_80, gX8_divide_83, gX8_divide_84, gX8_divide_85, fl_8_1, gX8_divide_88, gX8_divide_89, gX8_divide_90, gX8_divide_90N, gX8_divide_92, gX8_divide_95, gX8_divide_97, gX8_divide_99T, gX8_divide_99F, gX8_divide_102, gX8_divide_103, gX8_divide_104, gX8_divide_107, gX8_divide_108, gX8_divide_109, fl_8_6, gX8_divide_112, gX8_divide_112N, gX8_divide_114, gX8_divide_117, gX8_divide_119, gX8_divide_120, gX8_divide_121, gX8_divide_124, pf_6_1, gX8_divide_127, gX8_divide_128, fl_8_7, gX8_divide_131, gX8_divide_133, gX8_divide_136, gX8_divide_137, fl_8_3, gX8_divide_140, gX8_divide_140N, gX8_divide_142, gX8_divide_142N, gX8_divide_144, gX8_divide_145, gX8_divide_148, gX8_divide_149, gX8_divide_150, gX8_divide_151, gX8_divide_154, gX8_divide_155, gX8_divide_158, gX8_divide_161, gX8_divide_162, gX8_divide_165, fl_6_1, gX8_divide_168, Rd_some, Wr_some, Cont_some, Cont_none, iso_O, true_and, hg_s, hg_n, hput_hput, hx, sp_plT, sp_prT, sp_plF]
      exact hq _ (hc.ft 0) (FX.put (by decide))
  · rw [if_neg (fun t => ha t.1)] at hq
    simp (disch := omega) only [gX8_divide_0, gX8_divide_1, gX8_divide_2, pf_8_12, gX8_divide_5, gX8_divide_6, gX8_divide_9T, gX8_divide_9F, gX8_divide_12, gX8_divide_13, gX8_divide_16T, gX8_divide_16F, gX8_divide_19, gX8_divide_20, gX8_divide_23T, gX8_divide_23F, gX8_divide_26, gX8_divide_27, gX8_divide_28, gX8_divide_29, fl_8_0, gX8_divide_32, gX8_divide_33, aR_g, gX8_divide_34, gX8_divide_34N, gX8_divide_36, gX8_divide_37, gX8_divide_40, gX8_divide_41, gX8_divide_42, gX8_divide_42N, gX8_divide_44, gX8_divide_44N, gX8_divide_46T, gX8_divide_46F, gX8_divide_49, gX8_divide_49N, gX8_divide_51T, gX8_divide_51F, gX8_divide_54, gX8_divide_55, gX8_divide_56, gX8_divide_59, gX8_divide_60, gX8_divide_60N, gX8_divide_62, fl_5_0, gX8_divide_65, gX8_divide_66T, gX8_divide_66F, gX8_divide_69, gX8_divide_69N, gX8_divide_71, gX8_divide_74, gX8_divide_75T, gX8_divide_75F, gX8_divide_78, gX8_divide_79, gX8_divide_80, gX8_divide_83, gX8_divide_84, gX8_divide_85, fl_8_1, gX8_divide_88, gX8_divide_89, gX8_divide_90, gX8_divide_90N, gX8_divide_92, gX8_divide_95, gX8_divide_97, gX8_divide_99T, gX8_divide_99F, gX8_divide_102, gX8_divide_103, gX8_divide_104, gX8_divide_107, gX8_divide_108, gX8_divide_109, fl_8_6, gX8_divide_112, gX8_divide_112N, gX8_divide_114, gX8_divide_117, gX8_divide_119, gX8_divide_120, gX8_divide_121, gX8_divide_124, pf_6_1, gX8_divide_127, gX8_divide_128, fl_8_7, gX8_divide_131, gX8_divide_133, gX8_divide_136, gX8_divide_137, fl_8_3, gX8_divide_140, gX8_divide_140N, gX8_divide_142, gX8_divide_142N, gX8_divide_144, gX8_divide_145, gX8_divide_148, gX8_divide_149, gX8_divide_150, gX8_divide_151, gX8_divide_154, gX8_divide_155, gX8_divide_158, gX8_divide_161, gX8_divide_162, gX8_divide_165, fl_6_1, gX8_divide_168, Rd_some, Wr_some, Cont_some, Cont_none, iso_O, true_and, hg_s, hg_n, hput_hput, hx, sp_plT, sp_prT, sp_plF]
    exact hq _ (hc.ft 0) (FX.put (by decide))

end POP

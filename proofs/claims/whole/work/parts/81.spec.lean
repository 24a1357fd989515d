/-! x: transforms (begun by program: wip/gen/spec.py) -/
def TF (u : Int) (d : RD) (j : Int) : Int := df (3 ^ ((PV u - 1) / d.2.1).toNat % PV u) d.2.2 d.2.1.toNat j.toNat % PV u
def o_tr (S : SS) (a u : Int) : Value × SS := if (0 ≤ a ∧ a < 12) ∧ 0 ≤ u ∧ u ≤ 2 then o_one S a 3 (fun k => if (PV u - 1) % (S.1.2 k).2.1 = 0 then (vi (S.1.2 k).2.1, wPr (wSh (wFt S 0) 0 (S.1.2 k).2.1 (TF u (S.1.2 k))) u) else (vi (-3), wFt S 0)) else (vi (-1), wFt S 0)
def o_times (S : SS) (a : Int) : Value × SS := if 0 ≤ a ∧ a < 12 then o_one S a 3 (fun k => if (0 ≤ S.2.1.2 ∧ S.2.1.2 ≤ 2) ∧ (S.1.2 k).2.1 = (S.2.2 0).1 then (vi (S.1.2 k).2.1, wPr (wSh (wFt S 0) 0 (S.1.2 k).2.1 (fun j => (S.2.2 0).2 j * TF S.2.1.2 (S.1.2 k) j % PV S.2.1.2)) S.2.1.2) else (vi (-3), wFt S 0)) else (vi (-1), wFt S 0)
def BK (S : SS) (j : Int) : Int := ((S.2.2 0).1 ^ (PV S.2.1.2 - 2).toNat % PV S.2.1.2) * (df ((3 ^ ((PV S.2.1.2 - 1) / (S.2.2 0).1).toNat % PV S.2.1.2) ^ (PV S.2.1.2 - 2).toNat % PV S.2.1.2) (S.2.2 0).2 (S.2.2 0).1.toNat j.toNat % PV S.2.1.2) % PV S.2.1.2
def o_inv (S : SS) (a : Int) (k : Nat) : Value × SS := if 0 ≤ a ∧ a < 12 then (if 0 ≤ S.2.1.2 ∧ S.2.1.2 ≤ 2 then (vi (S.2.2 0).1, wPl (wRd S k (3, (S.2.2 0).1, mix (BK S) (fun _ => 0) (S.2.2 0).1)) a (some k)) else (vi (-3), S)) else (vi (-1), S)
theorem TF_r (u : Int) (d : RD) (j : Int) : 0 ≤ TF u d j ∧ TF u d j < PV u := em (by have := PV_r u; omega) _
theorem BK_r (S : SS) (j : Int) : 0 ≤ BK S j ∧ BK S j < PV S.2.1.2 := em (by have := PV_r S.2.1.2; omega) _
section SPE
variable {H : HP} {S : SS} {Q : Option Value → HP → Prop} {a u n : Int}
theorem CI.sp {H' : HP} {V g : Int → Int} (h : CI H S) (h1 : H'.1 = H.1) (e : ∀ q, q ≠ 1 → q ≠ 5 → q ≠ 14 → q ≠ 15 → hget H' q = hget H q) (hx : hget H' 1 = cX (wPr (wSh S 0 n V) u)) (h5 : ∃ f, hget H' 5 = cL 64 f) (h14 : hget H' 14 = cO 6 [.ref 15, vi n]) (h15 : hget H' 15 = cL 64 g) (hv : eqn g (n, V)) (hn : 1 ≤ n ∧ n ≤ 64) (hu : 0 ≤ u ∧ u ≤ 2) (hd : (PV u - 1) % n = 0) (hr : mo (PV u) V n) : CI H' (wPr (wSh S 0 n V) u) := by
  refine h.upd h1 (fun q hq => e q (by omega) (by omega) (by omega) (by omega)) rfl (fun q hq => ?_) ?_
  · by_cases e1 : q = 1
    · subst e1; exact hx
    · by_cases e2 : q = 5
      · subst e2; exact h5
      · by_cases e3 : q = 14
        · subst e3; exact h14
        · by_cases e4 : q = 15
          · subst e4; exact ⟨g, h15, hv⟩
          · rw [e q e1 e2 e3 e4]; exact (Sh_pr e1).mpr ((Sh_0 ⟨e3, e4⟩).mpr (h.1 q hq))
  · obtain ⟨s1, s2, s3, s4, s5, s6, s7, s8⟩ := h.2.2.1
    exact ⟨Or.inr ⟨hu, ⟨hn.1, hd⟩, hr⟩, ⟨by show 0 ≤ n; omega, hn.2⟩, s3, s4, s5, s6, s7, s8⟩
theorem lp_ones (hx : hget H 1 = cX S) (h14 : hget H 14 = cO 6 [.ref 15, vi u]) {rx cx : Nat} {lx : Int} {x g : Int → Int} (Rx : RW H rx cx lx n x) {l1 l2 : Option Value} : ∀ (e : Nat) (i : Int), i + e = n → 0 ≤ i → (Go 79 74 [some (.ref 1), l1, l2, some (.ref rx), some (vi i)] [] (hput H 15 (cL 64 (mix (fun _ => 1) g i))) Q ↔ Go 79 100 [some (.ref 1), l1, l2, some (.ref rx), some (vi n)] [] (hput H 15 (cL 64 (mix (fun _ => 1) g n))) Q) := by
  have n1 := Rx.2.2.2.1
  have hx' : ∀ c, hget (hput H 15 c) 1 = cX S := fun c => by rw [hg_n (by omega)]; exact hx
  have h14' : ∀ c, hget (hput H 15 c) 14 = cO 6 [.ref 15, vi u] := fun c => by rw [hg_n (by omega)]; exact h14
  have Rx' : ∀ c, RW (hput H 15 c) rx cx lx n x := fun c => Rx.fm (Fm.rf.put (lo := 15) (hi := 15) (by omega)) (by omega)
  intro e
  induction e with
  | zero =>
    intro i hi h0
    rw [show i = n by omega, gX8_transform_74]
    simp (disch := omega) only [gX8_transform_76, gX8_transform_76N, gX8_transform_77, gX8_transform_80T, gX8_transform_80F, Rd_some, Wr_some, Cont_some, Cont_none, iso_O, true_and, hg_s, hg_n, hput_hput, (Rx' _).1, sp_size (Rx' _).1 (Rx' _).2.1 Rx.sz]
  | succ e ih =>
    intro i hi h0
    rw [gX8_transform_74]
    simp (disch := omega) only [gX8_transform_76, gX8_transform_76N, gX8_transform_77, gX8_transform_80T, gX8_transform_80F, gX8_transform_83, gX8_transform_84, fl_8_5, gX8_transform_87, fl_6_0, gX8_transform_90, gX8_transform_92, gX8_transform_93, sL_p, gX8_transform_94, gX8_transform_97, Rd_some, Wr_some, Cont_some, Cont_none, iso_O, true_and, hg_s, hg_n, hput_hput, (Rx' _).1, sp_size (Rx' _).1 (Rx' _).2.1 Rx.sz, hx', h14']
    rw [mix_up h0 rfl]
    exact ih (i + 1) (by omega) (by omega)

theorem cx_tr (hc : CI H S) (c : (-2147483648 ≤ a ∧ a ≤ 2147483647) ∧ (-2147483648 ≤ u ∧ u ≤ 2147483647)) (hq : CG H Q (o_tr S a u)) : Go 79 0 [some (.ref 1), some (vi a), some (vi u), none, none] [] H Q := by
  have hx := hc.x
  have h2 := hc.pl
  unfold o_tr CG at hq
  by_cases ha : 0 ≤ a ∧ a < 12
  · by_cases hw0 : 0 ≤ u ∧ u ≤ 2
    · rw [if_pos ⟨ha, hw0⟩] at hq
      have hc1 := hc.ft 0
      unfold o_one at hq
      cases hoa : S.1.1 a with
      | none =>
        rw [hoa] at hq
        dsimp only at hq
        simp (disch := omega) only [gX8_transform_0, gX8_transform_1, gX8_transform_2, pf_8_12, gX8_transform_5, gX8_transform_6, gX8_transform_9T, gX8_transform_9F, gX8_transform_12, gX8_transform_13, gX8_transform_16T, gX8_transform_16F, gX8_transform_19, gX8_transform_20, gX8_transform_21, gX8_transform_22, fl_8_0, gX8_transform_25, gX8_transform_26, aR_g, gX8_transform_27, gX8_transform_27N, gX8_transform_28, gX8_transform_28N, gX8_transform_29T, gX8_transform_29F, gX8_transform_32, gX8_transform_33, gX8_transform_34, gX8_transform_37, gX8_transform_38, gX8_transform_38N, gX8_transform_39, fl_5_0, gX8_transform_42, gX8_transform_43T, gX8_transform_43F, gX8_transform_46, gX8_transform_47, gX8_transform_48, gX8_transform_51, gX8_transform_52, gX8_transform_53, fl_8_1, gX8_transform_56, gX8_transform_57, gX8_transform_58, gX8_transform_58N, gX8_transform_59, gX8_transform_62, gX8_transform_65T, gX8_transform_65F, gX8_transform_68, gX8_transform_70, gX8_transform_71, gX8_transform_72, gX8_transform_74, gX8_transform_76, gX8_transform_76N, gX8_transform_77, gX8_transform_80T, gX8_transform_80F, gX8_transform_83, gX8_transform_84, fl_8_5, gX8_transform_87, fl_6_0, gX8_transform_90, gX8_transform_92, gX8_transform_93, sL_p, gX8_transform_94, gX8_transform_97, gX8_transform_100, gX8_transform_101, gX8_transform_104, gX8_transform_104N, gX8_transform_105, gX8_transform_108, pf_6_1, gX8_transform_111, gX8_transform_112, gX8_transform_113, pf_8_11, gX8_transform_116, gX8_transform_117, fl_8_3, gX8_transform_120, gX8_transform_120N, gX8_transform_121, gX8_transform_122, gX8_transform_125, gX8_transform_126, gX8_transform_127, gX8_transform_128, gX8_transform_131, gX8_transform_134, gX8_transform_135, gX8_transform_138, fl_6_1, gX8_transform_141, Rd_some, Wr_some, Cont_some, Cont_none, iso_O, true_and, hg_s, hg_n, hput_hput, gX8_faulted_0, gX8_faulted_1, gX8_faulted_2, pf_8_12, gX8_faulted_5, gX8_faulted_7, gX8_faulted_8, gX8_faulted_9, Rd_some, Wr_some, Cont_some, Cont_none, iso_O, true_and, hg_s, hg_n, hput_hput, hx, h2, sp_plT, sp_prT, aR_g, hoa, va_rf_n]
        exact hq _ (hc.ft 1) (FX.put (by decide))
      | some k =>
        rw [hoa] at hq
        dsimp only at hq
        have ra : Rw (hput H 1 (cX (wFt S 0))) k (S.1.2 k) := hc1.rw' (S := wFt S 0) ha hoa
        have la := ra.2.2.2.1
        have f1 : FX H (hput H 1 (cX (wFt S 0))) := FX.put (by decide)
        simp (disch := omega) only [gX8_transform_0, gX8_transform_1, gX8_transform_2, pf_8_12, gX8_transform_5, gX8_transform_6, gX8_transform_9T, gX8_transform_9F, gX8_transform_12, gX8_transform_13, gX8_transform_16T, gX8_transform_16F, gX8_transform_19, gX8_transform_20, gX8_transform_21, gX8_transform_22, fl_8_0, gX8_transform_25, gX8_transform_26, aR_g, gX8_transform_27, gX8_transform_27N, Rd_some, Wr_some, Cont_some, Cont_none, iso_O, true_and, hg_s, hg_n, hput_hput, hx, h2, sp_plT, sp_prT, aR_g, hoa, va_rf_s]
        change Go _ _ _ _ (hput H 1 (cX (wFt S 0))) _
        by_cases hl : (S.1.2 k).1 ≤ 3
        · rw [if_pos hl] at hq
          generalize hput H 1 (cX (wFt S 0)) = H1 at hc1 ra f1
          simp (disch := omega) only [gX8_transform_28, gX8_transform_28N, gX8_transform_29T, gX8_transform_29F, gX8_transform_32, gX8_transform_33, gX8_transform_34, gX8_transform_37, gX8_transform_38, gX8_transform_38N, gX8_transform_39, fl_5_0, gX8_transform_42, gX8_transform_43T, gX8_transform_43F, gX8_transform_46, gX8_transform_47, gX8_transform_48, gX8_transform_51, Rd_some, Wr_some, Cont_some, Cont_none, iso_O, true_and, hg_s, hg_n, hput_hput, ra.2.1]
          have hA := ra.RW
          have nA := hA.2.2.2.1
          have hp := hc1.pv hw0
          have hP := PV_r u
          have h14 : hget H1 14 = cO 6 [.ref 15, vi ((wFt S 0).2.2 0).1] := hc1.c 14 (by decide)
          obtain ⟨g0, g1, -⟩ := hc1.c 15 (by decide)
          obtain ⟨f0, h5⟩ := hc1.c 5 (by decide)
          have h4 : hget H1 4 = cO 2 [.ref 5, .ref 6, .ref 7] := hc1.c 4 (by decide)
          by_cases hd : (PV u - 1) % (S.1.2 k).2.1 = 0
          · rw [if_pos hd] at hq
            simp (disch := omega) only [gX8_transform_52, gX8_transform_53, fl_8_1, gX8_transform_56, gX8_transform_57, aR_g, gX8_transform_58, gX8_transform_58N, gX8_transform_59, gX8_transform_62, gX8_transform_65T, gX8_transform_65F, gX8_transform_68, gX8_transform_70, gX8_transform_71, gX8_transform_72, Rd_some, Wr_some, Cont_some, Cont_none, iso_O, true_and, hg_s, hg_n, hput_hput, hc1.x, hc1.pm, aR_g, va_rf_s, pmf_v, hp, ra.2.1, sp_size hA.1 hA.2.1 hA.sz, sp_hasRoot hp hP, if_pos (show 0 < (S.1.2 k).2.1 ∧ (PV u - 1) % (S.1.2 k).2.1 = 0 from ⟨nA.1, hd⟩)]
            have eH : H1 = hput H1 15 (cL 64 (mix (fun _ => 1) g0 0)) := by rw [mix_0]; exact (hput_same g1).symm
            rw [eH, lp_ones (S := wFt S 0) hc1.x h14 hA (S.1.2 k).2.1.toNat 0 (by omega) (by omega)]
            have hA2 : RW (hput H1 15 (cL 64 (mix (fun _ => 1) g0 (S.1.2 k).2.1))) k (k + 1) (S.1.2 k).1 (S.1.2 k).2.1 (S.1.2 k).2.2 := hA.fm (Fm.rf.put (lo := 15) (hi := 15) (by omega)) (by omega)
            have x15 : ∀ c, hget (hput H1 15 c) 1 = cX (wFt S 0) := fun c => by rw [hg_n (by omega)]; exact hc1.x
            have y15 : ∀ c, hget (hput H1 15 c) 14 = cO 6 [.ref 15, vi ((wFt S 0).2.2 0).1] := fun c => by rw [hg_n (by omega)]; exact h14
            simp (disch := omega) only [gX8_transform_100, gX8_transform_101, fl_8_5, gX8_transform_104, gX8_transform_104N, gX8_transform_105, gX8_transform_108, pf_6_1, gX8_transform_111, gX8_transform_112, gX8_transform_113, pf_8_11, Rd_some, Wr_some, Cont_some, Cont_none, iso_O, true_and, hg_s, hg_n, hput_hput, x15, y15, hA2.1, sp_size hA2.1 hA2.2.1 hA2.sz]
            change Go _ _ _ _ (hput (hput (hput H1 15 (cL 64 (mix (fun _ => 1) g0 (S.1.2 k).2.1))) 14 (cO 6 [.ref 15, vi (S.1.2 k).2.1])) 1 (cX (wPr (wSh (wFt S 0) 0 (S.1.2 k).2.1 (TF u (S.1.2 k))) u))) _
            have key : ∀ q, q ≠ 1 → q ≠ 14 → q ≠ 15 → hget (hput (hput (hput H1 15 (cL 64 (mix (fun _ => 1) g0 (S.1.2 k).2.1))) 14 (cO 6 [.ref 15, vi (S.1.2 k).2.1])) 1 (cX (wPr (wSh (wFt S 0) 0 (S.1.2 k).2.1 (TF u (S.1.2 k))) u))) q = hget H1 q := fun q q1 q2 q3 => by rw [hg_n q1, hg_n q2, hg_n q3]
            have k1 : hget (hput (hput (hput H1 15 (cL 64 (mix (fun _ => 1) g0 (S.1.2 k).2.1))) 14 (cO 6 [.ref 15, vi (S.1.2 k).2.1])) 1 (cX (wPr (wSh (wFt S 0) 0 (S.1.2 k).2.1 (TF u (S.1.2 k))) u))) 1 = cX (wPr (wSh (wFt S 0) 0 (S.1.2 k).2.1 (TF u (S.1.2 k))) u) := hg_s
            have k14 : hget (hput (hput (hput H1 15 (cL 64 (mix (fun _ => 1) g0 (S.1.2 k).2.1))) 14 (cO 6 [.ref 15, vi (S.1.2 k).2.1])) 1 (cX (wPr (wSh (wFt S 0) 0 (S.1.2 k).2.1 (TF u (S.1.2 k))) u))) 14 = cO 6 [.ref 15, vi (S.1.2 k).2.1] := by rw [hg_n (by omega), hg_s]
            have k15 : hget (hput (hput (hput H1 15 (cL 64 (mix (fun _ => 1) g0 (S.1.2 k).2.1))) 14 (cO 6 [.ref 15, vi (S.1.2 k).2.1])) 1 (cX (wPr (wSh (wFt S 0) 0 (S.1.2 k).2.1 (TF u (S.1.2 k))) u))) 15 = cL 64 (mix (fun _ => 1) g0 (S.1.2 k).2.1) := by rw [hg_n (by omega), hg_n (by omega), hg_s]
            have s1 : (hput (hput (hput H1 15 (cL 64 (mix (fun _ => 1) g0 (S.1.2 k).2.1))) 14 (cO 6 [.ref 15, vi (S.1.2 k).2.1])) 1 (cX (wPr (wSh (wFt S 0) 0 (S.1.2 k).2.1 (TF u (S.1.2 k))) u))).1 = H1.1 := rfl
            have s2 : (hput (hput (hput H1 15 (cL 64 (mix (fun _ => 1) g0 (S.1.2 k).2.1))) 14 (cO 6 [.ref 15, vi (S.1.2 k).2.1])) 1 (cX (wPr (wSh (wFt S 0) 0 (S.1.2 k).2.1 (TF u (S.1.2 k))) u))).2.1 = H1.2.1 := rfl
            generalize hput (hput (hput H1 15 (cL 64 (mix (fun _ => 1) g0 (S.1.2 k).2.1))) 14 (cO 6 [.ref 15, vi (S.1.2 k).2.1])) 1 (cX (wPr (wSh (wFt S 0) 0 (S.1.2 k).2.1 (TF u (S.1.2 k))) u)) = H3 at *
            have kb := ra.1
            have hA3 : RW H3 k (k + 1) (S.1.2 k).1 (S.1.2 k).2.1 (S.1.2 k).2.2 := ⟨by rw [key k (by omega) (by omega) (by omega)]; exact hA.1, by rw [key (k + 1) (by omega) (by omega) (by omega)]; exact hA.2.1, hA.2.2⟩
            have hp3 : hget H3 (25 + u.toNat) = cO 3 [vl (PV u)] := by rw [key _ (by omega) (by omega) (by omega)]; exact hp
            have h43 : hget H3 4 = cO 2 [.ref 5, .ref 6, .ref 7] := by rw [key _ (by omega) (by omega) (by omega)]; exact h4
            have h53 : hget H3 5 = cL 64 f0 := by rw [key _ (by omega) (by omega) (by omega)]; exact h5
            have h33 : hget H3 3 = cR (.object (vCn 3)) 3 pmf := by rw [key _ (by omega) (by omega) (by omega)]; exact hc1.pm
            simp (disch := omega) only [gX8_transform_116, gX8_transform_117, fl_8_3, gX8_transform_120, gX8_transform_120N, gX8_transform_121, gX8_transform_122, fl_8_1, gX8_transform_125, gX8_transform_126, aR_g, gX8_transform_127, gX8_transform_128, fl_8_5, gX8_transform_131, Rd_some, Wr_some, Cont_some, Cont_none, iso_O, true_and, hg_s, hg_n, hput_hput, k1, h33, aR_g, va_rf_s, pmf_v, h43]
            refine sp_tt hp3 hP (by omega) h43 hA3 k14 h53 k15 (fun j j0 j1 => by rw [mix_in ⟨j0, j1⟩]; omega) (fun F G hG => ?_)
            have z1 : ∀ c d, hget (hput (hput H3 5 c) 15 d) 1 = cX (wPr (wSh (wFt S 0) 0 (S.1.2 k).2.1 (TF u (S.1.2 k))) u) := fun c d => by rw [hg_n (by omega), hg_n (by omega)]; exact k1
            have z14 : ∀ c d, hget (hput (hput H3 5 c) 15 d) 14 = cO 6 [.ref 15, vi (S.1.2 k).2.1] := fun c d => by rw [hg_n (by omega), hg_n (by omega)]; exact k14
            simp (disch := omega) only [gX8_transform_134, gX8_transform_135, fl_8_5, gX8_transform_138, fl_6_1, gX8_transform_141, Rd_some, Wr_some, Cont_some, Cont_none, iso_O, true_and, hg_s, hg_n, hput_hput, z1, z14]
            refine hq _ (hc1.sp (V := TF u (S.1.2 k)) s1 (fun q q1 q2 q3 q4 => by rw [hg_n q4, hg_n q2]; exact key q q1 q3 q4) (z1 _ _) ⟨F, by rw [hg_n (by omega), hg_s]⟩ (z14 _ _) hg_s (fun j j0 j1 => ?_) (by omega) hw0 hd (fun j _ _ => TF_r u _ j)) (f1.same s1 s2 (fun q hq => by rw [hg_n (by omega), hg_n (by omega)]; exact key q (by omega) (by omega) (by omega)))
            rw [hG j j0 j1, mix_in ⟨j0, j1⟩, Int.one_mul, Int.emod_emod]
            rfl
          · rw [if_neg hd] at hq
            simp (disch := omega) only [gX8_transform_52, gX8_transform_53, fl_8_1, gX8_transform_56, gX8_transform_57, aR_g, gX8_transform_58, gX8_transform_58N, gX8_transform_59, gX8_transform_62, gX8_transform_65T, gX8_transform_65F, gX8_transform_68, gX8_transform_70, Rd_some, Wr_some, Cont_some, Cont_none, iso_O, true_and, hg_s, hg_n, hput_hput, hc1.x, hc1.pm, aR_g, va_rf_s, pmf_v, hp, ra.2.1, sp_size hA.1 hA.2.1 hA.sz, sp_hasRoot hp hP, if_neg (show ¬ (0 < (S.1.2 k).2.1 ∧ (PV u - 1) % (S.1.2 k).2.1 = 0) from fun t => hd t.2)]
            exact hq _ hc1 f1
        · rw [if_neg hl] at hq
          simp (disch := omega) only [gX8_transform_28, gX8_transform_28N, gX8_transform_29T, gX8_transform_29F, gX8_transform_32, gX8_transform_33, gX8_transform_34, gX8_transform_37, gX8_transform_38, gX8_transform_38N, gX8_transform_39, fl_5_0, gX8_transform_42, gX8_transform_43T, gX8_transform_43F, gX8_transform_46, gX8_transform_47, gX8_transform_48, gX8_transform_51, Rd_some, Wr_some, Cont_some, Cont_none, iso_O, true_and, hg_s, hg_n, hput_hput, gX8_faulted_0, gX8_faulted_1, gX8_faulted_2, pf_8_12, gX8_faulted_5, gX8_faulted_7, gX8_faulted_8, gX8_faulted_9, Rd_some, Wr_some, Cont_some, Cont_none, iso_O, true_and, hg_s, hg_n, hput_hput, ra.2.1]
          exact hq _ (hc.ft 2) (FX.put (by decide))
    · rw [if_neg (fun t => hw0 t.2)] at hq
      simp (disch := omega) only [gX8_transform_0, gX8_transform_1, gX8_transform_2, pf_8_12, gX8_transform_5, gX8_transform_6, gX8_transform_9T, gX8_transform_9F, gX8_transform_12, gX8_transform_13, gX8_transform_16T, gX8_transform_16F, gX8_transform_19, gX8_transform_20, gX8_transform_21, gX8_transform_22, fl_8_0, gX8_transform_25, gX8_transform_26, aR_g, gX8_transform_27, gX8_transform_27N, gX8_transform_28, gX8_transform_28N, gX8_transform_29T, gX8_transform_29F, gX8_transform_32, gX8_transform_33, gX8_transform_34, gX8_transform_37, gX8_transform_38, gX8_transform_38N, gX8_transform_39, fl_5_0, gX8_transform_42, gX8_transform_43T, gX8_transform_43F, gX8_transform_46, gX8_transform_47, gX8_transform_48, gX8_transform_51, gX8_transform_52, gX8_transform_53, fl_8_1, gX8_transform_56, gX8_transform_57, gX8_transform_58, gX8_transform_58N, gX8_transform_59, gX8_transform_62, gX8_transform_65T, gX8_transform_65F, gX8_transform_68, gX8_transform_70, gX8_transform_71, gX8_transform_72, gX8_transform_74, gX8_transform_76, gX8_transform_76N, gX8_transform_77, gX8_transform_80T, gX8_transform_80F, gX8_transform_83, gX8_transform_84, fl_8_5, gX8_transform_87, fl_6_0, gX8_transform_90, gX8_transform_92, gX8_transform_93, sL_p, gX8_transform_94, gX8_transform_97, gX8_transform_100, gX8_transform_101, gX8_transform_104, gX8_transform_104N, gX8_transform_105, gX8_transform_108, pf_6_1, gX8_transform_111, gX8_transform_112, gX8_transform_113, pf_8_11, gX8_transform_116, gX8_transform_117, fl_8_3, gX8_transform_120, gX8_transform_120N, gX8_transform_121, gX8_transform_122, gX8_transform_125, gX8_transform_126, gX8_transform_127, gX8_transform_128, gX8_transform_131, gX8_transform_134, gX8_transform_135, gX8_transform_138, fl_6_1, gX8_transform_141, Rd_some, Wr_some, Cont_some, Cont_none, iso_O, true_and, hg_s, hg_n, hput_hput, hx, sp_plT, sp_prT, sp_prF]
      exact hq _ (hc.ft 0) (FX.put (by decide))
  · rw [if_neg (fun t => ha t.1)] at hq
    simp (disch := omega) only [gX8_transform_0, gX8_transform_1, gX8_transform_2, pf_8_12, gX8_transform_5, gX8_transform_6, gX8_transform_9T, gX8_transform_9F, gX8_transform_12, gX8_transform_13, gX8_transform_16T, gX8_transform_16F, gX8_transform_19, gX8_transform_20, gX8_transform_21, gX8_transform_22, fl_8_0, gX8_transform_25, gX8_transform_26, aR_g, gX8_transform_27, gX8_transform_27N, gX8_transform_28, gX8_transform_28N, gX8_transform_29T, gX8_transform_29F, gX8_transform_32, gX8_transform_33, gX8_transform_34, gX8_transform_37, gX8_transform_38, gX8_transform_38N, gX8_transform_39, fl_5_0, gX8_transform_42, gX8_transform_43T, gX8_transform_43F, gX8_transform_46, gX8_transform_47, gX8_transform_48, gX8_transform_51, gX8_transform_52, gX8_transform_53, fl_8_1, gX8_transform_56, gX8_transform_57, gX8_transform_58, gX8_transform_58N, gX8_transform_59, gX8_transform_62, gX8_transform_65T, gX8_transform_65F, gX8_transform_68, gX8_transform_70, gX8_transform_71, gX8_transform_72, gX8_transform_74, gX8_transform_76, gX8_transform_76N, gX8_transform_77, gX8_transform_80T, gX8_transform_80F, gX8_transform_83, gX8_transform_84, fl_8_5, gX8_transform_87, fl_6_0, gX8_transform_90, gX8_transform_92, gX8_transform_93, sL_p, gX8_transform_94, gX8_transform_97, gX8_transform_100, gX8_transform_101, gX8_transform_104, gX8_transform_104N, gX8_transform_105, gX8_transform_108, pf_6_1, gX8_transform_111, gX8_transform_112, gX8_transform_113, pf_8_11, gX8_transform_116, gX8_transform_117, fl_8_3, gX8_transform_120, gX8_transform_120N, gX8_transform_121, gX8_transform_122, gX8_transform_125, gX8_transform_126, gX8_transform_127, gX8_transform_128, gX8_transform_131, gX8_transform_134, gX8_transform_135, gX8_transform_138, fl_6_1, gX8_transform_141, Rd_some, Wr_some, Cont_some, Cont_none, iso_O, true_and, hg_s, hg_n, hput_hput, hx, sp_plT, sp_prT, sp_plF]
    exact hq _ (hc.ft 0) (FX.put (by decide))

theorem cx_times (hc : CI H S) (c : (-2147483648 ≤ a ∧ a ≤ 2147483647)) (hq : CG H Q (o_times S a)) : Go 80 0 [some (.ref 1), some (vi a), none] [] H Q := by
  have hx := hc.x
  have h2 := hc.pl
  unfold o_times CG at hq
  by_cases ha : 0 ≤ a ∧ a < 12
  · rw [if_pos ha] at hq
    have hc1 := hc.ft 0
    unfold o_one at hq
    cases hoa : S.1.1 a with
    | none =>
      rw [hoa] at hq
      dsimp only at hq
      simp (disch := omega) only [gX8_times_0, gX8_times_1, gX8_times_2, pf_8_12, gX8_times_5, gX8_times_6, gX8_times_9T, gX8_times_9F, gX8_times_12, gX8_times_13, gX8_times_14, gX8_times_15, fl_8_0, gX8_times_18, gX8_times_19, aR_g, gX8_times_20, gX8_times_20N, gX8_times_21, gX8_times_21N, gX8_times_22T, gX8_times_22F, gX8_times_25, gX8_times_26, gX8_times_27, gX8_times_30, gX8_times_31, gX8_times_31N, gX8_times_32, fl_5_0, gX8_times_35, gX8_times_36T, gX8_times_36F, gX8_times_39, gX8_times_40, gX8_times_41, gX8_times_44, gX8_times_45, gX8_times_46, fl_8_11, gX8_times_49, gX8_times_52T, gX8_times_52F, gX8_times_55, gX8_times_55N, gX8_times_56, gX8_times_59, gX8_times_60, fl_8_5, gX8_times_63, fl_6_1, gX8_times_66T, gX8_times_66F, gX8_times_69, gX8_times_71, gX8_times_72, gX8_times_73, fl_8_3, gX8_times_76, gX8_times_76N, gX8_times_77, gX8_times_78, fl_8_1, gX8_times_81, gX8_times_82, gX8_times_85, gX8_times_86, gX8_times_87, gX8_times_90, gX8_times_93, gX8_times_94, gX8_times_97, gX8_times_100, Rd_some, Wr_some, Cont_some, Cont_none, iso_O, true_and, hg_s, hg_n, hput_hput, gX8_faulted_0, gX8_faulted_1, gX8_faulted_2, pf_8_12, gX8_faulted_5, gX8_faulted_7, gX8_faulted_8, gX8_faulted_9, Rd_some, Wr_some, Cont_some, Cont_none, iso_O, true_and, hg_s, hg_n, hput_hput, hx, h2, sp_plT, aR_g, hoa, va_rf_n]
      exact hq _ (hc.ft 1) (FX.put (by decide))
    | some k =>
      rw [hoa] at hq
      dsimp only at hq
      have ra : Rw (hput H 1 (cX (wFt S 0))) k (S.1.2 k) := hc1.rw' (S := wFt S 0) ha hoa
      have la := ra.2.2.2.1
      have f1 : FX H (hput H 1 (cX (wFt S 0))) := FX.put (by decide)
      simp (disch := omega) only [gX8_times_0, gX8_times_1, gX8_times_2, pf_8_12, gX8_times_5, gX8_times_6, gX8_times_9T, gX8_times_9F, gX8_times_12, gX8_times_13, gX8_times_14, gX8_times_15, fl_8_0, gX8_times_18, gX8_times_19, aR_g, gX8_times_20, gX8_times_20N, Rd_some, Wr_some, Cont_some, Cont_none, iso_O, true_and, hg_s, hg_n, hput_hput, hx, h2, sp_plT, aR_g, hoa, va_rf_s]
      change Go _ _ _ _ (hput H 1 (cX (wFt S 0))) _
      by_cases hl : (S.1.2 k).1 ≤ 3
      · rw [if_pos hl] at hq
        generalize hput H 1 (cX (wFt S 0)) = H1 at hc1 ra f1
        simp (disch := omega) only [gX8_times_21, gX8_times_21N, gX8_times_22T, gX8_times_22F, gX8_times_25, gX8_times_26, gX8_times_27, gX8_times_30, gX8_times_31, gX8_times_31N, gX8_times_32, fl_5_0, gX8_times_35, gX8_times_36T, gX8_times_36F, gX8_times_39, gX8_times_40, gX8_times_41, gX8_times_44, Rd_some, Wr_some, Cont_some, Cont_none, iso_O, true_and, hg_s, hg_n, hput_hput, ra.2.1]
        have hA := ra.RW
        have nA := hA.2.2.2.1
        have h14 : hget H1 14 = cO 6 [.ref 15, vi (S.2.2 0).1] := hc1.c 14 (by decide)
        obtain ⟨g0, g1, g2⟩ := hc1.c 15 (by decide)
        have g2 : eqn g0 (S.2.2 0) := g2
        obtain ⟨f0, h5⟩ := hc1.c 5 (by decide)
        have h4 : hget H1 4 = cO 2 [.ref 5, .ref 6, .ref 7] := hc1.c 4 (by decide)
        have hx1 : hget H1 1 = cX (wFt S 0) := hc1.x
        have hsi := hc.2.2.1
        have hn0 := hsi.2.1
        rcases hsi.1 with ⟨pn, pz⟩ | ⟨hu, hdv, hmo⟩
        · rw [if_neg (fun t => by omega)] at hq
          have hx2 : hget H1 1 = cO 8 [.ref 2, .ref 3, .ref 28, .ref 4, .ref 8, .ref 14, .ref 16, .ref 18, .ref 20, .ref 22, .ref 24, vi S.2.1.2, vi 0] := hx1
          simp (disch := omega) only [gX8_times_45, gX8_times_46, fl_8_11, gX8_times_49, gX8_times_52T, gX8_times_52F, gX8_times_55, gX8_times_55N, gX8_times_56, gX8_times_59, gX8_times_60, fl_8_5, gX8_times_63, fl_6_1, gX8_times_66T, gX8_times_66F, gX8_times_69, gX8_times_71, Rd_some, Wr_some, Cont_some, Cont_none, iso_O, true_and, hg_s, hg_n, hput_hput, hx2, sp_prF]
          exact hq _ hc1 f1
        · have hx2 : hget H1 1 = cO 8 [.ref 2, .ref 3, .ref 28, .ref 4, .ref 8, .ref 14, .ref 16, .ref 18, .ref 20, .ref 22, .ref 24, vi S.2.1.2, vi 0] := hx1
          have hp := hc1.pv hu
          have hP := PV_r S.2.1.2
          by_cases hn : (S.1.2 k).2.1 = (S.2.2 0).1
          · rw [if_pos ⟨hu, hn⟩] at hq
            simp (disch := omega) only [gX8_times_45, gX8_times_46, fl_8_11, gX8_times_49, gX8_times_52T, gX8_times_52F, gX8_times_55, gX8_times_55N, gX8_times_56, gX8_times_59, gX8_times_60, fl_8_5, gX8_times_63, fl_6_1, gX8_times_66T, gX8_times_66F, gX8_times_69, gX8_times_71, gX8_times_72, gX8_times_73, fl_8_3, gX8_times_76, gX8_times_76N, gX8_times_77, gX8_times_78, fl_8_1, gX8_times_81, gX8_times_82, gX8_times_85, aR_g, gX8_times_86, gX8_times_87, gX8_times_90, Rd_some, Wr_some, Cont_some, Cont_none, iso_O, true_and, hg_s, hg_n, hput_hput, hx2, h14, sp_prT, hc1.pm, aR_g, va_rf_s, pmf_v, ra.2.1, sp_size hA.1 hA.2.1 hA.sz, h4]
            rw [← hn] at h14 hdv hmo
            refine sp_tt hp hP (by omega) h4 hA h14 h5 g1 (fun j j0 j1 => by rw [g2 j j0 (by omega)]; exact hmo j j0 j1) (fun F G hG => ?_)
            have z1 : ∀ c d, hget (hput (hput H1 5 c) 15 d) 1 = cX (wPr (wSh (wFt S 0) 0 (S.1.2 k).2.1 (fun j => (S.2.2 0).2 j * TF S.2.1.2 (S.1.2 k) j % PV S.2.1.2)) S.2.1.2) := fun c d => by rw [hg_n (by omega), hg_n (by omega)]; exact hx1
            have z14 : ∀ c d, hget (hput (hput H1 5 c) 15 d) 14 = cO 6 [.ref 15, vi (S.1.2 k).2.1] := fun c d => by rw [hg_n (by omega), hg_n (by omega)]; exact h14
            simp (disch := omega) only [gX8_times_93, gX8_times_94, fl_8_5, gX8_times_97, fl_6_1, gX8_times_100, Rd_some, Wr_some, Cont_some, Cont_none, iso_O, true_and, hg_s, hg_n, hput_hput, z1, z14]
            refine hq _ (hc1.sp (V := fun j => (S.2.2 0).2 j * TF S.2.1.2 (S.1.2 k) j % PV S.2.1.2) rfl (fun q q1 q2 q3 q4 => by rw [hg_n q4, hg_n q2]) (z1 _ _) ⟨F, by rw [hg_n (by omega), hg_s]⟩ (z14 _ _) hg_s (fun j j0 j1 => ?_) (by omega) hu hdv.2 (fun j _ _ => em (by omega) _)) (f1.same rfl rfl (fun q hq => by rw [hg_n (by omega), hg_n (by omega)]))
            have j1 : j < (S.1.2 k).2.1 := j1
            rw [hG j j0 j1, g2 j j0 (by omega)]
            rfl
          · rw [if_neg (fun t => hn t.2)] at hq
            simp (disch := omega) only [gX8_times_45, gX8_times_46, fl_8_11, gX8_times_49, gX8_times_52T, gX8_times_52F, gX8_times_55, gX8_times_55N, gX8_times_56, gX8_times_59, gX8_times_60, fl_8_5, gX8_times_63, fl_6_1, gX8_times_66T, gX8_times_66F, gX8_times_69, gX8_times_71, Rd_some, Wr_some, Cont_some, Cont_none, iso_O, true_and, hg_s, hg_n, hput_hput, hx2, h14, sp_prT, ra.2.1, sp_size hA.1 hA.2.1 hA.sz]
            exact hq _ hc1 f1
      · rw [if_neg hl] at hq
        simp (disch := omega) only [gX8_times_21, gX8_times_21N, gX8_times_22T, gX8_times_22F, gX8_times_25, gX8_times_26, gX8_times_27, gX8_times_30, gX8_times_31, gX8_times_31N, gX8_times_32, fl_5_0, gX8_times_35, gX8_times_36T, gX8_times_36F, gX8_times_39, gX8_times_40, gX8_times_41, gX8_times_44, Rd_some, Wr_some, Cont_some, Cont_none, iso_O, true_and, hg_s, hg_n, hput_hput, gX8_faulted_0, gX8_faulted_1, gX8_faulted_2, pf_8_12, gX8_faulted_5, gX8_faulted_7, gX8_faulted_8, gX8_faulted_9, Rd_some, Wr_some, Cont_some, Cont_none, iso_O, true_and, hg_s, hg_n, hput_hput, ra.2.1]
        exact hq _ (hc.ft 2) (FX.put (by decide))
  · rw [if_neg ha] at hq
    simp (disch := omega) only [gX8_times_0, gX8_times_1, gX8_times_2, pf_8_12, gX8_times_5, gX8_times_6, gX8_times_9T, gX8_times_9F, gX8_times_12, gX8_times_13, gX8_times_14, gX8_times_15, fl_8_0, gX8_times_18, gX8_times_19, aR_g, gX8_times_20, gX8_times_20N, gX8_times_21, gX8_times_21N, gX8_times_22T, gX8_times_22F, gX8_times_25, gX8_times_26, gX8_times_27, gX8_times_30, gX8_times_31, gX8_times_31N, gX8_times_32, fl_5_0, gX8_times_35, gX8_times_36T, gX8_times_36F, gX8_times_39, gX8_times_40, gX8_times_41, gX8_times_44, gX8_times_45, gX8_times_46, fl_8_11, gX8_times_49, gX8_times_52T, gX8_times_52F, gX8_times_55, gX8_times_55N, gX8_times_56, gX8_times_59, gX8_times_60, fl_8_5, gX8_times_63, fl_6_1, gX8_times_66T, gX8_times_66F, gX8_times_69, gX8_times_71, gX8_times_72, gX8_times_73, fl_8_3, gX8_times_76, gX8_times_76N, gX8_times_77, gX8_times_78, fl_8_1, gX8_times_81, gX8_times_82, gX8_times_85, gX8_times_86, gX8_times_87, gX8_times_90, gX8_times_93, gX8_times_94, gX8_times_97, gX8_times_100, Rd_some, Wr_some, Cont_some, Cont_none, iso_O, true_and, hg_s, hg_n, hput_hput, hx, sp_plT, sp_plF]
    exact hq _ (hc.ft 0) (FX.put (by decide))

theorem cx_inv (hc : CI H S) (c : -2147483648 ≤ a ∧ a ≤ 2147483647) (hq : CG H Q (o_inv S a H.1)) : Go 82 0 [some (.ref 1), some (vi a), none] [] H Q := by
  have hx := hc.x
  have hx2 : hget H 1 = cO 8 [.ref 2, .ref 3, .ref 28, .ref 4, .ref 8, .ref 14, .ref 16, .ref 18, .ref 20, .ref 22, .ref 24, vi S.2.1.2, vi S.2.1.1] := hx
  have hsi := hc.2.2.1
  have hn0 := hsi.2.1
  have h14 : hget H 14 = cO 6 [.ref 15, vi (S.2.2 0).1] := hc.c 14 (by decide)
  unfold o_inv CG at hq
  by_cases ha : 0 ≤ a ∧ a < 12
  · rw [if_pos ha] at hq
    rcases hsi.1 with ⟨pn, pz⟩ | ⟨hu, hdv, hmo⟩
    · rw [if_neg (fun t => by omega)] at hq
      simp (disch := omega) only [gX8_inverse_0, gX8_inverse_1, gX8_inverse_4T, gX8_inverse_4F, gX8_inverse_7, gX8_inverse_8, gX8_inverse_9, gX8_inverse_10, fl_8_11, gX8_inverse_13, gX8_inverse_16T, gX8_inverse_16F, gX8_inverse_19, gX8_inverse_20, fl_8_5, gX8_inverse_23, fl_6_1, gX8_inverse_26, gX8_inverse_27T, gX8_inverse_27F, gX8_inverse_30, gX8_inverse_32, Rd_some, Wr_some, Cont_some, Cont_none, iso_O, true_and, hg_s, hg_n, hput_hput, hx2, sp_plT, sp_prF]
      exact hq _ hc FX.rf
    · rw [if_pos hu] at hq
      obtain ⟨g0, g1, g2⟩ := hc.c 15 (by decide)
      have hp := hc.pv hu
      have hP := PV_r S.2.1.2
      have h60 := hc.2.2.2.1
      simp (disch := omega) only [gX8_inverse_0, gX8_inverse_1, gX8_inverse_4T, gX8_inverse_4F, gX8_inverse_7, gX8_inverse_8, gX8_inverse_9, gX8_inverse_10, fl_8_11, gX8_inverse_13, gX8_inverse_16T, gX8_inverse_16F, gX8_inverse_19, gX8_inverse_20, fl_8_5, gX8_inverse_23, fl_6_1, gX8_inverse_26, gX8_inverse_27T, gX8_inverse_27F, gX8_inverse_30, gX8_inverse_32, gX8_inverse_33, gX8_inverse_36, gX8_inverse_37, gX8_inverse_38, gX8_inverse_39, gX8_inverse_42, Rd_some, Wr_some, Cont_some, Cont_none, iso_O, true_and, hg_s, hg_n, hput_hput, hx2, h14, sp_plT, sp_prT, hn_n]
      rw [gX8_inverse_45, sp_rowInit (H := hnew H (cO 5 [.int 0, .null]) 2) hn_s (by omega) (by show H.1 < H.1 + 1; omega) (by omega)]
      generalize hH2 : hput (hnew (hnew H (cO 5 [.int 0, .null]) 2) (cL (S.2.2 0).1 fun _ => 0) (S.2.2 0).1.toNat) H.1 (cO 5 [vi 3, .ref (hnew H (cO 5 [.int 0, .null]) 2).1]) = H2
      have k0 : ∀ q, q < H.1 → hget H2 q = hget H q := fun q hq => by rw [← hH2, hg_n (by omega), hn_n (by show q ≠ H.1 + 1; omega), hn_n (by omega)]
      have k1 : hget H2 H.1 = cO 5 [vi 3, .ref (H.1 + 1)] := by rw [← hH2, hg_s]; rfl
      have k2 : hget H2 (H.1 + 1) = cL (S.2.2 0).1 fun _ => 0 := by rw [← hH2, hg_n (by omega)]; exact hn_s
      have s1 : H2.1 = H.1 + 2 := by rw [← hH2]; rfl
      have s2 : H2.2.1 = H.2.1 + 2 + (S.2.2 0).1.toNat := by rw [← hH2]; rfl
      have x2 : hget H2 1 = cO 8 [.ref 2, .ref 3, .ref 28, .ref 4, .ref 8, .ref 14, .ref 16, .ref 18, .ref 20, .ref 22, .ref 24, vi S.2.1.2, vi S.2.1.1] := by rw [k0 1 (by omega)]; exact hx2
      have x14 : hget H2 14 = cO 6 [.ref 15, vi (S.2.2 0).1] := by rw [k0 14 (by omega)]; exact h14
      have x15 : hget H2 15 = cL 64 g0 := by rw [k0 15 (by omega)]; exact g1
      have x3 : hget H2 3 = cR (.object (vCn 3)) 3 pmf := by rw [k0 3 (by omega)]; exact hc.pm
      have x4 : hget H2 4 = cO 2 [.ref 5, .ref 6, .ref 7] := by rw [k0 4 (by omega)]; exact hc.c 4 (by decide)
      have xp : hget H2 (25 + S.2.1.2.toNat) = cO 3 [vl (PV S.2.1.2)] := by rw [k0 _ (by omega)]; exact hp
      have mg : mo (PV S.2.1.2) g0 (S.2.2 0).1 := fun j j0 j1 => by rw [g2 j j0 j1]; exact hmo j j0 j1
      have tb := fun Q => sp_tb (Q := Q) xp hP (by omega) k1 k2 (by omega) (by omega) x14 x15 mg
      simp (disch := omega) only [gX8_inverse_48, gX8_inverse_48N, gX8_inverse_49, gX8_inverse_50, fl_8_3, gX8_inverse_53, gX8_inverse_54, fl_8_5, gX8_inverse_57, gX8_inverse_58, fl_8_1, gX8_inverse_61, gX8_inverse_62, fl_8_11, gX8_inverse_65, aR_g, gX8_inverse_66, gX8_inverse_66N, gX8_inverse_67, Rd_some, Wr_some, Cont_some, Cont_none, iso_O, true_and, hg_s, hg_n, hput_hput, x2, x3, x4, aR_g, va_rf_s, pmf_v, tb]
      generalize hG : (mix (fun j => ((S.2.2 0).1 ^ (PV S.2.1.2 - 2).toNat % PV S.2.1.2) * (df ((3 ^ ((PV S.2.1.2 - 1) / (S.2.2 0).1).toNat % PV S.2.1.2) ^ (PV S.2.1.2 - 2).toNat % PV S.2.1.2) g0 (S.2.2 0).1.toNat j.toNat % PV S.2.1.2) % PV S.2.1.2) (fun _ => 0) (S.2.2 0).1) = G
      have eG : G = mix (BK S) (fun _ => 0) (S.2.2 0).1 := by
        rw [← hG]
        funext j
        unfold mix
        split
        · dsimp only
          unfold BK
          have hdf : ∀ v : Int, df v g0 (S.2.2 0).1.toNat j.toNat = df v (S.2.2 0).2 (S.2.2 0).1.toNat j.toNat := fun v => by
            unfold df
            exact sm_cN fun i hi => by rw [g2 i (by omega) (by omega)]
          rw [hdf]
        · rfl
      have y1 : ∀ c, hget (hput H2 (H.1 + 1) c) 1 = cO 8 [.ref 2, .ref 3, .ref 28, .ref 4, .ref 8, .ref 14, .ref 16, .ref 18, .ref 20, .ref 22, .ref 24, vi S.2.1.2, vi S.2.1.1] := fun c => by rw [hg_n (by omega)]; exact x2
      have y2 : ∀ c, hget (hput H2 (H.1 + 1) c) 2 = cR (.object (vCn 5)) 12 S.1.1 := fun c => by rw [hg_n (by omega), k0 2 (by omega)]; exact hc.pl
      have yH : ∀ c, hget (hput H2 (H.1 + 1) c) H.1 = cO 5 [vi 3, .ref (H.1 + 1)] := fun c => by rw [hg_n (by omega)]; exact k1
      have zH : ∀ c d, hget (hput (hput H2 (H.1 + 1) c) 2 d) H.1 = cO 5 [vi 3, .ref (H.1 + 1)] := fun c d => by rw [hg_n (by omega)]; exact yH c
      have zC : ∀ c d, hget (hput (hput H2 (H.1 + 1) c) 2 d) (H.1 + 1) = c := fun c d => by rw [hg_n (by omega), hg_s]
      have sz := fun Q (d : AC) => sp_size (Q := Q) (zH (cL (S.2.2 0).1 G) d) (zC _ d) (show 0 ≤ (S.2.2 0).1 ∧ (S.2.2 0).1 ≤ 1000000 by omega)
      simp (disch := first | omega | decide) only [gX8_inverse_70, gX8_inverse_71, fl_8_0, gX8_inverse_74, gX8_inverse_75, gX8_inverse_75N, gX8_inverse_76, sR_p, gX8_inverse_77, gX8_inverse_77N, gX8_inverse_78, gX8_inverse_81, Rd_some, Wr_some, Cont_some, Cont_none, iso_O, true_and, hg_s, hg_n, hput_hput, y1, y2, yH, sR_p, zH, sz]
      refine hq _ (hc.new (d := (3, (S.2.2 0).1, mix (BK S) (fun _ => 0) (S.2.2 0).1)) ha s1 (fun q q1 q2 => by rw [hg_n q2, hg_n (by omega)]; exact k0 q q1) hg_s (zH _ _) ?_ ?_) ⟨⟨?_, ?_, ?_⟩, fun q hq => ?_⟩
      · rw [zC, eG]
      · refine ⟨⟨by show (0 : Int) ≤ 3; decide, by show (3 : Int) ≤ 4; decide⟩, ⟨by show 0 < (S.2.2 0).1; omega, hn0.2⟩, fun j _ _ => ?_, fun t => absurd t (by show ¬ (3 : Int) ≤ 2; decide)⟩
        have := BK_r S j
        show _ ≤ mix (BK S) (fun _ => 0) (S.2.2 0).1 j ∧ mix (BK S) (fun _ => 0) (S.2.2 0).1 j ≤ _
        unfold mix
        split <;> (try dsimp only) <;> omega
      · show H.1 ≤ H2.1; omega
      · show H2.1 ≤ H.1 + 2; omega
      · show H2.2.1 ≤ H.2.1 + 66; omega
      · rw [hg_n (by omega), hg_n (by omega)]; exact k0 q (by omega)
  · rw [if_neg ha] at hq
    simp (disch := omega) only [gX8_inverse_0, gX8_inverse_1, gX8_inverse_4T, gX8_inverse_4F, gX8_inverse_7, gX8_inverse_8, gX8_inverse_9, gX8_inverse_10, fl_8_11, gX8_inverse_13, gX8_inverse_16T, gX8_inverse_16F, gX8_inverse_19, gX8_inverse_20, fl_8_5, gX8_inverse_23, fl_6_1, gX8_inverse_26, gX8_inverse_27T, gX8_inverse_27F, gX8_inverse_30, gX8_inverse_32, gX8_inverse_33, gX8_inverse_36, gX8_inverse_37, gX8_inverse_38, gX8_inverse_39, gX8_inverse_42, gX8_inverse_45, gX8_inverse_48, gX8_inverse_48N, gX8_inverse_49, gX8_inverse_50, fl_8_3, gX8_inverse_53, gX8_inverse_54, gX8_inverse_57, gX8_inverse_58, fl_8_1, gX8_inverse_61, gX8_inverse_62, gX8_inverse_65, aR_g, gX8_inverse_66, gX8_inverse_66N, gX8_inverse_67, gX8_inverse_70, gX8_inverse_71, fl_8_0, gX8_inverse_74, gX8_inverse_75, gX8_inverse_75N, gX8_inverse_76, sR_p, gX8_inverse_77, gX8_inverse_77N, gX8_inverse_78, gX8_inverse_81, Rd_some, Wr_some, Cont_some, Cont_none, iso_O, true_and, hg_s, hg_n, hput_hput, sp_plF]
    exact hq _ hc FX.rf

end SPE

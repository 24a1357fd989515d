/-! x: exact products (begun by program: wip/gen/opC.py) -/
def o_two (S : SS) (a b L : Int) (f : Nat → Nat → Value × SS) : Value × SS := match S.1.1 a, S.1.1 b with
  | some k, some l => if (S.1.2 k).1 ≤ L ∧ (S.1.2 l).1 ≤ L then f k l else fo S 2
  | _, _ => fo S 1
def o_one (S : SS) (a L : Int) (f : Nat → Value × SS) : Value × SS := match S.1.1 a with
  | some k => if (S.1.2 k).1 ≤ L then f k else fo S 2
  | none => fo S 1
def o_mul (S : SS) (a b w : Int) : Value × SS := if (0 ≤ a ∧ a < 12) ∧ 0 ≤ b ∧ b < 12 then (if 0 ≤ w ∧ w ≤ 2 then o_two S a b 2 (fun k l => if w = 1 ∧ ¬ (gs (S.1.2 k).2.2 (S.1.2 k).2.1.toNat 0 * gs (S.1.2 l).2.2 (S.1.2 l).2.1.toNat 0 < 998244353 ∧ 2 * min (S.1.2 k).2.1 (S.1.2 l).2.1 * (gs (S.1.2 k).2.2 (S.1.2 k).2.1.toNat 0 * gs (S.1.2 l).2.2 (S.1.2 l).2.1.toNat 0) < 998244353) then (vi (-3), wFt S 0) else (vi ((S.1.2 k).2.1 + (S.1.2 l).2.1 - 1), wSh (wFt S 0) 2 ((S.1.2 k).2.1 + (S.1.2 l).2.1 - 1) (fun j => cv (S.1.2 k).2.2 (S.1.2 k).2.1 (S.1.2 l).2.2 (S.1.2 l).2.1 j))) else (vi (-2), wFt S 0)) else (vi (-1), wFt S 0)
def o_circ (S : SS) (a b n : Int) : Value × SS := if (0 ≤ a ∧ a < 12) ∧ 0 ≤ b ∧ b < 12 then (if 1 ≤ n ∧ n ≤ 64 then o_two S a b 2 (fun k l => (vi n, wSh (wFt S 0) 2 n (fun j => ci (S.1.2 k).2.2 (S.1.2 k).2.1 (S.1.2 l).2.2 (S.1.2 l).2.1 n j))) else (vi (-2), wFt S 0)) else (vi (-1), wFt S 0)
def o_corr (S : SS) (a b : Int) : Value × SS := if (0 ≤ a ∧ a < 12) ∧ 0 ≤ b ∧ b < 12 then o_two S a b 2 (fun k l => (vi ((S.1.2 k).2.1 + (S.1.2 l).2.1 - 1), wSh (wFt S 0) 2 ((S.1.2 k).2.1 + (S.1.2 l).2.1 - 1) (fun j => co (S.1.2 k).2.2 (S.1.2 k).2.1 (S.1.2 l).2.2 (S.1.2 l).2.1 j))) else (vi (-1), wFt S 0)
def o_slide (S : SS) (a w : Int) : Value × SS := if 0 ≤ a ∧ a < 12 then (if 1 ≤ w ∧ w ≤ 64 then o_one S a 3 (fun k => (vi (max ((S.1.2 k).2.1 - w + 1) 0), wSh (wFt S 0) 2 (max ((S.1.2 k).2.1 - w + 1) 0) (fun j => wn (S.1.2 k).2.2 j w))) else (vi (-2), wFt S 0)) else (vi (-1), wFt S 0)
section PRO
variable {H : HP} {S : SS} {Q : Option Value → HP → Prop} {a b w n : Int}
theorem CI.fo (h : CI H S) : FO H := ⟨⟨h.c 25 (by decide), h.c 26 (by decide), h.c 27 (by decide)⟩, h.c 32 (by decide), h.c 35 (by decide), h.c 38 (by decide)⟩
theorem CI.fw (h : CI H S) : FW H := ⟨h.c 33 (by decide), h.c 34 (by decide), h.c 36 (by decide), h.c 37 (by decide), h.c 39 (by decide), h.c 40 (by decide)⟩
theorem CI.prod {H' : HP} (h : CI H S) {n : Int} {V : Int → Int} (f : Fm 28 40 H H') (hp : PS H' n 669690699 354521948 V n) (hF : FO H') (hW : FW H') (hn : 0 ≤ n ∧ n ≤ 127) (hV : Vr V n) : CI H' (wSh S 2 n V) := by
  obtain ⟨p1, ⟨U, W, p2, p3, p4⟩, p5⟩ := hp
  obtain ⟨-, q32, q35, q38⟩ := hF
  obtain ⟨w33, w34, w36, w37, w39, w40⟩ := hW
  refine h.upd f.1 (fun a ha => f.2.2 a (by omega)) rfl (fun a ha => ?_) ?_
  · by_cases a28 : a < 28
    · rw [f.2.2 a (by omega)]; exact (Sh_2 (by omega)).mpr (h.1 a ha)
    · have : a = 28 ∨ a = 29 ∨ a = 30 ∨ a = 31 ∨ a = 32 ∨ a = 33 ∨ a = 34 ∨ a = 35 ∨ a = 36 ∨ a = 37 ∨ a = 38 ∨ a = 39 ∨ a = 40 := by omega
      rcases this with rfl | rfl | rfl | rfl | rfl | rfl | rfl | rfl | rfl | rfl | rfl | rfl | rfl
      · exact p1
      · exact ⟨U, p2, fun j j0 j1 => (p4 j j0 j1).1⟩
      · exact ⟨W, p3, fun j j0 j1 => (p4 j j0 j1).2⟩
      · exact p5
      · exact q32
      · exact w33
      · exact w34
      · exact q35
      · exact w36
      · exact w37
      · exact q38
      · exact w39
      · exact w40
  · obtain ⟨s1, s2, s3, s4, s5, s6, s7, s8⟩ := h.2.2.1
    exact ⟨s1, s2, hn, s4, s5, s6, s7, hV⟩
theorem cv_V {x y : Int → Int} {nx ny N : Int} (sx : sml x nx) (sy : sml y ny) (hn : 0 ≤ nx ∧ nx ≤ 64) : Vr (fun k => cv x nx y ny k) N := fun k _ _ => by
  have := cv_r sx sy hn k
  dsimp only
  omega
theorem co_V {x y : Int → Int} {nx ny N : Int} (sx : sml x nx) (sy : sml y ny) (hn : 0 ≤ ny ∧ ny ≤ 64) : Vr (fun k => co x nx y ny k) N := fun k _ _ => by
  have h := sm_abs (f := tc x nx y (k - (ny - 1))) (B := 4611686018427387904) (k := ny.toNat) (fun j hj => by
    unfold tc
    split
    · rename_i hq; exact ml (sx _ hq.1 hq.2) (sy j (by omega) (by omega))
    · omega)
  dsimp only
  unfold co
  omega
theorem ci_V {x y : Int → Int} {nx ny M N : Int} (sx : sml x nx) (sy : sml y ny) (hn : 0 ≤ nx ∧ nx ≤ 64) (hm : 0 ≤ ny ∧ ny ≤ 64) : Vr (fun k => ci x nx y ny M k) N := fun k _ _ => by
  have h1 : ∀ j : Nat, j < nx.toNat → -295147905179352825856 ≤ ci2 x y ny M k j ∧ ci2 x y ny M k j ≤ 295147905179352825856 := fun j hj => by
    have h := sm_abs (f := tr x y M k j) (B := 4611686018427387904) (k := ny.toNat) (fun i hi => by
      unfold tr
      split
      · exact ml (sx j (by omega) (by omega)) (sy i (by omega) (by omega))
      · omega)
    unfold ci2
    omega
  have h := sm_abs (f := ci2 x y ny M k) (B := 295147905179352825856) (k := nx.toNat) h1
  dsimp only
  unfold ci
  omega
theorem wn_V {x : Int → Int} {nx w : Int} (hx : ∀ j, 0 ≤ j → j < nx → -9223372036854775808 ≤ x j ∧ x j ≤ 9223372036854775807) (hw : 1 ≤ w ∧ w ≤ 64) : Vr (fun k => wn x k w) (max (nx - w + 1) 0) := fun k k0 k1 => by
  have h := sm_abs (f := fun t => x (k + t)) (B := 9223372036854775808) (k := w.toNat) (fun j hj => by
    have := hx (k + j) (by omega) (by omega)
    omega)
  dsimp only
  unfold wn
  omega

theorem cx_mul (hc : CI H S) (c : (-2147483648 ≤ a ∧ a ≤ 2147483647) ∧ (-2147483648 ≤ b ∧ b ≤ 2147483647) ∧ (-2147483648 ≤ w ∧ w ≤ 2147483647)) (hq : CG H Q (o_mul S a b w)) : Go 83 0 [some (.ref 1), some (vi a), some (vi b), some (vi w), none, none] [] H Q := by
  have hx := hc.x
  have h2 := hc.pl
  unfold o_mul CG at hq
  by_cases ha : 0 ≤ a ∧ a < 12
  · by_cases hb : 0 ≤ b ∧ b < 12
    · rw [if_pos ⟨ha, hb⟩] at hq
      by_cases hv0 : 0 ≤ w ∧ w ≤ 2
      · rw [if_pos hv0] at hq
        have hc1 := hc.ft 0
        unfold o_two at hq
        cases hoa : S.1.1 a with
        | none =>
          cases hob : S.1.1 b with
          | none =>
            rw [hoa, hob] at hq
            dsimp only at hq
            simp (disch := omega) only [gX8_multiply_0, gX8_multiply_1, gX8_multiply_2, pf_8_12, gX8_multiply_5, gX8_multiply_6, gX8_multiply_9T, gX8_multiply_9F, gX8_multiply_12, gX8_multiply_13, gX8_multiply_16T, gX8_multiply_16F, gX8_multiply_19, gX8_multiply_20, gX8_multiply_21, gX8_multiply_22, gX8_multiply_25T, gX8_multiply_25F, gX8_multiply_28, gX8_multiply_30, gX8_multiply_31, gX8_multiply_32, fl_8_0, gX8_multiply_35, gX8_multiply_36, aR_g, gX8_multiply_37, gX8_multiply_37N, gX8_multiply_39, gX8_multiply_40, gX8_multiply_43, gX8_multiply_44, gX8_multiply_45, gX8_multiply_45N, gX8_multiply_47, gX8_multiply_47N, gX8_multiply_49T, gX8_multiply_49F, gX8_multiply_52, gX8_multiply_52N, gX8_multiply_54T, gX8_multiply_54F, gX8_multiply_57, gX8_multiply_58, gX8_multiply_59, gX8_multiply_62, gX8_multiply_63, gX8_multiply_63N, gX8_multiply_65, fl_5_0, gX8_multiply_68, gX8_multiply_69T, gX8_multiply_69F, gX8_multiply_72, gX8_multiply_72N, gX8_multiply_74, gX8_multiply_77, gX8_multiply_78T, gX8_multiply_78F, gX8_multiply_81, gX8_multiply_82, gX8_multiply_83, gX8_multiply_86, gX8_multiply_87, gX8_multiply_88, gX8_multiply_89T, gX8_multiply_89F, gX8_multiply_92, gX8_multiply_92N, gX8_multiply_94, gX8_multiply_94N, gX8_multiply_96, gX8_multiply_99T, gX8_multiply_99F, gX8_multiply_102, gX8_multiply_104, gX8_multiply_105, gX8_multiply_106T, gX8_multiply_106F, gX8_multiply_109, gX8_multiply_110, fl_8_2, gX8_multiply_113, gX8_multiply_113N, gX8_multiply_115, gX8_multiply_115N, gX8_multiply_117, gX8_multiply_120, gX8_multiply_121, gX8_multiply_122T, gX8_multiply_122F, gX8_multiply_125, gX8_multiply_126, gX8_multiply_129, gX8_multiply_129N, gX8_multiply_131, gX8_multiply_131N, gX8_multiply_133, gX8_multiply_136, gX8_multiply_137, gX8_multiply_138T, gX8_multiply_138F, gX8_multiply_141, gX8_multiply_142, gX8_multiply_145, gX8_multiply_145N, gX8_multiply_147, gX8_multiply_147N, gX8_multiply_149, gX8_multiply_152, gX8_multiply_153, gX8_multiply_156, fl_4_2, gX8_multiply_159, Rd_some, Wr_some, Cont_some, Cont_none, iso_O, true_and, hg_s, hg_n, hput_hput, gX8_faulted_0, gX8_faulted_1, gX8_faulted_2, pf_8_12, gX8_faulted_5, gX8_faulted_7, gX8_faulted_8, gX8_faulted_9, Rd_some, Wr_some, Cont_some, Cont_none, iso_O, true_and, hg_s, hg_n, hput_hput, hx, h2, sp_plT, sp_wyT, aR_g, hoa, hob, va_rf_n]
            exact hq _ (hc.ft 1) (FX.put (by decide))
          | some l =>
            rw [hoa, hob] at hq
            dsimp only at hq
            simp (disch := omega) only [gX8_multiply_0, gX8_multiply_1, gX8_multiply_2, pf_8_12, gX8_multiply_5, gX8_multiply_6, gX8_multiply_9T, gX8_multiply_9F, gX8_multiply_12, gX8_multiply_13, gX8_multiply_16T, gX8_multiply_16F, gX8_multiply_19, gX8_multiply_20, gX8_multiply_21, gX8_multiply_22, gX8_multiply_25T, gX8_multiply_25F, gX8_multiply_28, gX8_multiply_30, gX8_multiply_31, gX8_multiply_32, fl_8_0, gX8_multiply_35, gX8_multiply_36, aR_g, gX8_multiply_37, gX8_multiply_37N, gX8_multiply_39, gX8_multiply_40, gX8_multiply_43, gX8_multiply_44, gX8_multiply_45, gX8_multiply_45N, gX8_multiply_47, gX8_multiply_47N, gX8_multiply_49T, gX8_multiply_49F, gX8_multiply_52, gX8_multiply_52N, gX8_multiply_54T, gX8_multiply_54F, gX8_multiply_57, gX8_multiply_58, gX8_multiply_59, gX8_multiply_62, gX8_multiply_63, gX8_multiply_63N, gX8_multiply_65, fl_5_0, gX8_multiply_68, gX8_multiply_69T, gX8_multiply_69F, gX8_multiply_72, gX8_multiply_72N, gX8_multiply_74, gX8_multiply_77, gX8_multiply_78T, gX8_multiply_78F, gX8_multiply_81, gX8_multiply_82, gX8_multiply_83, gX8_multiply_86, gX8_multiply_87, gX8_multiply_88, gX8_multiply_89T, gX8_multiply_89F, gX8_multiply_92, gX8_multiply_92N, gX8_multiply_94, gX8_multiply_94N, gX8_multiply_96, gX8_multiply_99T, gX8_multiply_99F, gX8_multiply_102, gX8_multiply_104, gX8_multiply_105, gX8_multiply_106T, gX8_multiply_106F, gX8_multiply_109, gX8_multiply_110, fl_8_2, gX8_multiply_113, gX8_multiply_113N, gX8_multiply_115, gX8_multiply_115N, gX8_multiply_117, gX8_multiply_120, gX8_multiply_121, gX8_multiply_122T, gX8_multiply_122F, gX8_multiply_125, gX8_multiply_126, gX8_multiply_129, gX8_multiply_129N, gX8_multiply_131, gX8_multiply_131N, gX8_multiply_133, gX8_multiply_136, gX8_multiply_137, gX8_multiply_138T, gX8_multiply_138F, gX8_multiply_141, gX8_multiply_142, gX8_multiply_145, gX8_multiply_145N, gX8_multiply_147, gX8_multiply_147N, gX8_multiply_149, gX8_multiply_152, gX8_multiply_153, gX8_multiply_156, fl_4_2, gX8_multiply_159, Rd_some, Wr_some, Cont_some, Cont_none, iso_O, true_and, hg_s, hg_n, hput_hput, gX8_faulted_0, gX8_faulted_1, gX8_faulted_2, pf_8_12, gX8_faulted_5, gX8_faulted_7, gX8_faulted_8, gX8_faulted_9, Rd_some, Wr_some, Cont_some, Cont_none, iso_O, true_and, hg_s, hg_n, hput_hput, hx, h2, sp_plT, sp_wyT, aR_g, hoa, hob, va_rf_n, va_rf_s]
            exact hq _ (hc.ft 1) (FX.put (by decide))
        | some k =>
          cases hob : S.1.1 b with
          | none =>
            rw [hoa, hob] at hq
            dsimp only at hq
            simp (disch := omega) only [gX8_multiply_0, gX8_multiply_1, gX8_multiply_2, pf_8_12, gX8_multiply_5, gX8_multiply_6, gX8_multiply_9T, gX8_multiply_9F, gX8_multiply_12, gX8_multiply_13, gX8_multiply_16T, gX8_multiply_16F, gX8_multiply_19, gX8_multiply_20, gX8_multiply_21, gX8_multiply_22, gX8_multiply_25T, gX8_multiply_25F, gX8_multiply_28, gX8_multiply_30, gX8_multiply_31, gX8_multiply_32, fl_8_0, gX8_multiply_35, gX8_multiply_36, aR_g, gX8_multiply_37, gX8_multiply_37N, gX8_multiply_39, gX8_multiply_40, gX8_multiply_43, gX8_multiply_44, gX8_multiply_45, gX8_multiply_45N, gX8_multiply_47, gX8_multiply_47N, gX8_multiply_49T, gX8_multiply_49F, gX8_multiply_52, gX8_multiply_52N, gX8_multiply_54T, gX8_multiply_54F, gX8_multiply_57, gX8_multiply_58, gX8_multiply_59, gX8_multiply_62, gX8_multiply_63, gX8_multiply_63N, gX8_multiply_65, fl_5_0, gX8_multiply_68, gX8_multiply_69T, gX8_multiply_69F, gX8_multiply_72, gX8_multiply_72N, gX8_multiply_74, gX8_multiply_77, gX8_multiply_78T, gX8_multiply_78F, gX8_multiply_81, gX8_multiply_82, gX8_multiply_83, gX8_multiply_86, gX8_multiply_87, gX8_multiply_88, gX8_multiply_89T, gX8_multiply_89F, gX8_multiply_92, gX8_multiply_92N, gX8_multiply_94, gX8_multiply_94N, gX8_multiply_96, gX8_multiply_99T, gX8_multiply_99F, gX8_multiply_102, gX8_multiply_104, gX8_multiply_105, gX8_multiply_106T, gX8_multiply_106F, gX8_multiply_109, gX8_multiply_110, fl_8_2, gX8_multiply_113, gX8_multiply_113N, gX8_multiply_115, gX8_multiply_115N, gX8_multiply_117, gX8_multiply_120, gX8_multiply_121, gX8_multiply_122T, gX8_multiply_122F, gX8_multiply_125, gX8_multiply_126, gX8_multiply_129, gX8_multiply_129N, gX8_multiply_131, gX8_multiply_131N, gX8_multiply_133, gX8_multiply_136, gX8_multiply_137, gX8_multiply_138T, gX8_multiply_138F, gX8_multiply_141, gX8_multiply_142, gX8_multiply_145, gX8_multiply_145N, gX8_multiply_147, gX8_multiply_147N, gX8_multiply_149, gX8_multiply_152, gX8_multiply_153, gX8_multiply_156, fl_4_2, gX8_multiply_159, Rd_some, Wr_some, Cont_some, Cont_none, iso_O, true_and, hg_s, hg_n, hput_hput, gX8_faulted_0, gX8_faulted_1, gX8_faulted_2, pf_8_12, gX8_faulted_5, gX8_faulted_7, gX8_faulted_8, gX8_faulted_9, Rd_some, Wr_some, Cont_some, Cont_none, iso_O, true_and, hg_s, hg_n, hput_hput, hx, h2, sp_plT, sp_wyT, aR_g, hoa, hob, va_rf_n, va_rf_s]
            exact hq _ (hc.ft 1) (FX.put (by decide))
          | some l =>
            rw [hoa, hob] at hq
            dsimp only at hq
            have ra : Rw (hput H 1 (cX (wFt S 0))) k (S.1.2 k) := hc1.rw' (S := wFt S 0) ha hoa
            have rb : Rw (hput H 1 (cX (wFt S 0))) l (S.1.2 l) := hc1.rw' (S := wFt S 0) hb hob
            have la := ra.2.2.2.1
            have lb := rb.2.2.2.1
            have f1 : FX H (hput H 1 (cX (wFt S 0))) := FX.put (by decide)
            simp (disch := omega) only [gX8_multiply_0, gX8_multiply_1, gX8_multiply_2, pf_8_12, gX8_multiply_5, gX8_multiply_6, gX8_multiply_9T, gX8_multiply_9F, gX8_multiply_12, gX8_multiply_13, gX8_multiply_16T, gX8_multiply_16F, gX8_multiply_19, gX8_multiply_20, gX8_multiply_21, gX8_multiply_22, gX8_multiply_25T, gX8_multiply_25F, gX8_multiply_28, gX8_multiply_30, gX8_multiply_31, gX8_multiply_32, fl_8_0, gX8_multiply_35, gX8_multiply_36, aR_g, gX8_multiply_37, gX8_multiply_37N, gX8_multiply_39, gX8_multiply_40, gX8_multiply_43, gX8_multiply_44, gX8_multiply_45, gX8_multiply_45N, Rd_some, Wr_some, Cont_some, Cont_none, iso_O, true_and, hg_s, hg_n, hput_hput, hx, h2, sp_plT, sp_wyT, aR_g, hoa, hob, va_rf_s]
            change Go _ _ _ _ (hput H 1 (cX (wFt S 0))) _
            by_cases hl : (S.1.2 k).1 ≤ 2 ∧ (S.1.2 l).1 ≤ 2
            · rw [if_pos hl] at hq
              generalize hput H 1 (cX (wFt S 0)) = H1 at hc1 ra rb f1
              simp (disch := omega) only [gX8_multiply_47, gX8_multiply_47N, gX8_multiply_49T, gX8_multiply_49F, gX8_multiply_52, gX8_multiply_52N, gX8_multiply_54T, gX8_multiply_54F, gX8_multiply_57, gX8_multiply_58, gX8_multiply_59, gX8_multiply_62, gX8_multiply_63, gX8_multiply_63N, gX8_multiply_65, fl_5_0, gX8_multiply_68, gX8_multiply_69T, gX8_multiply_69F, gX8_multiply_72, gX8_multiply_72N, gX8_multiply_74, gX8_multiply_77, gX8_multiply_78T, gX8_multiply_78F, gX8_multiply_81, gX8_multiply_82, gX8_multiply_83, gX8_multiply_86, Rd_some, Wr_some, Cont_some, Cont_none, iso_O, true_and, hg_s, hg_n, hput_hput, ra.2.1, rb.2.1]
              have hA := ra.RW
              have hB := rb.RW
              have sA := ra.2.2.2.2.2.2 hl.1
              have sB := rb.2.2.2.2.2.2 hl.2
              have nA := hA.2.2.2.1
              have nB := hB.2.2.2.1
              have hps := hc1.ps
              have hF := hc1.fo
              have hW := hc1.fw
              have w3 : w = 0 ∨ w = 1 ∨ w = 2 := by omega
              rcases w3 with rfl | rfl | rfl
              · rw [if_neg (fun t => absurd t.1 (by decide))] at hq
                simp (disch := omega) only [gX8_multiply_87, gX8_multiply_88, gX8_multiply_89T, gX8_multiply_89F, gX8_multiply_92, gX8_multiply_92N, gX8_multiply_94, gX8_multiply_94N, gX8_multiply_96, gX8_multiply_99T, gX8_multiply_99F, gX8_multiply_102, gX8_multiply_104, gX8_multiply_105, gX8_multiply_106T, gX8_multiply_106F, gX8_multiply_109, gX8_multiply_110, fl_8_2, gX8_multiply_113, gX8_multiply_113N, gX8_multiply_115, gX8_multiply_115N, gX8_multiply_117, Rd_some, Wr_some, Cont_some, Cont_none, iso_O, true_and, hg_s, hg_n, hput_hput, hc1.x, hps.1]
                refine sp_plain sA sB hA hB hps (fun H' f' p' => ?_)
                have hx' : hget H' 1 = cX (wFt S 0) := by rw [f'.2.2 1 (by omega)]; exact hc1.x
                simp (disch := omega) only [gX8_multiply_120, gX8_multiply_121, gX8_multiply_122T, gX8_multiply_122F, gX8_multiply_125, gX8_multiply_126, fl_8_2, gX8_multiply_129, gX8_multiply_129N, gX8_multiply_131, gX8_multiply_131N, gX8_multiply_133, gX8_multiply_136, gX8_multiply_137, gX8_multiply_138T, gX8_multiply_138F, gX8_multiply_141, gX8_multiply_142, gX8_multiply_145, gX8_multiply_145N, gX8_multiply_147, gX8_multiply_147N, gX8_multiply_149, gX8_multiply_152, gX8_multiply_153, gX8_multiply_156, fl_4_2, gX8_multiply_159, Rd_some, Wr_some, Cont_some, Cont_none, iso_O, true_and, hg_s, hg_n, hput_hput, hx', p'.1]
                exact hq _ (hc1.prod (f'.wd (by omega)) p' (hF.fm f') (hW.fm f') (by omega) (cv_V sA sB (by omega))) (f1.fm f' (by omega))
              · have g1 := gs_r sA (S.1.2 k).2.1.toNat (by omega)
                have g2 := gs_r sB (S.1.2 l).2.1.toNat (by omega)
                by_cases hfit : gs (S.1.2 k).2.2 (S.1.2 k).2.1.toNat 0 * gs (S.1.2 l).2.2 (S.1.2 l).2.1.toNat 0 < 998244353 ∧ 2 * min (S.1.2 k).2.1 (S.1.2 l).2.1 * (gs (S.1.2 k).2.2 (S.1.2 k).2.1.toNat 0 * gs (S.1.2 l).2.2 (S.1.2 l).2.1.toNat 0) < 998244353
                · rw [if_neg (fun t => t.2 hfit)] at hq
                  simp (disch := omega) only [gX8_multiply_87, gX8_multiply_88, gX8_multiply_89T, gX8_multiply_89F, gX8_multiply_92, gX8_multiply_92N, gX8_multiply_94, gX8_multiply_94N, gX8_multiply_96, gX8_multiply_99T, gX8_multiply_99F, gX8_multiply_102, gX8_multiply_104, gX8_multiply_105, gX8_multiply_106T, gX8_multiply_106F, gX8_multiply_109, gX8_multiply_110, fl_8_2, gX8_multiply_113, gX8_multiply_113N, gX8_multiply_115, gX8_multiply_115N, gX8_multiply_117, gX8_multiply_120, gX8_multiply_121, gX8_multiply_122T, gX8_multiply_122F, gX8_multiply_125, gX8_multiply_126, gX8_multiply_129, gX8_multiply_129N, gX8_multiply_131, gX8_multiply_131N, gX8_multiply_133, Rd_some, Wr_some, Cont_some, Cont_none, iso_O, true_and, hg_s, hg_n, hput_hput, hc1.x, hps.1, sp_fits hA hB g1 g2 sA sB, if_pos hfit]
                  refine sp_one hA hB hfit.2 (Int.mul_nonneg g1.1 g2.1) hps hF hW (fun H' f' p' F' W' => ?_)
                  have hx' : hget H' 1 = cX (wFt S 0) := by rw [f'.2.2 1 (by omega)]; exact hc1.x
                  simp (disch := omega) only [gX8_multiply_136, gX8_multiply_137, gX8_multiply_138T, gX8_multiply_138F, gX8_multiply_141, gX8_multiply_142, fl_8_2, gX8_multiply_145, gX8_multiply_145N, gX8_multiply_147, gX8_multiply_147N, gX8_multiply_149, gX8_multiply_152, gX8_multiply_153, gX8_multiply_156, fl_4_2, gX8_multiply_159, Rd_some, Wr_some, Cont_some, Cont_none, iso_O, true_and, hg_s, hg_n, hput_hput, hx', p'.1]
                  exact hq _ (hc1.prod (f'.wd (by omega)) p' F' W' (by omega) (cv_V sA sB (by omega))) (f1.fm f' (by omega))
                · rw [if_pos ⟨rfl, hfit⟩] at hq
                  simp (disch := omega) only [gX8_multiply_87, gX8_multiply_88, gX8_multiply_89T, gX8_multiply_89F, gX8_multiply_92, gX8_multiply_92N, gX8_multiply_94, gX8_multiply_94N, gX8_multiply_96, gX8_multiply_99T, gX8_multiply_99F, gX8_multiply_102, gX8_multiply_104, Rd_some, Wr_some, Cont_some, Cont_none, iso_O, true_and, hg_s, hg_n, hput_hput, hc1.x, hps.1, sp_fits hA hB g1 g2 sA sB, if_neg hfit]
                  exact hq _ hc1 f1
              · rw [if_neg (fun t => absurd t.1 (by decide))] at hq
                simp (disch := omega) only [gX8_multiply_87, gX8_multiply_88, gX8_multiply_89T, gX8_multiply_89F, gX8_multiply_92, gX8_multiply_92N, gX8_multiply_94, gX8_multiply_94N, gX8_multiply_96, gX8_multiply_99T, gX8_multiply_99F, gX8_multiply_102, gX8_multiply_104, gX8_multiply_105, gX8_multiply_106T, gX8_multiply_106F, gX8_multiply_109, gX8_multiply_110, fl_8_2, gX8_multiply_113, gX8_multiply_113N, gX8_multiply_115, gX8_multiply_115N, gX8_multiply_117, gX8_multiply_120, gX8_multiply_121, gX8_multiply_122T, gX8_multiply_122F, gX8_multiply_125, gX8_multiply_126, gX8_multiply_129, gX8_multiply_129N, gX8_multiply_131, gX8_multiply_131N, gX8_multiply_133, gX8_multiply_136, gX8_multiply_137, gX8_multiply_138T, gX8_multiply_138F, gX8_multiply_141, gX8_multiply_142, gX8_multiply_145, gX8_multiply_145N, gX8_multiply_147, gX8_multiply_147N, gX8_multiply_149, Rd_some, Wr_some, Cont_some, Cont_none, iso_O, true_and, hg_s, hg_n, hput_hput, hc1.x, hps.1]
                refine sp_three sA sB hA hB hps hF hW (fun H' f' p' F' W' => ?_)
                have hx' : hget H' 1 = cX (wFt S 0) := by rw [f'.2.2 1 (by omega)]; exact hc1.x
                simp (disch := omega) only [gX8_multiply_152, gX8_multiply_153, fl_8_2, gX8_multiply_156, fl_4_2, gX8_multiply_159, Rd_some, Wr_some, Cont_some, Cont_none, iso_O, true_and, hg_s, hg_n, hput_hput, hx', p'.1]
                exact hq _ (hc1.prod (f'.wd (by omega)) p' F' W' (by omega) (cv_V sA sB (by omega))) (f1.fm f' (by omega))
            · rw [if_neg hl] at hq
              by_cases hl2 : (S.1.2 k).1 ≤ 2 <;> simp (disch := omega) only [gX8_multiply_47, gX8_multiply_47N, gX8_multiply_49T, gX8_multiply_49F, gX8_multiply_52, gX8_multiply_52N, gX8_multiply_54T, gX8_multiply_54F, gX8_multiply_57, gX8_multiply_58, gX8_multiply_59, gX8_multiply_62, gX8_multiply_63, gX8_multiply_63N, gX8_multiply_65, fl_5_0, gX8_multiply_68, gX8_multiply_69T, gX8_multiply_69F, gX8_multiply_72, gX8_multiply_72N, gX8_multiply_74, gX8_multiply_77, gX8_multiply_78T, gX8_multiply_78F, gX8_multiply_81, gX8_multiply_82, gX8_multiply_83, gX8_multiply_86, Rd_some, Wr_some, Cont_some, Cont_none, iso_O, true_and, hg_s, hg_n, hput_hput, gX8_faulted_0, gX8_faulted_1, gX8_faulted_2, pf_8_12, gX8_faulted_5, gX8_faulted_7, gX8_faulted_8, gX8_faulted_9, Rd_some, Wr_some, Cont_some, Cont_none, iso_O, true_and, hg_s, hg_n, hput_hput, ra.2.1, rb.2.1] <;> exact hq _ (hc.ft 2) (FX.put (by decide))
      · rw [if_neg hv0] at hq
        simp (disch := omega) only [gX8_multiply_0, gX8_multiply_1, gX8_multiply_2, pf_8_12, gX8_multiply_5, gX8_multiply_6, gX8_multiply_9T, gX8_multiply_9F, gX8_multiply_12, gX8_multiply_13, gX8_multiply_16T, gX8_multiply_16F, gX8_multiply_19, gX8_multiply_20, gX8_multiply_21, gX8_multiply_22, gX8_multiply_25T, gX8_multiply_25F, gX8_multiply_28, gX8_multiply_30, gX8_multiply_31, gX8_multiply_32, fl_8_0, gX8_multiply_35, gX8_multiply_36, aR_g, gX8_multiply_37, gX8_multiply_37N, gX8_multiply_39, gX8_multiply_40, gX8_multiply_43, gX8_multiply_44, gX8_multiply_45, gX8_multiply_45N, gX8_multiply_47, gX8_multiply_47N, gX8_multiply_49T, gX8_multiply_49F, gX8_multiply_52, gX8_multiply_52N, gX8_multiply_54T, gX8_multiply_54F, gX8_multiply_57, gX8_multiply_58, gX8_multiply_59, gX8_multiply_62, gX8_multiply_63, gX8_multiply_63N, gX8_multiply_65, fl_5_0, gX8_multiply_68, gX8_multiply_69T, gX8_multiply_69F, gX8_multiply_72, gX8_multiply_72N, gX8_multiply_74, gX8_multiply_77, gX8_multiply_78T, gX8_multiply_78F, gX8_multiply_81, gX8_multiply_82, gX8_multiply_83, gX8_multiply_86, gX8_multiply_87, gX8_multiply_88, gX8_multiply_89T, gX8_multiply_89F, gX8_multiply_92, gX8_multiply_92N, gX8_multiply_94, gX8_multiply_94N, gX8_multiply_96, gX8_multiply_99T, gX8_multiply_99F, gX8_multiply_102, gX8_multiply_104, gX8_multiply_105, gX8_multiply_106T, gX8_multiply_106F, gX8_multiply_109, gX8_multiply_110, fl_8_2, gX8_multiply_113, gX8_multiply_113N, gX8_multiply_115, gX8_multiply_115N, gX8_multiply_117, gX8_multiply_120, gX8_multiply_121, gX8_multiply_122T, gX8_multiply_122F, gX8_multiply_125, gX8_multiply_126, gX8_multiply_129, gX8_multiply_129N, gX8_multiply_131, gX8_multiply_131N, gX8_multiply_133, gX8_multiply_136, gX8_multiply_137, gX8_multiply_138T, gX8_multiply_138F, gX8_multiply_141, gX8_multiply_142, gX8_multiply_145, gX8_multiply_145N, gX8_multiply_147, gX8_multiply_147N, gX8_multiply_149, gX8_multiply_152, gX8_multiply_153, gX8_multiply_156, fl_4_2, gX8_multiply_159, Rd_some, Wr_some, Cont_some, Cont_none, iso_O, true_and, hg_s, hg_n, hput_hput, hx, sp_plT, sp_wyT, sp_wyF]
        exact hq _ (hc.ft 0) (FX.put (by decide))
    · rw [if_neg (fun t => hb t.2)] at hq
      simp (disch := omega) only [gX8_multiply_0, gX8_multiply_1, gX8_multiply_2, pf_8_12, gX8_multiply_5, gX8_multiply_6, gX8_multiply_9T, gX8_multiply_9F, gX8_multiply_12, gX8_multiply_13, gX8_multiply_16T, gX8_multiply_16F, gX8_multiply_19, gX8_multiply_20, gX8_multiply_21, gX8_multiply_22, gX8_multiply_25T, gX8_multiply_25F, gX8_multiply_28, gX8_multiply_30, gX8_multiply_31, gX8_multiply_32, fl_8_0, gX8_multiply_35, gX8_multiply_36, aR_g, gX8_multiply_37, gX8_multiply_37N, gX8_multiply_39, gX8_multiply_40, gX8_multiply_43, gX8_multiply_44, gX8_multiply_45, gX8_multiply_45N, gX8_multiply_47, gX8_multiply_47N, gX8_multiply_49T, gX8_multiply_49F, gX8_multiply_52, gX8_multiply_52N, gX8_multiply_54T, gX8_multiply_54F, gX8_multiply_57, gX8_multiply_58, gX8_multiply_59, gX8_multiply_62, gX8_multiply_63, gX8_multiply_63N, gX8_multiply_65, fl_5_0, gX8_multiply_68, gX8_multiply_69T, gX8_multiply_69F, gX8_multiply_72, gX8_multiply_72N, gX8_multiply_74, gX8_multiply_77, gX8_multiply_78T, gX8_multiply_78F, gX8_multiply_81, gX8_multiply_82, gX8_multiply_83, gX8_multiply_86, gX8_multiply_87, gX8_multiply_88, gX8_multiply_89T, gX8_multiply_89F, gX8_multiply_92, gX8_multiply_92N, gX8_multiply_94, gX8_multiply_94N, gX8_multiply_96, gX8_multiply_99T, gX8_multiply_99F, gX8_multiply_102, gX8_multiply_104, gX8_multiply_105, gX8_multiply_106T, gX8_multiply_106F, gX8_multiply_109, gX8_multiply_110, fl_8_2, gX8_multiply_113, gX8_multiply_113N, gX8_multiply_115, gX8_multiply_115N, gX8_multiply_117, gX8_multiply_120, gX8_multiply_121, gX8_multiply_122T, gX8_multiply_122F, gX8_multiply_125, gX8_multiply_126, gX8_multiply_129, gX8_multiply_129N, gX8_multiply_131, gX8_multiply_131N, gX8_multiply_133, gX8_multiply_136, gX8_multiply_137, gX8_multiply_138T, gX8_multiply_138F, gX8_multiply_141, gX8_multiply_142, gX8_multiply_145, gX8_multiply_145N, gX8_multiply_147, gX8_multiply_147N, gX8_multiply_149, gX8_multiply_152, gX8_multiply_153, gX8_multiply_156, fl_4_2, gX8_multiply_159, Rd_some, Wr_some, Cont_some, Cont_none, iso_O, true_and, hg_s, hg_n, hput_hput, hx, sp_plT, sp_wyT, sp_plF]
      exact hq _ (hc.ft 0) (FX.put (by decide))
  · rw [if_neg (fun t => ha t.1)] at hq
    simp (disch := omega) only [gX8_multiply_0, gX8_multiply_1, gX8_multiply_2, pf_8_12, gX8_multiply_5, gX8_multiply_6, gX8_multiply_9T, gX8_multiply_9F, gX8_multiply_12, gX8_multiply_13, gX8_multiply_16T, gX8_multiply_16F, gX8_multiply_19, gX8_multiply_20, gX8_multiply_21, gX8_multiply_22, gX8_multiply_25T, gX8_multiply_25F, gX8_multiply_28, gX8_multiply_30, gX8_multiply_31, gX8_multiply_32, fl_8_0, gX8_multiply_35, gX8_multiply_36, aR_g, gX8_multiply_37, gX8_multiply_37N, gX8_multiply_39, gX8_multiply_40, gX8_multiply_43, gX8_multiply_44, gX8_multiply_45, gX8_multiply_45N, gX8_multiply_47, gX8_multiply_47N, gX8_multiply_49T, gX8_multiply_49F, gX8_multiply_52, gX8_multiply_52N, gX8_multiply_54T, gX8_multiply_54F, gX8_multiply_57, gX8_multiply_58, gX8_multiply_59, gX8_multiply_62, gX8_multiply_63, gX8_multiply_63N, gX8_multiply_65, fl_5_0, gX8_multiply_68, gX8_multiply_69T, gX8_multiply_69F, gX8_multiply_72, gX8_multiply_72N, gX8_multiply_74, gX8_multiply_77, gX8_multiply_78T, gX8_multiply_78F, gX8_multiply_81, gX8_multiply_82, gX8_multiply_83, gX8_multiply_86, gX8_multiply_87, gX8_multiply_88, gX8_multiply_89T, gX8_multiply_89F, gX8_multiply_92, gX8_multiply_92N, gX8_multiply_94, gX8_multiply_94N, gX8_multiply_96, gX8_multiply_99T, gX8_multiply_99F, gX8_multiply_102, gX8_multiply_104, gX8_multiply_105, gX8_multiply_106T, gX8_multiply_106F, gX8_multiply_109, gX8_multiply_110, fl_8_2, gX8_multiply_113, gX8_multiply_113N, gX8_multiply_115, gX8_multiply_115N, gX8_multiply_117, gX8_multiply_120, gX8_multiply_121, gX8_multiply_122T, gX8_multiply_122F, gX8_multiply_125, gX8_multiply_126, gX8_multiply_129, gX8_multiply_129N, gX8_multiply_131, gX8_multiply_131N, gX8_multiply_133, gX8_multiply_136, gX8_multiply_137, gX8_multiply_138T, gX8_multiply_138F, gX8_multiply_141, gX8_multiply_142, gX8_multiply_145, gX8_multiply_145N, gX8_multiply_147, gX8_multiply_147N, gX8_multiply_149, gX8_multiply_152, gX8_multiply_153, gX8_multiply_156, fl_4_2, gX8_multiply_159, Rd_some, Wr_some, Cont_some, Cont_none, iso_O, true_and, hg_s, hg_n, hput_hput, hx, sp_plT, sp_wyT, sp_plF]
    exact hq _ (hc.ft 0) (FX.put (by decide))

theorem cx_circ (hc : CI H S) (c : (-2147483648 ≤ a ∧ a ≤ 2147483647) ∧ (-2147483648 ≤ b ∧ b ≤ 2147483647) ∧ (-2147483648 ≤ n ∧ n ≤ 2147483647)) (hq : CG H Q (o_circ S a b n)) : Go 84 0 [some (.ref 1), some (vi a), some (vi b), some (vi n), none, none] [] H Q := by
  have hx := hc.x
  have h2 := hc.pl
  unfold o_circ CG at hq
  by_cases ha : 0 ≤ a ∧ a < 12
  · by_cases hb : 0 ≤ b ∧ b < 12
    · rw [if_pos ⟨ha, hb⟩] at hq
      by_cases hv0 : 1 ≤ n ∧ n ≤ 64
      · rw [if_pos hv0] at hq
        have hc1 := hc.ft 0
        unfold o_two at hq
        cases hoa : S.1.1 a with
        | none =>
          cases hob : S.1.1 b with
          | none =>
            rw [hoa, hob] at hq
            dsimp only at hq
            simp (disch := omega) only [gX8_circular_0, gX8_circular_1, gX8_circular_2, pf_8_12, gX8_circular_5, gX8_circular_6, gX8_circular_9T, gX8_circular_9F, gX8_circular_12, gX8_circular_13, gX8_circular_16T, gX8_circular_16F, gX8_circular_19, gX8_circular_20, gX8_circular_21, gX8_circular_22, gX8_circular_25T, gX8_circular_25F, gX8_circular_28, gX8_circular_30, gX8_circular_31, gX8_circular_32, fl_8_0, gX8_circular_35, gX8_circular_36, aR_g, gX8_circular_37, gX8_circular_37N, gX8_circular_39, gX8_circular_40, gX8_circular_43, gX8_circular_44, gX8_circular_45, gX8_circular_45N, gX8_circular_47, gX8_circular_47N, gX8_circular_49T, gX8_circular_49F, gX8_circular_52, gX8_circular_52N, gX8_circular_54T, gX8_circular_54F, gX8_circular_57, gX8_circular_58, gX8_circular_59, gX8_circular_62, gX8_circular_63, gX8_circular_63N, gX8_circular_65, fl_5_0, gX8_circular_68, gX8_circular_69T, gX8_circular_69F, gX8_circular_72, gX8_circular_72N, gX8_circular_74, gX8_circular_77, gX8_circular_78T, gX8_circular_78F, gX8_circular_81, gX8_circular_82, gX8_circular_83, gX8_circular_86, gX8_circular_87, gX8_circular_88, fl_8_2, gX8_circular_91, gX8_circular_91N, gX8_circular_93, gX8_circular_93N, gX8_circular_95, gX8_circular_96, gX8_circular_99, gX8_circular_100, gX8_circular_103, fl_4_2, gX8_circular_106, Rd_some, Wr_some, Cont_some, Cont_none, iso_O, true_and, hg_s, hg_n, hput_hput, gX8_faulted_0, gX8_faulted_1, gX8_faulted_2, pf_8_12, gX8_faulted_5, gX8_faulted_7, gX8_faulted_8, gX8_faulted_9, Rd_some, Wr_some, Cont_some, Cont_none, iso_O, true_and, hg_s, hg_n, hput_hput, hx, h2, sp_plT, sp_cnT, aR_g, hoa, hob, va_rf_n]
            exact hq _ (hc.ft 1) (FX.put (by decide))
          | some l =>
            rw [hoa, hob] at hq
            dsimp only at hq
            simp (disch := omega) only [gX8_circular_0, gX8_circular_1, gX8_circular_2, pf_8_12, gX8_circular_5, gX8_circular_6, gX8_circular_9T, gX8_circular_9F, gX8_circular_12, gX8_circular_13, gX8_circular_16T, gX8_circular_16F, gX8_circular_19, gX8_circular_20, gX8_circular_21, gX8_circular_22, gX8_circular_25T, gX8_circular_25F, gX8_circular_28, gX8_circular_30, gX8_circular_31, gX8_circular_32, fl_8_0, gX8_circular_35, gX8_circular_36, aR_g, gX8_circular_37, gX8_circular_37N, gX8_circular_39, gX8_circular_40, gX8_circular_43, gX8_circular_44, gX8_circular_45, gX8_circular_45N, gX8_circular_47, gX8_circular_47N, gX8_circular_49T, gX8_circular_49F, gX8_circular_52, gX8_circular_52N, gX8_circular_54T, gX8_circular_54F, gX8_circular_57, gX8_circular_58, gX8_circular_59, gX8_circular_62, gX8_circular_63, gX8_circular_63N, gX8_circular_65, fl_5_0, gX8_circular_68, gX8_circular_69T, gX8_circular_69F, gX8_circular_72, gX8_circular_72N, gX8_circular_74, gX8_circular_77, gX8_circular_78T, gX8_circular_78F, gX8_circular_81, gX8_circular_82, gX8_circular_83, gX8_circular_86, gX8_circular_87, gX8_circular_88, fl_8_2, gX8_circular_91, gX8_circular_91N, gX8_circular_93, gX8_circular_93N, gX8_circular_95, gX8_circular_96, gX8_circular_99, gX8_circular_100, gX8_circular_103, fl_4_2, gX8_circular_106, Rd_some, Wr_some, Cont_some, Cont_none, iso_O, true_and, hg_s, hg_n, hput_hput, gX8_faulted_0, gX8_faulted_1, gX8_faulted_2, pf_8_12, gX8_faulted_5, gX8_faulted_7, gX8_faulted_8, gX8_faulted_9, Rd_some, Wr_some, Cont_some, Cont_none, iso_O, true_and, hg_s, hg_n, hput_hput, hx, h2, sp_plT, sp_cnT, aR_g, hoa, hob, va_rf_n, va_rf_s]
            exact hq _ (hc.ft 1) (FX.put (by decide))
        | some k =>
          cases hob : S.1.1 b with
          | none =>
            rw [hoa, hob] at hq
            dsimp only at hq
            simp (disch := omega) only [gX8_circular_0, gX8_circular_1, gX8_circular_2, pf_8_12, gX8_circular_5, gX8_circular_6, gX8_circular_9T, gX8_circular_9F, gX8_circular_12, gX8_circular_13, gX8_circular_16T, gX8_circular_16F, gX8_circular_19, gX8_circular_20, gX8_circular_21, gX8_circular_22, gX8_circular_25T, gX8_circular_25F, gX8_circular_28, gX8_circular_30, gX8_circular_31, gX8_circular_32, fl_8_0, gX8_circular_35, gX8_circular_36, aR_g, gX8_circular_37, gX8_circular_37N, gX8_circular_39, gX8_circular_40, gX8_circular_43, gX8_circular_44, gX8_circular_45, gX8_circular_45N, gX8_circular_47, gX8_circular_47N, gX8_circular_49T, gX8_circular_49F, gX8_circular_52, gX8_circular_52N, gX8_circular_54T, gX8_circular_54F, gX8_circular_57, gX8_circular_58, gX8_circular_59, gX8_circular_62, gX8_circular_63, gX8_circular_63N, gX8_circular_65, fl_5_0, gX8_circular_68, gX8_circular_69T, gX8_circular_69F, gX8_circular_72, gX8_circular_72N, gX8_circular_74, gX8_circular_77, gX8_circular_78T, gX8_circular_78F, gX8_circular_81, gX8_circular_82, gX8_circular_83, gX8_circular_86, gX8_circular_87, gX8_circular_88, fl_8_2, gX8_circular_91, gX8_circular_91N, gX8_circular_93, gX8_circular_93N, gX8_circular_95, gX8_circular_96, gX8_circular_99, gX8_circular_100, gX8_circular_103, fl_4_2, gX8_circular_106, Rd_some, Wr_some, Cont_some, Cont_none, iso_O, true_and, hg_s, hg_n, hput_hput, gX8_faulted_0, gX8_faulted_1, gX8_faulted_2, pf_8_12, gX8_faulted_5, gX8_faulted_7, gX8_faulted_8, gX8_faulted_9, Rd_some, Wr_some, Cont_some, Cont_none, iso_O, true_and, hg_s, hg_n, hput_hput, hx, h2, sp_plT, sp_cnT, aR_g, hoa, hob, va_rf_n, va_rf_s]
            exact hq _ (hc.ft 1) (FX.put (by decide))
          | some l =>
            rw [hoa, hob] at hq
            dsimp only at hq
            have ra : Rw (hput H 1 (cX (wFt S 0))) k (S.1.2 k) := hc1.rw' (S := wFt S 0) ha hoa
            have rb : Rw (hput H 1 (cX (wFt S 0))) l (S.1.2 l) := hc1.rw' (S := wFt S 0) hb hob
            have la := ra.2.2.2.1
            have lb := rb.2.2.2.1
            have f1 : FX H (hput H 1 (cX (wFt S 0))) := FX.put (by decide)
            simp (disch := omega) only [gX8_circular_0, gX8_circular_1, gX8_circular_2, pf_8_12, gX8_circular_5, gX8_circular_6, gX8_circular_9T, gX8_circular_9F, gX8_circular_12, gX8_circular_13, gX8_circular_16T, gX8_circular_16F, gX8_circular_19, gX8_circular_20, gX8_circular_21, gX8_circular_22, gX8_circular_25T, gX8_circular_25F, gX8_circular_28, gX8_circular_30, gX8_circular_31, gX8_circular_32, fl_8_0, gX8_circular_35, gX8_circular_36, aR_g, gX8_circular_37, gX8_circular_37N, gX8_circular_39, gX8_circular_40, gX8_circular_43, gX8_circular_44, gX8_circular_45, gX8_circular_45N, Rd_some, Wr_some, Cont_some, Cont_none, iso_O, true_and, hg_s, hg_n, hput_hput, hx, h2, sp_plT, sp_cnT, aR_g, hoa, hob, va_rf_s]
            change Go _ _ _ _ (hput H 1 (cX (wFt S 0))) _
            by_cases hl : (S.1.2 k).1 ≤ 2 ∧ (S.1.2 l).1 ≤ 2
            · rw [if_pos hl] at hq
              generalize hput H 1 (cX (wFt S 0)) = H1 at hc1 ra rb f1
              simp (disch := omega) only [gX8_circular_47, gX8_circular_47N, gX8_circular_49T, gX8_circular_49F, gX8_circular_52, gX8_circular_52N, gX8_circular_54T, gX8_circular_54F, gX8_circular_57, gX8_circular_58, gX8_circular_59, gX8_circular_62, gX8_circular_63, gX8_circular_63N, gX8_circular_65, fl_5_0, gX8_circular_68, gX8_circular_69T, gX8_circular_69F, gX8_circular_72, gX8_circular_72N, gX8_circular_74, gX8_circular_77, gX8_circular_78T, gX8_circular_78F, gX8_circular_81, gX8_circular_82, gX8_circular_83, gX8_circular_86, Rd_some, Wr_some, Cont_some, Cont_none, iso_O, true_and, hg_s, hg_n, hput_hput, ra.2.1, rb.2.1]
              have hA := ra.RW
              have hB := rb.RW
              have sA := ra.2.2.2.2.2.2 hl.1
              have sB := rb.2.2.2.2.2.2 hl.2
              have nA := hA.2.2.2.1
              have nB := hB.2.2.2.1
              have hps := hc1.ps
              have hF := hc1.fo
              have hW := hc1.fw
              simp (disch := omega) only [gX8_circular_87, gX8_circular_88, fl_8_2, gX8_circular_91, gX8_circular_91N, gX8_circular_93, gX8_circular_93N, gX8_circular_95, gX8_circular_96, Rd_some, Wr_some, Cont_some, Cont_none, iso_O, true_and, hg_s, hg_n, hput_hput, hc1.x, hps.1]
              refine sp_arnd (by omega) sA sB hA hB hps (fun H' f' p' => ?_)
              have hx' : hget H' 1 = cX (wFt S 0) := by rw [f'.2.2 1 (by omega)]; exact hc1.x
              simp (disch := omega) only [gX8_circular_99, gX8_circular_100, fl_8_2, gX8_circular_103, fl_4_2, gX8_circular_106, Rd_some, Wr_some, Cont_some, Cont_none, iso_O, true_and, hg_s, hg_n, hput_hput, hx', p'.1]
              exact hq _ (hc1.prod (f'.wd (by omega)) p' (hF.fm f') (hW.fm f') (by omega) (ci_V sA sB (by omega) (by omega))) (f1.fm f' (by omega))
            · rw [if_neg hl] at hq
              by_cases hl2 : (S.1.2 k).1 ≤ 2 <;> simp (disch := omega) only [gX8_circular_47, gX8_circular_47N, gX8_circular_49T, gX8_circular_49F, gX8_circular_52, gX8_circular_52N, gX8_circular_54T, gX8_circular_54F, gX8_circular_57, gX8_circular_58, gX8_circular_59, gX8_circular_62, gX8_circular_63, gX8_circular_63N, gX8_circular_65, fl_5_0, gX8_circular_68, gX8_circular_69T, gX8_circular_69F, gX8_circular_72, gX8_circular_72N, gX8_circular_74, gX8_circular_77, gX8_circular_78T, gX8_circular_78F, gX8_circular_81, gX8_circular_82, gX8_circular_83, gX8_circular_86, Rd_some, Wr_some, Cont_some, Cont_none, iso_O, true_and, hg_s, hg_n, hput_hput, gX8_faulted_0, gX8_faulted_1, gX8_faulted_2, pf_8_12, gX8_faulted_5, gX8_faulted_7, gX8_faulted_8, gX8_faulted_9, Rd_some, Wr_some, Cont_some, Cont_none, iso_O, true_and, hg_s, hg_n, hput_hput, ra.2.1, rb.2.1] <;> exact hq _ (hc.ft 2) (FX.put (by decide))
      · rw [if_neg hv0] at hq
        simp (disch := omega) only [gX8_circular_0, gX8_circular_1, gX8_circular_2, pf_8_12, gX8_circular_5, gX8_circular_6, gX8_circular_9T, gX8_circular_9F, gX8_circular_12, gX8_circular_13, gX8_circular_16T, gX8_circular_16F, gX8_circular_19, gX8_circular_20, gX8_circular_21, gX8_circular_22, gX8_circular_25T, gX8_circular_25F, gX8_circular_28, gX8_circular_30, gX8_circular_31, gX8_circular_32, fl_8_0, gX8_circular_35, gX8_circular_36, aR_g, gX8_circular_37, gX8_circular_37N, gX8_circular_39, gX8_circular_40, gX8_circular_43, gX8_circular_44, gX8_circular_45, gX8_circular_45N, gX8_circular_47, gX8_circular_47N, gX8_circular_49T, gX8_circular_49F, gX8_circular_52, gX8_circular_52N, gX8_circular_54T, gX8_circular_54F, gX8_circular_57, gX8_circular_58, gX8_circular_59, gX8_circular_62, gX8_circular_63, gX8_circular_63N, gX8_circular_65, fl_5_0, gX8_circular_68, gX8_circular_69T, gX8_circular_69F, gX8_circular_72, gX8_circular_72N, gX8_circular_74, gX8_circular_77, gX8_circular_78T, gX8_circular_78F, gX8_circular_81, gX8_circular_82, gX8_circular_83, gX8_circular_86, gX8_circular_87, gX8_circular_88, fl_8_2, gX8_circular_91, gX8_circular_91N, gX8_circular_93, gX8_circular_93N, gX8_circular_95, gX8_circular_96, gX8_circular_99, gX8_circular_100, gX8_circular_103, fl_4_2, gX8_circular_106, Rd_some, Wr_some, Cont_some, Cont_none, iso_O, true_and, hg_s, hg_n, hput_hput, hx, sp_plT, sp_cnT, sp_cnF]
        exact hq _ (hc.ft 0) (FX.put (by decide))
    · rw [if_neg (fun t => hb t.2)] at hq
      simp (disch := omega) only [gX8_circular_0, gX8_circular_1, gX8_circular_2, pf_8_12, gX8_circular_5, gX8_circular_6, gX8_circular_9T, gX8_circular_9F, gX8_circular_12, gX8_circular_13, gX8_circular_16T, gX8_circular_16F, gX8_circular_19, gX8_circular_20, gX8_circular_21, gX8_circular_22, gX8_circular_25T, gX8_circular_25F, gX8_circular_28, gX8_circular_30, gX8_circular_31, gX8_circular_32, fl_8_0, gX8_circular_35, gX8_circular_36, aR_g, gX8_circular_37, gX8_circular_37N, gX8_circular_39, gX8_circular_40, gX8_circular_43, gX8_circular_44, gX8_circular_45, gX8_circular_45N, gX8_circular_47, gX8_circular_47N, gX8_circular_49T, gX8_circular_49F, gX8_circular_52, gX8_circular_52N, gX8_circular_54T, gX8_circular_54F, gX8_circular_57, gX8_circular_58, gX8_circular_59, gX8_circular_62, gX8_circular_63, gX8_circular_63N, gX8_circular_65, fl_5_0, gX8_circular_68, gX8_circular_69T, gX8_circular_69F, gX8_circular_72, gX8_circular_72N, gX8_circular_74, gX8_circular_77, gX8_circular_78T, gX8_circular_78F, gX8_circular_81, gX8_circular_82, gX8_circular_83, gX8_circular_86, gX8_circular_87, gX8_circular_88, fl_8_2, gX8_circular_91, gX8_circular_91N, gX8_circular_93, gX8_circular_93N, gX8_circular_95, gX8_circular_96, gX8_circular_99, gX8_circular_100, gX8_circular_103, fl_4_2, gX8_circular_106, Rd_some, Wr_some, Cont_some, Cont_none, iso_O, true_and, hg_s, hg_n, hput_hput, hx, sp_plT, sp_cnT, sp_plF]
      exact hq _ (hc.ft 0) (FX.put (by decide))
  · rw [if_neg (fun t => ha t.1)] at hq
    simp (disch := omega) only [gX8_circular_0, gX8_circular_1, gX8_circular_2, pf_8_12, gX8_circular_5, gX8_circular_6, gX8_circular_9T, gX8_circular_9F, gX8_circular_12, gX8_circular_13, gX8_circular_16T, gX8_circular_16F, gX8_circular_19, gX8_circular_20, gX8_circular_21, gX8_circular_22, gX8_circular_25T, gX8_circular_25F, gX8_circular_28, gX8_circular_30, gX8_circular_31, gX8_circular_32, fl_8_0, gX8_circular_35, gX8_circular_36, aR_g, gX8_circular_37, gX8_circular_37N, gX8_circular_39, gX8_circular_40, gX8_circular_43, gX8_circular_44, gX8_circular_45, gX8_circular_45N, gX8_circular_47, gX8_circular_47N, gX8_circular_49T, gX8_circular_49F, gX8_circular_52, gX8_circular_52N, gX8_circular_54T, gX8_circular_54F, gX8_circular_57, gX8_circular_58, gX8_circular_59, gX8_circular_62, gX8_circular_63, gX8_circular_63N, gX8_circular_65, fl_5_0, gX8_circular_68, gX8_circular_69T, gX8_circular_69F, gX8_circular_72, gX8_circular_72N, gX8_circular_74, gX8_circular_77, gX8_circular_78T, gX8_circular_78F, gX8_circular_81, gX8_circular_82, gX8_circular_83, gX8_circular_86, gX8_circular_87, gX8_circular_88, fl_8_2, gX8_circular_91, gX8_circular_91N, gX8_circular_93, gX8_circular_93N, gX8_circular_95, gX8_circular_96, gX8_circular_99, gX8_circular_100, gX8_circular_103, fl_4_2, gX8_circular_106, Rd_some, Wr_some, Cont_some, Cont_none, iso_O, true_and, hg_s, hg_n, hput_hput, hx, sp_plT, sp_cnT, sp_plF]
    exact hq _ (hc.ft 0) (FX.put (by decide))

theorem cx_corr (hc : CI H S) (c : (-2147483648 ≤ a ∧ a ≤ 2147483647) ∧ (-2147483648 ≤ b ∧ b ≤ 2147483647)) (hq : CG H Q (o_corr S a b)) : Go 85 0 [some (.ref 1), some (vi a), some (vi b), none, none] [] H Q := by
  have hx := hc.x
  have h2 := hc.pl
  unfold o_corr CG at hq
  by_cases ha : 0 ≤ a ∧ a < 12
  · by_cases hb : 0 ≤ b ∧ b < 12
    · rw [if_pos ⟨ha, hb⟩] at hq
      have hc1 := hc.ft 0
      unfold o_two at hq
      cases hoa : S.1.1 a with
      | none =>
        cases hob : S.1.1 b with
        | none =>
          rw [hoa, hob] at hq
          dsimp only at hq
          simp (disch := omega) only [gX8_correlate_0, gX8_correlate_1, gX8_correlate_2, pf_8_12, gX8_correlate_5, gX8_correlate_6, gX8_correlate_9T, gX8_correlate_9F, gX8_correlate_12, gX8_correlate_13, gX8_correlate_16T, gX8_correlate_16F, gX8_correlate_19, gX8_correlate_20, gX8_correlate_21, gX8_correlate_22, fl_8_0, gX8_correlate_25, gX8_correlate_26, aR_g, gX8_correlate_27, gX8_correlate_27N, gX8_correlate_28, gX8_correlate_29, gX8_correlate_32, gX8_correlate_33, gX8_correlate_34, gX8_correlate_34N, gX8_correlate_36, gX8_correlate_36N, gX8_correlate_37T, gX8_correlate_37F, gX8_correlate_40, gX8_correlate_40N, gX8_correlate_42T, gX8_correlate_42F, gX8_correlate_45, gX8_correlate_46, gX8_correlate_47, gX8_correlate_50, gX8_correlate_51, gX8_correlate_51N, gX8_correlate_52, fl_5_0, gX8_correlate_55, gX8_correlate_56T, gX8_correlate_56F, gX8_correlate_59, gX8_correlate_59N, gX8_correlate_61, gX8_correlate_64, gX8_correlate_65T, gX8_correlate_65F, gX8_correlate_68, gX8_correlate_69, gX8_correlate_70, gX8_correlate_73, gX8_correlate_74, gX8_correlate_75, fl_8_2, gX8_correlate_78, gX8_correlate_78N, gX8_correlate_79, gX8_correlate_79N, gX8_correlate_81, gX8_correlate_84, gX8_correlate_85, gX8_correlate_88, fl_4_2, gX8_correlate_91, Rd_some, Wr_some, Cont_some, Cont_none, iso_O, true_and, hg_s, hg_n, hput_hput, gX8_faulted_0, gX8_faulted_1, gX8_faulted_2, pf_8_12, gX8_faulted_5, gX8_faulted_7, gX8_faulted_8, gX8_faulted_9, Rd_some, Wr_some, Cont_some, Cont_none, iso_O, true_and, hg_s, hg_n, hput_hput, hx, h2, sp_plT, aR_g, hoa, hob, va_rf_n]
          exact hq _ (hc.ft 1) (FX.put (by decide))
        | some l =>
          rw [hoa, hob] at hq
          dsimp only at hq
          simp (disch := omega) only [gX8_correlate_0, gX8_correlate_1, gX8_correlate_2, pf_8_12, gX8_correlate_5, gX8_correlate_6, gX8_correlate_9T, gX8_correlate_9F, gX8_correlate_12, gX8_correlate_13, gX8_correlate_16T, gX8_correlate_16F, gX8_correlate_19, gX8_correlate_20, gX8_correlate_21, gX8_correlate_22, fl_8_0, gX8_correlate_25, gX8_correlate_26, aR_g, gX8_correlate_27, gX8_correlate_27N, gX8_correlate_28, gX8_correlate_29, gX8_correlate_32, gX8_correlate_33, gX8_correlate_34, gX8_correlate_34N, gX8_correlate_36, gX8_correlate_36N, gX8_correlate_37T, gX8_correlate_37F, gX8_correlate_40, gX8_correlate_40N, gX8_correlate_42T, gX8_correlate_42F, gX8_correlate_45, gX8_correlate_46, gX8_correlate_47, gX8_correlate_50, gX8_correlate_51, gX8_correlate_51N, gX8_correlate_52, fl_5_0, gX8_correlate_55, gX8_correlate_56T, gX8_correlate_56F, gX8_correlate_59, gX8_correlate_59N, gX8_correlate_61, gX8_correlate_64, gX8_correlate_65T, gX8_correlate_65F, gX8_correlate_68, gX8_correlate_69, gX8_correlate_70, gX8_correlate_73, gX8_correlate_74, gX8_correlate_75, fl_8_2, gX8_correlate_78, gX8_correlate_78N, gX8_correlate_79, gX8_correlate_79N, gX8_correlate_81, gX8_correlate_84, gX8_correlate_85, gX8_correlate_88, fl_4_2, gX8_correlate_91, Rd_some, Wr_some, Cont_some, Cont_none, iso_O, true_and, hg_s, hg_n, hput_hput, gX8_faulted_0, gX8_faulted_1, gX8_faulted_2, pf_8_12, gX8_faulted_5, gX8_faulted_7, gX8_faulted_8, gX8_faulted_9, Rd_some, Wr_some, Cont_some, Cont_none, iso_O, true_and, hg_s, hg_n, hput_hput, hx, h2, sp_plT, aR_g, hoa, hob, va_rf_n, va_rf_s]
          exact hq _ (hc.ft 1) (FX.put (by decide))
      | some k =>
        cases hob : S.1.1 b with
        | none =>
          rw [hoa, hob] at hq
          dsimp only at hq
          simp (disch := omega) only [gX8_correlate_0, gX8_correlate_1, gX8_correlate_2, pf_8_12, gX8_correlate_5, gX8_correlate_6, gX8_correlate_9T, gX8_correlate_9F, gX8_correlate_12, gX8_correlate_13, gX8_correlate_16T, gX8_correlate_16F, gX8_correlate_19, gX8_correlate_20, gX8_correlate_21, gX8_correlate_22, fl_8_0, gX8_correlate_25, gX8_correlate_26, aR_g, gX8_correlate_27, gX8_correlate_27N, gX8_correlate_28, gX8_correlate_29, gX8_correlate_32, gX8_correlate_33, gX8_correlate_34, gX8_correlate_34N, gX8_correlate_36, gX8_correlate_36N, gX8_correlate_37T, gX8_correlate_37F, gX8_correlate_40, gX8_correlate_40N, gX8_correlate_42T, gX8_correlate_42F, gX8_correlate_45, gX8_correlate_46, gX8_correlate_47, gX8_correlate_50, gX8_correlate_51, gX8_correlate_51N, gX8_correlate_52, fl_5_0, gX8_correlate_55, gX8_correlate_56T, gX8_correlate_56F, gX8_correlate_59, gX8_correlate_59N, gX8_correlate_61, gX8_correlate_64, gX8_correlate_65T, gX8_correlate_65F, gX8_correlate_68, gX8_correlate_69, gX8_correlate_70, gX8_correlate_73, gX8_correlate_74, gX8_correlate_75, fl_8_2, gX8_correlate_78, gX8_correlate_78N, gX8_correlate_79, gX8_correlate_79N, gX8_correlate_81, gX8_correlate_84, gX8_correlate_85, gX8_correlate_88, fl_4_2, gX8_correlate_91, Rd_some, Wr_some, Cont_some, Cont_none, iso_O, true_and, hg_s, hg_n, hput_hput, gX8_faulted_0, gX8_faulted_1, gX8_faulted_2, pf_8_12, gX8_faulted_5, gX8_faulted_7, gX8_faulted_8, gX8_faulted_9, Rd_some, Wr_some, Cont_some, Cont_none, iso_O, true_and, hg_s, hg_n, hput_hput, hx, h2, sp_plT, aR_g, hoa, hob, va_rf_n, va_rf_s]
          exact hq _ (hc.ft 1) (FX.put (by decide))
        | some l =>
          rw [hoa, hob] at hq
          dsimp only at hq
          have ra : Rw (hput H 1 (cX (wFt S 0))) k (S.1.2 k) := hc1.rw' (S := wFt S 0) ha hoa
          have rb : Rw (hput H 1 (cX (wFt S 0))) l (S.1.2 l) := hc1.rw' (S := wFt S 0) hb hob
          have la := ra.2.2.2.1
          have lb := rb.2.2.2.1
          have f1 : FX H (hput H 1 (cX (wFt S 0))) := FX.put (by decide)
          simp (disch := omega) only [gX8_correlate_0, gX8_correlate_1, gX8_correlate_2, pf_8_12, gX8_correlate_5, gX8_correlate_6, gX8_correlate_9T, gX8_correlate_9F, gX8_correlate_12, gX8_correlate_13, gX8_correlate_16T, gX8_correlate_16F, gX8_correlate_19, gX8_correlate_20, gX8_correlate_21, gX8_correlate_22, fl_8_0, gX8_correlate_25, gX8_correlate_26, aR_g, gX8_correlate_27, gX8_correlate_27N, gX8_correlate_28, gX8_correlate_29, gX8_correlate_32, gX8_correlate_33, gX8_correlate_34, gX8_correlate_34N, Rd_some, Wr_some, Cont_some, Cont_none, iso_O, true_and, hg_s, hg_n, hput_hput, hx, h2, sp_plT, aR_g, hoa, hob, va_rf_s]
          change Go _ _ _ _ (hput H 1 (cX (wFt S 0))) _
          by_cases hl : (S.1.2 k).1 ≤ 2 ∧ (S.1.2 l).1 ≤ 2
          · rw [if_pos hl] at hq
            generalize hput H 1 (cX (wFt S 0)) = H1 at hc1 ra rb f1
            simp (disch := omega) only [gX8_correlate_36, gX8_correlate_36N, gX8_correlate_37T, gX8_correlate_37F, gX8_correlate_40, gX8_correlate_40N, gX8_correlate_42T, gX8_correlate_42F, gX8_correlate_45, gX8_correlate_46, gX8_correlate_47, gX8_correlate_50, gX8_correlate_51, gX8_correlate_51N, gX8_correlate_52, fl_5_0, gX8_correlate_55, gX8_correlate_56T, gX8_correlate_56F, gX8_correlate_59, gX8_correlate_59N, gX8_correlate_61, gX8_correlate_64, gX8_correlate_65T, gX8_correlate_65F, gX8_correlate_68, gX8_correlate_69, gX8_correlate_70, gX8_correlate_73, Rd_some, Wr_some, Cont_some, Cont_none, iso_O, true_and, hg_s, hg_n, hput_hput, ra.2.1, rb.2.1]
            have hA := ra.RW
            have hB := rb.RW
            have sA := ra.2.2.2.2.2.2 hl.1
            have sB := rb.2.2.2.2.2.2 hl.2
            have nA := hA.2.2.2.1
            have nB := hB.2.2.2.1
            have hps := hc1.ps
            have hF := hc1.fo
            have hW := hc1.fw
            simp (disch := omega) only [gX8_correlate_74, gX8_correlate_75, fl_8_2, gX8_correlate_78, gX8_correlate_78N, gX8_correlate_79, gX8_correlate_79N, gX8_correlate_81, Rd_some, Wr_some, Cont_some, Cont_none, iso_O, true_and, hg_s, hg_n, hput_hput, hc1.x, hps.1]
            refine sp_along sA sB hA hB hps (fun H' f' p' => ?_)
            have hx' : hget H' 1 = cX (wFt S 0) := by rw [f'.2.2 1 (by omega)]; exact hc1.x
            simp (disch := omega) only [gX8_correlate_84, gX8_correlate_85, fl_8_2, gX8_correlate_88, fl_4_2, gX8_correlate_91, Rd_some, Wr_some, Cont_some, Cont_none, iso_O, true_and, hg_s, hg_n, hput_hput, hx', p'.1]
            exact hq _ (hc1.prod (f'.wd (by omega)) p' (hF.fm f') (hW.fm f') (by omega) (co_V sA sB (by omega))) (f1.fm f' (by omega))
          · rw [if_neg hl] at hq
            by_cases hl2 : (S.1.2 k).1 ≤ 2 <;> simp (disch := omega) only [gX8_correlate_36, gX8_correlate_36N, gX8_correlate_37T, gX8_correlate_37F, gX8_correlate_40, gX8_correlate_40N, gX8_correlate_42T, gX8_correlate_42F, gX8_correlate_45, gX8_correlate_46, gX8_correlate_47, gX8_correlate_50, gX8_correlate_51, gX8_correlate_51N, gX8_correlate_52, fl_5_0, gX8_correlate_55, gX8_correlate_56T, gX8_correlate_56F, gX8_correlate_59, gX8_correlate_59N, gX8_correlate_61, gX8_correlate_64, gX8_correlate_65T, gX8_correlate_65F, gX8_correlate_68, gX8_correlate_69, gX8_correlate_70, gX8_correlate_73, Rd_some, Wr_some, Cont_some, Cont_none, iso_O, true_and, hg_s, hg_n, hput_hput, gX8_faulted_0, gX8_faulted_1, gX8_faulted_2, pf_8_12, gX8_faulted_5, gX8_faulted_7, gX8_faulted_8, gX8_faulted_9, Rd_some, Wr_some, Cont_some, Cont_none, iso_O, true_and, hg_s, hg_n, hput_hput, ra.2.1, rb.2.1] <;> exact hq _ (hc.ft 2) (FX.put (by decide))
    · rw [if_neg (fun t => hb t.2)] at hq
      simp (disch := omega) only [gX8_correlate_0, gX8_correlate_1, gX8_correlate_2, pf_8_12, gX8_correlate_5, gX8_correlate_6, gX8_correlate_9T, gX8_correlate_9F, gX8_correlate_12, gX8_correlate_13, gX8_correlate_16T, gX8_correlate_16F, gX8_correlate_19, gX8_correlate_20, gX8_correlate_21, gX8_correlate_22, fl_8_0, gX8_correlate_25, gX8_correlate_26, aR_g, gX8_correlate_27, gX8_correlate_27N, gX8_correlate_28, gX8_correlate_29, gX8_correlate_32, gX8_correlate_33, gX8_correlate_34, gX8_correlate_34N, gX8_correlate_36, gX8_correlate_36N, gX8_correlate_37T, gX8_correlate_37F, gX8_correlate_40, gX8_correlate_40N, gX8_correlate_42T, gX8_correlate_42F, gX8_correlate_45, gX8_correlate_46, gX8_correlate_47, gX8_correlate_50, gX8_correlate_51, gX8_correlate_51N, gX8_correlate_52, fl_5_0, gX8_correlate_55, gX8_correlate_56T, gX8_correlate_56F, gX8_correlate_59, gX8_correlate_59N, gX8_correlate_61, gX8_correlate_64, gX8_correlate_65T, gX8_correlate_65F, gX8_correlate_68, gX8_correlate_69, gX8_correlate_70, gX8_correlate_73, gX8_correlate_74, gX8_correlate_75, fl_8_2, gX8_correlate_78, gX8_correlate_78N, gX8_correlate_79, gX8_correlate_79N, gX8_correlate_81, gX8_correlate_84, gX8_correlate_85, gX8_correlate_88, fl_4_2, gX8_correlate_91, Rd_some, Wr_some, Cont_some, Cont_none, iso_O, true_and, hg_s, hg_n, hput_hput, hx, sp_plT, sp_plF]
      exact hq _ (hc.ft 0) (FX.put (by decide))
  · rw [if_neg (fun t => ha t.1)] at hq
    simp (disch := omega) only [gX8_correlate_0, gX8_correlate_1, gX8_correlate_2, pf_8_12, gX8_correlate_5, gX8_correlate_6, gX8_correlate_9T, gX8_correlate_9F, gX8_correlate_12, gX8_correlate_13, gX8_correlate_16T, gX8_correlate_16F, gX8_correlate_19, gX8_correlate_20, gX8_correlate_21, gX8_correlate_22, fl_8_0, gX8_correlate_25, gX8_correlate_26, aR_g, gX8_correlate_27, gX8_correlate_27N, gX8_correlate_28, gX8_correlate_29, gX8_correlate_32, gX8_correlate_33, gX8_correlate_34, gX8_correlate_34N, gX8_correlate_36, gX8_correlate_36N, gX8_correlate_37T, gX8_correlate_37F, gX8_correlate_40, gX8_correlate_40N, gX8_correlate_42T, gX8_correlate_42F, gX8_correlate_45, gX8_correlate_46, gX8_correlate_47, gX8_correlate_50, gX8_correlate_51, gX8_correlate_51N, gX8_correlate_52, fl_5_0, gX8_correlate_55, gX8_correlate_56T, gX8_correlate_56F, gX8_correlate_59, gX8_correlate_59N, gX8_correlate_61, gX8_correlate_64, gX8_correlate_65T, gX8_correlate_65F, gX8_correlate_68, gX8_correlate_69, gX8_correlate_70, gX8_correlate_73, gX8_correlate_74, gX8_correlate_75, fl_8_2, gX8_correlate_78, gX8_correlate_78N, gX8_correlate_79, gX8_correlate_79N, gX8_correlate_81, gX8_correlate_84, gX8_correlate_85, gX8_correlate_88, fl_4_2, gX8_correlate_91, Rd_some, Wr_some, Cont_some, Cont_none, iso_O, true_and, hg_s, hg_n, hput_hput, hx, sp_plT, sp_plF]
    exact hq _ (hc.ft 0) (FX.put (by decide))

theorem cx_slide (hc : CI H S) (c : (-2147483648 ≤ a ∧ a ≤ 2147483647) ∧ (-2147483648 ≤ w ∧ w ≤ 2147483647)) (hq : CG H Q (o_slide S a w)) : Go 86 0 [some (.ref 1), some (vi a), some (vi w), none] [] H Q := by
  have hx := hc.x
  have h2 := hc.pl
  unfold o_slide CG at hq
  by_cases ha : 0 ≤ a ∧ a < 12
  · rw [if_pos ha] at hq
    by_cases hv0 : 1 ≤ w ∧ w ≤ 64
    · rw [if_pos hv0] at hq
      have hc1 := hc.ft 0
      unfold o_one at hq
      cases hoa : S.1.1 a with
      | none =>
        rw [hoa] at hq
        dsimp only at hq
        simp (disch := omega) only [gX8_slide_0, gX8_slide_1, gX8_slide_2, pf_8_12, gX8_slide_5, gX8_slide_6, gX8_slide_9T, gX8_slide_9F, gX8_slide_12, gX8_slide_13, gX8_slide_14, gX8_slide_15, gX8_slide_18T, gX8_slide_18F, gX8_slide_21, gX8_slide_23, gX8_slide_24, gX8_slide_25, fl_8_0, gX8_slide_28, gX8_slide_29, aR_g, gX8_slide_30, gX8_slide_30N, gX8_slide_31, gX8_slide_31N, gX8_slide_32T, gX8_slide_32F, gX8_slide_35, gX8_slide_36, gX8_slide_37, gX8_slide_40, gX8_slide_41, gX8_slide_41N, gX8_slide_42, fl_5_0, gX8_slide_45, gX8_slide_46T, gX8_slide_46F, gX8_slide_49, gX8_slide_50, gX8_slide_51, gX8_slide_54, gX8_slide_55, gX8_slide_56, fl_8_2, gX8_slide_59, gX8_slide_59N, gX8_slide_60, gX8_slide_61, gX8_slide_64, gX8_slide_65, gX8_slide_68, fl_4_2, gX8_slide_71, Rd_some, Wr_some, Cont_some, Cont_none, iso_O, true_and, hg_s, hg_n, hput_hput, gX8_faulted_0, gX8_faulted_1, gX8_faulted_2, pf_8_12, gX8_faulted_5, gX8_faulted_7, gX8_faulted_8, gX8_faulted_9, Rd_some, Wr_some, Cont_some, Cont_none, iso_O, true_and, hg_s, hg_n, hput_hput, hx, h2, sp_plT, sp_cnT, aR_g, hoa, va_rf_n]
        exact hq _ (hc.ft 1) (FX.put (by decide))
      | some k =>
        rw [hoa] at hq
        dsimp only at hq
        have ra : Rw (hput H 1 (cX (wFt S 0))) k (S.1.2 k) := hc1.rw' (S := wFt S 0) ha hoa
        have la := ra.2.2.2.1
        have f1 : FX H (hput H 1 (cX (wFt S 0))) := FX.put (by decide)
        simp (disch := omega) only [gX8_slide_0, gX8_slide_1, gX8_slide_2, pf_8_12, gX8_slide_5, gX8_slide_6, gX8_slide_9T, gX8_slide_9F, gX8_slide_12, gX8_slide_13, gX8_slide_14, gX8_slide_15, gX8_slide_18T, gX8_slide_18F, gX8_slide_21, gX8_slide_23, gX8_slide_24, gX8_slide_25, fl_8_0, gX8_slide_28, gX8_slide_29, aR_g, gX8_slide_30, gX8_slide_30N, Rd_some, Wr_some, Cont_some, Cont_none, iso_O, true_and, hg_s, hg_n, hput_hput, hx, h2, sp_plT, sp_cnT, aR_g, hoa, va_rf_s]
        change Go _ _ _ _ (hput H 1 (cX (wFt S 0))) _
        by_cases hl : (S.1.2 k).1 ≤ 3
        · rw [if_pos hl] at hq
          generalize hput H 1 (cX (wFt S 0)) = H1 at hc1 ra f1
          simp (disch := omega) only [gX8_slide_31, gX8_slide_31N, gX8_slide_32T, gX8_slide_32F, gX8_slide_35, gX8_slide_36, gX8_slide_37, gX8_slide_40, gX8_slide_41, gX8_slide_41N, gX8_slide_42, fl_5_0, gX8_slide_45, gX8_slide_46T, gX8_slide_46F, gX8_slide_49, gX8_slide_50, gX8_slide_51, gX8_slide_54, Rd_some, Wr_some, Cont_some, Cont_none, iso_O, true_and, hg_s, hg_n, hput_hput, ra.2.1]
          have hA := ra.RW
          have nA := hA.2.2.2.1
          have hps := hc1.ps
          have hF := hc1.fo
          have hW := hc1.fw
          simp (disch := omega) only [gX8_slide_55, gX8_slide_56, fl_8_2, gX8_slide_59, gX8_slide_59N, gX8_slide_60, gX8_slide_61, Rd_some, Wr_some, Cont_some, Cont_none, iso_O, true_and, hg_s, hg_n, hput_hput, hc1.x, hps.1]
          refine sp_win (by omega) hA hps (fun H' f' p' => ?_)
          have hx' : hget H' 1 = cX (wFt S 0) := by rw [f'.2.2 1 (by omega)]; exact hc1.x
          simp (disch := omega) only [gX8_slide_64, gX8_slide_65, fl_8_2, gX8_slide_68, fl_4_2, gX8_slide_71, Rd_some, Wr_some, Cont_some, Cont_none, iso_O, true_and, hg_s, hg_n, hput_hput, hx', p'.1]
          exact hq _ (hc1.prod (f'.wd (by omega)) p' (hF.fm f') (hW.fm f') (by omega) (wn_V hA.2.2.2.2 (by omega))) (f1.fm f' (by omega))
        · rw [if_neg hl] at hq
          simp (disch := omega) only [gX8_slide_31, gX8_slide_31N, gX8_slide_32T, gX8_slide_32F, gX8_slide_35, gX8_slide_36, gX8_slide_37, gX8_slide_40, gX8_slide_41, gX8_slide_41N, gX8_slide_42, fl_5_0, gX8_slide_45, gX8_slide_46T, gX8_slide_46F, gX8_slide_49, gX8_slide_50, gX8_slide_51, gX8_slide_54, Rd_some, Wr_some, Cont_some, Cont_none, iso_O, true_and, hg_s, hg_n, hput_hput, gX8_faulted_0, gX8_faulted_1, gX8_faulted_2, pf_8_12, gX8_faulted_5, gX8_faulted_7, gX8_faulted_8, gX8_faulted_9, Rd_some, Wr_some, Cont_some, Cont_none, iso_O, true_and, hg_s, hg_n, hput_hput, ra.2.1]
          exact hq _ (hc.ft 2) (FX.put (by decide))
    · rw [if_neg hv0] at hq
      simp (disch := omega) only [gX8_slide_0, gX8_slide_1, gX8_slide_2, pf_8_12, gX8_slide_5, gX8_slide_6, gX8_slide_9T, gX8_slide_9F, gX8_slide_12, gX8_slide_13, gX8_slide_14, gX8_slide_15, gX8_slide_18T, gX8_slide_18F, gX8_slide_21, gX8_slide_23, gX8_slide_24, gX8_slide_25, fl_8_0, gX8_slide_28, gX8_slide_29, aR_g, gX8_slide_30, gX8_slide_30N, gX8_slide_31, gX8_slide_31N, gX8_slide_32T, gX8_slide_32F, gX8_slide_35, gX8_slide_36, gX8_slide_37, gX8_slide_40, gX8_slide_41, gX8_slide_41N, gX8_slide_42, fl_5_0, gX8_slide_45, gX8_slide_46T, gX8_slide_46F, gX8_slide_49, gX8_slide_50, gX8_slide_51, gX8_slide_54, gX8_slide_55, gX8_slide_56, fl_8_2, gX8_slide_59, gX8_slide_59N, gX8_slide_60, gX8_slide_61, gX8_slide_64, gX8_slide_65, gX8_slide_68, fl_4_2, gX8_slide_71, Rd_some, Wr_some, Cont_some, Cont_none, iso_O, true_and, hg_s, hg_n, hput_hput, hx, sp_plT, sp_cnT, sp_cnF]
      exact hq _ (hc.ft 0) (FX.put (by decide))
  · rw [if_neg ha] at hq
    simp (disch := omega) only [gX8_slide_0, gX8_slide_1, gX8_slide_2, pf_8_12, gX8_slide_5, gX8_slide_6, gX8_slide_9T, gX8_slide_9F, gX8_slide_12, gX8_slide_13, gX8_slide_14, gX8_slide_15, gX8_slide_18T, gX8_slide_18F, gX8_slide_21, gX8_slide_23, gX8_slide_24, gX8_slide_25, fl_8_0, gX8_slide_28, gX8_slide_29, aR_g, gX8_slide_30, gX8_slide_30N, gX8_slide_31, gX8_slide_31N, gX8_slide_32T, gX8_slide_32F, gX8_slide_35, gX8_slide_36, gX8_slide_37, gX8_slide_40, gX8_slide_41, gX8_slide_41N, gX8_slide_42, fl_5_0, gX8_slide_45, gX8_slide_46T, gX8_slide_46F, gX8_slide_49, gX8_slide_50, gX8_slide_51, gX8_slide_54, gX8_slide_55, gX8_slide_56, fl_8_2, gX8_slide_59, gX8_slide_59N, gX8_slide_60, gX8_slide_61, gX8_slide_64, gX8_slide_65, gX8_slide_68, fl_4_2, gX8_slide_71, Rd_some, Wr_some, Cont_some, Cont_none, iso_O, true_and, hg_s, hg_n, hput_hput, hx, sp_plT, sp_cnT, sp_plF]
    exact hq _ (hc.ft 0) (FX.put (by decide))

end PRO

/-! m: inverse -/
section MINV
variable {H : HP} {S : SS} {T : TT} {Q : Option Value → HP → Prop} {a u n : Int}
theorem lp_ivI {P : Int} (h41 : hget H 41 = cM S) {g : Int → Int} (h46 : hget H 46 = cL 64 g) (hP : 1 < P ∧ P < 1073741824) (hn : 0 ≤ n ∧ n ≤ 64) (hg : mo P g n) {b : Int} (hb : 0 ≤ b ∧ b < P) {l1 l5 l6 l7 l8 l9 l10 : Option Value} : ∀ (e i : Nat), (i : Int) + e = n → (Go 147 99 [some (.ref 41), l1, some (vl P), none, some (vi n), l5, l6, l7, l8, l9, l10, some (vl b), none, some (vl (b ^ i % P)), none, some (vl (sm (fun t => g t * b ^ t.toNat) i % P)), none, some (vi (i : Int))] [] H Q ↔ Go 147 138 [some (.ref 41), l1, some (vl P), none, some (vi n), l5, l6, l7, l8, l9, l10, some (vl b), none, some (vl (b ^ n.toNat % P)), none, some (vl (sm (fun t => g t * b ^ t.toNat) n.toNat % P)), none, some (vi n)] [] H Q) := by
  intro e
  induction e with
  | zero =>
    intro i hi
    rw [show n.toNat = i by omega, show n = (i : Int) by omega, gX9_inverse_99]
    simp (disch := omega) only [gX9_inverse_101, gX9_inverse_103T, gX9_inverse_103F, Rd_some, Wr_some, Cont_some, Cont_none, iso_O, true_and, hg_s, hg_n, hput_hput]
  | succ e ih =>
    intro i hi
    have m3 := hg i (by omega) (by omega)
    have m1 := em (P := P) (by omega) (b ^ i)
    have m2 := em (P := P) (by omega) (sm (fun t => g t * b ^ t.toNat) i)
    obtain ⟨k1, k2⟩ := ms hP m2 m3 m1
    have k3 := mb (x := b ^ i % P) (y := b) (by omega)
    have k4 : (b ^ i % P * b).tmod P = b ^ (i + 1) % P := by rw [Int.tmod_eq_emod_of_nonneg k3.1, pw_next]
    have k5 : (sm (fun t => g t * b ^ t.toNat) i % P + g i * (b ^ i % P)) % P = sm (fun t => g t * b ^ t.toNat) (i + 1) % P := by
      rw [sm, Int.toNat_natCast]
      exact cg.md.ad (cg.rf.ml cg.md)
    rw [gX9_inverse_99]
    simp (disch := omega) only [gX9_inverse_101, gX9_inverse_103T, gX9_inverse_103F, gX9_inverse_106, gX9_inverse_108, gX9_inverse_109, fl_9_7, gX9_inverse_112, gX9_inverse_114, aL_g, gX9_inverse_115, gX9_inverse_117, gX9_inverse_118, gX9_inverse_119, gX9_inverse_120, gX9_inverse_121, gX9_inverse_123, gX9_inverse_125, gX9_inverse_127, gX9_inverse_128, gX9_inverse_129, gX9_inverse_130, gX9_inverse_132, gX9_inverse_135, Rd_some, Wr_some, Cont_some, Cont_none, iso_O, true_and, hg_s, hg_n, hput_hput, h41, h46, k2, k4, k5]
    exact ih (i + 1) (by omega)
theorem lp_ivO {P : Int} (h41 : hget H 41 = cM S) {g en : Int → Int} (h46 : hget H 46 = cL 64 g) (hP : 1 < P ∧ P < 1073741824) (hn : 0 ≤ n ∧ n ≤ 64) (hg : mo P g n) {v s r : Int} (hv : 0 ≤ v ∧ v < P) (hs : 0 ≤ s ∧ s < P) (hr : 0 ≤ r ∧ r ≤ 12) {B : Int → Int} (hB : ∀ j : Nat, (j : Int) < n → B j = (df v g n.toNat j % P) * s % P) {l1 : Option Value} : ∀ (e k : Nat) (l11 l12 l13 l14 l15 l16 l17 : Option Value), (k : Int) + e = n → (Go 147 72 [some (.ref 41), l1, some (vl P), none, some (vi n), some (vl v), none, some (vl s), none, some (vi r), some (vi (k : Int)), l11, l12, l13, l14, l15, l16, l17] [] (hput H 45 (cL 832 (lay B en (64 * r) k))) Q ↔ Q (some (vi n)) (hput H 45 (cL 832 (lay B en (64 * r) n)))) := by
  have x41 : ∀ c, hget (hput H 45 c) 41 = cM S := fun c => by rw [hg_n (by omega)]; exact h41
  have x46 : ∀ c, hget (hput H 45 c) 46 = cL 64 g := fun c => by rw [hg_n (by omega)]; exact h46
  intro e
  induction e with
  | zero =>
    intro k l11 l12 l13 l14 l15 l16 l17 hk
    rw [show (k : Int) = n by omega, gX9_inverse_72]
    simp (disch := omega) only [gX9_inverse_74, gX9_inverse_76T, gX9_inverse_76F, gX9_inverse_164, gX9_inverse_166, Rd_some, Wr_some, Cont_some, Cont_none, iso_O, true_and, hg_s, hg_n, hput_hput]
  | succ e ih =>
    intro k l11 l12 l13 l14 l15 l16 l17 hk
    have mw := em (P := P) (by omega) (v ^ k)
    rw [gX9_inverse_72]
    simp (disch := omega) only [gX9_inverse_74, gX9_inverse_76T, gX9_inverse_76F, gX9_inverse_79, gX9_inverse_81, gX9_inverse_83, gX9_inverse_84, gX9_inverse_85, gX9_inverse_88, gX9_inverse_90, gX9_inverse_91, gX9_inverse_93, gX9_inverse_94, gX9_inverse_96, gX9_inverse_97, Rd_some, Wr_some, Cont_some, Cont_none, iso_O, true_and, hg_s, hg_n, hput_hput, sp_pow hP]
    rw [Int.toNat_natCast]
    have key := lp_ivI (H := hput H 45 (cL 832 (lay B en (64 * r) k))) (Q := Q) (l1 := l1) (l5 := some (vl v)) (l6 := none) (l7 := some (vl s)) (l8 := none) (l9 := some (vi r)) (l10 := some (vi (k : Int))) (x41 _) (x46 _) hP hn hg mw n.toNat 0 (by omega)
    rw [Int.pow_zero, Int.emod_eq_of_lt (show (0 : Int) ≤ 1 by decide) hP.1, sm, Int.zero_emod] at key
    refine Iff.trans key ?_
    have e3 : sm (fun i => g i * (v ^ k % P) ^ i.toNat) n.toNat % P = df v g n.toNat k % P := ev_df (fun i hi => cg.rf)
    rw [e3]
    have m4 := em (P := P) (by omega) (df v g n.toNat k)
    have m5 := mb (x := df v g n.toNat k % P) (y := s) (by omega)
    have e4 : (df v g n.toNat k % P * s).tmod P = B k := by rw [hB k (by omega), Int.tmod_eq_emod_of_nonneg m5.1]
    simp (disch := omega) only [gX9_inverse_138, gX9_inverse_139, fl_9_4, gX9_inverse_142, gX9_inverse_144, gX9_inverse_146, gX9_inverse_147, gX9_inverse_149, gX9_inverse_150, gX9_inverse_152, gX9_inverse_154, gX9_inverse_155, gX9_inverse_156, gX9_inverse_157, sL_p, gX9_inverse_158, gX9_inverse_161, Rd_some, Wr_some, Cont_some, Cont_none, iso_O, true_and, hg_s, hg_n, hput_hput, x41, e4]
    rw [lay_up (by omega) rfl]
    exact ih (k + 1) _ _ _ _ _ _ _ (by omega)
theorem mx_inv (hm : MJ H S) {k : Nat} (hk : ¬ live S k) (c : -2147483648 ≤ a ∧ a ≤ 2147483647) (hq : MG H Q (o_inv S a k)) : Go 147 0 [some (.ref 41), some (vi a), none, none, none, none, none, none, none, none, none, none, none, none, none, none, none, none] [] H Q := by
  have hm0 := hm
  obtain ⟨T, h1, h2, h3, h4⟩ := hm
  have hx := h1.v.1
  unfold o_inv MG at hq
  have hn0 := h3.2.1
  by_cases ha : 0 ≤ a ∧ a < 12
  · rw [if_pos ha] at hq
    rcases h3.1 with ⟨pn, pz⟩ | ⟨hu, hdv, hmo⟩
    · rw [if_neg (fun t => by omega)] at hq
      simp (disch := omega) only [gX9_inverse_0, gX9_inverse_1, gX9_inverse_4T, gX9_inverse_4F, gX9_inverse_7, gX9_inverse_8, gX9_inverse_9, gX9_inverse_10, fl_9_6, gX9_inverse_13, gX9_inverse_15T, gX9_inverse_15F, gX9_inverse_18, gX9_inverse_20, Rd_some, Wr_some, Cont_some, Cont_none, iso_O, true_and, hg_s, hg_n, hput_hput, hx, sp_mplT]
      exact hq _ hm0 Fm.rf
    · rw [if_pos hu] at hq
      obtain ⟨g0, h46, g2⟩ := h1 46 (by decide) (by decide)
      have hP := PV_r S.2.1.2
      have mw := em (P := PV S.2.1.2) (by omega) (3 ^ ((PV S.2.1.2 - 1) / (S.2.2 0).1).toNat)
      have mv := em (P := PV S.2.1.2) (by omega) ((3 ^ ((PV S.2.1.2 - 1) / (S.2.2 0).1).toNat % PV S.2.1.2) ^ (PV S.2.1.2 - 2).toNat)
      have msh := em (P := PV S.2.1.2) (by omega) ((S.2.2 0).1 ^ (PV S.2.1.2 - 2).toNat)
      simp (disch := omega) only [gX9_inverse_0, gX9_inverse_1, gX9_inverse_4T, gX9_inverse_4F, gX9_inverse_7, gX9_inverse_8, gX9_inverse_9, gX9_inverse_10, fl_9_6, gX9_inverse_13, gX9_inverse_15T, gX9_inverse_15F, gX9_inverse_18, gX9_inverse_20, gX9_inverse_21, gX9_inverse_22, gX9_inverse_25, gX9_inverse_28, gX9_inverse_29, gX9_inverse_30, fl_9_5, gX9_inverse_33, gX9_inverse_35, gX9_inverse_36, gX9_inverse_39, gX9_inverse_41, gX9_inverse_44, gX9_inverse_45, gX9_inverse_48, gX9_inverse_50, gX9_inverse_52, gX9_inverse_53, gX9_inverse_54, gX9_inverse_57, gX9_inverse_59, gX9_inverse_60, gX9_inverse_61, gX9_inverse_62, gX9_inverse_64, Rd_some, Wr_some, Cont_some, Cont_none, iso_O, true_and, hg_s, hg_n, hput_hput, hx, sp_mplT, sp_prime, sp_mroot, sp_inv hP]
      refine sp_renew h1.v h2.bd h1.e ha (fun r r1 r2 => ?_)
      simp (disch := omega) only [gX9_inverse_67, gX9_inverse_69, gX9_inverse_70, Rd_some, Wr_some, Cont_some, Cont_none, iso_O, true_and, hg_s, hg_n, hput_hput]
      generalize hH2 : hput (hput (hput H 42 (cJ 12 (up T.1.1 a r))) 43 (cJ 13 (up T.1.2 r 3))) 44 (cJ 13 (up T.2.1 r (S.2.2 0).1)) = H2
      have k0 : ∀ q, q ≠ 42 → q ≠ 43 → q ≠ 44 → hget H2 q = hget H q := fun q q1 q2 q3 => by rw [← hH2, hg_n q3, hg_n q2, hg_n q1]
      have f2 : Fm 41 60 H H2 := by rw [← hH2]; exact ((Fm.rf.put (by omega)).put (by omega)).put (by omega)
      have e0 : lay (BK S) (zf T.2.2 (64 * r) 64) (64 * r) ((0 : Nat) : Int) = zf T.2.2 (64 * r) 64 := by
        funext x
        exact if_neg (by omega)
      have key := lp_ivO (H := H2) (Q := Q) (S := S) (l1 := some (vi a)) (en := zf T.2.2 (64 * r) 64) (B := BK S) (by rw [k0 41 (by omega) (by omega) (by omega)]; exact hx) (by rw [k0 46 (by omega) (by omega) (by omega)]; exact h46) hP (n := (S.2.2 0).1) (by omega) (fun j j0 j1 => by rw [g2 j j0 j1]; exact hmo j j0 j1) mv msh r1 (fun j hj => by
        unfold BK
        rw [Int.toNat_natCast, Int.mul_comm]
        have hdf : ∀ v : Int, df v g0 (S.2.2 0).1.toNat j = df v (S.2.2 0).2 (S.2.2 0).1.toNat j := fun v => by
          unfold df
          exact sm_cN fun i hi => by rw [g2 i (by omega) (by omega)]
        rw [hdf]) (S.2.2 0).1.toNat 0 none none none none none none none (by omega)
      rw [e0] at key
      refine key.mpr ?_
      refine hq _ ⟨((up T.1.1 a r, up T.1.2 r 3), (up T.2.1 r (S.2.2 0).1, lay (BK S) (zf T.2.2 (64 * r) 64) (64 * r) (S.2.2 0).1)), fun q q1 q2 => ?_, h2.new (d := (3, (S.2.2 0).1, mix (BK S) (fun _ => 0) (S.2.2 0).1)) h4 ha hk r1 r2 (fun j j0 j1 => ?_) (fun x x1 => ?_), h3, fun l hl => ?_⟩ (f2.put (by omega))
      · refine Mh_pl.mpr (Mh_rd.mpr ?_)
        by_cases e5 : q = 45
        · subst e5; rw [hg_s]; rfl
        · rw [hg_n e5, ← hH2]
          by_cases e4 : q = 44
          · subst e4; rw [hg_s]; rfl
          · rw [hg_n e4]
            by_cases e3 : q = 43
            · subst e3; rw [hg_s]; rfl
            · rw [hg_n e3]
              by_cases e2 : q = 42
              · subst e2; rw [hg_s]; rfl
              · rw [hg_n e2]; exact (Mh_T (by omega)).mpr (h1 q q1 q2)
      · have j1 : j < (S.2.2 0).1 := j1
        show lay _ _ _ _ _ = mix (BK S) (fun _ => 0) (S.2.2 0).1 j
        unfold lay
        rw [if_pos (by omega), mix_in ⟨j0, j1⟩]
        exact congrArg _ (by omega)
      · unfold lay zf
        rw [if_neg (by omega), if_neg (by omega)]
      · obtain ⟨t, t0, t1, t2⟩ := hl
        have t2 : up S.1.1 a (some k) t = some l := t2
        show rok (if l = k then _ else S.1.2 l)
        by_cases e : l = k
        · rw [if_pos e]
          refine ⟨⟨by show (0 : Int) ≤ 3; decide, by show (3 : Int) ≤ 4; decide⟩, ⟨by show 0 < (S.2.2 0).1; omega, hn0.2⟩, fun j _ _ => ?_, fun t => absurd t (by show ¬ (3 : Int) ≤ 2; decide)⟩
          have := BK_r S j
          show _ ≤ mix (BK S) (fun _ => 0) (S.2.2 0).1 j ∧ mix (BK S) (fun _ => 0) (S.2.2 0).1 j ≤ _
          unfold mix
          split <;> (try dsimp only) <;> omega
        · rw [if_neg e]
          refine h4 l ⟨t, t0, t1, ?_⟩
          by_cases e2 : t = a
          · rw [show up S.1.1 a (some k) t = some k from if_pos e2] at t2; cases t2; exact absurd rfl e
          · rw [show up S.1.1 a (some k) t = S.1.1 t from if_neg e2] at t2; exact t2
  · rw [if_neg ha] at hq
    simp (disch := omega) only [gX9_inverse_0, gX9_inverse_1, gX9_inverse_4T, gX9_inverse_4F, gX9_inverse_7, gX9_inverse_8, gX9_inverse_9, gX9_inverse_10, fl_9_6, gX9_inverse_13, gX9_inverse_15T, gX9_inverse_15F, gX9_inverse_18, gX9_inverse_20, gX9_inverse_21, gX9_inverse_22, gX9_inverse_25, gX9_inverse_28, gX9_inverse_29, gX9_inverse_30, fl_9_5, gX9_inverse_33, gX9_inverse_35, gX9_inverse_36, gX9_inverse_39, gX9_inverse_41, gX9_inverse_44, gX9_inverse_45, gX9_inverse_48, gX9_inverse_50, gX9_inverse_52, gX9_inverse_53, gX9_inverse_54, gX9_inverse_57, gX9_inverse_59, gX9_inverse_60, gX9_inverse_61, gX9_inverse_62, gX9_inverse_64, gX9_inverse_67, gX9_inverse_69, gX9_inverse_70, gX9_inverse_72, gX9_inverse_74, gX9_inverse_76T, gX9_inverse_76F, gX9_inverse_79, gX9_inverse_81, gX9_inverse_83, gX9_inverse_84, gX9_inverse_85, gX9_inverse_88, gX9_inverse_90, gX9_inverse_91, gX9_inverse_93, gX9_inverse_94, gX9_inverse_96, gX9_inverse_97, gX9_inverse_99, gX9_inverse_101, gX9_inverse_103T, gX9_inverse_103F, gX9_inverse_106, gX9_inverse_108, gX9_inverse_109, fl_9_7, gX9_inverse_112, gX9_inverse_114, aL_g, gX9_inverse_115, gX9_inverse_117, gX9_inverse_118, gX9_inverse_119, gX9_inverse_120, gX9_inverse_121, gX9_inverse_123, gX9_inverse_125, gX9_inverse_127, gX9_inverse_128, gX9_inverse_129, gX9_inverse_130, gX9_inverse_132, gX9_inverse_135, gX9_inverse_138, gX9_inverse_139, fl_9_4, gX9_inverse_142, gX9_inverse_144, gX9_inverse_146, gX9_inverse_147, gX9_inverse_149, gX9_inverse_150, gX9_inverse_152, gX9_inverse_154, gX9_inverse_155, gX9_inverse_156, gX9_inverse_157, sL_p, gX9_inverse_158, gX9_inverse_161, gX9_inverse_164, gX9_inverse_166, Rd_some, Wr_some, Cont_some, Cont_none, iso_O, true_and, hg_s, hg_n, hput_hput, hx, sp_mplF]
    exact hq _ hm0 Fm.rf
end MINV

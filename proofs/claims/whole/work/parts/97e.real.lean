/-! real, on x (begun by program: wip/gen/real.py) -/
def o_real (S : SS) (a b : Int) : Value × SS := if (0 ≤ a ∧ a < 12) ∧ 0 ≤ b ∧ b < 12 then o_two S a b 4 (fun k l => (vi ((S.1.2 k).2.1 + (S.1.2 l).2.1 - 1), wSh (wFt S 0) 6 ((S.1.2 k).2.1 + (S.1.2 l).2.1 - 1) (rl (S.1.2 k) (S.1.2 l)))) else (vi (-1), wFt S 0)
section DRX
variable {H : HP} {S : SS} {Q : Option Value → HP → Prop} {d e : RD} {a b n m k : Int}
/-- what the rows of doubles hold -/
def DH (H : HP) (d e : RD) : Prop := (hget H 8 = cO 0 [.ref 9, .ref 10, .ref 11, .ref 12, .ref 13] ∧ hget H 9 = cD 10 pw2) ∧ (∃ g, hget H 10 = cD 64 g ∧ ∀ j, 0 ≤ j → j < d.2.1 → g j = xv d j) ∧ (∃ g, hget H 11 = cD 64 g ∧ ∀ j, 0 ≤ j → j < e.2.1 → g j = xv e j) ∧ (∃ g, hget H 12 = cZ 64 g ∧ ∀ j, 0 ≤ j → j < d.2.1 → g j = zb (xn d j)) ∧ ∃ g, hget H 13 = cZ 64 g ∧ ∀ j, 0 ≤ j → j < e.2.1 → g j = zb (xn e j)
theorem lp_eb (h : DH H d e) (hn : 0 < d.2.1 ∧ d.2.1 ≤ 64) (hm : 0 < e.2.1 ∧ e.2.1 ≤ 64) (hk : 0 ≤ k ∧ k < d.2.1 + e.2.1 - 1) : ∀ (f i : Nat) (s : UInt64) (l7 l8 l9 l10 l11 l12 : Option Value), (i : Int) + f = d.2.1 → k - e.2.1 + 1 ≤ i → rsm d e k i = some s → (Go 4 14 [some (.ref 8), some (vi k), some (vi d.2.1), some (vi e.2.1), some (.double s), none, some (vi (i : Int)), l7, l8, l9, l10, l11, l12] [] H Q ↔ Q (some (vl (rl d e k))) H) := by
  obtain ⟨⟨h8, h9⟩, ⟨g1, g10, v10⟩, ⟨g2, g11, v11⟩, ⟨z1, g12, v12⟩, ⟨z2, g13, v13⟩⟩ := h
  intro f
  induction f with
  | zero =>
    intro i s l7 l8 l9 l10 l11 l12 hi h0 hs
    have hN := rsm_n i hs
    have ht := fun Q => sp_2b (Q := Q) h8 h9 hN.1 hN.2
    rw [rl_some (s := s) (by rw [show d.2.1.toNat = i by omega]; exact hs), gX0_entryBits_14]
    by_cases c1 : (i : Int) ≤ k
    · simp (disch := omega) only [gX0_entryBits_16, gX0_entryBits_17T, gX0_entryBits_17F, gX0_entryBits_20, gX0_entryBits_22, gX0_entryBits_23T, gX0_entryBits_23F, gX0_entryBits_116, gX0_entryBits_117, gX0_entryBits_119, gX0_entryBits_122, Rd_some, Wr_some, Cont_some, Cont_none, iso_O, true_and, hg_s, hg_n, hput_hput, ht, h8]
    · simp (disch := omega) only [gX0_entryBits_16, gX0_entryBits_17T, gX0_entryBits_17F, gX0_entryBits_20, gX0_entryBits_22, gX0_entryBits_23T, gX0_entryBits_23F, gX0_entryBits_116, gX0_entryBits_117, gX0_entryBits_119, gX0_entryBits_122, Rd_some, Wr_some, Cont_some, Cont_none, iso_O, true_and, hg_s, hg_n, hput_hput, ht, h8]
  | succ f ih =>
    intro i s l7 l8 l9 l10 l11 l12 hi h0 hs
    have hN := rsm_n i hs
    rw [gX0_entryBits_14]
    by_cases c1 : (i : Int) ≤ k
    · have hin := rsm_in hs (by omega)
      have w10 := v10 i (by omega) (by omega)
      have w11 := v11 (k - i) (by omega) (by omega)
      have w12 := v12 i (by omega) (by omega)
      have w13 := v13 (k - i) (by omega) (by omega)
      have none' : rst d e k i s = none → rl d e k = 9221120237041090560 := fun t => rl_none (rsm_none (hin.trans t) (by omega))
      by_cases b1 : xn d i = true
      · have r := none' (by unfold rst; rw [if_pos (Or.inl b1)])
        rw [b1] at w12
        simp (disch := omega) only [gX0_entryBits_16, gX0_entryBits_17T, gX0_entryBits_17F, gX0_entryBits_20, gX0_entryBits_22, gX0_entryBits_23T, gX0_entryBits_23F, gX0_entryBits_26, gX0_entryBits_27, fl_0_1, gX0_entryBits_30, gX0_entryBits_32, aD_g, gX0_entryBits_33, gX0_entryBits_35, gX0_entryBits_36, fl_0_2, gX0_entryBits_39, gX0_entryBits_40, gX0_entryBits_42, gX0_entryBits_43, gX0_entryBits_44, gX0_entryBits_46, gX0_entryBits_47, fl_0_3, gX0_entryBits_50, gX0_entryBits_52, aZ_g, gX0_entryBits_53T, gX0_entryBits_53F, gX0_entryBits_56, gX0_entryBits_57, fl_0_4, gX0_entryBits_60, gX0_entryBits_61, gX0_entryBits_63, gX0_entryBits_64, gX0_entryBits_65T, gX0_entryBits_65F, gX0_entryBits_68, gX0_entryBits_70, gX0_entryBits_72, gX0_entryBits_75T, gX0_entryBits_75F, gX0_entryBits_78, gX0_entryBits_81, Rd_some, Wr_some, Cont_some, Cont_none, iso_O, true_and, hg_s, hg_n, hput_hput, h8, g10, g11, g12, aD_g, aZ_g, w10, w11, w12, show zb true = 1 from rfl]
        rw [r]
      · rw [Bool.not_eq_true] at b1
        rw [b1] at w12
        by_cases b2 : xn e (k - i) = true
        · have r := none' (by unfold rst; rw [if_pos (Or.inr (Or.inl b2))])
          rw [b2] at w13
          simp (disch := omega) only [gX0_entryBits_16, gX0_entryBits_17T, gX0_entryBits_17F, gX0_entryBits_20, gX0_entryBits_22, gX0_entryBits_23T, gX0_entryBits_23F, gX0_entryBits_26, gX0_entryBits_27, fl_0_1, gX0_entryBits_30, gX0_entryBits_32, aD_g, gX0_entryBits_33, gX0_entryBits_35, gX0_entryBits_36, fl_0_2, gX0_entryBits_39, gX0_entryBits_40, gX0_entryBits_42, gX0_entryBits_43, gX0_entryBits_44, gX0_entryBits_46, gX0_entryBits_47, fl_0_3, gX0_entryBits_50, gX0_entryBits_52, aZ_g, gX0_entryBits_53T, gX0_entryBits_53F, gX0_entryBits_56, gX0_entryBits_57, fl_0_4, gX0_entryBits_60, gX0_entryBits_61, gX0_entryBits_63, gX0_entryBits_64, gX0_entryBits_65T, gX0_entryBits_65F, gX0_entryBits_68, gX0_entryBits_70, gX0_entryBits_72, gX0_entryBits_75T, gX0_entryBits_75F, gX0_entryBits_78, gX0_entryBits_81, Rd_some, Wr_some, Cont_some, Cont_none, iso_O, true_and, hg_s, hg_n, hput_hput, h8, g10, g11, g12, g13, aD_g, aZ_g, w10, w11, w12, w13, show zb true = 1 from rfl, show zb false = 0 from rfl]
          rw [r]
        · rw [Bool.not_eq_true] at b2
          rw [b2] at w13
          have np := fun Q => sp_nop (H := H) (Q := Q) (xv_n (d := d) (i := i)) (xv_n (d := e) (i := k - i))
          by_cases b3 : nop (xv d i) (xv e (k - i)) = true
          · have r := none' (by unfold rst; rw [if_pos (Or.inr (Or.inr b3))])
            simp (disch := omega) only [gX0_entryBits_16, gX0_entryBits_17T, gX0_entryBits_17F, gX0_entryBits_20, gX0_entryBits_22, gX0_entryBits_23T, gX0_entryBits_23F, gX0_entryBits_26, gX0_entryBits_27, fl_0_1, gX0_entryBits_30, gX0_entryBits_32, aD_g, gX0_entryBits_33, gX0_entryBits_35, gX0_entryBits_36, fl_0_2, gX0_entryBits_39, gX0_entryBits_40, gX0_entryBits_42, gX0_entryBits_43, gX0_entryBits_44, gX0_entryBits_46, gX0_entryBits_47, fl_0_3, gX0_entryBits_50, gX0_entryBits_52, aZ_g, gX0_entryBits_53T, gX0_entryBits_53F, gX0_entryBits_56, gX0_entryBits_57, fl_0_4, gX0_entryBits_60, gX0_entryBits_61, gX0_entryBits_63, gX0_entryBits_64, gX0_entryBits_65T, gX0_entryBits_65F, gX0_entryBits_68, gX0_entryBits_70, gX0_entryBits_72, gX0_entryBits_75T, gX0_entryBits_75F, gX0_entryBits_78, gX0_entryBits_81, Rd_some, Wr_some, Cont_some, Cont_none, iso_O, true_and, hg_s, hg_n, hput_hput, h8, g10, g11, g12, g13, aD_g, aZ_g, w10, w11, w12, w13, np, if_pos b3, show zb false = 0 from rfl]
            rw [r]
          · have hm1 := dm_n xv_n xv_n b3
            have hv : vf_n64 (FP.dmul (xv d i) (xv e (k - i))) := vf_of hm1
            have ns := fun Q => sp_nos (H := H) (Q := Q) hN.1 hm1
            have nz : ¬ (xn d i = true ∨ xn e (k - i) = true ∨ nop (xv d i) (xv e (k - i)) = true) := by
              rintro (t | t | t)
              · rw [b1] at t; cases t
              · rw [b2] at t; cases t
              · exact b3 t
            by_cases b4 : nos s (FP.dmul (xv d i) (xv e (k - i))) = true
            · have r := none' (by unfold rst; rw [if_neg nz, if_pos b4])
              simp (disch := first | omega | assumption) only [gX0_entryBits_16, gX0_entryBits_17T, gX0_entryBits_17F, gX0_entryBits_20, gX0_entryBits_22, gX0_entryBits_23T, gX0_entryBits_23F, gX0_entryBits_26, gX0_entryBits_27, fl_0_1, gX0_entryBits_30, gX0_entryBits_32, aD_g, gX0_entryBits_33, gX0_entryBits_35, gX0_entryBits_36, fl_0_2, gX0_entryBits_39, gX0_entryBits_40, gX0_entryBits_42, gX0_entryBits_43, gX0_entryBits_44, gX0_entryBits_46, gX0_entryBits_47, fl_0_3, gX0_entryBits_50, gX0_entryBits_52, aZ_g, gX0_entryBits_53T, gX0_entryBits_53F, gX0_entryBits_56, gX0_entryBits_57, fl_0_4, gX0_entryBits_60, gX0_entryBits_61, gX0_entryBits_63, gX0_entryBits_64, gX0_entryBits_65T, gX0_entryBits_65F, gX0_entryBits_68, gX0_entryBits_70, gX0_entryBits_72, gX0_entryBits_75T, gX0_entryBits_75F, gX0_entryBits_78, gX0_entryBits_81, gX0_entryBits_82, gX0_entryBits_84, gX0_entryBits_86, gX0_entryBits_87, gX0_entryBits_89, gX0_entryBits_91, gX0_entryBits_93, gX0_entryBits_96T, gX0_entryBits_96F, gX0_entryBits_99, gX0_entryBits_102, Rd_some, Wr_some, Cont_some, Cont_none, iso_O, true_and, hg_s, hg_n, hput_hput, h8, g10, g11, g12, g13, aD_g, aZ_g, w10, w11, w12, w13, np, if_neg b3, ns, if_pos b4, show zb false = 0 from rfl]
              rw [r]
            · have hv2 : vf_n64 (FP.dadd s (FP.dmul (xv d i) (xv e (k - i)))) := vf_of (da_n hN.1 hm1 b4)
              have r : rsm d e k (i + 1) = some (FP.dadd s (FP.dmul (xv d i) (xv e (k - i)))) := hin.trans (by unfold rst; rw [if_neg nz, if_neg b4])
              simp (disch := first | omega | assumption) only [gX0_entryBits_16, gX0_entryBits_17T, gX0_entryBits_17F, gX0_entryBits_20, gX0_entryBits_22, gX0_entryBits_23T, gX0_entryBits_23F, gX0_entryBits_26, gX0_entryBits_27, fl_0_1, gX0_entryBits_30, gX0_entryBits_32, aD_g, gX0_entryBits_33, gX0_entryBits_35, gX0_entryBits_36, fl_0_2, gX0_entryBits_39, gX0_entryBits_40, gX0_entryBits_42, gX0_entryBits_43, gX0_entryBits_44, gX0_entryBits_46, gX0_entryBits_47, fl_0_3, gX0_entryBits_50, gX0_entryBits_52, aZ_g, gX0_entryBits_53T, gX0_entryBits_53F, gX0_entryBits_56, gX0_entryBits_57, fl_0_4, gX0_entryBits_60, gX0_entryBits_61, gX0_entryBits_63, gX0_entryBits_64, gX0_entryBits_65T, gX0_entryBits_65F, gX0_entryBits_68, gX0_entryBits_70, gX0_entryBits_72, gX0_entryBits_75T, gX0_entryBits_75F, gX0_entryBits_78, gX0_entryBits_81, gX0_entryBits_82, gX0_entryBits_84, gX0_entryBits_86, gX0_entryBits_87, gX0_entryBits_89, gX0_entryBits_91, gX0_entryBits_93, gX0_entryBits_96T, gX0_entryBits_96F, gX0_entryBits_99, gX0_entryBits_102, gX0_entryBits_103, gX0_entryBits_105, gX0_entryBits_107, gX0_entryBits_108, gX0_entryBits_110, gX0_entryBits_113, Rd_some, Wr_some, Cont_some, Cont_none, iso_O, true_and, hg_s, hg_n, hput_hput, h8, g10, g11, g12, g13, aD_g, aZ_g, w10, w11, w12, w13, np, if_neg b3, ns, if_neg b4, show zb false = 0 from rfl]
              exact ih (i + 1) _ _ _ _ _ _ _ (by omega) (by omega) r
    · have ht := fun Q => sp_2b (Q := Q) h8 h9 hN.1 hN.2
      rw [rl_some (s := s) (rsm_hi hs (by omega) (by omega))]
      simp (disch := omega) only [gX0_entryBits_16, gX0_entryBits_17T, gX0_entryBits_17F, gX0_entryBits_20, gX0_entryBits_22, gX0_entryBits_23T, gX0_entryBits_23F, gX0_entryBits_116, gX0_entryBits_117, gX0_entryBits_119, gX0_entryBits_122, Rd_some, Wr_some, Cont_some, Cont_none, iso_O, true_and, hg_s, hg_n, hput_hput, ht, h8]
theorem sp_eb (h : DH H d e) (hn : 0 < d.2.1 ∧ d.2.1 ≤ 64) (hm : 0 < e.2.1 ∧ e.2.1 ≤ 64) (hk : 0 ≤ k ∧ k < d.2.1 + e.2.1 - 1) : Go 4 0 [some (.ref 8), some (vi k), some (vi d.2.1), some (vi e.2.1), none, none, none, none, none, none, none, none, none] [] H Q ↔ Q (some (vl (rl d e k))) H := by
  simp (disch := omega) only [gX0_entryBits_0, gX0_entryBits_1, gX0_entryBits_3, gX0_entryBits_4, gX0_entryBits_5, gX0_entryBits_6, gX0_entryBits_7, gX0_entryBits_8, gX0_entryBits_9, gX0_entryBits_12, Rd_some, Wr_some, Cont_some, Cont_none, iso_O, true_and, hg_s, hg_n, hput_hput, sp_maxI, dc0]
  have hl := rsm_lo (d := d) (e := e) (k := k) (i := (max 0 (k - e.2.1 + 1)).toNat)
  have := lp_eb (Q := Q) h hn hm hk (d.2.1 - max 0 (k - e.2.1 + 1)).toNat (max 0 (k - e.2.1 + 1)).toNat 0 none none none none none none (by omega) (by omega) (by
    by_cases c : 0 ≤ k - e.2.1 + 1
    · exact hl (by omega)
    · rw [show (max 0 (k - e.2.1 + 1)).toNat = 0 by omega]; rfl)
  rw [show (((max 0 (k - e.2.1 + 1)).toNat : Nat) : Int) = max 0 (k - e.2.1 + 1) by omega] at this
  exact this
theorem lp_pr {r cc r' cc' : Nat} (h : DH H d e) (h22 : hget H 22 = cO 6 [.ref 23, vi (d.2.1 + e.2.1 - 1)]) (R : RW H r cc d.1 d.2.1 d.2.2) (R' : RW H r' cc' e.1 e.2.1 e.2.2) {g : Int → Int} : ∀ (f : Nat) (k : Int), k + f = d.2.1 + e.2.1 - 1 → 0 ≤ k → (Go 2 29 [some (.ref 8), some (.ref r), some (.ref r'), some (.ref 22), some (vi k)] [] (hput H 23 (cL 127 (mix (rl d e) g k))) Q ↔ Q none (hput H 23 (cL 127 (mix (rl d e) g (d.2.1 + e.2.1 - 1))))) := by
  have n1 := R.2.2.2.1
  have q1 := R.2.2.1
  have n2 := R'.2.2.2.1
  have q2 := R'.2.2.1
  have hD : ∀ c, DH (hput H 23 c) d e := by
    intro c
    unfold DH
    rw [hg_n (show 8 ≠ 23 by decide), hg_n (show 9 ≠ 23 by decide), hg_n (show 10 ≠ 23 by decide), hg_n (show 11 ≠ 23 by decide), hg_n (show 12 ≠ 23 by decide), hg_n (show 13 ≠ 23 by decide)]
    exact h
  have x8 : ∀ c, hget (hput H 23 c) 8 = cO 0 [.ref 9, .ref 10, .ref 11, .ref 12, .ref 13] := fun c => (hD c).1.1
  have x22 : ∀ c, hget (hput H 23 c) 22 = cO 6 [.ref 23, vi (d.2.1 + e.2.1 - 1)] := fun c => by rw [hg_n (by decide)]; exact h22
  have xr : ∀ c, hget (hput H 23 c) r = cO 5 [vi d.1, .ref cc] := fun c => by rw [hg_n (by omega)]; exact R.1
  have xc : ∀ c, hget (hput H 23 c) cc = cL d.2.1 d.2.2 := fun c => by rw [hg_n (by omega)]; exact R.2.1
  have yr : ∀ c, hget (hput H 23 c) r' = cO 5 [vi e.1, .ref cc'] := fun c => by rw [hg_n (by omega)]; exact R'.1
  have yc : ∀ c, hget (hput H 23 c) cc' = cL e.2.1 e.2.2 := fun c => by rw [hg_n (by omega)]; exact R'.2.1
  have s1 := fun Q c => sp_size (Q := Q) (xr c) (xc c) R.sz
  have s2 := fun Q c => sp_size (Q := Q) (yr c) (yc c) R'.sz
  intro f
  induction f with
  | zero =>
    intro k hk h0
    rw [gX0_product_29]
    simp (disch := omega) only [gX0_product_31, gX0_product_32, fl_6_1, gX0_product_35T, gX0_product_35F, gX0_product_65, Rd_some, Wr_some, Cont_some, Cont_none, iso_O, true_and, hg_s, hg_n, hput_hput, x22]
    rw [show k = d.2.1 + e.2.1 - 1 by omega]
  | succ f ih =>
    intro k hk h0
    have eb := fun Q c => sp_eb (Q := Q) (k := k) (hD c) n1 n2 (by omega)
    rw [← ih (k + 1) (by omega) (by omega), gX0_product_29]
    simp (disch := omega) only [gX0_product_31, gX0_product_32, fl_6_1, gX0_product_35T, gX0_product_35F, gX0_product_38, gX0_product_39, fl_6_0, gX0_product_42, gX0_product_44, gX0_product_45, gX0_product_47, gX0_product_48, gX0_product_51, gX0_product_52, gX0_product_55, gX0_product_58, sL_p, gX0_product_59, gX0_product_62, Rd_some, Wr_some, Cont_some, Cont_none, iso_O, true_and, hg_s, hg_n, hput_hput, x22, x8, xr, yr, s1, s2, eb, sL_p]
    rw [mix_up h0 rfl]
theorem HL_q {A B q : Nat} {g : Int → UInt64} {z : Int → Int} (h : q ≠ A ∧ q ≠ B) : hget (HL H A B g z) q = hget H q := by unfold HL; rw [hg_n h.2, hg_n h.1]
theorem HL_A {A B : Nat} {g : Int → UInt64} {z : Int → Int} (h : A ≠ B) : hget (HL H A B g z) A = cD 64 g := by unfold HL; rw [hg_n h, hg_s]
theorem HL_B {A B : Nat} {g : Int → UInt64} {z : Int → Int} : hget (HL H A B g z) B = cZ 64 z := by unfold HL; rw [hg_s]
theorem RW.hl {r cc A B : Nat} {g : Int → UInt64} {z : Int → Int} {ln : Int} {x : Int → Int} (R : RW H r cc ln n x) (hA : A ≤ 60) (hB : B ≤ 60) : RW (HL H A B g z) r cc ln n x := ⟨by have := R.2.2.1; rw [HL_q (by omega)]; exact R.1, by have := R.2.2.1; rw [HL_q (by omega)]; exact R.2.1, R.2.2⟩
theorem RW.pt {r cc A : Nat} {c : AC} {ln : Int} {x : Int → Int} (R : RW H r cc ln n x) (hA : A ≤ 60) : RW (hput H A c) r cc ln n x := ⟨by have := R.2.2.1; rw [hg_n (by omega)]; exact R.1, by have := R.2.2.1; rw [hg_n (by omega)]; exact R.2.1, R.2.2⟩
theorem sp_ld {r cc A B : Nat} (h8 : hget H 8 = cO 0 [.ref 9, .ref 10, .ref 11, .ref 12, .ref 13]) (h9 : hget H 9 = cD 10 pw2) (R : RW H r cc d.1 d.2.1 d.2.2) (hl : 0 ≤ d.1 ∧ d.1 ≤ 4) (hA : 10 ≤ A ∧ A ≤ 11) (hB : 12 ≤ B ∧ B ≤ 13) {g0 : Int → UInt64} {z0 : Int → Int} (e1 : hget H A = cD 64 g0) (e2 : hget H B = cZ 64 z0) : Go 3 0 [some (.ref 8), some (.ref r), some (.ref A), some (.ref B), none] [] H Q ↔ Q none (HL H A B (mix (xv d) g0 d.2.1) (mix (fun j => zb (xn d j)) z0 d.2.1)) := by
  have n1 := R.2.2.2.1
  simp only [gX0_load_0, gX0_load_1, Rd_some, Wr_some, Cont_some, Cont_none, iso_O, true_and, hg_s, hg_n, hput_hput]
  have h := lp_ld (Q := Q) h8 h9 R hl hA hB (g0 := g0) (z0 := z0) d.2.1.toNat 0 (by omega) (by omega)
  rw [mix_0, mix_0, show HL H A B g0 z0 = H by unfold HL; rw [hput_same e1, hput_same e2]] at h
  exact h
theorem sp_pr {r cc r' cc' : Nat} (h8 : hget H 8 = cO 0 [.ref 9, .ref 10, .ref 11, .ref 12, .ref 13]) (h9 : hget H 9 = cD 10 pw2) (h10 : ∃ g, hget H 10 = cD 64 g) (h11 : ∃ g, hget H 11 = cD 64 g) (h12 : ∃ g, hget H 12 = cZ 64 g) (h13 : ∃ g, hget H 13 = cZ 64 g) (h22 : hget H 22 = cO 6 [.ref 23, vi (d.2.1 + e.2.1 - 1)]) (h23 : ∃ g, hget H 23 = cL 127 g) (R : RW H r cc d.1 d.2.1 d.2.2) (R' : RW H r' cc' e.1 e.2.1 e.2.2) (hl : (0 ≤ d.1 ∧ d.1 ≤ 4) ∧ 0 ≤ e.1 ∧ e.1 ≤ 4) (hq : ∀ H', H'.1 = H.1 → H'.2.1 = H.2.1 → (∀ q, (q < 10 ∨ 13 < q) → q ≠ 23 → hget H' q = hget H q) → (∃ g, hget H' 10 = cD 64 g) → (∃ g, hget H' 11 = cD 64 g) → (∃ g, hget H' 12 = cZ 64 g) → (∃ g, hget H' 13 = cZ 64 g) → (∃ g, hget H' 23 = cL 127 g ∧ eqn g (d.2.1 + e.2.1 - 1, rl d e)) → Q none H') : Go 2 0 [some (.ref 8), some (.ref r), some (.ref r'), some (.ref 22), none] [] H Q := by
  obtain ⟨g1, h10⟩ := h10
  obtain ⟨g2, h11⟩ := h11
  obtain ⟨z1, h12⟩ := h12
  obtain ⟨z2, h13⟩ := h13
  obtain ⟨g0, h23⟩ := h23
  have n1 := R.2.2.2.1
  have n2 := R'.2.2.2.1
  simp (disch := omega) only [gX0_product_0, gX0_product_1, gX0_product_2, gX0_product_3, fl_0_1, gX0_product_6, gX0_product_7, fl_0_3, gX0_product_10, Rd_some, Wr_some, Cont_some, Cont_none, iso_O, true_and, hg_s, hg_n, hput_hput, h8]
  rw [sp_ld h8 h9 R hl.1 (by omega) (by omega) h10 h12]
  have x8 : ∀ g z, hget (HL H 10 12 g z) 8 = cO 0 [.ref 9, .ref 10, .ref 11, .ref 12, .ref 13] := fun g z => by rw [HL_q (by omega)]; exact h8
  simp (disch := omega) only [gX0_product_13, gX0_product_14, gX0_product_15, gX0_product_16, fl_0_2, gX0_product_19, gX0_product_20, fl_0_4, gX0_product_23, Rd_some, Wr_some, Cont_some, Cont_none, iso_O, true_and, hg_s, hg_n, hput_hput, x8]
  rw [sp_ld (by rw [HL_q (by omega)]; exact h8) (by rw [HL_q (by omega)]; exact h9) (R'.hl (by omega) (by omega)) hl.2 (by omega) (by omega) (by rw [HL_q (by omega)]; exact h11) (by rw [HL_q (by omega)]; exact h13)]
  simp (disch := omega) only [gX0_product_26, gX0_product_27, Rd_some, Wr_some, Cont_some, Cont_none, iso_O, true_and, hg_s, hg_n, hput_hput]
  generalize hG1 : mix (xv d) g1 d.2.1 = G1
  generalize hZ1 : mix (fun j => zb (xn d j)) z1 d.2.1 = Z1
  generalize hG2 : mix (xv e) g2 e.2.1 = G2
  generalize hZ2 : mix (fun j => zb (xn e j)) z2 e.2.1 = Z2
  have hD : DH (HL (HL H 10 12 G1 Z1) 11 13 G2 Z2) d e := by
    refine ⟨⟨by rw [HL_q (by omega), HL_q (by omega)]; exact h8, by rw [HL_q (by omega), HL_q (by omega)]; exact h9⟩, ⟨G1, by rw [HL_q (by omega), HL_A (by omega)], fun j j0 j1 => ?_⟩, ⟨G2, by rw [HL_A (by omega)], fun j j0 j1 => ?_⟩, ⟨Z1, by rw [HL_q (by omega), HL_B], fun j j0 j1 => ?_⟩, ⟨Z2, by rw [HL_B], fun j j0 j1 => ?_⟩⟩
    · rw [← hG1, mix_in ⟨j0, j1⟩]
    · rw [← hG2, mix_in ⟨j0, j1⟩]
    · rw [← hZ1, mix_in ⟨j0, j1⟩]
    · rw [← hZ2, mix_in ⟨j0, j1⟩]
  have k := lp_pr (Q := Q) hD (by rw [HL_q (by omega), HL_q (by omega)]; exact h22) ((R.hl (by omega) (by omega)).hl (by omega) (by omega)) ((R'.hl (by omega) (by omega)).hl (by omega) (by omega)) (g := g0) (d.2.1 + e.2.1 - 1).toNat 0 (by omega) (by omega)
  rw [mix_0, hput_same (by rw [HL_q (by omega), HL_q (by omega)]; exact h23)] at k
  refine k.mpr (hq _ rfl rfl (fun q q1 q2 => ?_) ⟨G1, ?_⟩ ⟨G2, ?_⟩ ⟨Z1, ?_⟩ ⟨Z2, ?_⟩ ⟨_, hg_s, fun j j0 j1 => mix_in ⟨j0, j1⟩⟩)
  · rw [hg_n q2, HL_q (by omega), HL_q (by omega)]
  · rw [hg_n (by decide), HL_q (by omega), HL_A (by omega)]
  · rw [hg_n (by decide), HL_A (by omega)]
  · rw [hg_n (by decide), HL_q (by omega), HL_B]
  · rw [hg_n (by decide), HL_B]
theorem CI.sh6 {H' : HP} {V : Int → Int} (h : CI H S) (h1 : H'.1 = H.1) (e : ∀ q, (q < 10 ∨ 13 < q) → q ≠ 22 → q ≠ 23 → hget H' q = hget H q) (hd : hget H' 22 = cO 6 [.ref 23, vi n]) {g : Int → Int} (hg : hget H' 23 = cL 127 g) (hv : eqn g (n, V)) (hn : 0 ≤ n ∧ n ≤ 127) (h10 : ∃ g, hget H' 10 = cD 64 g) (h11 : ∃ g, hget H' 11 = cD 64 g) (h12 : ∃ g, hget H' 12 = cZ 64 g) (h13 : ∃ g, hget H' 13 = cZ 64 g) : CI H' (wSh S 6 n V) := by
  refine h.upd h1 (fun q hq => e q (by omega) (by omega) (by omega)) rfl (fun q hq => ?_) ?_
  · by_cases e1 : q = 22
    · subst e1; exact hd
    · by_cases e2 : q = 23
      · subst e2; exact ⟨g, hg, hv⟩
      · by_cases e3 : q = 10
        · subst e3; exact h10
        · by_cases e4 : q = 11
          · subst e4; exact h11
          · by_cases e5 : q = 12
            · subst e5; exact h12
            · by_cases e6 : q = 13
              · subst e6; exact h13
              · rw [e q (by omega) e1 e2]; exact (Sh_6 ⟨e1, e2⟩).mpr (h.1 q hq)
  · obtain ⟨s1, s2, s3, s4, s5, s6, s7, s8⟩ := h.2.2.1
    exact ⟨s1, s2, s3, s4, s5, s6, hn, s8⟩
theorem cx_real (hc : CI H S) (c : (-2147483648 ≤ a ∧ a ≤ 2147483647) ∧ (-2147483648 ≤ b ∧ b ≤ 2147483647)) (hq : CG H Q (o_real S a b)) : Go 101 0 [some (.ref 1), some (vi a), some (vi b), none, none] [] H Q := by
  have hx := hc.x
  have h2 := hc.pl
  unfold o_real CG at hq
  by_cases ha : 0 ≤ a ∧ a < 12
  · by_cases hb : 0 ≤ b ∧ b < 12
    · rw [if_pos ⟨ha, hb⟩] at hq
      have hc1 := hc.ft 0
      unfold o_two at hq
      cases hoa : S.1.1 a with
      | none =>
        cases hob : S.1.1 b with
        | none =>
          rw [hoa, hob] at hq
          dsimp only at hq
          simp (disch := omega) only [gX8_real_0, gX8_real_1, gX8_real_2, pf_8_12, gX8_real_5, gX8_real_6, gX8_real_9T, gX8_real_9F, gX8_real_12, gX8_real_13, gX8_real_16T, gX8_real_16F, gX8_real_19, gX8_real_20, gX8_real_21, gX8_real_22, fl_8_0, gX8_real_25, gX8_real_26, aR_g, gX8_real_27, gX8_real_27N, gX8_real_28, gX8_real_29, gX8_real_32, gX8_real_33, gX8_real_34, gX8_real_34N, gX8_real_36, gX8_real_36N, gX8_real_37T, gX8_real_37F, gX8_real_40, gX8_real_40N, gX8_real_42T, gX8_real_42F, gX8_real_45, gX8_real_46, gX8_real_47, gX8_real_50, gX8_real_51, gX8_real_52, fl_8_9, gX8_real_55, gX8_real_55N, gX8_real_56, gX8_real_59, gX8_real_59N, gX8_real_61, gX8_real_64, gX8_real_65, gX8_real_66, gX8_real_67, pf_6_1, gX8_real_70, gX8_real_71, fl_8_4, gX8_real_74, gX8_real_74N, gX8_real_75, gX8_real_75N, gX8_real_77, gX8_real_78, gX8_real_81, gX8_real_84, gX8_real_85, gX8_real_88, fl_6_1, gX8_real_91, Rd_some, Wr_some, Cont_some, Cont_none, iso_O, true_and, hg_s, hg_n, hput_hput, gX8_faulted_0, gX8_faulted_1, gX8_faulted_2, pf_8_12, gX8_faulted_5, gX8_faulted_7, gX8_faulted_8, gX8_faulted_9, Rd_some, Wr_some, Cont_some, Cont_none, iso_O, true_and, hg_s, hg_n, hput_hput, hx, h2, sp_plT, aR_g, hoa, hob, va_rf_n]
          exact hq _ (hc.ft 1) (FX.put (by decide))
        | some l =>
          rw [hoa, hob] at hq
          dsimp only at hq
          simp (disch := omega) only [gX8_real_0, gX8_real_1, gX8_real_2, pf_8_12, gX8_real_5, gX8_real_6, gX8_real_9T, gX8_real_9F, gX8_real_12, gX8_real_13, gX8_real_16T, gX8_real_16F, gX8_real_19, gX8_real_20, gX8_real_21, gX8_real_22, fl_8_0, gX8_real_25, gX8_real_26, aR_g, gX8_real_27, gX8_real_27N, gX8_real_28, gX8_real_29, gX8_real_32, gX8_real_33, gX8_real_34, gX8_real_34N, gX8_real_36, gX8_real_36N, gX8_real_37T, gX8_real_37F, gX8_real_40, gX8_real_40N, gX8_real_42T, gX8_real_42F, gX8_real_45, gX8_real_46, gX8_real_47, gX8_real_50, gX8_real_51, gX8_real_52, fl_8_9, gX8_real_55, gX8_real_55N, gX8_real_56, gX8_real_59, gX8_real_59N, gX8_real_61, gX8_real_64, gX8_real_65, gX8_real_66, gX8_real_67, pf_6_1, gX8_real_70, gX8_real_71, fl_8_4, gX8_real_74, gX8_real_74N, gX8_real_75, gX8_real_75N, gX8_real_77, gX8_real_78, gX8_real_81, gX8_real_84, gX8_real_85, gX8_real_88, fl_6_1, gX8_real_91, Rd_some, Wr_some, Cont_some, Cont_none, iso_O, true_and, hg_s, hg_n, hput_hput, gX8_faulted_0, gX8_faulted_1, gX8_faulted_2, pf_8_12, gX8_faulted_5, gX8_faulted_7, gX8_faulted_8, gX8_faulted_9, Rd_some, Wr_some, Cont_some, Cont_none, iso_O, true_and, hg_s, hg_n, hput_hput, hx, h2, sp_plT, aR_g, hoa, hob, va_rf_n, va_rf_s]
          exact hq _ (hc.ft 1) (FX.put (by decide))
      | some k =>
        cases hob : S.1.1 b with
        | none =>
          rw [hoa, hob] at hq
          dsimp only at hq
          simp (disch := omega) only [gX8_real_0, gX8_real_1, gX8_real_2, pf_8_12, gX8_real_5, gX8_real_6, gX8_real_9T, gX8_real_9F, gX8_real_12, gX8_real_13, gX8_real_16T, gX8_real_16F, gX8_real_19, gX8_real_20, gX8_real_21, gX8_real_22, fl_8_0, gX8_real_25, gX8_real_26, aR_g, gX8_real_27, gX8_real_27N, gX8_real_28, gX8_real_29, gX8_real_32, gX8_real_33, gX8_real_34, gX8_real_34N, gX8_real_36, gX8_real_36N, gX8_real_37T, gX8_real_37F, gX8_real_40, gX8_real_40N, gX8_real_42T, gX8_real_42F, gX8_real_45, gX8_real_46, gX8_real_47, gX8_real_50, gX8_real_51, gX8_real_52, fl_8_9, gX8_real_55, gX8_real_55N, gX8_real_56, gX8_real_59, gX8_real_59N, gX8_real_61, gX8_real_64, gX8_real_65, gX8_real_66, gX8_real_67, pf_6_1, gX8_real_70, gX8_real_71, fl_8_4, gX8_real_74, gX8_real_74N, gX8_real_75, gX8_real_75N, gX8_real_77, gX8_real_78, gX8_real_81, gX8_real_84, gX8_real_85, gX8_real_88, fl_6_1, gX8_real_91, Rd_some, Wr_some, Cont_some, Cont_none, iso_O, true_and, hg_s, hg_n, hput_hput, gX8_faulted_0, gX8_faulted_1, gX8_faulted_2, pf_8_12, gX8_faulted_5, gX8_faulted_7, gX8_faulted_8, gX8_faulted_9, Rd_some, Wr_some, Cont_some, Cont_none, iso_O, true_and, hg_s, hg_n, hput_hput, hx, h2, sp_plT, aR_g, hoa, hob, va_rf_n, va_rf_s]
          exact hq _ (hc.ft 1) (FX.put (by decide))
        | some l =>
          rw [hoa, hob] at hq
          dsimp only at hq
          have ra : Rw (hput H 1 (cX (wFt S 0))) k (S.1.2 k) := hc1.rw' (S := wFt S 0) ha hoa
          have rb : Rw (hput H 1 (cX (wFt S 0))) l (S.1.2 l) := hc1.rw' (S := wFt S 0) hb hob
          have la := ra.2.2.2.1
          have lb := rb.2.2.2.1
          have f1 : FX H (hput H 1 (cX (wFt S 0))) := FX.put (by decide)
          simp (disch := omega) only [gX8_real_0, gX8_real_1, gX8_real_2, pf_8_12, gX8_real_5, gX8_real_6, gX8_real_9T, gX8_real_9F, gX8_real_12, gX8_real_13, gX8_real_16T, gX8_real_16F, gX8_real_19, gX8_real_20, gX8_real_21, gX8_real_22, fl_8_0, gX8_real_25, gX8_real_26, aR_g, gX8_real_27, gX8_real_27N, gX8_real_28, gX8_real_29, gX8_real_32, gX8_real_33, gX8_real_34, gX8_real_34N, gX8_real_36, gX8_real_36N, gX8_real_37T, gX8_real_37F, gX8_real_40, gX8_real_40N, gX8_real_42T, gX8_real_42F, Rd_some, Wr_some, Cont_some, Cont_none, iso_O, true_and, hg_s, hg_n, hput_hput, hx, h2, sp_plT, aR_g, hoa, hob, va_rf_s]
          change Go _ _ _ _ (hput H 1 (cX (wFt S 0))) _
          generalize hput H 1 (cX (wFt S 0)) = H1 at hc1 ra rb f1
          rw [if_pos ⟨la.2, lb.2⟩] at hq
          have hA := ra.RW
          have hB := rb.RW
          have nA := hA.2.2.2.1
          have nB := hB.2.2.2.1
          have h8 : hget H1 8 = cO 0 [.ref 9, .ref 10, .ref 11, .ref 12, .ref 13] := hc1.c 8 (by decide)
          have h9 : hget H1 9 = cD 10 pw2 := hc1.c 9 (by decide)
          have h22 : hget H1 22 = cO 6 [.ref 23, vi ((wFt S 0).2.2 6).1] := hc1.c 22 (by decide)
          simp (disch := omega) only [gX8_real_51, gX8_real_52, fl_8_9, gX8_real_55, gX8_real_55N, gX8_real_56, gX8_real_59, gX8_real_59N, gX8_real_61, gX8_real_64, gX8_real_65, gX8_real_66, gX8_real_67, pf_6_1, gX8_real_70, gX8_real_71, fl_8_4, gX8_real_74, gX8_real_74N, gX8_real_75, gX8_real_75N, gX8_real_77, gX8_real_78, gX8_real_81, Rd_some, Wr_some, Cont_some, Cont_none, iso_O, true_and, hg_s, hg_n, hput_hput, hc1.x, h22, h8, ra.2.1, rb.2.1, sp_size ra.2.1 ra.2.2.1 hA.sz, sp_size rb.2.1 rb.2.2.1 hB.sz]
          refine sp_pr (d := S.1.2 k) (e := S.1.2 l) (by rw [hg_n (by decide)]; exact h8) (by rw [hg_n (by decide)]; exact h9) (by rw [hg_n (by decide)]; exact hc1.c 10 (by decide)) (by rw [hg_n (by decide)]; exact hc1.c 11 (by decide)) (by rw [hg_n (by decide)]; exact hc1.c 12 (by decide)) (by rw [hg_n (by decide)]; exact hc1.c 13 (by decide)) hg_s (by rw [hg_n (by decide)]; obtain ⟨g0, g1, -⟩ := hc1.c 23 (by decide); exact ⟨g0, g1⟩) (hA.pt (by omega)) (hB.pt (by omega)) ⟨la, lb⟩ (fun H' e1 e2 e3 e4 e5 e6 e7 e8 => ?_)
          obtain ⟨g, e8, e9⟩ := e8
          have x1 : hget H' 1 = cX (wFt S 0) := by rw [e3 1 (by omega) (by omega), hg_n (by decide)]; exact hc1.x
          have x22 : hget H' 22 = cO 6 [.ref 23, vi ((S.1.2 k).2.1 + (S.1.2 l).2.1 - 1)] := by rw [e3 22 (by omega) (by omega), hg_s]
          simp (disch := omega) only [gX8_real_84, gX8_real_85, fl_8_9, gX8_real_88, fl_6_1, gX8_real_91, Rd_some, Wr_some, Cont_some, Cont_none, iso_O, true_and, hg_s, hg_n, hput_hput, x1, x22]
          refine hq _ (hc1.sh6 e1 (fun q q1 q2 q3 => by rw [e3 q q1 q3, hg_n q2]) x22 e8 e9 (by omega) e4 e5 e6 e7) (f1.same e1 e2 (fun q hq => by rw [e3 q (by omega) (by omega), hg_n (by omega)]))
    · rw [if_neg (fun t => hb t.2)] at hq
      simp (disch := omega) only [gX8_real_0, gX8_real_1, gX8_real_2, pf_8_12, gX8_real_5, gX8_real_6, gX8_real_9T, gX8_real_9F, gX8_real_12, gX8_real_13, gX8_real_16T, gX8_real_16F, gX8_real_19, gX8_real_20, gX8_real_21, gX8_real_22, fl_8_0, gX8_real_25, gX8_real_26, aR_g, gX8_real_27, gX8_real_27N, gX8_real_28, gX8_real_29, gX8_real_32, gX8_real_33, gX8_real_34, gX8_real_34N, gX8_real_36, gX8_real_36N, gX8_real_37T, gX8_real_37F, gX8_real_40, gX8_real_40N, gX8_real_42T, gX8_real_42F, gX8_real_45, gX8_real_46, gX8_real_47, gX8_real_50, gX8_real_51, gX8_real_52, fl_8_9, gX8_real_55, gX8_real_55N, gX8_real_56, gX8_real_59, gX8_real_59N, gX8_real_61, gX8_real_64, gX8_real_65, gX8_real_66, gX8_real_67, pf_6_1, gX8_real_70, gX8_real_71, fl_8_4, gX8_real_74, gX8_real_74N, gX8_real_75, gX8_real_75N, gX8_real_77, gX8_real_78, gX8_real_81, gX8_real_84, gX8_real_85, gX8_real_88, fl_6_1, gX8_real_91, Rd_some, Wr_some, Cont_some, Cont_none, iso_O, true_and, hg_s, hg_n, hput_hput, hx, sp_plT, sp_plF]
      exact hq _ (hc.ft 0) (FX.put (by decide))
  · rw [if_neg (fun t => ha t.1)] at hq
    simp (disch := omega) only [gX8_real_0, gX8_real_1, gX8_real_2, pf_8_12, gX8_real_5, gX8_real_6, gX8_real_9T, gX8_real_9F, gX8_real_12, gX8_real_13, gX8_real_16T, gX8_real_16F, gX8_real_19, gX8_real_20, gX8_real_21, gX8_real_22, fl_8_0, gX8_real_25, gX8_real_26, aR_g, gX8_real_27, gX8_real_27N, gX8_real_28, gX8_real_29, gX8_real_32, gX8_real_33, gX8_real_34, gX8_real_34N, gX8_real_36, gX8_real_36N, gX8_real_37T, gX8_real_37F, gX8_real_40, gX8_real_40N, gX8_real_42T, gX8_real_42F, gX8_real_45, gX8_real_46, gX8_real_47, gX8_real_50, gX8_real_51, gX8_real_52, fl_8_9, gX8_real_55, gX8_real_55N, gX8_real_56, gX8_real_59, gX8_real_59N, gX8_real_61, gX8_real_64, gX8_real_65, gX8_real_66, gX8_real_67, pf_6_1, gX8_real_70, gX8_real_71, fl_8_4, gX8_real_74, gX8_real_74N, gX8_real_75, gX8_real_75N, gX8_real_77, gX8_real_78, gX8_real_81, gX8_real_84, gX8_real_85, gX8_real_88, fl_6_1, gX8_real_91, Rd_some, Wr_some, Cont_some, Cont_none, iso_O, true_and, hg_s, hg_n, hput_hput, hx, sp_plT, sp_plF]
    exact hq _ (hc.ft 0) (FX.put (by decide))
end DRX

/-! real, on m -/
theorem dnI : FP.dneg 9218868437227405312 = 18442240474082181120 := by decide +kernel
theorem fb_num {v : Int} (h : ¬ 9218868437227405312 < v % 9223372036854775808) : fb v = uB v := if_pos (by omega)
theorem sn_num {v : Int} (h : ¬ 9218868437227405312 < v % 9223372036854775808) : vn_snl2d (Int64.ofInt v) = false := sn_of (by rw [← fb_num h]; exact fb_n)
section DMR
variable {H : HP} {S : SS} {Q : Option Value → HP → Prop} {d e : RD} {a b n m k : Int} {T : TT}
theorem sp_mnone {x y : UInt64} (hx : vD x ≠ .nan) (hy : vD y ≠ .nan) : Go 175 0 [some (.double x), none, some (.double y), none, none, none, none] [] H Q ↔ Q (some (vi (if nop x y = true then 1 else 0))) H := by
  have hx1 := dk_mg x
  have hy1 := dk_mg y
  obtain ⟨-, -, k0, kI, kN⟩ := k_c
  obtain ⟨-, -, n0, nI, nN⟩ := n_c
  unfold nop
  by_cases c1 : dk x = 0
  · have t1 : dck .l .eq x 0 = true := dck_T hx n0 (by show _ = _; omega)
    have t3 : dck .l .eq x 9218868437227405312 = false := dck_F hx nI (by show ¬ (_ = _); omega)
    have t4 : dck .l .eq x 18442240474082181120 = false := dck_F hx nN (by show ¬ (_ = _); omega)
    by_cases c2 : dk y = 9218868437227405312
    · have t5 : dck .l .eq y 9218868437227405312 = true := dck_T hy nI (by show _ = _; omega)
      rw [if_pos (decide_eq_true (by omega))]
      simp (disch := first | omega | assumption) only [gX9_isNone_0, gX9_isNone_1, gX9_isNone_2T, gX9_isNone_2F, gX9_isNone_3T, gX9_isNone_3F, gX9_isNone_6, gX9_isNone_7, gX9_isNone_8T, gX9_isNone_8F, gX9_isNone_9T, gX9_isNone_9F, gX9_isNone_12, gX9_isNone_13, gX9_isNone_16, gX9_isNone_17, gX9_isNone_19, gX9_isNone_22, gX9_isNone_24, gX9_isNone_26T, gX9_isNone_26F, gX9_isNone_29, gX9_isNone_30, gX9_isNone_32T, gX9_isNone_32F, gX9_isNone_33T, gX9_isNone_33F, gX9_isNone_36, gX9_isNone_37, gX9_isNone_39, gX9_isNone_40T, gX9_isNone_40F, gX9_isNone_41T, gX9_isNone_41F, gX9_isNone_44, gX9_isNone_45, gX9_isNone_47T, gX9_isNone_47F, gX9_isNone_48T, gX9_isNone_48F, gX9_isNone_51, gX9_isNone_52, gX9_isNone_54, gX9_isNone_55T, gX9_isNone_55F, gX9_isNone_56T, gX9_isNone_56F, gX9_isNone_59, gX9_isNone_60, gX9_isNone_63, gX9_isNone_64, Rd_some, Wr_some, Cont_some, Cont_none, iso_O, true_and, hg_s, hg_n, hput_hput, dc0, dnI]
    · have t5 : dck .l .eq y 9218868437227405312 = false := dck_F hy nI (by show ¬ (_ = _); omega)
      by_cases c3 : dk y = -9218868437227405312
      · have t6 : dck .l .ne y 18442240474082181120 = false := dck_F hy nN (by show ¬ ¬ (_ = _); omega)
        rw [if_pos (decide_eq_true (by omega))]
        simp (disch := first | omega | assumption) only [gX9_isNone_0, gX9_isNone_1, gX9_isNone_2T, gX9_isNone_2F, gX9_isNone_3T, gX9_isNone_3F, gX9_isNone_6, gX9_isNone_7, gX9_isNone_8T, gX9_isNone_8F, gX9_isNone_9T, gX9_isNone_9F, gX9_isNone_12, gX9_isNone_13, gX9_isNone_16, gX9_isNone_17, gX9_isNone_19, gX9_isNone_22, gX9_isNone_24, gX9_isNone_26T, gX9_isNone_26F, gX9_isNone_29, gX9_isNone_30, gX9_isNone_32T, gX9_isNone_32F, gX9_isNone_33T, gX9_isNone_33F, gX9_isNone_36, gX9_isNone_37, gX9_isNone_39, gX9_isNone_40T, gX9_isNone_40F, gX9_isNone_41T, gX9_isNone_41F, gX9_isNone_44, gX9_isNone_45, gX9_isNone_47T, gX9_isNone_47F, gX9_isNone_48T, gX9_isNone_48F, gX9_isNone_51, gX9_isNone_52, gX9_isNone_54, gX9_isNone_55T, gX9_isNone_55F, gX9_isNone_56T, gX9_isNone_56F, gX9_isNone_59, gX9_isNone_60, gX9_isNone_63, gX9_isNone_64, Rd_some, Wr_some, Cont_some, Cont_none, iso_O, true_and, hg_s, hg_n, hput_hput, dc0, dnI]
      · have t6 : dck .l .ne y 18442240474082181120 = true := dck_T hy nN (by show ¬ (_ = _); omega)
        rw [if_neg (by rw [decide_eq_true_eq]; omega)]
        simp (disch := first | omega | assumption) only [gX9_isNone_0, gX9_isNone_1, gX9_isNone_2T, gX9_isNone_2F, gX9_isNone_3T, gX9_isNone_3F, gX9_isNone_6, gX9_isNone_7, gX9_isNone_8T, gX9_isNone_8F, gX9_isNone_9T, gX9_isNone_9F, gX9_isNone_12, gX9_isNone_13, gX9_isNone_16, gX9_isNone_17, gX9_isNone_19, gX9_isNone_22, gX9_isNone_24, gX9_isNone_26T, gX9_isNone_26F, gX9_isNone_29, gX9_isNone_30, gX9_isNone_32T, gX9_isNone_32F, gX9_isNone_33T, gX9_isNone_33F, gX9_isNone_36, gX9_isNone_37, gX9_isNone_39, gX9_isNone_40T, gX9_isNone_40F, gX9_isNone_41T, gX9_isNone_41F, gX9_isNone_44, gX9_isNone_45, gX9_isNone_47T, gX9_isNone_47F, gX9_isNone_48T, gX9_isNone_48F, gX9_isNone_51, gX9_isNone_52, gX9_isNone_54, gX9_isNone_55T, gX9_isNone_55F, gX9_isNone_56T, gX9_isNone_56F, gX9_isNone_59, gX9_isNone_60, gX9_isNone_63, gX9_isNone_64, Rd_some, Wr_some, Cont_some, Cont_none, iso_O, true_and, hg_s, hg_n, hput_hput, dc0, dnI]
  · have t1 : dck .l .eq x 0 = false := dck_F hx n0 (by show ¬ (_ = _); omega)
    by_cases c2 : dk y = 0
    · have t2 : dck .l .ne y 0 = false := dck_F hy n0 (by show ¬ ¬ (_ = _); omega)
      have t5 : dck .l .eq y 9218868437227405312 = false := dck_F hy nI (by show ¬ (_ = _); omega)
      have t6 : dck .l .ne y 18442240474082181120 = true := dck_T hy nN (by show ¬ (_ = _); omega)
      by_cases c3 : dk x = 9218868437227405312
      · have t3 : dck .l .eq x 9218868437227405312 = true := dck_T hx nI (by show _ = _; omega)
        rw [if_pos (decide_eq_true (by omega))]
        simp (disch := first | omega | assumption) only [gX9_isNone_0, gX9_isNone_1, gX9_isNone_2T, gX9_isNone_2F, gX9_isNone_3T, gX9_isNone_3F, gX9_isNone_6, gX9_isNone_7, gX9_isNone_8T, gX9_isNone_8F, gX9_isNone_9T, gX9_isNone_9F, gX9_isNone_12, gX9_isNone_13, gX9_isNone_16, gX9_isNone_17, gX9_isNone_19, gX9_isNone_22, gX9_isNone_24, gX9_isNone_26T, gX9_isNone_26F, gX9_isNone_29, gX9_isNone_30, gX9_isNone_32T, gX9_isNone_32F, gX9_isNone_33T, gX9_isNone_33F, gX9_isNone_36, gX9_isNone_37, gX9_isNone_39, gX9_isNone_40T, gX9_isNone_40F, gX9_isNone_41T, gX9_isNone_41F, gX9_isNone_44, gX9_isNone_45, gX9_isNone_47T, gX9_isNone_47F, gX9_isNone_48T, gX9_isNone_48F, gX9_isNone_51, gX9_isNone_52, gX9_isNone_54, gX9_isNone_55T, gX9_isNone_55F, gX9_isNone_56T, gX9_isNone_56F, gX9_isNone_59, gX9_isNone_60, gX9_isNone_63, gX9_isNone_64, Rd_some, Wr_some, Cont_some, Cont_none, iso_O, true_and, hg_s, hg_n, hput_hput, dc0, dnI]
      · have t3 : dck .l .eq x 9218868437227405312 = false := dck_F hx nI (by show ¬ (_ = _); omega)
        by_cases c4 : dk x = -9218868437227405312
        · have t4 : dck .l .eq x 18442240474082181120 = true := dck_T hx nN (by show _ = _; omega)
          rw [if_pos (decide_eq_true (by omega))]
          simp (disch := first | omega | assumption) only [gX9_isNone_0, gX9_isNone_1, gX9_isNone_2T, gX9_isNone_2F, gX9_isNone_3T, gX9_isNone_3F, gX9_isNone_6, gX9_isNone_7, gX9_isNone_8T, gX9_isNone_8F, gX9_isNone_9T, gX9_isNone_9F, gX9_isNone_12, gX9_isNone_13, gX9_isNone_16, gX9_isNone_17, gX9_isNone_19, gX9_isNone_22, gX9_isNone_24, gX9_isNone_26T, gX9_isNone_26F, gX9_isNone_29, gX9_isNone_30, gX9_isNone_32T, gX9_isNone_32F, gX9_isNone_33T, gX9_isNone_33F, gX9_isNone_36, gX9_isNone_37, gX9_isNone_39, gX9_isNone_40T, gX9_isNone_40F, gX9_isNone_41T, gX9_isNone_41F, gX9_isNone_44, gX9_isNone_45, gX9_isNone_47T, gX9_isNone_47F, gX9_isNone_48T, gX9_isNone_48F, gX9_isNone_51, gX9_isNone_52, gX9_isNone_54, gX9_isNone_55T, gX9_isNone_55F, gX9_isNone_56T, gX9_isNone_56F, gX9_isNone_59, gX9_isNone_60, gX9_isNone_63, gX9_isNone_64, Rd_some, Wr_some, Cont_some, Cont_none, iso_O, true_and, hg_s, hg_n, hput_hput, dc0, dnI]
        · have t4 : dck .l .eq x 18442240474082181120 = false := dck_F hx nN (by show ¬ (_ = _); omega)
          rw [if_neg (by rw [decide_eq_true_eq]; omega)]
          simp (disch := first | omega | assumption) only [gX9_isNone_0, gX9_isNone_1, gX9_isNone_2T, gX9_isNone_2F, gX9_isNone_3T, gX9_isNone_3F, gX9_isNone_6, gX9_isNone_7, gX9_isNone_8T, gX9_isNone_8F, gX9_isNone_9T, gX9_isNone_9F, gX9_isNone_12, gX9_isNone_13, gX9_isNone_16, gX9_isNone_17, gX9_isNone_19, gX9_isNone_22, gX9_isNone_24, gX9_isNone_26T, gX9_isNone_26F, gX9_isNone_29, gX9_isNone_30, gX9_isNone_32T, gX9_isNone_32F, gX9_isNone_33T, gX9_isNone_33F, gX9_isNone_36, gX9_isNone_37, gX9_isNone_39, gX9_isNone_40T, gX9_isNone_40F, gX9_isNone_41T, gX9_isNone_41F, gX9_isNone_44, gX9_isNone_45, gX9_isNone_47T, gX9_isNone_47F, gX9_isNone_48T, gX9_isNone_48F, gX9_isNone_51, gX9_isNone_52, gX9_isNone_54, gX9_isNone_55T, gX9_isNone_55F, gX9_isNone_56T, gX9_isNone_56F, gX9_isNone_59, gX9_isNone_60, gX9_isNone_63, gX9_isNone_64, Rd_some, Wr_some, Cont_some, Cont_none, iso_O, true_and, hg_s, hg_n, hput_hput, dc0, dnI]
    · have t2 : dck .l .ne y 0 = true := dck_T hy n0 (by show ¬ (_ = _); omega)
      rw [if_neg (by rw [decide_eq_true_eq]; omega)]
      simp (disch := first | omega | assumption) only [gX9_isNone_0, gX9_isNone_1, gX9_isNone_2T, gX9_isNone_2F, gX9_isNone_3T, gX9_isNone_3F, gX9_isNone_6, gX9_isNone_7, gX9_isNone_8T, gX9_isNone_8F, gX9_isNone_9T, gX9_isNone_9F, gX9_isNone_12, gX9_isNone_13, gX9_isNone_16, gX9_isNone_17, gX9_isNone_19, gX9_isNone_22, gX9_isNone_24, gX9_isNone_26T, gX9_isNone_26F, gX9_isNone_29, gX9_isNone_30, gX9_isNone_32T, gX9_isNone_32F, gX9_isNone_33T, gX9_isNone_33F, gX9_isNone_36, gX9_isNone_37, gX9_isNone_39, gX9_isNone_40T, gX9_isNone_40F, gX9_isNone_41T, gX9_isNone_41F, gX9_isNone_44, gX9_isNone_45, gX9_isNone_47T, gX9_isNone_47F, gX9_isNone_48T, gX9_isNone_48F, gX9_isNone_51, gX9_isNone_52, gX9_isNone_54, gX9_isNone_55T, gX9_isNone_55F, gX9_isNone_56T, gX9_isNone_56F, gX9_isNone_59, gX9_isNone_60, gX9_isNone_63, gX9_isNone_64, Rd_some, Wr_some, Cont_some, Cont_none, iso_O, true_and, hg_s, hg_n, hput_hput, dc0, dnI]
theorem sp_d2lb {u : UInt64} (h : vD u ≠ .nan) : Go 182 0 [some (.double u), none] [] H Q ↔ Q (some (vl u.toInt64.toInt)) H := by
  have t : dck .l .eq u u = true := dck_T h h (by show _ = _; rfl)
  rw [show vl u.toInt64.toInt = .long u.toInt64 by unfold vl; rw [Int64.ofInt_toInt]]
  simp (disch := first | omega | assumption) only [gJxe99ae_doubleToLongBits_ccdee_0, gJxe99ae_doubleToLongBits_ccdee_1, gJxe99ae_doubleToLongBits_ccdee_4T, gJxe99ae_doubleToLongBits_ccdee_4F, gJxe99ae_doubleToLongBits_ccdee_7, gJxe99ae_doubleToLongBits_ccdee_8, gJxe99ae_doubleToLongBits_ccdee_11, gJxe99ae_doubleToLongBits_ccdee_12, gJxe99ae_doubleToLongBits_ccdee_15, Rd_some, Wr_some, Cont_some, Cont_none, iso_O, true_and, hg_s, hg_n, hput_hput, gJxe99ae_isNaN_b9ae7_0, gJxe99ae_isNaN_b9ae7_1, gJxe99ae_isNaN_b9ae7_2T, gJxe99ae_isNaN_b9ae7_2F, gJxe99ae_isNaN_b9ae7_3T, gJxe99ae_isNaN_b9ae7_3F, gJxe99ae_isNaN_b9ae7_6, gJxe99ae_isNaN_b9ae7_7, gJxe99ae_isNaN_b9ae7_10, gJxe99ae_isNaN_b9ae7_11, Rd_some, Wr_some, Cont_some, Cont_none, iso_O, true_and, hg_s, hg_n, hput_hput]
/-- the end of a turn -/
theorem re_E {x y s : UInt64} (hx : vD x ≠ .nan) (hy : vD y ≠ .nan) (hs : vD s ≠ .nan) {i : Int} {l0 l1 l2 l3 l7 l8 l9 l14 l15 l16 l17 : Option Value} : Go 176 168 [l0, l1, l2, l3, some (.double s), none, some (vi i), l7, l8, l9, some (.double x), none, some (.double y), none, l14, l15, l16, l17] [] H Q ↔ (if nop x y = true ∨ nos s (FP.dmul x y) = true then Q (some (vl 9221120237041090560)) H else Go 176 6 [l0, l1, l2, l3, some (.double (FP.dadd s (FP.dmul x y))), none, some (vi (i + 1)), l7, l8, l9, some (.double x), none, some (.double y), none, some (.double (FP.dmul x y)), none, some (.double 9218868437227405312), none] [] H Q) := by
  obtain ⟨-, -, k0, kI, kN⟩ := k_c
  obtain ⟨-, -, n0, nI, nN⟩ := n_c
  have np := fun Q => sp_mnone (H := H) (Q := Q) hx hy
  by_cases b1 : nop x y = true
  · rw [if_pos (Or.inl b1)]
    simp (disch := first | omega | assumption) only [gX9_realOf_168, gX9_realOf_170, gX9_realOf_172, gX9_realOf_175T, gX9_realOf_175F, gX9_realOf_178, gX9_realOf_181, Rd_some, Wr_some, Cont_some, Cont_none, iso_O, true_and, hg_s, hg_n, hput_hput, np, if_pos b1]
  · have hm := dm_n hx hy b1
    have hv : vf_n64 (FP.dmul x y) := vf_of hm
    by_cases b2 : nos s (FP.dmul x y) = true
    · rw [if_pos (Or.inr b2)]
      unfold nos at b2
      rw [decide_eq_true_eq] at b2
      rcases b2 with ⟨c1, c2⟩ | ⟨c1, c2⟩
      · have t1 : dck .l .ne s 9218868437227405312 = false := dck_F hs nI (by show ¬ ¬ (_ = _); omega)
        have t2 : dck .l .eq (FP.dmul x y) 18442240474082181120 = true := dck_T hm nN (by show _ = _; omega)
        simp (disch := first | omega | assumption) only [gX9_realOf_168, gX9_realOf_170, gX9_realOf_172, gX9_realOf_175T, gX9_realOf_175F, gX9_realOf_178, gX9_realOf_181, gX9_realOf_182, gX9_realOf_184, gX9_realOf_186, gX9_realOf_187, gX9_realOf_189, gX9_realOf_192, gX9_realOf_194, gX9_realOf_196, gX9_realOf_198T, gX9_realOf_198F, gX9_realOf_199T, gX9_realOf_199F, gX9_realOf_202, gX9_realOf_204, gX9_realOf_206, gX9_realOf_207T, gX9_realOf_207F, gX9_realOf_208T, gX9_realOf_208F, gX9_realOf_211, gX9_realOf_213, gX9_realOf_215, gX9_realOf_216T, gX9_realOf_216F, gX9_realOf_217T, gX9_realOf_217F, gX9_realOf_220, gX9_realOf_222, gX9_realOf_224T, gX9_realOf_224F, gX9_realOf_225T, gX9_realOf_225F, gX9_realOf_228, gX9_realOf_231, Rd_some, Wr_some, Cont_some, Cont_none, iso_O, true_and, hg_s, hg_n, hput_hput, np, if_neg b1, dnI]
      · have t1 : dck .l .ne s 9218868437227405312 = true := dck_T hs nI (by show ¬ (_ = _); omega)
        have t2 : dck .l .ne s 18442240474082181120 = false := dck_F hs nN (by show ¬ ¬ (_ = _); omega)
        have t3 : dck .l .ne (FP.dmul x y) 9218868437227405312 = false := dck_F hm nI (by show ¬ ¬ (_ = _); omega)
        simp (disch := first | omega | assumption) only [gX9_realOf_168, gX9_realOf_170, gX9_realOf_172, gX9_realOf_175T, gX9_realOf_175F, gX9_realOf_178, gX9_realOf_181, gX9_realOf_182, gX9_realOf_184, gX9_realOf_186, gX9_realOf_187, gX9_realOf_189, gX9_realOf_192, gX9_realOf_194, gX9_realOf_196, gX9_realOf_198T, gX9_realOf_198F, gX9_realOf_199T, gX9_realOf_199F, gX9_realOf_202, gX9_realOf_204, gX9_realOf_206, gX9_realOf_207T, gX9_realOf_207F, gX9_realOf_208T, gX9_realOf_208F, gX9_realOf_211, gX9_realOf_213, gX9_realOf_215, gX9_realOf_216T, gX9_realOf_216F, gX9_realOf_217T, gX9_realOf_217F, gX9_realOf_220, gX9_realOf_222, gX9_realOf_224T, gX9_realOf_224F, gX9_realOf_225T, gX9_realOf_225F, gX9_realOf_228, gX9_realOf_231, Rd_some, Wr_some, Cont_some, Cont_none, iso_O, true_and, hg_s, hg_n, hput_hput, np, if_neg b1, dnI]
    · have hv2 : vf_n64 (FP.dadd s (FP.dmul x y)) := vf_of (da_n hs hm b2)
      rw [if_neg (by rintro (t | t); exact b1 t; exact b2 t)]
      unfold nos at b2
      rw [decide_eq_true_eq] at b2
      by_cases c1 : dk s = 9218868437227405312
      · have t1 : dck .l .ne s 9218868437227405312 = false := dck_F hs nI (by show ¬ ¬ (_ = _); omega)
        have t2 : dck .l .eq (FP.dmul x y) 18442240474082181120 = false := dck_F hm nN (by show ¬ (_ = _); omega)
        have t3 : dck .l .ne s 18442240474082181120 = true := dck_T hs nN (by show ¬ (_ = _); omega)
        simp (disch := first | omega | assumption) only [gX9_realOf_168, gX9_realOf_170, gX9_realOf_172, gX9_realOf_175T, gX9_realOf_175F, gX9_realOf_178, gX9_realOf_181, gX9_realOf_182, gX9_realOf_184, gX9_realOf_186, gX9_realOf_187, gX9_realOf_189, gX9_realOf_192, gX9_realOf_194, gX9_realOf_196, gX9_realOf_198T, gX9_realOf_198F, gX9_realOf_199T, gX9_realOf_199F, gX9_realOf_202, gX9_realOf_204, gX9_realOf_206, gX9_realOf_207T, gX9_realOf_207F, gX9_realOf_208T, gX9_realOf_208F, gX9_realOf_211, gX9_realOf_213, gX9_realOf_215, gX9_realOf_216T, gX9_realOf_216F, gX9_realOf_217T, gX9_realOf_217F, gX9_realOf_220, gX9_realOf_222, gX9_realOf_224T, gX9_realOf_224F, gX9_realOf_225T, gX9_realOf_225F, gX9_realOf_228, gX9_realOf_231, gX9_realOf_232, gX9_realOf_234, gX9_realOf_236, gX9_realOf_237, gX9_realOf_239, gX9_realOf_242, Rd_some, Wr_some, Cont_some, Cont_none, iso_O, true_and, hg_s, hg_n, hput_hput, np, if_neg b1, dnI]
      · have t1 : dck .l .ne s 9218868437227405312 = true := dck_T hs nI (by show ¬ (_ = _); omega)
        by_cases c2 : dk s = -9218868437227405312
        · have t2 : dck .l .ne s 18442240474082181120 = false := dck_F hs nN (by show ¬ ¬ (_ = _); omega)
          have t3 : dck .l .ne (FP.dmul x y) 9218868437227405312 = true := dck_T hm nI (by show ¬ (_ = _); omega)
          simp (disch := first | omega | assumption) only [gX9_realOf_168, gX9_realOf_170, gX9_realOf_172, gX9_realOf_175T, gX9_realOf_175F, gX9_realOf_178, gX9_realOf_181, gX9_realOf_182, gX9_realOf_184, gX9_realOf_186, gX9_realOf_187, gX9_realOf_189, gX9_realOf_192, gX9_realOf_194, gX9_realOf_196, gX9_realOf_198T, gX9_realOf_198F, gX9_realOf_199T, gX9_realOf_199F, gX9_realOf_202, gX9_realOf_204, gX9_realOf_206, gX9_realOf_207T, gX9_realOf_207F, gX9_realOf_208T, gX9_realOf_208F, gX9_realOf_211, gX9_realOf_213, gX9_realOf_215, gX9_realOf_216T, gX9_realOf_216F, gX9_realOf_217T, gX9_realOf_217F, gX9_realOf_220, gX9_realOf_222, gX9_realOf_224T, gX9_realOf_224F, gX9_realOf_225T, gX9_realOf_225F, gX9_realOf_228, gX9_realOf_231, gX9_realOf_232, gX9_realOf_234, gX9_realOf_236, gX9_realOf_237, gX9_realOf_239, gX9_realOf_242, Rd_some, Wr_some, Cont_some, Cont_none, iso_O, true_and, hg_s, hg_n, hput_hput, np, if_neg b1, dnI]
        · have t2 : dck .l .ne s 18442240474082181120 = true := dck_T hs nN (by show ¬ (_ = _); omega)
          simp (disch := first | omega | assumption) only [gX9_realOf_168, gX9_realOf_170, gX9_realOf_172, gX9_realOf_175T, gX9_realOf_175F, gX9_realOf_178, gX9_realOf_181, gX9_realOf_182, gX9_realOf_184, gX9_realOf_186, gX9_realOf_187, gX9_realOf_189, gX9_realOf_192, gX9_realOf_194, gX9_realOf_196, gX9_realOf_198T, gX9_realOf_198F, gX9_realOf_199T, gX9_realOf_199F, gX9_realOf_202, gX9_realOf_204, gX9_realOf_206, gX9_realOf_207T, gX9_realOf_207F, gX9_realOf_208T, gX9_realOf_208F, gX9_realOf_211, gX9_realOf_213, gX9_realOf_215, gX9_realOf_216T, gX9_realOf_216F, gX9_realOf_217T, gX9_realOf_217F, gX9_realOf_220, gX9_realOf_222, gX9_realOf_224T, gX9_realOf_224F, gX9_realOf_225T, gX9_realOf_225F, gX9_realOf_228, gX9_realOf_231, gX9_realOf_232, gX9_realOf_234, gX9_realOf_236, gX9_realOf_237, gX9_realOf_239, gX9_realOf_242, Rd_some, Wr_some, Cont_some, Cont_none, iso_O, true_and, hg_s, hg_n, hput_hput, np, if_neg b1, dnI]
/-- two entries that are numbers -/
theorem re_C (hA : VR H S a d) (hB : VR H S b e) (la : 0 ≤ d.1 ∧ d.1 ≤ 4) (lb : 0 ≤ e.1 ∧ e.1 ≤ 4) {i j : Int} (hi : 0 ≤ i ∧ i < d.2.1) (hj : 0 ≤ j ∧ j < e.2.1) (c1 : xn d i = false) (c2 : xn e j = false) {l3 l4 l5 l8 l9 l10 l11 l12 l13 l14 l15 l16 l17 : Option Value} : Go 176 40 [some (.ref 41), some (vi a), some (vi b), l3, l4, l5, some (vi i), some (vi j), l8, l9, l10, l11, l12, l13, l14, l15, l16, l17] [] H Q ↔ Go 176 168 [some (.ref 41), some (vi a), some (vi b), l3, l4, l5, some (vi i), some (vi j), some (vi (if d.1 = 4 then 1 else 0)), some (vi (if e.1 = 4 then 1 else 0)), some (.double (xv d i)), none, some (.double (xv e j)), none, l14, l15, l16, l17] [] H Q := by
  unfold xn at c1 c2
  rw [decide_eq_false_iff_not] at c1 c2
  unfold xv
  by_cases d4 : d.1 = 4
  · have v1 : ¬ 9218868437227405312 < d.2.2 i % 9223372036854775808 := fun t => c1 ⟨d4, t⟩
    have s1 := sn_num v1
    have nT := fun Q => sp_isNumT (H := H) (Q := Q) (v := d.2.2 i) (by rw [bAnd_63]; exact v1)
    rw [if_pos d4, if_pos d4, fb_num v1]
    by_cases e4 : e.1 = 4
    · have v2 : ¬ 9218868437227405312 < e.2.2 j % 9223372036854775808 := fun t => c2 ⟨e4, t⟩
      have s2 := sn_num v2
      have nT2 := fun Q => sp_isNumT (H := H) (Q := Q) (v := e.2.2 j) (by rw [bAnd_63]; exact v2)
      rw [if_pos e4, if_pos e4, fb_num v2]
      simp (disch := first | omega | assumption) only [gX9_realOf_40, gX9_realOf_41, gX9_realOf_42, gX9_realOf_45, gX9_realOf_46T, gX9_realOf_46F, gX9_realOf_49, gX9_realOf_50, gX9_realOf_53, gX9_realOf_54, gX9_realOf_56, gX9_realOf_57, gX9_realOf_58, gX9_realOf_61, gX9_realOf_62T, gX9_realOf_62F, gX9_realOf_65, gX9_realOf_66, gX9_realOf_69, gX9_realOf_70, gX9_realOf_72, gX9_realOf_74T, gX9_realOf_74F, gX9_realOf_77, gX9_realOf_78, gX9_realOf_79, gX9_realOf_81, gX9_realOf_84, gX9_realOf_87T, gX9_realOf_87F, gX9_realOf_90, gX9_realOf_92T, gX9_realOf_92F, gX9_realOf_95, gX9_realOf_96, gX9_realOf_97, gX9_realOf_99, gX9_realOf_102, gX9_realOf_105T, gX9_realOf_105F, gX9_realOf_108, gX9_realOf_111, gX9_realOf_112, gX9_realOf_114T, gX9_realOf_114F, gX9_realOf_117, gX9_realOf_118, gX9_realOf_119, gX9_realOf_121, gX9_realOf_124, gX9_realOf_127, gX9_realOf_130, gX9_realOf_131, gX9_realOf_132, gX9_realOf_134, gX9_realOf_137, gX9_realOf_138, gX9_realOf_140, gX9_realOf_142T, gX9_realOf_142F, gX9_realOf_145, gX9_realOf_146, gX9_realOf_147, gX9_realOf_149, gX9_realOf_152, gX9_realOf_155, gX9_realOf_158, gX9_realOf_159, gX9_realOf_160, gX9_realOf_162, gX9_realOf_165, gX9_realOf_166, Rd_some, Wr_some, Cont_some, Cont_none, iso_O, true_and, hg_s, hg_n, hput_hput, hA.1, vr_lan hA, vr_lan hB, vr_ent hA, vr_ent hB, nT, nT2]
      exact Iff.rfl
    · rw [if_neg e4, if_neg e4]
      simp (disch := first | omega | assumption) only [gX9_realOf_40, gX9_realOf_41, gX9_realOf_42, gX9_realOf_45, gX9_realOf_46T, gX9_realOf_46F, gX9_realOf_49, gX9_realOf_50, gX9_realOf_53, gX9_realOf_54, gX9_realOf_56, gX9_realOf_57, gX9_realOf_58, gX9_realOf_61, gX9_realOf_62T, gX9_realOf_62F, gX9_realOf_65, gX9_realOf_66, gX9_realOf_69, gX9_realOf_70, gX9_realOf_72, gX9_realOf_74T, gX9_realOf_74F, gX9_realOf_77, gX9_realOf_78, gX9_realOf_79, gX9_realOf_81, gX9_realOf_84, gX9_realOf_87T, gX9_realOf_87F, gX9_realOf_90, gX9_realOf_92T, gX9_realOf_92F, gX9_realOf_95, gX9_realOf_96, gX9_realOf_97, gX9_realOf_99, gX9_realOf_102, gX9_realOf_105T, gX9_realOf_105F, gX9_realOf_108, gX9_realOf_111, gX9_realOf_112, gX9_realOf_114T, gX9_realOf_114F, gX9_realOf_117, gX9_realOf_118, gX9_realOf_119, gX9_realOf_121, gX9_realOf_124, gX9_realOf_127, gX9_realOf_130, gX9_realOf_131, gX9_realOf_132, gX9_realOf_134, gX9_realOf_137, gX9_realOf_138, gX9_realOf_140, gX9_realOf_142T, gX9_realOf_142F, gX9_realOf_145, gX9_realOf_146, gX9_realOf_147, gX9_realOf_149, gX9_realOf_152, gX9_realOf_155, gX9_realOf_158, gX9_realOf_159, gX9_realOf_160, gX9_realOf_162, gX9_realOf_165, gX9_realOf_166, Rd_some, Wr_some, Cont_some, Cont_none, iso_O, true_and, hg_s, hg_n, hput_hput, hA.1, vr_lan hA, vr_lan hB, vr_ent hA, vr_ent hB, nT]
      exact Iff.rfl
  · rw [if_neg d4, if_neg d4]
    by_cases e4 : e.1 = 4
    · have v2 : ¬ 9218868437227405312 < e.2.2 j % 9223372036854775808 := fun t => c2 ⟨e4, t⟩
      have s2 := sn_num v2
      have nT2 := fun Q => sp_isNumT (H := H) (Q := Q) (v := e.2.2 j) (by rw [bAnd_63]; exact v2)
      rw [if_pos e4, if_pos e4, fb_num v2]
      simp (disch := first | omega | assumption) only [gX9_realOf_40, gX9_realOf_41, gX9_realOf_42, gX9_realOf_45, gX9_realOf_46T, gX9_realOf_46F, gX9_realOf_49, gX9_realOf_50, gX9_realOf_53, gX9_realOf_54, gX9_realOf_56, gX9_realOf_57, gX9_realOf_58, gX9_realOf_61, gX9_realOf_62T, gX9_realOf_62F, gX9_realOf_65, gX9_realOf_66, gX9_realOf_69, gX9_realOf_70, gX9_realOf_72, gX9_realOf_74T, gX9_realOf_74F, gX9_realOf_77, gX9_realOf_78, gX9_realOf_79, gX9_realOf_81, gX9_realOf_84, gX9_realOf_87T, gX9_realOf_87F, gX9_realOf_90, gX9_realOf_92T, gX9_realOf_92F, gX9_realOf_95, gX9_realOf_96, gX9_realOf_97, gX9_realOf_99, gX9_realOf_102, gX9_realOf_105T, gX9_realOf_105F, gX9_realOf_108, gX9_realOf_111, gX9_realOf_112, gX9_realOf_114T, gX9_realOf_114F, gX9_realOf_117, gX9_realOf_118, gX9_realOf_119, gX9_realOf_121, gX9_realOf_124, gX9_realOf_127, gX9_realOf_130, gX9_realOf_131, gX9_realOf_132, gX9_realOf_134, gX9_realOf_137, gX9_realOf_138, gX9_realOf_140, gX9_realOf_142T, gX9_realOf_142F, gX9_realOf_145, gX9_realOf_146, gX9_realOf_147, gX9_realOf_149, gX9_realOf_152, gX9_realOf_155, gX9_realOf_158, gX9_realOf_159, gX9_realOf_160, gX9_realOf_162, gX9_realOf_165, gX9_realOf_166, Rd_some, Wr_some, Cont_some, Cont_none, iso_O, true_and, hg_s, hg_n, hput_hput, hA.1, vr_lan hA, vr_lan hB, vr_ent hA, vr_ent hB, nT2]
      exact Iff.rfl
    · rw [if_neg e4, if_neg e4]
      simp (disch := first | omega | assumption) only [gX9_realOf_40, gX9_realOf_41, gX9_realOf_42, gX9_realOf_45, gX9_realOf_46T, gX9_realOf_46F, gX9_realOf_49, gX9_realOf_50, gX9_realOf_53, gX9_realOf_54, gX9_realOf_56, gX9_realOf_57, gX9_realOf_58, gX9_realOf_61, gX9_realOf_62T, gX9_realOf_62F, gX9_realOf_65, gX9_realOf_66, gX9_realOf_69, gX9_realOf_70, gX9_realOf_72, gX9_realOf_74T, gX9_realOf_74F, gX9_realOf_77, gX9_realOf_78, gX9_realOf_79, gX9_realOf_81, gX9_realOf_84, gX9_realOf_87T, gX9_realOf_87F, gX9_realOf_90, gX9_realOf_92T, gX9_realOf_92F, gX9_realOf_95, gX9_realOf_96, gX9_realOf_97, gX9_realOf_99, gX9_realOf_102, gX9_realOf_105T, gX9_realOf_105F, gX9_realOf_108, gX9_realOf_111, gX9_realOf_112, gX9_realOf_114T, gX9_realOf_114F, gX9_realOf_117, gX9_realOf_118, gX9_realOf_119, gX9_realOf_121, gX9_realOf_124, gX9_realOf_127, gX9_realOf_130, gX9_realOf_131, gX9_realOf_132, gX9_realOf_134, gX9_realOf_137, gX9_realOf_138, gX9_realOf_140, gX9_realOf_142T, gX9_realOf_142F, gX9_realOf_145, gX9_realOf_146, gX9_realOf_147, gX9_realOf_149, gX9_realOf_152, gX9_realOf_155, gX9_realOf_158, gX9_realOf_159, gX9_realOf_160, gX9_realOf_162, gX9_realOf_165, gX9_realOf_166, Rd_some, Wr_some, Cont_some, Cont_none, iso_O, true_and, hg_s, hg_n, hput_hput, hA.1, vr_lan hA, vr_lan hB, vr_ent hA, vr_ent hB]
/-- one that is none -/
theorem re_N (hA : VR H S a d) (hB : VR H S b e) (la : 0 ≤ d.1 ∧ d.1 ≤ 4) (lb : 0 ≤ e.1 ∧ e.1 ≤ 4) {i j : Int} (hi : 0 ≤ i ∧ i < d.2.1) (hj : 0 ≤ j ∧ j < e.2.1) (c : xn d i = true ∨ xn e j = true) {l3 l4 l5 l8 l9 l10 l11 l12 l13 l14 l15 l16 l17 : Option Value} : Go 176 40 [some (.ref 41), some (vi a), some (vi b), l3, l4, l5, some (vi i), some (vi j), l8, l9, l10, l11, l12, l13, l14, l15, l16, l17] [] H Q ↔ Q (some (vl 9221120237041090560)) H := by
  by_cases c1 : xn d i = true
  · unfold xn at c1
    rw [decide_eq_true_eq] at c1
    have nF := fun Q => sp_isNumF (H := H) (Q := Q) (v := d.2.2 i) (by rw [bAnd_63]; exact c1.2)
    by_cases e4 : e.1 = 4 <;> simp (disch := omega) only [gX9_realOf_40, gX9_realOf_41, gX9_realOf_42, gX9_realOf_45, gX9_realOf_46T, gX9_realOf_46F, gX9_realOf_49, gX9_realOf_50, gX9_realOf_53, gX9_realOf_54, gX9_realOf_56, gX9_realOf_57, gX9_realOf_58, gX9_realOf_61, gX9_realOf_62T, gX9_realOf_62F, gX9_realOf_65, gX9_realOf_66, gX9_realOf_69, gX9_realOf_70, gX9_realOf_72, gX9_realOf_74T, gX9_realOf_74F, gX9_realOf_77, gX9_realOf_78, gX9_realOf_79, gX9_realOf_81, gX9_realOf_84, gX9_realOf_87T, gX9_realOf_87F, gX9_realOf_90, gX9_realOf_92T, gX9_realOf_92F, gX9_realOf_95, gX9_realOf_96, gX9_realOf_97, gX9_realOf_99, gX9_realOf_102, gX9_realOf_105T, gX9_realOf_105F, gX9_realOf_108, gX9_realOf_111, Rd_some, Wr_some, Cont_some, Cont_none, iso_O, true_and, hg_s, hg_n, hput_hput, hA.1, vr_lan hA, vr_lan hB, vr_ent hA, vr_ent hB, nF]
  · have c2 := c.resolve_left c1
    unfold xn at c1 c2
    rw [decide_eq_true_eq] at c1 c2
    have nF2 := fun Q => sp_isNumF (H := H) (Q := Q) (v := e.2.2 j) (by rw [bAnd_63]; exact c2.2)
    by_cases d4 : d.1 = 4
    · have v1 : ¬ 9218868437227405312 < d.2.2 i % 9223372036854775808 := fun t => c1 ⟨d4, t⟩
      have nT := fun Q => sp_isNumT (H := H) (Q := Q) (v := d.2.2 i) (by rw [bAnd_63]; exact v1)
      by_cases ev : d.2.2 i = e.2.2 j
      · exfalso; rw [ev] at v1; exact v1 c2.2
      · simp (disch := omega) only [gX9_realOf_40, gX9_realOf_41, gX9_realOf_42, gX9_realOf_45, gX9_realOf_46T, gX9_realOf_46F, gX9_realOf_49, gX9_realOf_50, gX9_realOf_53, gX9_realOf_54, gX9_realOf_56, gX9_realOf_57, gX9_realOf_58, gX9_realOf_61, gX9_realOf_62T, gX9_realOf_62F, gX9_realOf_65, gX9_realOf_66, gX9_realOf_69, gX9_realOf_70, gX9_realOf_72, gX9_realOf_74T, gX9_realOf_74F, gX9_realOf_77, gX9_realOf_78, gX9_realOf_79, gX9_realOf_81, gX9_realOf_84, gX9_realOf_87T, gX9_realOf_87F, gX9_realOf_90, gX9_realOf_92T, gX9_realOf_92F, gX9_realOf_95, gX9_realOf_96, gX9_realOf_97, gX9_realOf_99, gX9_realOf_102, gX9_realOf_105T, gX9_realOf_105F, gX9_realOf_108, gX9_realOf_111, Rd_some, Wr_some, Cont_some, Cont_none, iso_O, true_and, hg_s, hg_n, hput_hput, hA.1, vr_lan hA, vr_lan hB, vr_ent hA, vr_ent hB, nT, nF2]
    · simp (disch := omega) only [gX9_realOf_40, gX9_realOf_41, gX9_realOf_42, gX9_realOf_45, gX9_realOf_46T, gX9_realOf_46F, gX9_realOf_49, gX9_realOf_50, gX9_realOf_53, gX9_realOf_54, gX9_realOf_56, gX9_realOf_57, gX9_realOf_58, gX9_realOf_61, gX9_realOf_62T, gX9_realOf_62F, gX9_realOf_65, gX9_realOf_66, gX9_realOf_69, gX9_realOf_70, gX9_realOf_72, gX9_realOf_74T, gX9_realOf_74F, gX9_realOf_77, gX9_realOf_78, gX9_realOf_79, gX9_realOf_81, gX9_realOf_84, gX9_realOf_87T, gX9_realOf_87F, gX9_realOf_90, gX9_realOf_92T, gX9_realOf_92F, gX9_realOf_95, gX9_realOf_96, gX9_realOf_97, gX9_realOf_99, gX9_realOf_102, gX9_realOf_105T, gX9_realOf_105F, gX9_realOf_108, gX9_realOf_111, Rd_some, Wr_some, Cont_some, Cont_none, iso_O, true_and, hg_s, hg_n, hput_hput, hA.1, vr_lan hA, vr_lan hB, vr_ent hA, vr_ent hB, nF2]
theorem lp_mre (hA : VR H S a d) (hB : VR H S b e) (la : 0 ≤ d.1 ∧ d.1 ≤ 4) (lb : 0 ≤ e.1 ∧ e.1 ≤ 4) (hk : 0 ≤ k ∧ k < d.2.1 + e.2.1 - 1) : ∀ (f i : Nat) (s : UInt64) (l7 l8 l9 l10 l11 l12 l13 l14 l15 l16 l17 : Option Value), (i : Int) + f = d.2.1 → rsm d e k i = some s → (Go 176 6 [some (.ref 41), some (vi a), some (vi b), some (vi k), some (.double s), none, some (vi (i : Int)), l7, l8, l9, l10, l11, l12, l13, l14, l15, l16, l17] [] H Q ↔ Q (some (vl (rl d e k))) H) := by
  have nA := hA.2.1
  have nB := hB.2.1
  intro f
  induction f with
  | zero =>
    intro i s l7 l8 l9 l10 l11 l12 l13 l14 l15 l16 l17 hi hs
    have hN := rsm_n i hs
    rw [rl_some (s := s) (by rw [show d.2.1.toNat = i by omega]; exact hs), gX9_realOf_6]
    simp (disch := omega) only [gX9_realOf_8, gX9_realOf_9, gX9_realOf_10, gX9_realOf_13T, gX9_realOf_13F, gX9_realOf_245, gX9_realOf_247, gX9_realOf_250, Rd_some, Wr_some, Cont_some, Cont_none, iso_O, true_and, hg_s, hg_n, hput_hput, hA.1, vr_cnt hA, sp_d2lb hN.1]
  | succ f ih =>
    intro i s l7 l8 l9 l10 l11 l12 l13 l14 l15 l16 l17 hi hs
    have hN := rsm_n i hs
    rw [gX9_realOf_6]
    by_cases c1 : 0 ≤ k - i ∧ k - i < e.2.1
    · have hin := rsm_in hs c1
      have none' : rst d e k i s = none → rl d e k = 9221120237041090560 := fun t => rl_none (rsm_none (hin.trans t) (by omega))
      simp (disch := omega) only [gX9_realOf_8, gX9_realOf_9, gX9_realOf_10, gX9_realOf_13T, gX9_realOf_13F, gX9_realOf_16, gX9_realOf_17, gX9_realOf_19, gX9_realOf_20, gX9_realOf_22, gX9_realOf_24T, gX9_realOf_24F, gX9_realOf_27, gX9_realOf_29, gX9_realOf_30, gX9_realOf_31, gX9_realOf_34T, gX9_realOf_34F, gX9_realOf_37, Rd_some, Wr_some, Cont_some, Cont_none, iso_O, true_and, hg_s, hg_n, hput_hput, hA.1, vr_cnt hA, vr_cnt hB]
      by_cases c2 : xn d i = true ∨ xn e (k - i) = true
      · rw [none' (by unfold rst; rw [if_pos (by rcases c2 with t | t; exact Or.inl t; exact Or.inr (Or.inl t))]), re_N hA hB la lb (by omega) c1 c2]
      · have x1 : xn d i = false := Bool.eq_false_iff.mpr (fun t => c2 (Or.inl t))
        have x2 : xn e (k - i) = false := Bool.eq_false_iff.mpr (fun t => c2 (Or.inr t))
        rw [re_C hA hB la lb (by omega) c1 x1 x2, re_E xv_n xv_n hN.1]
        by_cases c3 : nop (xv d i) (xv e (k - i)) = true ∨ nos s (FP.dmul (xv d i) (xv e (k - i))) = true
        · rw [if_pos c3, none' (by
            unfold rst
            by_cases c4 : nop (xv d i) (xv e (k - i)) = true
            · rw [if_pos (Or.inr (Or.inr c4))]
            · rw [if_neg (by rintro (t | t | t); exact c2 (Or.inl t); exact c2 (Or.inr t); exact c4 t), if_pos (c3.resolve_left c4)])]
        · rw [if_neg c3]
          exact ih (i + 1) _ _ _ _ _ _ _ _ _ _ _ _ (by omega) (hin.trans (by
            unfold rst
            rw [if_neg (by rintro (t | t | t); exact c2 (Or.inl t); exact c2 (Or.inr t); exact c3 (Or.inl t)), if_neg (fun t => c3 (Or.inr t))]))
    · have hr : rsm d e k (i + 1) = some s := by
        rw [rsm, hs]
        dsimp only
        rw [if_neg c1]
      by_cases c2 : 0 ≤ k - i
      · simp (disch := omega) only [gX9_realOf_8, gX9_realOf_9, gX9_realOf_10, gX9_realOf_13T, gX9_realOf_13F, gX9_realOf_16, gX9_realOf_17, gX9_realOf_19, gX9_realOf_20, gX9_realOf_22, gX9_realOf_24T, gX9_realOf_24F, gX9_realOf_27, gX9_realOf_29, gX9_realOf_30, gX9_realOf_31, gX9_realOf_34T, gX9_realOf_34F, gX9_realOf_37, gX9_realOf_239, gX9_realOf_242, Rd_some, Wr_some, Cont_some, Cont_none, iso_O, true_and, hg_s, hg_n, hput_hput, hA.1, vr_cnt hA, vr_cnt hB]
        exact ih (i + 1) _ _ _ _ _ _ _ _ _ _ _ _ (by omega) hr
      · simp (disch := omega) only [gX9_realOf_8, gX9_realOf_9, gX9_realOf_10, gX9_realOf_13T, gX9_realOf_13F, gX9_realOf_16, gX9_realOf_17, gX9_realOf_19, gX9_realOf_20, gX9_realOf_22, gX9_realOf_24T, gX9_realOf_24F, gX9_realOf_27, gX9_realOf_29, gX9_realOf_30, gX9_realOf_31, gX9_realOf_34T, gX9_realOf_34F, gX9_realOf_37, gX9_realOf_239, gX9_realOf_242, Rd_some, Wr_some, Cont_some, Cont_none, iso_O, true_and, hg_s, hg_n, hput_hput, hA.1, vr_cnt hA, vr_cnt hB]
        exact ih (i + 1) _ _ _ _ _ _ _ _ _ _ _ _ (by omega) hr
theorem sp_mre (hA : VR H S a d) (hB : VR H S b e) (la : 0 ≤ d.1 ∧ d.1 ≤ 4) (lb : 0 ≤ e.1 ∧ e.1 ≤ 4) (hk : 0 ≤ k ∧ k < d.2.1 + e.2.1 - 1) : Go 176 0 [some (.ref 41), some (vi a), some (vi b), some (vi k), none, none, none, none, none, none, none, none, none, none, none, none, none, none] [] H Q ↔ Q (some (vl (rl d e k))) H := by
  have nA := hA.2.1
  simp only [gX9_realOf_0, gX9_realOf_1, gX9_realOf_3, gX9_realOf_4, Rd_some, Wr_some, Cont_some, Cont_none, iso_O, true_and, hg_s, hg_n, hput_hput, dc0]
  exact lp_mre hA hB la lb hk d.2.1.toNat 0 0 none none none none none none none none none none none (by omega) rfl
theorem MJ.sh6 {H1 H' : HP} {S1 : SS} {V : Int → Int} (h1 : MH H1 S1 T) (h2 : MR S1 T) (h3 : SI S1) (h4 : ∀ k, live S1 k → rok (S1.1.2 k)) (e : ∀ q, 41 ≤ q → q ≤ 60 → q ≠ 41 → q ≠ 52 → hget H' q = hget H1 q) (e1 : hget H' 41 = cM (wSh S1 6 n V)) {g : Int → Int} (hg : hget H' 52 = cL 128 g) (hv : eqn g (n, V)) (hn : 0 ≤ n ∧ n ≤ 127) : MJ H' (wSh S1 6 n V) := by
  refine ⟨T, fun q q1 q2 => ?_, h2, ?_, h4⟩
  · by_cases b1 : q = 41
    · subst b1; exact e1
    · by_cases b2 : q = 52
      · subst b2; exact ⟨g, hg, hv⟩
      · rw [e q q1 q2 b1 b2]
        have := h1 q q1 q2
        unfold Mh at this ⊢
        split at this <;> first | exact absurd rfl b1 | exact absurd rfl b2 | exact this
  · obtain ⟨s1, s2, s3, s4, s5, s6, s7, s8⟩ := h3
    exact ⟨s1, s2, s3, s4, s5, s6, hn, s8⟩
theorem lp_mrl {g : Int → Int} (h41 : hget H 41 = cM S) (hn : (S.2.2 6).1 = d.2.1 + e.2.1 - 1) (hA : ∀ c, VR (hput H 52 c) S a d) (hB : ∀ c, VR (hput H 52 c) S b e) (la : 0 ≤ d.1 ∧ d.1 ≤ 4) (lb : 0 ≤ e.1 ∧ e.1 ≤ 4) : ∀ (f : Nat) (k : Int), k + f = d.2.1 + e.2.1 - 1 → 0 ≤ k → (Go 177 68 [some (.ref 41), some (vi a), some (vi b), some (vi k)] [] (hput H 52 (cL 128 (mix (rl d e) g k))) Q ↔ Q (some (vi (d.2.1 + e.2.1 - 1))) (hput H 52 (cL 128 (mix (rl d e) g (d.2.1 + e.2.1 - 1))))) := by
  have nA := (hA (cO 0 [])).2.1
  have nB := (hB (cO 0 [])).2.1
  have x41 : ∀ c, hget (hput H 52 c) 41 = cM S := fun c => by rw [hg_n (by decide)]; exact h41
  intro f
  induction f with
  | zero =>
    intro k hk h0
    rw [gX9_real_68]
    simp (disch := omega) only [gX9_real_69, gX9_real_70, fl_9_17, gX9_real_73T, gX9_real_73F, gX9_real_95, gX9_real_96, gX9_real_99, Rd_some, Wr_some, Cont_some, Cont_none, iso_O, true_and, hg_s, hg_n, hput_hput, x41, hn]
    rw [show k = d.2.1 + e.2.1 - 1 by omega]
  | succ f ih =>
    intro k hk h0
    have re := fun Q c => sp_mre (Q := Q) (k := k) (hA c) (hB c) la lb (by omega)
    rw [← ih (k + 1) (by omega) (by omega), gX9_real_68]
    simp (disch := omega) only [gX9_real_69, gX9_real_70, fl_9_17, gX9_real_73T, gX9_real_73F, gX9_real_76, gX9_real_77, fl_9_18, gX9_real_80, gX9_real_81, gX9_real_82, gX9_real_83, gX9_real_84, gX9_real_85, gX9_real_88, sL_p, gX9_real_89, gX9_real_92, Rd_some, Wr_some, Cont_some, Cont_none, iso_O, true_and, hg_s, hg_n, hput_hput, x41, hn, re, sL_p]
    rw [mix_up h0 rfl]
theorem mx_real (hm : MJ H S) (c : (-2147483648 ≤ a ∧ a ≤ 2147483647) ∧ (-2147483648 ≤ b ∧ b ≤ 2147483647)) (hq : MG H Q (o_real S a b)) : Go 177 0 [some (.ref 41), some (vi a), some (vi b), none] [] H Q := by
  obtain ⟨T, h1, h2, h3, h4⟩ := hm
  have hx := h1.v.1
  unfold o_real MG at hq
  by_cases ha : 0 ≤ a ∧ a < 12
  · by_cases hb : 0 ≤ b ∧ b < 12
    · rw [if_pos ⟨ha, hb⟩] at hq
      have m1 := h1.ft 0
      have f1 : Fm 41 60 H (hput H 41 (cM (wFt S 0))) := Fm.rf.put (by omega)
      unfold o_two at hq
      simp (disch := omega) only [gX9_real_0, gX9_real_1, gX9_real_2, pf_9_0, gX9_real_5, gX9_real_6, gX9_real_9T, gX9_real_9F, gX9_real_12, gX9_real_13, gX9_real_16T, gX9_real_16F, gX9_real_19, gX9_real_20, Rd_some, Wr_some, Cont_some, Cont_none, iso_O, true_and, hg_s, hg_n, hput_hput, hx, sp_mplT]
      change Go _ _ _ _ (hput H 41 (cM (wFt S 0))) _
      cases hoa : S.1.1 a with
      | none =>
        have e1 := h2.no ha hoa
        have hq1 : ∀ H', MJ H' (wFt S 1) → Fm 41 60 H H' → Q (some (vi (-10 - 1))) H' := by
          cases hob : S.1.1 b with
          | none => rw [hoa, hob] at hq; exact hq
          | some l => rw [hoa, hob] at hq; exact hq
        simp (disch := omega) only [gX9_real_21, gX9_real_22, fl_9_1, gX9_real_25, gX9_real_26, aJ_g, gX9_real_27, gX9_real_29T, gX9_real_29F, gX9_real_32, gX9_real_33, gX9_real_36, gX9_real_37, gX9_real_38, gX9_real_40T, gX9_real_40F, gX9_real_43, gX9_real_44, gX9_real_45, gX9_real_48, Rd_some, Wr_some, Cont_some, Cont_none, iso_O, true_and, hg_s, hg_n, hput_hput, gX9_fails_0, gX9_fails_1, gX9_fails_2, pf_9_0, gX9_fails_5, gX9_fails_7, gX9_fails_8, gX9_fails_9, Rd_some, Wr_some, Cont_some, Cont_none, iso_O, true_and, hg_s, hg_n, hput_hput, hx, h1.v.2.1]
        exact hq1 _ (MJ.ft h1 h2 h3 h4 1) (Fm.rf.put (by omega))
      | some k =>
        have e1 := (h2.ro ha hoa).1
        cases hob : S.1.1 b with
        | none =>
          have e2 := h2.no hb hob
          rw [hoa, hob] at hq
          simp (disch := omega) only [gX9_real_21, gX9_real_22, fl_9_1, gX9_real_25, gX9_real_26, aJ_g, gX9_real_27, gX9_real_29T, gX9_real_29F, gX9_real_32, gX9_real_33, gX9_real_36, gX9_real_37, gX9_real_38, gX9_real_40T, gX9_real_40F, gX9_real_43, gX9_real_44, gX9_real_45, gX9_real_48, Rd_some, Wr_some, Cont_some, Cont_none, iso_O, true_and, hg_s, hg_n, hput_hput, gX9_fails_0, gX9_fails_1, gX9_fails_2, pf_9_0, gX9_fails_5, gX9_fails_7, gX9_fails_8, gX9_fails_9, Rd_some, Wr_some, Cont_some, Cont_none, iso_O, true_and, hg_s, hg_n, hput_hput, hx, h1.v.2.1]
          exact hq _ (MJ.ft h1 h2 h3 h4 1) (Fm.rf.put (by omega))
        | some l =>
          rw [hoa, hob] at hq
          dsimp only at hq
          have e2 := (h2.ro hb hob).1
          have ka := h4 k ⟨a, ha.1, ha.2, hoa⟩
          have kb := h4 l ⟨b, hb.1, hb.2, hob⟩
          have la := ka.1
          have lb := kb.1
          have nA := ka.2.1
          have nB := kb.2.1
          rw [if_pos ⟨la.2, lb.2⟩] at hq
          have va : VR (hput H 41 (cM (wFt S 0))) (wFt S 0) a (S.1.2 k) := m1.vr (S := wFt S 0) h2 h4 ha hoa
          have vb : VR (hput H 41 (cM (wFt S 0))) (wFt S 0) b (S.1.2 l) := m1.vr (S := wFt S 0) h2 h4 hb hob
          generalize hput H 41 (cM (wFt S 0)) = H1 at m1 va vb f1
          simp (disch := omega) only [gX9_real_21, gX9_real_22, fl_9_1, gX9_real_25, gX9_real_26, aJ_g, gX9_real_27, gX9_real_29T, gX9_real_29F, gX9_real_32, gX9_real_33, gX9_real_36, gX9_real_37, gX9_real_38, gX9_real_40T, gX9_real_40F, gX9_real_49, gX9_real_50, gX9_real_51, gX9_real_52, gX9_real_55, gX9_real_56, gX9_real_57, gX9_real_60, gX9_real_61, gX9_real_62, gX9_real_63, pf_9_17, gX9_real_66, gX9_real_67, Rd_some, Wr_some, Cont_some, Cont_none, iso_O, true_and, hg_s, hg_n, hput_hput, m1.v.1, m1.v.2.1, vr_cnt va, vr_cnt vb]
          obtain ⟨g0, g1, -⟩ := m1 52 (by decide) (by decide)
          have wA : ∀ c, VR (hput (hput H1 41 (cM (wSh (wFt S 0) 6 ((S.1.2 k).2.1 + (S.1.2 l).2.1 - 1) (rl (S.1.2 k) (S.1.2 l))))) 52 c) (wSh (wFt S 0) 6 ((S.1.2 k).2.1 + (S.1.2 l).2.1 - 1) (rl (S.1.2 k) (S.1.2 l))) a (S.1.2 k) := fun c => m1.vr2 (S := wFt S 0) h2 h4 ha hoa (by rw [hg_n (by omega), hg_s]) (fun q q1 q2 => by rw [hg_n (by omega), hg_n (by omega)])
          have wB : ∀ c, VR (hput (hput H1 41 (cM (wSh (wFt S 0) 6 ((S.1.2 k).2.1 + (S.1.2 l).2.1 - 1) (rl (S.1.2 k) (S.1.2 l))))) 52 c) (wSh (wFt S 0) 6 ((S.1.2 k).2.1 + (S.1.2 l).2.1 - 1) (rl (S.1.2 k) (S.1.2 l))) b (S.1.2 l) := fun c => m1.vr2 (S := wFt S 0) h2 h4 hb hob (by rw [hg_n (by omega), hg_s]) (fun q q1 q2 => by rw [hg_n (by omega), hg_n (by omega)])
          have key := lp_mrl (Q := Q) (g := g0) (H := hput H1 41 (cM (wSh (wFt S 0) 6 ((S.1.2 k).2.1 + (S.1.2 l).2.1 - 1) (rl (S.1.2 k) (S.1.2 l))))) hg_s rfl wA wB la lb ((S.1.2 k).2.1 + (S.1.2 l).2.1 - 1).toNat 0 (by omega) (by omega)
          rw [mix_0, hput_same (by rw [hg_n (by omega)]; exact g1)] at key
          refine key.mpr ?_
          exact hq _ (MJ.sh6 (S1 := wFt S 0) m1 h2 h3 h4 (fun q q1 q2 y1 y2 => by rw [hg_n y2, hg_n y1]) (by rw [hg_n (by omega), hg_s]) hg_s (fun j j0 j1 => mix_in ⟨j0, j1⟩) (by omega)) ((f1.put (by omega)).put (by omega))
    · rw [if_neg (fun t => hb t.2)] at hq
      simp (disch := omega) only [gX9_real_0, gX9_real_1, gX9_real_2, pf_9_0, gX9_real_5, gX9_real_6, gX9_real_9T, gX9_real_9F, gX9_real_12, gX9_real_13, gX9_real_16T, gX9_real_16F, gX9_real_19, gX9_real_20, gX9_real_21, gX9_real_22, fl_9_1, gX9_real_25, gX9_real_26, aJ_g, gX9_real_27, gX9_real_29T, gX9_real_29F, gX9_real_32, gX9_real_33, gX9_real_36, gX9_real_37, gX9_real_38, gX9_real_40T, gX9_real_40F, gX9_real_43, gX9_real_44, gX9_real_45, gX9_real_48, gX9_real_49, gX9_real_50, gX9_real_51, gX9_real_52, gX9_real_55, gX9_real_56, gX9_real_57, gX9_real_60, gX9_real_61, gX9_real_62, gX9_real_63, pf_9_17, gX9_real_66, gX9_real_67, gX9_real_68, gX9_real_69, gX9_real_70, fl_9_17, gX9_real_73T, gX9_real_73F, gX9_real_76, gX9_real_77, fl_9_18, gX9_real_80, gX9_real_81, gX9_real_82, gX9_real_83, gX9_real_84, gX9_real_85, gX9_real_88, sL_p, gX9_real_89, gX9_real_92, gX9_real_95, gX9_real_96, gX9_real_99, Rd_some, Wr_some, Cont_some, Cont_none, iso_O, true_and, hg_s, hg_n, hput_hput, hx, sp_mplT, sp_mplF]
      exact hq _ (MJ.ft h1 h2 h3 h4 0) (Fm.rf.put (by omega))
  · rw [if_neg (fun t => ha t.1)] at hq
    simp (disch := omega) only [gX9_real_0, gX9_real_1, gX9_real_2, pf_9_0, gX9_real_5, gX9_real_6, gX9_real_9T, gX9_real_9F, gX9_real_12, gX9_real_13, gX9_real_16T, gX9_real_16F, gX9_real_19, gX9_real_20, gX9_real_21, gX9_real_22, fl_9_1, gX9_real_25, gX9_real_26, aJ_g, gX9_real_27, gX9_real_29T, gX9_real_29F, gX9_real_32, gX9_real_33, gX9_real_36, gX9_real_37, gX9_real_38, gX9_real_40T, gX9_real_40F, gX9_real_43, gX9_real_44, gX9_real_45, gX9_real_48, gX9_real_49, gX9_real_50, gX9_real_51, gX9_real_52, gX9_real_55, gX9_real_56, gX9_real_57, gX9_real_60, gX9_real_61, gX9_real_62, gX9_real_63, pf_9_17, gX9_real_66, gX9_real_67, gX9_real_68, gX9_real_69, gX9_real_70, fl_9_17, gX9_real_73T, gX9_real_73F, gX9_real_76, gX9_real_77, fl_9_18, gX9_real_80, gX9_real_81, gX9_real_82, gX9_real_83, gX9_real_84, gX9_real_85, gX9_real_88, sL_p, gX9_real_89, gX9_real_92, gX9_real_95, gX9_real_96, gX9_real_99, Rd_some, Wr_some, Cont_some, Cont_none, iso_O, true_and, hg_s, hg_n, hput_hput, hx, sp_mplT, sp_mplF]
    exact hq _ (MJ.ft h1 h2 h3 h4 0) (Fm.rf.put (by omega))
end DMR

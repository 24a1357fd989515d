/-! the law: calls 18 to 26 (begun by program: wip/gen/law.py) -/
section LWA
variable {L i : Int} {g : Int → Int} {H : HP} {S : SS} {Q : Option Value → HP → Prop}
theorem lw_18 (h : LI L g i H S) (hi : (0 ≤ i ∧ i + 5 ≤ L) ∧ L ≤ 2560) (hr : ∀ j, -2147483648 ≤ g j ∧ g j ≤ 2147483647) (hh : ∀ H' S', LI L g (i + 5) H' S' → Go 190 18 [some (.ref 0), some (.ref 1), some (.ref 41), some (vi (i + 5))] [] H' Q) : Go 190 817 [some (.ref 0), some (.ref 1), some (.ref 41), some (vi i)] [] H Q := by
  have hx := h.1.x
  have h0 := h.2.2.1
  simp (disch := omega) only [gL_law_817, gL_law_817N, gL_law_818, gL_law_819, gL_law_820, gL_law_821, gL_law_822, aJ_g, gL_law_823, Rd_some, Wr_some, Cont_some, Cont_none, iso_O, true_and, hg_s, hg_n, hput_hput, hx, h0]
  refine cx_low h.1 (hr _) (fun H1 c1 f1 => ?_)
  obtain ⟨r, hr0, hu⟩ := is_vl (ov_sh (S := S) (z := 2) (i := (g (i + 1))) (w := 0))
  change Cont _ _ _ _ _ (some (o_sh S 2 (g (i + 1)) 0).1) _
  rw [hu, Cont_some]
  have h01 : hget H1 0 = cJ L g := (f1.2 0 (Or.inl rfl)).trans h0
  have m1 := h.2.1.fx f1
  have hm := m1.m41
  simp (disch := omega) only [gL_law_826, gL_law_826N, gL_law_827, gL_law_828, gL_law_829, gL_law_830, gL_law_831, aJ_g, gL_law_832, Rd_some, Wr_some, Cont_some, Cont_none, iso_O, true_and, hg_s, hg_n, hput_hput, h01, hm]
  refine mx_low m1 (hr _) (fun H2 c2 f2 => ?_)
  change Cont _ _ _ _ _ (some (o_sh S 2 (g (i + 1)) 0).1) _
  rw [hu, Cont_some]
  simp (disch := omega) only [gL_law_835T, gL_law_835F, gL_law_1412, gL_law_1415, Rd_some, Wr_some, Cont_some, Cont_none, iso_O, true_and, hg_s, hg_n, hput_hput]
  exact hh _ _ (h.step hi.1.1 c1 f1 c2 f2)
theorem lw_19 (h : LI L g i H S) (hi : (0 ≤ i ∧ i + 5 ≤ L) ∧ L ≤ 2560) (hr : ∀ j, -2147483648 ≤ g j ∧ g j ≤ 2147483647) (hh : ∀ H' S', LI L g (i + 5) H' S' → Go 190 18 [some (.ref 0), some (.ref 1), some (.ref 41), some (vi (i + 5))] [] H' Q) : Go 190 841 [some (.ref 0), some (.ref 1), some (.ref 41), some (vi i)] [] H Q := by
  have hx := h.1.x
  have h0 := h.2.2.1
  simp (disch := omega) only [gL_law_841, gL_law_841N, gL_law_842, gL_law_843, gL_law_844, gL_law_845, gL_law_846, aJ_g, gL_law_847, gL_law_848, gL_law_849, gL_law_850, gL_law_851, gL_law_852, Rd_some, Wr_some, Cont_some, Cont_none, iso_O, true_and, hg_s, hg_n, hput_hput, hx, h0]
  refine cx_carry h.1 ⟨hr _, hr _⟩ (fun H1 c1 f1 => ?_)
  obtain ⟨r, hr0, hu⟩ := is_vi (ov_carry (S := S) (a := (g (i + 1))) (m := (g (i + 2))) (z := H.1))
  change Cont _ _ _ _ _ (some (o_carry S (g (i + 1)) (g (i + 2)) H.1).1) _
  rw [hu, Cont_some]
  have h01 : hget H1 0 = cJ L g := (f1.2 0 (Or.inl rfl)).trans h0
  have m1 := h.2.1.fx f1
  have hm := m1.m41
  simp (disch := omega) only [gL_law_855, gL_law_855N, gL_law_856, gL_law_857, gL_law_858, gL_law_859, gL_law_860, aJ_g, gL_law_861, gL_law_862, gL_law_863, gL_law_864, gL_law_865, gL_law_866, Rd_some, Wr_some, Cont_some, Cont_none, iso_O, true_and, hg_s, hg_n, hput_hput, h01, hm]
  refine mx_carry m1 h.1.nl ⟨hr _, hr _⟩ (fun H2 c2 f2 => ?_)
  change Cont _ _ _ _ _ (some (o_carry S (g (i + 1)) (g (i + 2)) H.1).1) _
  rw [hu, Cont_some]
  simp (disch := omega) only [gL_law_869T, gL_law_869F, gL_law_1412, gL_law_1415, Rd_some, Wr_some, Cont_some, Cont_none, iso_O, true_and, hg_s, hg_n, hput_hput]
  exact hh _ _ (h.step hi.1.1 c1 f1 c2 f2)
theorem lw_20 (h : LI L g i H S) (hi : (0 ≤ i ∧ i + 5 ≤ L) ∧ L ≤ 2560) (hr : ∀ j, -2147483648 ≤ g j ∧ g j ≤ 2147483647) (hh : ∀ H' S', LI L g (i + 5) H' S' → Go 190 18 [some (.ref 0), some (.ref 1), some (.ref 41), some (vi (i + 5))] [] H' Q) : Go 190 874 [some (.ref 0), some (.ref 1), some (.ref 41), some (vi i)] [] H Q := by
  have hx := h.1.x
  have h0 := h.2.2.1
  simp (disch := omega) only [gL_law_874, gL_law_874N, gL_law_875, gL_law_876, gL_law_877, gL_law_878, gL_law_879, aJ_g, gL_law_880, gL_law_881, gL_law_882, gL_law_883, gL_law_884, gL_law_885, gL_law_886, gL_law_887, gL_law_888, gL_law_889, gL_law_890, Rd_some, Wr_some, Cont_some, Cont_none, iso_O, true_and, hg_s, hg_n, hput_hput, hx, h0]
  refine cx_cost h.1 ⟨hr _, hr _, hr _⟩ (fun H1 c1 f1 => ?_)
  obtain ⟨r, hr0, hu⟩ := is_vi (ov_cost (S := S) (w := (g (i + 1))) (n := (g (i + 2))) (m := (g (i + 3))))
  change Cont _ _ _ _ _ (some (o_cost S (g (i + 1)) (g (i + 2)) (g (i + 3))).1) _
  rw [hu, Cont_some]
  have h01 : hget H1 0 = cJ L g := (f1.2 0 (Or.inl rfl)).trans h0
  have m1 := h.2.1.fx f1
  have hm := m1.m41
  simp (disch := omega) only [gL_law_893, gL_law_893N, gL_law_894, gL_law_895, gL_law_896, gL_law_897, gL_law_898, aJ_g, gL_law_899, gL_law_900, gL_law_901, gL_law_902, gL_law_903, gL_law_904, gL_law_905, gL_law_906, gL_law_907, gL_law_908, gL_law_909, Rd_some, Wr_some, Cont_some, Cont_none, iso_O, true_and, hg_s, hg_n, hput_hput, h01, hm]
  refine mx_cost m1 ⟨hr _, hr _, hr _⟩ (fun H2 c2 f2 => ?_)
  change Cont _ _ _ _ _ (some (o_cost S (g (i + 1)) (g (i + 2)) (g (i + 3))).1) _
  rw [hu, Cont_some]
  simp (disch := omega) only [gL_law_912T, gL_law_912F, gL_law_1412, gL_law_1415, Rd_some, Wr_some, Cont_some, Cont_none, iso_O, true_and, hg_s, hg_n, hput_hput]
  exact hh _ _ (h.step hi.1.1 c1 f1 c2 f2)
theorem lw_21 (h : LI L g i H S) (hi : (0 ≤ i ∧ i + 5 ≤ L) ∧ L ≤ 2560) (hr : ∀ j, -2147483648 ≤ g j ∧ g j ≤ 2147483647) (hh : ∀ H' S', LI L g (i + 5) H' S' → Go 190 18 [some (.ref 0), some (.ref 1), some (.ref 41), some (vi (i + 5))] [] H' Q) : Go 190 917 [some (.ref 0), some (.ref 1), some (.ref 41), some (vi i)] [] H Q := by
  have hx := h.1.x
  have h0 := h.2.2.1
  simp (disch := omega) only [gL_law_917, gL_law_917N, gL_law_918, gL_law_919, gL_law_920, gL_law_921, gL_law_922, aJ_g, gL_law_923, gL_law_924, gL_law_925, gL_law_926, gL_law_927, gL_law_928, Rd_some, Wr_some, Cont_some, Cont_none, iso_O, true_and, hg_s, hg_n, hput_hput, hx, h0]
  refine cx_plan h.1 ⟨hr _, hr _⟩ (fun H1 c1 f1 => ?_)
  obtain ⟨r, hr0, hu⟩ := is_vi (ov_plan (S := S) (n := (g (i + 1))) (m := (g (i + 2))))
  change Cont _ _ _ _ _ (some (o_plan S (g (i + 1)) (g (i + 2))).1) _
  rw [hu, Cont_some]
  have h01 : hget H1 0 = cJ L g := (f1.2 0 (Or.inl rfl)).trans h0
  have m1 := h.2.1.fx f1
  have hm := m1.m41
  simp (disch := omega) only [gL_law_931, gL_law_931N, gL_law_932, gL_law_933, gL_law_934, gL_law_935, gL_law_936, aJ_g, gL_law_937, gL_law_938, gL_law_939, gL_law_940, gL_law_941, gL_law_942, Rd_some, Wr_some, Cont_some, Cont_none, iso_O, true_and, hg_s, hg_n, hput_hput, h01, hm]
  refine mx_plan m1 ⟨hr _, hr _⟩ (fun H2 c2 f2 => ?_)
  change Cont _ _ _ _ _ (some (o_plan S (g (i + 1)) (g (i + 2))).1) _
  rw [hu, Cont_some]
  simp (disch := omega) only [gL_law_945T, gL_law_945F, gL_law_1412, gL_law_1415, Rd_some, Wr_some, Cont_some, Cont_none, iso_O, true_and, hg_s, hg_n, hput_hput]
  exact hh _ _ (h.step hi.1.1 c1 f1 c2 f2)
theorem lw_22 (h : LI L g i H S) (hi : (0 ≤ i ∧ i + 5 ≤ L) ∧ L ≤ 2560) (hr : ∀ j, -2147483648 ≤ g j ∧ g j ≤ 2147483647) (hh : ∀ H' S', LI L g (i + 5) H' S' → Go 190 18 [some (.ref 0), some (.ref 1), some (.ref 41), some (vi (i + 5))] [] H' Q) : Go 190 950 [some (.ref 0), some (.ref 1), some (.ref 41), some (vi i)] [] H Q := by
  have hx := h.1.x
  have h0 := h.2.2.1
  simp (disch := omega) only [gL_law_950, gL_law_950N, gL_law_951, gL_law_952, gL_law_953, gL_law_954, gL_law_955, aJ_g, gL_law_956, gL_law_957, gL_law_958, gL_law_959, gL_law_960, gL_law_961, gL_law_962, gL_law_963, gL_law_964, gL_law_965, gL_law_966, gL_law_967, gL_law_968, gL_law_969, gL_law_970, gL_law_971, Rd_some, Wr_some, Cont_some, Cont_none, iso_O, true_and, hg_s, hg_n, hput_hput, hx, h0]
  refine cx_pow h.1 ⟨hr _, hr _, hr _, hr _⟩ (fun H1 c1 f1 => ?_)
  obtain ⟨r, hr0, hu⟩ := is_vi (ov_pow (S := S) (a := (g (i + 1))) (u := (g (i + 2))) (t := (g (i + 3))) (n := (g (i + 4))))
  change Cont _ _ _ _ _ (some (o_pow S (g (i + 1)) (g (i + 2)) (g (i + 3)) (g (i + 4))).1) _
  rw [hu, Cont_some]
  have h01 : hget H1 0 = cJ L g := (f1.2 0 (Or.inl rfl)).trans h0
  have m1 := h.2.1.fx f1
  have hm := m1.m41
  simp (disch := omega) only [gL_law_974, gL_law_974N, gL_law_975, gL_law_976, gL_law_977, gL_law_978, gL_law_979, aJ_g, gL_law_980, gL_law_981, gL_law_982, gL_law_983, gL_law_984, gL_law_985, gL_law_986, gL_law_987, gL_law_988, gL_law_989, gL_law_990, gL_law_991, gL_law_992, gL_law_993, gL_law_994, gL_law_995, Rd_some, Wr_some, Cont_some, Cont_none, iso_O, true_and, hg_s, hg_n, hput_hput, h01, hm]
  refine mx_pow m1 ⟨hr _, hr _, hr _, hr _⟩ (fun H2 c2 f2 => ?_)
  change Cont _ _ _ _ _ (some (o_pow S (g (i + 1)) (g (i + 2)) (g (i + 3)) (g (i + 4))).1) _
  rw [hu, Cont_some]
  simp (disch := omega) only [gL_law_998T, gL_law_998F, gL_law_1412, gL_law_1415, Rd_some, Wr_some, Cont_some, Cont_none, iso_O, true_and, hg_s, hg_n, hput_hput]
  exact hh _ _ (h.step hi.1.1 c1 f1 c2 f2)
theorem lw_23 (h : LI L g i H S) (hi : (0 ≤ i ∧ i + 5 ≤ L) ∧ L ≤ 2560) (hr : ∀ j, -2147483648 ≤ g j ∧ g j ≤ 2147483647) (hh : ∀ H' S', LI L g (i + 5) H' S' → Go 190 18 [some (.ref 0), some (.ref 1), some (.ref 41), some (vi (i + 5))] [] H' Q) : Go 190 1003 [some (.ref 0), some (.ref 1), some (.ref 41), some (vi i)] [] H Q := by
  have hx := h.1.x
  have h0 := h.2.2.1
  simp (disch := omega) only [gL_law_1003, gL_law_1003N, gL_law_1004, gL_law_1005, gL_law_1006, gL_law_1007, gL_law_1008, aJ_g, gL_law_1009, gL_law_1010, gL_law_1011, gL_law_1012, gL_law_1013, gL_law_1014, gL_law_1015, gL_law_1016, gL_law_1017, gL_law_1018, gL_law_1019, Rd_some, Wr_some, Cont_some, Cont_none, iso_O, true_and, hg_s, hg_n, hput_hput, hx, h0]
  refine cx_series h.1 ⟨hr _, hr _, hr _⟩ (fun H1 c1 f1 => ?_)
  obtain ⟨r, hr0, hu⟩ := is_vi (ov_series (S := S) (a := (g (i + 1))) (u := (g (i + 2))) (n := (g (i + 3))))
  change Cont _ _ _ _ _ (some (o_series S (g (i + 1)) (g (i + 2)) (g (i + 3))).1) _
  rw [hu, Cont_some]
  have h01 : hget H1 0 = cJ L g := (f1.2 0 (Or.inl rfl)).trans h0
  have m1 := h.2.1.fx f1
  have hm := m1.m41
  simp (disch := omega) only [gL_law_1022, gL_law_1022N, gL_law_1023, gL_law_1024, gL_law_1025, gL_law_1026, gL_law_1027, aJ_g, gL_law_1028, gL_law_1029, gL_law_1030, gL_law_1031, gL_law_1032, gL_law_1033, gL_law_1034, gL_law_1035, gL_law_1036, gL_law_1037, gL_law_1038, Rd_some, Wr_some, Cont_some, Cont_none, iso_O, true_and, hg_s, hg_n, hput_hput, h01, hm]
  refine mx_series m1 ⟨hr _, hr _, hr _⟩ (fun H2 c2 f2 => ?_)
  change Cont _ _ _ _ _ (some (o_series S (g (i + 1)) (g (i + 2)) (g (i + 3))).1) _
  rw [hu, Cont_some]
  simp (disch := omega) only [gL_law_1041T, gL_law_1041F, gL_law_1412, gL_law_1415, Rd_some, Wr_some, Cont_some, Cont_none, iso_O, true_and, hg_s, hg_n, hput_hput]
  exact hh _ _ (h.step hi.1.1 c1 f1 c2 f2)
theorem lw_24 (h : LI L g i H S) (hi : (0 ≤ i ∧ i + 5 ≤ L) ∧ L ≤ 2560) (hr : ∀ j, -2147483648 ≤ g j ∧ g j ≤ 2147483647) (hh : ∀ H' S', LI L g (i + 5) H' S' → Go 190 18 [some (.ref 0), some (.ref 1), some (.ref 41), some (vi (i + 5))] [] H' Q) : Go 190 1046 [some (.ref 0), some (.ref 1), some (.ref 41), some (vi i)] [] H Q := by
  have hx := h.1.x
  have h0 := h.2.2.1
  simp (disch := omega) only [gL_law_1046, gL_law_1046N, gL_law_1047, gL_law_1048, gL_law_1049, gL_law_1050, gL_law_1051, aJ_g, gL_law_1052, gL_law_1053, gL_law_1054, gL_law_1055, gL_law_1056, gL_law_1057, gL_law_1058, gL_law_1059, gL_law_1060, gL_law_1061, gL_law_1062, Rd_some, Wr_some, Cont_some, Cont_none, iso_O, true_and, hg_s, hg_n, hput_hput, hx, h0]
  refine cx_div h.1 ⟨hr _, hr _, hr _⟩ (fun H1 c1 f1 => ?_)
  obtain ⟨r, hr0, hu⟩ := is_vi (ov_div (S := S) (a := (g (i + 1))) (b := (g (i + 2))) (u := (g (i + 3))))
  change Cont _ _ _ _ _ (some (o_div S (g (i + 1)) (g (i + 2)) (g (i + 3))).1) _
  rw [hu, Cont_some]
  have h01 : hget H1 0 = cJ L g := (f1.2 0 (Or.inl rfl)).trans h0
  have m1 := h.2.1.fx f1
  have hm := m1.m41
  simp (disch := omega) only [gL_law_1065, gL_law_1065N, gL_law_1066, gL_law_1067, gL_law_1068, gL_law_1069, gL_law_1070, aJ_g, gL_law_1071, gL_law_1072, gL_law_1073, gL_law_1074, gL_law_1075, gL_law_1076, gL_law_1077, gL_law_1078, gL_law_1079, gL_law_1080, gL_law_1081, Rd_some, Wr_some, Cont_some, Cont_none, iso_O, true_and, hg_s, hg_n, hput_hput, h01, hm]
  refine mx_div m1 ⟨hr _, hr _, hr _⟩ (fun H2 c2 f2 => ?_)
  change Cont _ _ _ _ _ (some (o_div S (g (i + 1)) (g (i + 2)) (g (i + 3))).1) _
  rw [hu, Cont_some]
  simp (disch := omega) only [gL_law_1084T, gL_law_1084F, gL_law_1412, gL_law_1415, Rd_some, Wr_some, Cont_some, Cont_none, iso_O, true_and, hg_s, hg_n, hput_hput]
  exact hh _ _ (h.step hi.1.1 c1 f1 c2 f2)
theorem lw_25 (h : LI L g i H S) (hi : (0 ≤ i ∧ i + 5 ≤ L) ∧ L ≤ 2560) (hr : ∀ j, -2147483648 ≤ g j ∧ g j ≤ 2147483647) (hh : ∀ H' S', LI L g (i + 5) H' S' → Go 190 18 [some (.ref 0), some (.ref 1), some (.ref 41), some (vi (i + 5))] [] H' Q) : Go 190 1089 [some (.ref 0), some (.ref 1), some (.ref 41), some (vi i)] [] H Q := by
  have hx := h.1.x
  have h0 := h.2.2.1
  simp (disch := omega) only [gL_law_1089, gL_law_1089N, gL_law_1090, gL_law_1091, gL_law_1092, gL_law_1093, gL_law_1094, aJ_g, gL_law_1095, gL_law_1096, gL_law_1097, gL_law_1098, gL_law_1099, gL_law_1100, gL_law_1101, gL_law_1102, gL_law_1103, gL_law_1104, gL_law_1105, Rd_some, Wr_some, Cont_some, Cont_none, iso_O, true_and, hg_s, hg_n, hput_hput, hx, h0]
  refine cx_eval h.1 ⟨hr _, hr _, hr _⟩ (fun H1 c1 f1 => ?_)
  obtain ⟨r, hr0, hu⟩ := is_vi (ov_eval (S := S) (a := (g (i + 1))) (b := (g (i + 2))) (u := (g (i + 3))))
  change Cont _ _ _ _ _ (some (o_eval S (g (i + 1)) (g (i + 2)) (g (i + 3))).1) _
  rw [hu, Cont_some]
  have h01 : hget H1 0 = cJ L g := (f1.2 0 (Or.inl rfl)).trans h0
  have m1 := h.2.1.fx f1
  have hm := m1.m41
  simp (disch := omega) only [gL_law_1108, gL_law_1108N, gL_law_1109, gL_law_1110, gL_law_1111, gL_law_1112, gL_law_1113, aJ_g, gL_law_1114, gL_law_1115, gL_law_1116, gL_law_1117, gL_law_1118, gL_law_1119, gL_law_1120, gL_law_1121, gL_law_1122, gL_law_1123, gL_law_1124, Rd_some, Wr_some, Cont_some, Cont_none, iso_O, true_and, hg_s, hg_n, hput_hput, h01, hm]
  refine mx_eval m1 ⟨hr _, hr _, hr _⟩ (fun H2 c2 f2 => ?_)
  change Cont _ _ _ _ _ (some (o_eval S (g (i + 1)) (g (i + 2)) (g (i + 3))).1) _
  rw [hu, Cont_some]
  simp (disch := omega) only [gL_law_1127T, gL_law_1127F, gL_law_1412, gL_law_1415, Rd_some, Wr_some, Cont_some, Cont_none, iso_O, true_and, hg_s, hg_n, hput_hput]
  exact hh _ _ (h.step hi.1.1 c1 f1 c2 f2)
theorem lw_26 (h : LI L g i H S) (hi : (0 ≤ i ∧ i + 5 ≤ L) ∧ L ≤ 2560) (hr : ∀ j, -2147483648 ≤ g j ∧ g j ≤ 2147483647) (hh : ∀ H' S', LI L g (i + 5) H' S' → Go 190 18 [some (.ref 0), some (.ref 1), some (.ref 41), some (vi (i + 5))] [] H' Q) : Go 190 1132 [some (.ref 0), some (.ref 1), some (.ref 41), some (vi i)] [] H Q := by
  have hx := h.1.x
  have h0 := h.2.2.1
  simp (disch := omega) only [gL_law_1132, gL_law_1132N, gL_law_1133, gL_law_1134, gL_law_1135, gL_law_1136, gL_law_1137, aJ_g, gL_law_1138, gL_law_1139, gL_law_1140, gL_law_1141, gL_law_1142, gL_law_1143, gL_law_1144, gL_law_1145, gL_law_1146, gL_law_1147, gL_law_1148, Rd_some, Wr_some, Cont_some, Cont_none, iso_O, true_and, hg_s, hg_n, hput_hput, hx, h0]
  refine cx_itp h.1 ⟨hr _, hr _, hr _⟩ (fun H1 c1 f1 => ?_)
  obtain ⟨r, hr0, hu⟩ := is_vi (ov_itp (S := S) (a := (g (i + 1))) (b := (g (i + 2))) (u := (g (i + 3))))
  change Cont _ _ _ _ _ (some (o_itp S (g (i + 1)) (g (i + 2)) (g (i + 3))).1) _
  rw [hu, Cont_some]
  have h01 : hget H1 0 = cJ L g := (f1.2 0 (Or.inl rfl)).trans h0
  have m1 := h.2.1.fx f1
  have hm := m1.m41
  simp (disch := omega) only [gL_law_1151, gL_law_1151N, gL_law_1152, gL_law_1153, gL_law_1154, gL_law_1155, gL_law_1156, aJ_g, gL_law_1157, gL_law_1158, gL_law_1159, gL_law_1160, gL_law_1161, gL_law_1162, gL_law_1163, gL_law_1164, gL_law_1165, gL_law_1166, gL_law_1167, Rd_some, Wr_some, Cont_some, Cont_none, iso_O, true_and, hg_s, hg_n, hput_hput, h01, hm]
  refine mx_itp m1 ⟨hr _, hr _, hr _⟩ (fun H2 c2 f2 => ?_)
  change Cont _ _ _ _ _ (some (o_itp S (g (i + 1)) (g (i + 2)) (g (i + 3))).1) _
  rw [hu, Cont_some]
  simp (disch := omega) only [gL_law_1170T, gL_law_1170F, gL_law_1412, gL_law_1415, Rd_some, Wr_some, Cont_some, Cont_none, iso_O, true_and, hg_s, hg_n, hput_hput]
  exact hh _ _ (h.step hi.1.1 c1 f1 c2 f2)
end LWA

/-! the law: calls 27 to 34 (begun by program: wip/gen/law.py) -/
section LWA
variable {L i : Int} {g : Int → Int} {H : HP} {S : SS} {Q : Option Value → HP → Prop}
theorem lw_27 (h : LI L g i H S) (hi : (0 ≤ i ∧ i + 5 ≤ L) ∧ L ≤ 2560) (hr : ∀ j, -2147483648 ≤ g j ∧ g j ≤ 2147483647) (hh : ∀ H' S', LI L g (i + 5) H' S' → Go 190 18 [some (.ref 0), some (.ref 1), some (.ref 41), some (vi (i + 5))] [] H' Q) : Go 190 1175 [some (.ref 0), some (.ref 1), some (.ref 41), some (vi i)] [] H Q := by
  have hx := h.1.x
  have h0 := h.2.2.1
  simp (disch := omega) only [gL_law_1175, gL_law_1175N, gL_law_1176, gL_law_1177, gL_law_1178, gL_law_1179, gL_law_1180, aJ_g, gL_law_1181, Rd_some, Wr_some, Cont_some, Cont_none, iso_O, true_and, hg_s, hg_n, hput_hput, hx, h0]
  refine cx_residue h.1 (hr _) (fun H1 c1 f1 => ?_)
  obtain ⟨r, hr0, hu⟩ := is_vl (ov_sh (S := S) (z := 3) (i := (g (i + 1))) (w := (-1)))
  change Cont _ _ _ _ _ (some (o_sh S 3 (g (i + 1)) (-1)).1) _
  rw [hu, Cont_some]
  have h01 : hget H1 0 = cJ L g := (f1.2 0 (Or.inl rfl)).trans h0
  have m1 := h.2.1.fx f1
  have hm := m1.m41
  simp (disch := omega) only [gL_law_1184, gL_law_1184N, gL_law_1185, gL_law_1186, gL_law_1187, gL_law_1188, gL_law_1189, aJ_g, gL_law_1190, Rd_some, Wr_some, Cont_some, Cont_none, iso_O, true_and, hg_s, hg_n, hput_hput, h01, hm]
  refine mx_residue m1 (hr _) (fun H2 c2 f2 => ?_)
  change Cont _ _ _ _ _ (some (o_sh S 3 (g (i + 1)) (-1)).1) _
  rw [hu, Cont_some]
  simp (disch := omega) only [gL_law_1193T, gL_law_1193F, gL_law_1412, gL_law_1415, Rd_some, Wr_some, Cont_some, Cont_none, iso_O, true_and, hg_s, hg_n, hput_hput]
  exact hh _ _ (h.step hi.1.1 c1 f1 c2 f2)
theorem lw_28 (h : LI L g i H S) (hi : (0 ≤ i ∧ i + 5 ≤ L) ∧ L ≤ 2560) (hr : ∀ j, -2147483648 ≤ g j ∧ g j ≤ 2147483647) (hh : ∀ H' S', LI L g (i + 5) H' S' → Go 190 18 [some (.ref 0), some (.ref 1), some (.ref 41), some (vi (i + 5))] [] H' Q) : Go 190 1199 [some (.ref 0), some (.ref 1), some (.ref 41), some (vi i)] [] H Q := by
  have hx := h.1.x
  have h0 := h.2.2.1
  simp (disch := omega) only [gL_law_1199, gL_law_1199N, gL_law_1200, gL_law_1201, gL_law_1202, gL_law_1203, gL_law_1204, aJ_g, gL_law_1205, Rd_some, Wr_some, Cont_some, Cont_none, iso_O, true_and, hg_s, hg_n, hput_hput, hx, h0]
  refine cx_rest h.1 (hr _) (fun H1 c1 f1 => ?_)
  obtain ⟨r, hr0, hu⟩ := is_vl (ov_sh (S := S) (z := 4) (i := (g (i + 1))) (w := (-1)))
  change Cont _ _ _ _ _ (some (o_sh S 4 (g (i + 1)) (-1)).1) _
  rw [hu, Cont_some]
  have h01 : hget H1 0 = cJ L g := (f1.2 0 (Or.inl rfl)).trans h0
  have m1 := h.2.1.fx f1
  have hm := m1.m41
  simp (disch := omega) only [gL_law_1208, gL_law_1208N, gL_law_1209, gL_law_1210, gL_law_1211, gL_law_1212, gL_law_1213, aJ_g, gL_law_1214, Rd_some, Wr_some, Cont_some, Cont_none, iso_O, true_and, hg_s, hg_n, hput_hput, h01, hm]
  refine mx_rest m1 (hr _) (fun H2 c2 f2 => ?_)
  change Cont _ _ _ _ _ (some (o_sh S 4 (g (i + 1)) (-1)).1) _
  rw [hu, Cont_some]
  simp (disch := omega) only [gL_law_1217T, gL_law_1217F, gL_law_1412, gL_law_1415, Rd_some, Wr_some, Cont_some, Cont_none, iso_O, true_and, hg_s, hg_n, hput_hput]
  exact hh _ _ (h.step hi.1.1 c1 f1 c2 f2)
theorem lw_29 (h : LI L g i H S) (hi : (0 ≤ i ∧ i + 5 ≤ L) ∧ L ≤ 2560) (hr : ∀ j, -2147483648 ≤ g j ∧ g j ≤ 2147483647) (hh : ∀ H' S', LI L g (i + 5) H' S' → Go 190 18 [some (.ref 0), some (.ref 1), some (.ref 41), some (vi (i + 5))] [] H' Q) : Go 190 1223 [some (.ref 0), some (.ref 1), some (.ref 41), some (vi i)] [] H Q := by
  have hx := h.1.x
  have h0 := h.2.2.1
  have r3 := hr (i + 3)
  have r4 := hr (i + 4)
  simp (disch := omega) only [gL_law_1223, gL_law_1223N, gL_law_1224, gL_law_1225, gL_law_1226, gL_law_1227, gL_law_1228, aJ_g, gL_law_1229, gL_law_1230, gL_law_1231, gL_law_1232, gL_law_1233, gL_law_1234, gL_law_1235, gL_law_1236, gL_law_1237, gL_law_1238, gL_law_1239, gL_law_1240, gL_law_1242, gL_law_1243, gL_law_1244, gL_law_1245, gL_law_1246, gL_law_1247, gL_law_1248, gL_law_1249, gL_law_1252, gL_law_1253, gL_law_1254, Rd_some, Wr_some, Cont_some, Cont_none, iso_O, true_and, hg_s, hg_n, hput_hput, hx, h0]
  refine cx_match h.1 ⟨hr _, hr _, bOr_r _ _⟩ (fun H1 c1 f1 => ?_)
  obtain ⟨r, hr0, hu⟩ := is_vi (ov_match (S := S) (a := (g (i + 1))) (b := (g (i + 2))) (w := (bOr (bShl (g (i + 3)) 32) (bAnd (g (i + 4)) 4294967295))))
  change Cont _ _ _ _ _ (some (o_match S (g (i + 1)) (g (i + 2)) (bOr (bShl (g (i + 3)) 32) (bAnd (g (i + 4)) 4294967295))).1) _
  rw [hu, Cont_some]
  have h01 : hget H1 0 = cJ L g := (f1.2 0 (Or.inl rfl)).trans h0
  have m1 := h.2.1.fx f1
  have hm := m1.m41
  simp (disch := omega) only [gL_law_1257, gL_law_1257N, gL_law_1258, gL_law_1259, gL_law_1260, gL_law_1261, gL_law_1262, aJ_g, gL_law_1263, gL_law_1264, gL_law_1265, gL_law_1266, gL_law_1267, gL_law_1268, gL_law_1269, gL_law_1270, gL_law_1271, gL_law_1272, gL_law_1273, gL_law_1274, gL_law_1276, gL_law_1277, gL_law_1278, gL_law_1279, gL_law_1280, gL_law_1281, gL_law_1282, gL_law_1283, gL_law_1286, gL_law_1287, gL_law_1288, Rd_some, Wr_some, Cont_some, Cont_none, iso_O, true_and, hg_s, hg_n, hput_hput, h01, hm]
  refine mx_match m1 ⟨hr _, hr _, bOr_r _ _⟩ (fun H2 c2 f2 => ?_)
  change Cont _ _ _ _ _ (some (o_match S (g (i + 1)) (g (i + 2)) (bOr (bShl (g (i + 3)) 32) (bAnd (g (i + 4)) 4294967295))).1) _
  rw [hu, Cont_some]
  simp (disch := omega) only [gL_law_1291T, gL_law_1291F, gL_law_1412, gL_law_1415, Rd_some, Wr_some, Cont_some, Cont_none, iso_O, true_and, hg_s, hg_n, hput_hput]
  exact hh _ _ (h.step hi.1.1 c1 f1 c2 f2)
theorem lw_30 (h : LI L g i H S) (hi : (0 ≤ i ∧ i + 5 ≤ L) ∧ L ≤ 2560) (hr : ∀ j, -2147483648 ≤ g j ∧ g j ≤ 2147483647) (hh : ∀ H' S', LI L g (i + 5) H' S' → Go 190 18 [some (.ref 0), some (.ref 1), some (.ref 41), some (vi (i + 5))] [] H' Q) : Go 190 1296 [some (.ref 0), some (.ref 1), some (.ref 41), some (vi i)] [] H Q := by
  have hx := h.1.x
  have h0 := h.2.2.1
  simp (disch := omega) only [gL_law_1296, gL_law_1296N, gL_law_1297, gL_law_1298, gL_law_1299, gL_law_1300, gL_law_1301, aJ_g, gL_law_1302, Rd_some, Wr_some, Cont_some, Cont_none, iso_O, true_and, hg_s, hg_n, hput_hput, hx, h0]
  refine cx_matchAt h.1 (hr _) (fun H1 c1 f1 => ?_)
  obtain ⟨r, hr0, hu⟩ := is_vi (ov_matchAt (S := S) (i := (g (i + 1))))
  change Cont _ _ _ _ _ (some (o_matchAt S (g (i + 1))).1) _
  rw [hu, Cont_some]
  have h01 : hget H1 0 = cJ L g := (f1.2 0 (Or.inl rfl)).trans h0
  have m1 := h.2.1.fx f1
  have hm := m1.m41
  simp (disch := omega) only [gL_law_1305, gL_law_1305N, gL_law_1306, gL_law_1307, gL_law_1308, gL_law_1309, gL_law_1310, aJ_g, gL_law_1311, Rd_some, Wr_some, Cont_some, Cont_none, iso_O, true_and, hg_s, hg_n, hput_hput, h01, hm]
  refine mx_matchAt m1 (hr _) (fun H2 c2 f2 => ?_)
  change Cont _ _ _ _ _ (some (o_matchAt S (g (i + 1))).1) _
  rw [hu, Cont_some]
  simp (disch := omega) only [gL_law_1314T, gL_law_1314F, gL_law_1412, gL_law_1415, Rd_some, Wr_some, Cont_some, Cont_none, iso_O, true_and, hg_s, hg_n, hput_hput]
  exact hh _ _ (h.step hi.1.1 c1 f1 c2 f2)
theorem lw_31 (h : LI L g i H S) (hi : (0 ≤ i ∧ i + 5 ≤ L) ∧ L ≤ 2560) (hr : ∀ j, -2147483648 ≤ g j ∧ g j ≤ 2147483647) (hh : ∀ H' S', LI L g (i + 5) H' S' → Go 190 18 [some (.ref 0), some (.ref 1), some (.ref 41), some (vi (i + 5))] [] H' Q) : Go 190 1319 [some (.ref 0), some (.ref 1), some (.ref 41), some (vi i)] [] H Q := by
  have hx := h.1.x
  have h0 := h.2.2.1
  simp (disch := omega) only [gL_law_1319, gL_law_1319N, gL_law_1320, gL_law_1321, gL_law_1322, gL_law_1323, gL_law_1324, aJ_g, gL_law_1325, gL_law_1326, gL_law_1327, gL_law_1328, gL_law_1329, gL_law_1330, Rd_some, Wr_some, Cont_some, Cont_none, iso_O, true_and, hg_s, hg_n, hput_hput, hx, h0]
  refine cx_real h.1 ⟨hr _, hr _⟩ (fun H1 c1 f1 => ?_)
  obtain ⟨r, hr0, hu⟩ := is_vi (ov_real (S := S) (a := (g (i + 1))) (b := (g (i + 2))))
  change Cont _ _ _ _ _ (some (o_real S (g (i + 1)) (g (i + 2))).1) _
  rw [hu, Cont_some]
  have h01 : hget H1 0 = cJ L g := (f1.2 0 (Or.inl rfl)).trans h0
  have m1 := h.2.1.fx f1
  have hm := m1.m41
  simp (disch := omega) only [gL_law_1333, gL_law_1333N, gL_law_1334, gL_law_1335, gL_law_1336, gL_law_1337, gL_law_1338, aJ_g, gL_law_1339, gL_law_1340, gL_law_1341, gL_law_1342, gL_law_1343, gL_law_1344, Rd_some, Wr_some, Cont_some, Cont_none, iso_O, true_and, hg_s, hg_n, hput_hput, h01, hm]
  refine mx_real m1 ⟨hr _, hr _⟩ (fun H2 c2 f2 => ?_)
  change Cont _ _ _ _ _ (some (o_real S (g (i + 1)) (g (i + 2))).1) _
  rw [hu, Cont_some]
  simp (disch := omega) only [gL_law_1347T, gL_law_1347F, gL_law_1412, gL_law_1415, Rd_some, Wr_some, Cont_some, Cont_none, iso_O, true_and, hg_s, hg_n, hput_hput]
  exact hh _ _ (h.step hi.1.1 c1 f1 c2 f2)
theorem lw_32 (h : LI L g i H S) (hi : (0 ≤ i ∧ i + 5 ≤ L) ∧ L ≤ 2560) (hr : ∀ j, -2147483648 ≤ g j ∧ g j ≤ 2147483647) (hh : ∀ H' S', LI L g (i + 5) H' S' → Go 190 18 [some (.ref 0), some (.ref 1), some (.ref 41), some (vi (i + 5))] [] H' Q) : Go 190 1352 [some (.ref 0), some (.ref 1), some (.ref 41), some (vi i)] [] H Q := by
  have hx := h.1.x
  have h0 := h.2.2.1
  simp (disch := omega) only [gL_law_1352, gL_law_1352N, gL_law_1353, gL_law_1354, gL_law_1355, gL_law_1356, gL_law_1357, aJ_g, gL_law_1358, Rd_some, Wr_some, Cont_some, Cont_none, iso_O, true_and, hg_s, hg_n, hput_hput, hx, h0]
  refine cx_realAt h.1 (hr _) (fun H1 c1 f1 => ?_)
  obtain ⟨r, hr0, hu⟩ := is_vl (ov_sh (S := S) (z := 6) (i := (g (i + 1))) (w := 9221120237041090560))
  change Cont _ _ _ _ _ (some (o_sh S 6 (g (i + 1)) 9221120237041090560).1) _
  rw [hu, Cont_some]
  have h01 : hget H1 0 = cJ L g := (f1.2 0 (Or.inl rfl)).trans h0
  have m1 := h.2.1.fx f1
  have hm := m1.m41
  simp (disch := omega) only [gL_law_1361, gL_law_1361N, gL_law_1362, gL_law_1363, gL_law_1364, gL_law_1365, gL_law_1366, aJ_g, gL_law_1367, Rd_some, Wr_some, Cont_some, Cont_none, iso_O, true_and, hg_s, hg_n, hput_hput, h01, hm]
  refine mx_realAt m1 (hr _) (fun H2 c2 f2 => ?_)
  change Cont _ _ _ _ _ (some (o_sh S 6 (g (i + 1)) 9221120237041090560).1) _
  rw [hu, Cont_some]
  simp (disch := omega) only [gL_law_1370T, gL_law_1370F, gL_law_1412, gL_law_1415, Rd_some, Wr_some, Cont_some, Cont_none, iso_O, true_and, hg_s, hg_n, hput_hput]
  exact hh _ _ (h.step hi.1.1 c1 f1 c2 f2)
theorem lw_33 (h : LI L g i H S) (hi : (0 ≤ i ∧ i + 5 ≤ L) ∧ L ≤ 2560) (hr : ∀ j, -2147483648 ≤ g j ∧ g j ≤ 2147483647) (hh : ∀ H' S', LI L g (i + 5) H' S' → Go 190 18 [some (.ref 0), some (.ref 1), some (.ref 41), some (vi (i + 5))] [] H' Q) : Go 190 1376 [some (.ref 0), some (.ref 1), some (.ref 41), some (vi i)] [] H Q := by
  have hx := h.1.x
  have h0 := h.2.2.1
  simp (disch := omega) only [gL_law_1376, gL_law_1376N, gL_law_1377, Rd_some, Wr_some, Cont_some, Cont_none, iso_O, true_and, hg_s, hg_n, hput_hput, hx, h0]
  refine cx_fault h.1 (fun H1 c1 f1 => ?_)
  obtain ⟨r, hr0, hu⟩ := is_vi (ov_fault (S := S))
  change Cont _ _ _ _ _ (some (((vi S.2.1.1, S) : Value × SS)).1) _
  rw [hu, Cont_some]
  have h01 : hget H1 0 = cJ L g := (f1.2 0 (Or.inl rfl)).trans h0
  have m1 := h.2.1.fx f1
  have hm := m1.m41
  simp (disch := omega) only [gL_law_1380, gL_law_1380N, gL_law_1381, Rd_some, Wr_some, Cont_some, Cont_none, iso_O, true_and, hg_s, hg_n, hput_hput, h01, hm]
  refine mx_fault m1 (fun H2 c2 f2 => ?_)
  change Cont _ _ _ _ _ (some (((vi S.2.1.1, S) : Value × SS)).1) _
  rw [hu, Cont_some]
  simp (disch := omega) only [gL_law_1384T, gL_law_1384F, gL_law_1412, gL_law_1415, Rd_some, Wr_some, Cont_some, Cont_none, iso_O, true_and, hg_s, hg_n, hput_hput]
  exact hh _ _ (h.step hi.1.1 c1 f1 c2 f2)
theorem lw_34 (h : LI L g i H S) (hi : (0 ≤ i ∧ i + 5 ≤ L) ∧ L ≤ 2560) (hr : ∀ j, -2147483648 ≤ g j ∧ g j ≤ 2147483647) (hh : ∀ H' S', LI L g (i + 5) H' S' → Go 190 18 [some (.ref 0), some (.ref 1), some (.ref 41), some (vi (i + 5))] [] H' Q) : Go 190 1389 [some (.ref 0), some (.ref 1), some (.ref 41), some (vi i)] [] H Q := by
  have hx := h.1.x
  have h0 := h.2.2.1
  simp (disch := omega) only [gL_law_1389, gL_law_1389N, gL_law_1390, gL_law_1391, gL_law_1392, gL_law_1393, gL_law_1394, aJ_g, gL_law_1395, Rd_some, Wr_some, Cont_some, Cont_none, iso_O, true_and, hg_s, hg_n, hput_hput, hx, h0]
  refine cx_told h.1 (hr _) (fun H1 c1 f1 => ?_)
  obtain ⟨r, hr0, hu⟩ := is_vi (ov_told (S := S) (i := (g (i + 1))))
  change Cont _ _ _ _ _ (some (o_told S (g (i + 1))).1) _
  rw [hu, Cont_some]
  have h01 : hget H1 0 = cJ L g := (f1.2 0 (Or.inl rfl)).trans h0
  have m1 := h.2.1.fx f1
  have hm := m1.m41
  simp (disch := omega) only [gL_law_1398, gL_law_1398N, gL_law_1399, gL_law_1400, gL_law_1401, gL_law_1402, gL_law_1403, aJ_g, gL_law_1404, Rd_some, Wr_some, Cont_some, Cont_none, iso_O, true_and, hg_s, hg_n, hput_hput, h01, hm]
  refine mx_told m1 (hr _) (fun H2 c2 f2 => ?_)
  change Cont _ _ _ _ _ (some (o_told S (g (i + 1))).1) _
  rw [hu, Cont_some]
  simp (disch := omega) only [gL_law_1407T, gL_law_1407F, gL_law_1412, gL_law_1415, Rd_some, Wr_some, Cont_some, Cont_none, iso_O, true_and, hg_s, hg_n, hput_hput]
  exact hh _ _ (h.step hi.1.1 c1 f1 c2 f2)
end LWA

/-! the law: calls 9 to 17 (begun by program: wip/gen/law.py) -/
section LWA
variable {L i : Int} {g : Int → Int} {H : HP} {S : SS} {Q : Option Value → HP → Prop}
theorem lw_9 (h : LI L g i H S) (hi : (0 ≤ i ∧ i + 5 ≤ L) ∧ L ≤ 2560) (hr : ∀ j, -2147483648 ≤ g j ∧ g j ≤ 2147483647) (hh : ∀ H' S', LI L g (i + 5) H' S' → Go 190 18 [some (.ref 0), some (.ref 1), some (.ref 41), some (vi (i + 5))] [] H' Q) : Go 190 538 [some (.ref 0), some (.ref 1), some (.ref 41), some (vi i)] [] H Q := by
  have hx := h.1.x
  have h0 := h.2.2.1
  simp (disch := omega) only [gL_law_538, gL_law_538N, gL_law_539, gL_law_540, gL_law_541, gL_law_542, gL_law_543, aJ_g, gL_law_544, gL_law_545, gL_law_546, gL_law_547, gL_law_548, gL_law_549, Rd_some, Wr_some, Cont_some, Cont_none, iso_O, true_and, hg_s, hg_n, hput_hput, hx, h0]
  refine cx_tr h.1 ⟨hr _, hr _⟩ (fun H1 c1 f1 => ?_)
  obtain ⟨r, hr0, hu⟩ := is_vi (ov_tr (S := S) (a := (g (i + 1))) (u := (g (i + 2))))
  change Cont _ _ _ _ _ (some (o_tr S (g (i + 1)) (g (i + 2))).1) _
  rw [hu, Cont_some]
  have h01 : hget H1 0 = cJ L g := (f1.2 0 (Or.inl rfl)).trans h0
  have m1 := h.2.1.fx f1
  have hm := m1.m41
  simp (disch := omega) only [gL_law_552, gL_law_552N, gL_law_553, gL_law_554, gL_law_555, gL_law_556, gL_law_557, aJ_g, gL_law_558, gL_law_559, gL_law_560, gL_law_561, gL_law_562, gL_law_563, Rd_some, Wr_some, Cont_some, Cont_none, iso_O, true_and, hg_s, hg_n, hput_hput, h01, hm]
  refine mx_tr m1 ⟨hr _, hr _⟩ (fun H2 c2 f2 => ?_)
  change Cont _ _ _ _ _ (some (o_tr S (g (i + 1)) (g (i + 2))).1) _
  rw [hu, Cont_some]
  simp (disch := omega) only [gL_law_566T, gL_law_566F, gL_law_1412, gL_law_1415, Rd_some, Wr_some, Cont_some, Cont_none, iso_O, true_and, hg_s, hg_n, hput_hput]
  exact hh _ _ (h.step hi.1.1 c1 f1 c2 f2)
theorem lw_10 (h : LI L g i H S) (hi : (0 ≤ i ∧ i + 5 ≤ L) ∧ L ≤ 2560) (hr : ∀ j, -2147483648 ≤ g j ∧ g j ≤ 2147483647) (hh : ∀ H' S', LI L g (i + 5) H' S' → Go 190 18 [some (.ref 0), some (.ref 1), some (.ref 41), some (vi (i + 5))] [] H' Q) : Go 190 571 [some (.ref 0), some (.ref 1), some (.ref 41), some (vi i)] [] H Q := by
  have hx := h.1.x
  have h0 := h.2.2.1
  simp (disch := omega) only [gL_law_571, gL_law_571N, gL_law_572, gL_law_573, gL_law_574, gL_law_575, gL_law_576, aJ_g, gL_law_577, Rd_some, Wr_some, Cont_some, Cont_none, iso_O, true_and, hg_s, hg_n, hput_hput, hx, h0]
  refine cx_times h.1 (hr _) (fun H1 c1 f1 => ?_)
  obtain ⟨r, hr0, hu⟩ := is_vi (ov_times (S := S) (a := (g (i + 1))))
  change Cont _ _ _ _ _ (some (o_times S (g (i + 1))).1) _
  rw [hu, Cont_some]
  have h01 : hget H1 0 = cJ L g := (f1.2 0 (Or.inl rfl)).trans h0
  have m1 := h.2.1.fx f1
  have hm := m1.m41
  simp (disch := omega) only [gL_law_580, gL_law_580N, gL_law_581, gL_law_582, gL_law_583, gL_law_584, gL_law_585, aJ_g, gL_law_586, Rd_some, Wr_some, Cont_some, Cont_none, iso_O, true_and, hg_s, hg_n, hput_hput, h01, hm]
  refine mx_times m1 (hr _) (fun H2 c2 f2 => ?_)
  change Cont _ _ _ _ _ (some (o_times S (g (i + 1))).1) _
  rw [hu, Cont_some]
  simp (disch := omega) only [gL_law_589T, gL_law_589F, gL_law_1412, gL_law_1415, Rd_some, Wr_some, Cont_some, Cont_none, iso_O, true_and, hg_s, hg_n, hput_hput]
  exact hh _ _ (h.step hi.1.1 c1 f1 c2 f2)
theorem lw_11 (h : LI L g i H S) (hi : (0 ≤ i ∧ i + 5 ≤ L) ∧ L ≤ 2560) (hr : ∀ j, -2147483648 ≤ g j ∧ g j ≤ 2147483647) (hh : ∀ H' S', LI L g (i + 5) H' S' → Go 190 18 [some (.ref 0), some (.ref 1), some (.ref 41), some (vi (i + 5))] [] H' Q) : Go 190 594 [some (.ref 0), some (.ref 1), some (.ref 41), some (vi i)] [] H Q := by
  have hx := h.1.x
  have h0 := h.2.2.1
  simp (disch := omega) only [gL_law_594, gL_law_594N, gL_law_595, gL_law_596, gL_law_597, gL_law_598, gL_law_599, aJ_g, gL_law_600, Rd_some, Wr_some, Cont_some, Cont_none, iso_O, true_and, hg_s, hg_n, hput_hput, hx, h0]
  refine cx_value h.1 (hr _) (fun H1 c1 f1 => ?_)
  obtain ⟨r, hr0, hu⟩ := is_vl (ov_sh (S := S) (z := 0) (i := (g (i + 1))) (w := (-1)))
  change Cont _ _ _ _ _ (some (o_sh S 0 (g (i + 1)) (-1)).1) _
  rw [hu, Cont_some]
  have h01 : hget H1 0 = cJ L g := (f1.2 0 (Or.inl rfl)).trans h0
  have m1 := h.2.1.fx f1
  have hm := m1.m41
  simp (disch := omega) only [gL_law_603, gL_law_603N, gL_law_604, gL_law_605, gL_law_606, gL_law_607, gL_law_608, aJ_g, gL_law_609, Rd_some, Wr_some, Cont_some, Cont_none, iso_O, true_and, hg_s, hg_n, hput_hput, h01, hm]
  refine mx_value m1 (hr _) (fun H2 c2 f2 => ?_)
  change Cont _ _ _ _ _ (some (o_sh S 0 (g (i + 1)) (-1)).1) _
  rw [hu, Cont_some]
  simp (disch := omega) only [gL_law_612T, gL_law_612F, gL_law_1412, gL_law_1415, Rd_some, Wr_some, Cont_some, Cont_none, iso_O, true_and, hg_s, hg_n, hput_hput]
  exact hh _ _ (h.step hi.1.1 c1 f1 c2 f2)
theorem lw_12 (h : LI L g i H S) (hi : (0 ≤ i ∧ i + 5 ≤ L) ∧ L ≤ 2560) (hr : ∀ j, -2147483648 ≤ g j ∧ g j ≤ 2147483647) (hh : ∀ H' S', LI L g (i + 5) H' S' → Go 190 18 [some (.ref 0), some (.ref 1), some (.ref 41), some (vi (i + 5))] [] H' Q) : Go 190 618 [some (.ref 0), some (.ref 1), some (.ref 41), some (vi i)] [] H Q := by
  have hx := h.1.x
  have h0 := h.2.2.1
  simp (disch := omega) only [gL_law_618, gL_law_618N, gL_law_619, gL_law_620, gL_law_621, gL_law_622, gL_law_623, aJ_g, gL_law_624, Rd_some, Wr_some, Cont_some, Cont_none, iso_O, true_and, hg_s, hg_n, hput_hput, hx, h0]
  refine cx_inv h.1 (hr _) (fun H1 c1 f1 => ?_)
  obtain ⟨r, hr0, hu⟩ := is_vi (ov_inv (S := S) (a := (g (i + 1))) (z := H.1))
  change Cont _ _ _ _ _ (some (o_inv S (g (i + 1)) H.1).1) _
  rw [hu, Cont_some]
  have h01 : hget H1 0 = cJ L g := (f1.2 0 (Or.inl rfl)).trans h0
  have m1 := h.2.1.fx f1
  have hm := m1.m41
  simp (disch := omega) only [gL_law_627, gL_law_627N, gL_law_628, gL_law_629, gL_law_630, gL_law_631, gL_law_632, aJ_g, gL_law_633, Rd_some, Wr_some, Cont_some, Cont_none, iso_O, true_and, hg_s, hg_n, hput_hput, h01, hm]
  refine mx_inv m1 h.1.nl (hr _) (fun H2 c2 f2 => ?_)
  change Cont _ _ _ _ _ (some (o_inv S (g (i + 1)) H.1).1) _
  rw [hu, Cont_some]
  simp (disch := omega) only [gL_law_636T, gL_law_636F, gL_law_1412, gL_law_1415, Rd_some, Wr_some, Cont_some, Cont_none, iso_O, true_and, hg_s, hg_n, hput_hput]
  exact hh _ _ (h.step hi.1.1 c1 f1 c2 f2)
theorem lw_13 (h : LI L g i H S) (hi : (0 ≤ i ∧ i + 5 ≤ L) ∧ L ≤ 2560) (hr : ∀ j, -2147483648 ≤ g j ∧ g j ≤ 2147483647) (hh : ∀ H' S', LI L g (i + 5) H' S' → Go 190 18 [some (.ref 0), some (.ref 1), some (.ref 41), some (vi (i + 5))] [] H' Q) : Go 190 641 [some (.ref 0), some (.ref 1), some (.ref 41), some (vi i)] [] H Q := by
  have hx := h.1.x
  have h0 := h.2.2.1
  simp (disch := omega) only [gL_law_641, gL_law_641N, gL_law_642, gL_law_643, gL_law_644, gL_law_645, gL_law_646, aJ_g, gL_law_647, gL_law_648, gL_law_649, gL_law_650, gL_law_651, gL_law_652, gL_law_653, gL_law_654, gL_law_655, gL_law_656, gL_law_657, Rd_some, Wr_some, Cont_some, Cont_none, iso_O, true_and, hg_s, hg_n, hput_hput, hx, h0]
  refine cx_mul h.1 ⟨hr _, hr _, hr _⟩ (fun H1 c1 f1 => ?_)
  obtain ⟨r, hr0, hu⟩ := is_vi (ov_mul (S := S) (a := (g (i + 1))) (b := (g (i + 2))) (w := (g (i + 3))))
  change Cont _ _ _ _ _ (some (o_mul S (g (i + 1)) (g (i + 2)) (g (i + 3))).1) _
  rw [hu, Cont_some]
  have h01 : hget H1 0 = cJ L g := (f1.2 0 (Or.inl rfl)).trans h0
  have m1 := h.2.1.fx f1
  have hm := m1.m41
  simp (disch := omega) only [gL_law_660, gL_law_660N, gL_law_661, gL_law_662, gL_law_663, gL_law_664, gL_law_665, aJ_g, gL_law_666, gL_law_667, gL_law_668, gL_law_669, gL_law_670, gL_law_671, gL_law_672, gL_law_673, gL_law_674, gL_law_675, gL_law_676, Rd_some, Wr_some, Cont_some, Cont_none, iso_O, true_and, hg_s, hg_n, hput_hput, h01, hm]
  refine mx_mul m1 ⟨hr _, hr _, hr _⟩ (fun H2 c2 f2 => ?_)
  change Cont _ _ _ _ _ (some (o_mul S (g (i + 1)) (g (i + 2)) (g (i + 3))).1) _
  rw [hu, Cont_some]
  simp (disch := omega) only [gL_law_679T, gL_law_679F, gL_law_1412, gL_law_1415, Rd_some, Wr_some, Cont_some, Cont_none, iso_O, true_and, hg_s, hg_n, hput_hput]
  exact hh _ _ (h.step hi.1.1 c1 f1 c2 f2)
theorem lw_14 (h : LI L g i H S) (hi : (0 ≤ i ∧ i + 5 ≤ L) ∧ L ≤ 2560) (hr : ∀ j, -2147483648 ≤ g j ∧ g j ≤ 2147483647) (hh : ∀ H' S', LI L g (i + 5) H' S' → Go 190 18 [some (.ref 0), some (.ref 1), some (.ref 41), some (vi (i + 5))] [] H' Q) : Go 190 684 [some (.ref 0), some (.ref 1), some (.ref 41), some (vi i)] [] H Q := by
  have hx := h.1.x
  have h0 := h.2.2.1
  simp (disch := omega) only [gL_law_684, gL_law_684N, gL_law_685, gL_law_686, gL_law_687, gL_law_688, gL_law_689, aJ_g, gL_law_690, gL_law_691, gL_law_692, gL_law_693, gL_law_694, gL_law_695, gL_law_696, gL_law_697, gL_law_698, gL_law_699, gL_law_700, Rd_some, Wr_some, Cont_some, Cont_none, iso_O, true_and, hg_s, hg_n, hput_hput, hx, h0]
  refine cx_circ h.1 ⟨hr _, hr _, hr _⟩ (fun H1 c1 f1 => ?_)
  obtain ⟨r, hr0, hu⟩ := is_vi (ov_circ (S := S) (a := (g (i + 1))) (b := (g (i + 2))) (n := (g (i + 3))))
  change Cont _ _ _ _ _ (some (o_circ S (g (i + 1)) (g (i + 2)) (g (i + 3))).1) _
  rw [hu, Cont_some]
  have h01 : hget H1 0 = cJ L g := (f1.2 0 (Or.inl rfl)).trans h0
  have m1 := h.2.1.fx f1
  have hm := m1.m41
  simp (disch := omega) only [gL_law_703, gL_law_703N, gL_law_704, gL_law_705, gL_law_706, gL_law_707, gL_law_708, aJ_g, gL_law_709, gL_law_710, gL_law_711, gL_law_712, gL_law_713, gL_law_714, gL_law_715, gL_law_716, gL_law_717, gL_law_718, gL_law_719, Rd_some, Wr_some, Cont_some, Cont_none, iso_O, true_and, hg_s, hg_n, hput_hput, h01, hm]
  refine mx_circ m1 ⟨hr _, hr _, hr _⟩ (fun H2 c2 f2 => ?_)
  change Cont _ _ _ _ _ (some (o_circ S (g (i + 1)) (g (i + 2)) (g (i + 3))).1) _
  rw [hu, Cont_some]
  simp (disch := omega) only [gL_law_722T, gL_law_722F, gL_law_1412, gL_law_1415, Rd_some, Wr_some, Cont_some, Cont_none, iso_O, true_and, hg_s, hg_n, hput_hput]
  exact hh _ _ (h.step hi.1.1 c1 f1 c2 f2)
theorem lw_15 (h : LI L g i H S) (hi : (0 ≤ i ∧ i + 5 ≤ L) ∧ L ≤ 2560) (hr : ∀ j, -2147483648 ≤ g j ∧ g j ≤ 2147483647) (hh : ∀ H' S', LI L g (i + 5) H' S' → Go 190 18 [some (.ref 0), some (.ref 1), some (.ref 41), some (vi (i + 5))] [] H' Q) : Go 190 727 [some (.ref 0), some (.ref 1), some (.ref 41), some (vi i)] [] H Q := by
  have hx := h.1.x
  have h0 := h.2.2.1
  simp (disch := omega) only [gL_law_727, gL_law_727N, gL_law_728, gL_law_729, gL_law_730, gL_law_731, gL_law_732, aJ_g, gL_law_733, gL_law_734, gL_law_735, gL_law_736, gL_law_737, gL_law_738, Rd_some, Wr_some, Cont_some, Cont_none, iso_O, true_and, hg_s, hg_n, hput_hput, hx, h0]
  refine cx_corr h.1 ⟨hr _, hr _⟩ (fun H1 c1 f1 => ?_)
  obtain ⟨r, hr0, hu⟩ := is_vi (ov_corr (S := S) (a := (g (i + 1))) (b := (g (i + 2))))
  change Cont _ _ _ _ _ (some (o_corr S (g (i + 1)) (g (i + 2))).1) _
  rw [hu, Cont_some]
  have h01 : hget H1 0 = cJ L g := (f1.2 0 (Or.inl rfl)).trans h0
  have m1 := h.2.1.fx f1
  have hm := m1.m41
  simp (disch := omega) only [gL_law_741, gL_law_741N, gL_law_742, gL_law_743, gL_law_744, gL_law_745, gL_law_746, aJ_g, gL_law_747, gL_law_748, gL_law_749, gL_law_750, gL_law_751, gL_law_752, Rd_some, Wr_some, Cont_some, Cont_none, iso_O, true_and, hg_s, hg_n, hput_hput, h01, hm]
  refine mx_corr m1 ⟨hr _, hr _⟩ (fun H2 c2 f2 => ?_)
  change Cont _ _ _ _ _ (some (o_corr S (g (i + 1)) (g (i + 2))).1) _
  rw [hu, Cont_some]
  simp (disch := omega) only [gL_law_755T, gL_law_755F, gL_law_1412, gL_law_1415, Rd_some, Wr_some, Cont_some, Cont_none, iso_O, true_and, hg_s, hg_n, hput_hput]
  exact hh _ _ (h.step hi.1.1 c1 f1 c2 f2)
theorem lw_16 (h : LI L g i H S) (hi : (0 ≤ i ∧ i + 5 ≤ L) ∧ L ≤ 2560) (hr : ∀ j, -2147483648 ≤ g j ∧ g j ≤ 2147483647) (hh : ∀ H' S', LI L g (i + 5) H' S' → Go 190 18 [some (.ref 0), some (.ref 1), some (.ref 41), some (vi (i + 5))] [] H' Q) : Go 190 760 [some (.ref 0), some (.ref 1), some (.ref 41), some (vi i)] [] H Q := by
  have hx := h.1.x
  have h0 := h.2.2.1
  simp (disch := omega) only [gL_law_760, gL_law_760N, gL_law_761, gL_law_762, gL_law_763, gL_law_764, gL_law_765, aJ_g, gL_law_766, gL_law_767, gL_law_768, gL_law_769, gL_law_770, gL_law_771, Rd_some, Wr_some, Cont_some, Cont_none, iso_O, true_and, hg_s, hg_n, hput_hput, hx, h0]
  refine cx_slide h.1 ⟨hr _, hr _⟩ (fun H1 c1 f1 => ?_)
  obtain ⟨r, hr0, hu⟩ := is_vi (ov_slide (S := S) (a := (g (i + 1))) (w := (g (i + 2))))
  change Cont _ _ _ _ _ (some (o_slide S (g (i + 1)) (g (i + 2))).1) _
  rw [hu, Cont_some]
  have h01 : hget H1 0 = cJ L g := (f1.2 0 (Or.inl rfl)).trans h0
  have m1 := h.2.1.fx f1
  have hm := m1.m41
  simp (disch := omega) only [gL_law_774, gL_law_774N, gL_law_775, gL_law_776, gL_law_777, gL_law_778, gL_law_779, aJ_g, gL_law_780, gL_law_781, gL_law_782, gL_law_783, gL_law_784, gL_law_785, Rd_some, Wr_some, Cont_some, Cont_none, iso_O, true_and, hg_s, hg_n, hput_hput, h01, hm]
  refine mx_slide m1 ⟨hr _, hr _⟩ (fun H2 c2 f2 => ?_)
  change Cont _ _ _ _ _ (some (o_slide S (g (i + 1)) (g (i + 2))).1) _
  rw [hu, Cont_some]
  simp (disch := omega) only [gL_law_788T, gL_law_788F, gL_law_1412, gL_law_1415, Rd_some, Wr_some, Cont_some, Cont_none, iso_O, true_and, hg_s, hg_n, hput_hput]
  exact hh _ _ (h.step hi.1.1 c1 f1 c2 f2)
theorem lw_17 (h : LI L g i H S) (hi : (0 ≤ i ∧ i + 5 ≤ L) ∧ L ≤ 2560) (hr : ∀ j, -2147483648 ≤ g j ∧ g j ≤ 2147483647) (hh : ∀ H' S', LI L g (i + 5) H' S' → Go 190 18 [some (.ref 0), some (.ref 1), some (.ref 41), some (vi (i + 5))] [] H' Q) : Go 190 793 [some (.ref 0), some (.ref 1), some (.ref 41), some (vi i)] [] H Q := by
  have hx := h.1.x
  have h0 := h.2.2.1
  simp (disch := omega) only [gL_law_793, gL_law_793N, gL_law_794, gL_law_795, gL_law_796, gL_law_797, gL_law_798, aJ_g, gL_law_799, Rd_some, Wr_some, Cont_some, Cont_none, iso_O, true_and, hg_s, hg_n, hput_hput, hx, h0]
  refine cx_high h.1 (hr _) (fun H1 c1 f1 => ?_)
  obtain ⟨r, hr0, hu⟩ := is_vl (ov_high (S := S) (i := (g (i + 1))))
  change Cont _ _ _ _ _ (some (o_high S (g (i + 1))).1) _
  rw [hu, Cont_some]
  have h01 : hget H1 0 = cJ L g := (f1.2 0 (Or.inl rfl)).trans h0
  have m1 := h.2.1.fx f1
  have hm := m1.m41
  simp (disch := omega) only [gL_law_802, gL_law_802N, gL_law_803, gL_law_804, gL_law_805, gL_law_806, gL_law_807, aJ_g, gL_law_808, Rd_some, Wr_some, Cont_some, Cont_none, iso_O, true_and, hg_s, hg_n, hput_hput, h01, hm]
  refine mx_high m1 (hr _) (fun H2 c2 f2 => ?_)
  change Cont _ _ _ _ _ (some (o_high S (g (i + 1))).1) _
  rw [hu, Cont_some]
  simp (disch := omega) only [gL_law_811T, gL_law_811F, gL_law_1412, gL_law_1415, Rd_some, Wr_some, Cont_some, Cont_none, iso_O, true_and, hg_s, hg_n, hput_hput]
  exact hh _ _ (h.step hi.1.1 c1 f1 c2 f2)
end LWA

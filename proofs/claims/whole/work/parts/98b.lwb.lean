/-! the law: calls 0 to 8 (begun by program: wip/gen/law.py) -/
section LWA
variable {L i : Int} {g : Int → Int} {H : HP} {S : SS} {Q : Option Value → HP → Prop}
theorem lw_0 (h : LI L g i H S) (hi : (0 ≤ i ∧ i + 5 ≤ L) ∧ L ≤ 2560) (hr : ∀ j, -2147483648 ≤ g j ∧ g j ≤ 2147483647) (hh : ∀ H' S', LI L g (i + 5) H' S' → Go 190 18 [some (.ref 0), some (.ref 1), some (.ref 41), some (vi (i + 5))] [] H' Q) : Go 190 188 [some (.ref 0), some (.ref 1), some (.ref 41), some (vi i)] [] H Q := by
  have hx := h.1.x
  have h0 := h.2.2.1
  simp (disch := omega) only [gL_law_188, gL_law_188N, gL_law_189, gL_law_190, gL_law_191, gL_law_192, gL_law_193, aJ_g, gL_law_194, gL_law_195, gL_law_196, gL_law_197, gL_law_198, gL_law_199, gL_law_200, gL_law_201, gL_law_202, gL_law_203, gL_law_204, Rd_some, Wr_some, Cont_some, Cont_none, iso_O, true_and, hg_s, hg_n, hput_hput, hx, h0]
  refine cx_row h.1 ⟨hr _, hr _, hr _⟩ (fun H1 c1 f1 => ?_)
  obtain ⟨r, hr0, hu⟩ := is_vi (ov_row (S := S) (p := (g (i + 1))) (ln := (g (i + 2))) (n := (g (i + 3))) (z := H.1))
  change Cont _ _ _ _ _ (some (o_row S (g (i + 1)) (g (i + 2)) (g (i + 3)) H.1).1) _
  rw [hu, Cont_some]
  have h01 : hget H1 0 = cJ L g := (f1.2 0 (Or.inl rfl)).trans h0
  have m1 := h.2.1.fx f1
  have hm := m1.m41
  simp (disch := omega) only [gL_law_207, gL_law_207N, gL_law_208, gL_law_209, gL_law_210, gL_law_211, gL_law_212, aJ_g, gL_law_213, gL_law_214, gL_law_215, gL_law_216, gL_law_217, gL_law_218, gL_law_219, gL_law_220, gL_law_221, gL_law_222, gL_law_223, Rd_some, Wr_some, Cont_some, Cont_none, iso_O, true_and, hg_s, hg_n, hput_hput, h01, hm]
  refine mx_row m1 h.1.nl ⟨hr _, hr _, hr _⟩ (fun H2 c2 f2 => ?_)
  change Cont _ _ _ _ _ (some (o_row S (g (i + 1)) (g (i + 2)) (g (i + 3)) H.1).1) _
  rw [hu, Cont_some]
  simp (disch := omega) only [gL_law_226T, gL_law_226F, gL_law_1412, gL_law_1415, Rd_some, Wr_some, Cont_some, Cont_none, iso_O, true_and, hg_s, hg_n, hput_hput]
  exact hh _ _ (h.step hi.1.1 c1 f1 c2 f2)
theorem lw_1 (h : LI L g i H S) (hi : (0 ≤ i ∧ i + 5 ≤ L) ∧ L ≤ 2560) (hr : ∀ j, -2147483648 ≤ g j ∧ g j ≤ 2147483647) (hh : ∀ H' S', LI L g (i + 5) H' S' → Go 190 18 [some (.ref 0), some (.ref 1), some (.ref 41), some (vi (i + 5))] [] H' Q) : Go 190 231 [some (.ref 0), some (.ref 1), some (.ref 41), some (vi i)] [] H Q := by
  have hx := h.1.x
  have h0 := h.2.2.1
  simp (disch := omega) only [gL_law_231, gL_law_231N, gL_law_232, gL_law_233, gL_law_234, gL_law_235, gL_law_236, aJ_g, gL_law_237, gL_law_238, gL_law_239, gL_law_240, gL_law_241, gL_law_242, Rd_some, Wr_some, Cont_some, Cont_none, iso_O, true_and, hg_s, hg_n, hput_hput, hx, h0]
  refine cx_share h.1 ⟨hr _, hr _⟩ (fun H1 c1 f1 => ?_)
  obtain ⟨r, hr0, hu⟩ := is_vi (ov_share (S := S) (p := (g (i + 1))) (q := (g (i + 2))))
  change Cont _ _ _ _ _ (some (o_share S (g (i + 1)) (g (i + 2))).1) _
  rw [hu, Cont_some]
  have h01 : hget H1 0 = cJ L g := (f1.2 0 (Or.inl rfl)).trans h0
  have m1 := h.2.1.fx f1
  have hm := m1.m41
  simp (disch := omega) only [gL_law_245, gL_law_245N, gL_law_246, gL_law_247, gL_law_248, gL_law_249, gL_law_250, aJ_g, gL_law_251, gL_law_252, gL_law_253, gL_law_254, gL_law_255, gL_law_256, Rd_some, Wr_some, Cont_some, Cont_none, iso_O, true_and, hg_s, hg_n, hput_hput, h01, hm]
  refine mx_share m1 ⟨hr _, hr _⟩ (fun H2 c2 f2 => ?_)
  change Cont _ _ _ _ _ (some (o_share S (g (i + 1)) (g (i + 2))).1) _
  rw [hu, Cont_some]
  simp (disch := omega) only [gL_law_259T, gL_law_259F, gL_law_1412, gL_law_1415, Rd_some, Wr_some, Cont_some, Cont_none, iso_O, true_and, hg_s, hg_n, hput_hput]
  exact hh _ _ (h.step hi.1.1 c1 f1 c2 f2)
theorem lw_2 (h : LI L g i H S) (hi : (0 ≤ i ∧ i + 5 ≤ L) ∧ L ≤ 2560) (hr : ∀ j, -2147483648 ≤ g j ∧ g j ≤ 2147483647) (hh : ∀ H' S', LI L g (i + 5) H' S' → Go 190 18 [some (.ref 0), some (.ref 1), some (.ref 41), some (vi (i + 5))] [] H' Q) : Go 190 264 [some (.ref 0), some (.ref 1), some (.ref 41), some (vi i)] [] H Q := by
  have hx := h.1.x
  have h0 := h.2.2.1
  simp (disch := omega) only [gL_law_264, gL_law_264N, gL_law_265, gL_law_266, gL_law_267, gL_law_268, gL_law_269, aJ_g, gL_law_270, gL_law_271, gL_law_272, gL_law_273, gL_law_274, gL_law_275, Rd_some, Wr_some, Cont_some, Cont_none, iso_O, true_and, hg_s, hg_n, hput_hput, hx, h0]
  refine cx_kind h.1 ⟨hr _, hr _⟩ (fun H1 c1 f1 => ?_)
  obtain ⟨r, hr0, hu⟩ := is_vi (ov_kind (S := S) (p := (g (i + 1))) (w := (g (i + 2))))
  change Cont _ _ _ _ _ (some (o_kind S (g (i + 1)) (g (i + 2))).1) _
  rw [hu, Cont_some]
  have h01 : hget H1 0 = cJ L g := (f1.2 0 (Or.inl rfl)).trans h0
  have m1 := h.2.1.fx f1
  have hm := m1.m41
  simp (disch := omega) only [gL_law_278, gL_law_278N, gL_law_279, gL_law_280, gL_law_281, gL_law_282, gL_law_283, aJ_g, gL_law_284, gL_law_285, gL_law_286, gL_law_287, gL_law_288, gL_law_289, Rd_some, Wr_some, Cont_some, Cont_none, iso_O, true_and, hg_s, hg_n, hput_hput, h01, hm]
  refine mx_kind m1 ⟨hr _, hr _⟩ (fun H2 c2 f2 => ?_)
  change Cont _ _ _ _ _ (some (o_kind S (g (i + 1)) (g (i + 2))).1) _
  rw [hu, Cont_some]
  simp (disch := omega) only [gL_law_292T, gL_law_292F, gL_law_1412, gL_law_1415, Rd_some, Wr_some, Cont_some, Cont_none, iso_O, true_and, hg_s, hg_n, hput_hput]
  exact hh _ _ (h.step hi.1.1 c1 f1 c2 f2)
theorem lw_3 (h : LI L g i H S) (hi : (0 ≤ i ∧ i + 5 ≤ L) ∧ L ≤ 2560) (hr : ∀ j, -2147483648 ≤ g j ∧ g j ≤ 2147483647) (hh : ∀ H' S', LI L g (i + 5) H' S' → Go 190 18 [some (.ref 0), some (.ref 1), some (.ref 41), some (vi (i + 5))] [] H' Q) : Go 190 297 [some (.ref 0), some (.ref 1), some (.ref 41), some (vi i)] [] H Q := by
  have hx := h.1.x
  have h0 := h.2.2.1
  have r3 := hr (i + 3)
  have r4 := hr (i + 4)
  simp (disch := omega) only [gL_law_297, gL_law_297N, gL_law_298, gL_law_299, gL_law_300, gL_law_301, gL_law_302, aJ_g, gL_law_303, gL_law_304, gL_law_305, gL_law_306, gL_law_307, gL_law_308, gL_law_309, gL_law_310, gL_law_311, gL_law_312, gL_law_313, gL_law_314, gL_law_316, gL_law_317, gL_law_318, gL_law_319, gL_law_320, gL_law_321, gL_law_322, gL_law_323, gL_law_326, gL_law_327, gL_law_328, Rd_some, Wr_some, Cont_some, Cont_none, iso_O, true_and, hg_s, hg_n, hput_hput, hx, h0]
  refine cx_put h.1 ⟨hr _, hr _, bOr_r _ _⟩ (fun H1 c1 f1 => ?_)
  obtain ⟨r, hr0, hu⟩ := is_vi (ov_put (S := S) (p := (g (i + 1))) (i := (g (i + 2))) (v := (bOr (bShl (g (i + 3)) 32) (bAnd (g (i + 4)) 4294967295))))
  change Cont _ _ _ _ _ (some (o_put S (g (i + 1)) (g (i + 2)) (bOr (bShl (g (i + 3)) 32) (bAnd (g (i + 4)) 4294967295))).1) _
  rw [hu, Cont_some]
  have h01 : hget H1 0 = cJ L g := (f1.2 0 (Or.inl rfl)).trans h0
  have m1 := h.2.1.fx f1
  have hm := m1.m41
  simp (disch := omega) only [gL_law_331, gL_law_331N, gL_law_332, gL_law_333, gL_law_334, gL_law_335, gL_law_336, aJ_g, gL_law_337, gL_law_338, gL_law_339, gL_law_340, gL_law_341, gL_law_342, gL_law_343, gL_law_344, gL_law_345, gL_law_346, gL_law_347, gL_law_348, gL_law_350, gL_law_351, gL_law_352, gL_law_353, gL_law_354, gL_law_355, gL_law_356, gL_law_357, gL_law_360, gL_law_361, gL_law_362, Rd_some, Wr_some, Cont_some, Cont_none, iso_O, true_and, hg_s, hg_n, hput_hput, h01, hm]
  refine mx_put m1 ⟨hr _, hr _, bOr_r _ _⟩ (fun H2 c2 f2 => ?_)
  change Cont _ _ _ _ _ (some (o_put S (g (i + 1)) (g (i + 2)) (bOr (bShl (g (i + 3)) 32) (bAnd (g (i + 4)) 4294967295))).1) _
  rw [hu, Cont_some]
  simp (disch := omega) only [gL_law_365T, gL_law_365F, gL_law_1412, gL_law_1415, Rd_some, Wr_some, Cont_some, Cont_none, iso_O, true_and, hg_s, hg_n, hput_hput]
  exact hh _ _ (h.step hi.1.1 c1 f1 c2 f2)
theorem lw_4 (h : LI L g i H S) (hi : (0 ≤ i ∧ i + 5 ≤ L) ∧ L ≤ 2560) (hr : ∀ j, -2147483648 ≤ g j ∧ g j ≤ 2147483647) (hh : ∀ H' S', LI L g (i + 5) H' S' → Go 190 18 [some (.ref 0), some (.ref 1), some (.ref 41), some (vi (i + 5))] [] H' Q) : Go 190 370 [some (.ref 0), some (.ref 1), some (.ref 41), some (vi i)] [] H Q := by
  have hx := h.1.x
  have h0 := h.2.2.1
  simp (disch := omega) only [gL_law_370, gL_law_370N, gL_law_371, gL_law_372, gL_law_373, gL_law_374, gL_law_375, aJ_g, gL_law_376, gL_law_377, gL_law_378, gL_law_379, gL_law_380, gL_law_381, Rd_some, Wr_some, Cont_some, Cont_none, iso_O, true_and, hg_s, hg_n, hput_hput, hx, h0]
  refine cx_at h.1 ⟨hr _, hr _⟩ (fun H1 c1 f1 => ?_)
  obtain ⟨r, hr0, hu⟩ := is_vl (ov_at (S := S) (p := (g (i + 1))) (i := (g (i + 2))))
  change Cont _ _ _ _ _ (some (o_at S (g (i + 1)) (g (i + 2))).1) _
  rw [hu, Cont_some]
  have h01 : hget H1 0 = cJ L g := (f1.2 0 (Or.inl rfl)).trans h0
  have m1 := h.2.1.fx f1
  have hm := m1.m41
  simp (disch := omega) only [gL_law_384, gL_law_384N, gL_law_385, gL_law_386, gL_law_387, gL_law_388, gL_law_389, aJ_g, gL_law_390, gL_law_391, gL_law_392, gL_law_393, gL_law_394, gL_law_395, Rd_some, Wr_some, Cont_some, Cont_none, iso_O, true_and, hg_s, hg_n, hput_hput, h01, hm]
  refine mx_at m1 ⟨hr _, hr _⟩ (fun H2 c2 f2 => ?_)
  change Cont _ _ _ _ _ (some (o_at S (g (i + 1)) (g (i + 2))).1) _
  rw [hu, Cont_some]
  simp (disch := omega) only [gL_law_398T, gL_law_398F, gL_law_1412, gL_law_1415, Rd_some, Wr_some, Cont_some, Cont_none, iso_O, true_and, hg_s, hg_n, hput_hput]
  exact hh _ _ (h.step hi.1.1 c1 f1 c2 f2)
theorem lw_5 (h : LI L g i H S) (hi : (0 ≤ i ∧ i + 5 ≤ L) ∧ L ≤ 2560) (hr : ∀ j, -2147483648 ≤ g j ∧ g j ≤ 2147483647) (hh : ∀ H' S', LI L g (i + 5) H' S' → Go 190 18 [some (.ref 0), some (.ref 1), some (.ref 41), some (vi (i + 5))] [] H' Q) : Go 190 404 [some (.ref 0), some (.ref 1), some (.ref 41), some (vi i)] [] H Q := by
  have hx := h.1.x
  have h0 := h.2.2.1
  simp (disch := omega) only [gL_law_404, gL_law_404N, gL_law_405, gL_law_406, gL_law_407, gL_law_408, gL_law_409, aJ_g, gL_law_410, gL_law_411, gL_law_412, gL_law_413, gL_law_414, gL_law_415, gL_law_416, gL_law_417, gL_law_418, gL_law_419, gL_law_420, Rd_some, Wr_some, Cont_some, Cont_none, iso_O, true_and, hg_s, hg_n, hput_hput, hx, h0]
  refine cx_as h.1 ⟨hr _, hr _, hr _⟩ (fun H1 c1 f1 => ?_)
  obtain ⟨r, hr0, hu⟩ := is_vl (ov_as (S := S) (p := (g (i + 1))) (i := (g (i + 2))) (ln := (g (i + 3))))
  change Cont _ _ _ _ _ (some (o_as S (g (i + 1)) (g (i + 2)) (g (i + 3))).1) _
  rw [hu, Cont_some]
  have h01 : hget H1 0 = cJ L g := (f1.2 0 (Or.inl rfl)).trans h0
  have m1 := h.2.1.fx f1
  have hm := m1.m41
  simp (disch := omega) only [gL_law_423, gL_law_423N, gL_law_424, gL_law_425, gL_law_426, gL_law_427, gL_law_428, aJ_g, gL_law_429, gL_law_430, gL_law_431, gL_law_432, gL_law_433, gL_law_434, gL_law_435, gL_law_436, gL_law_437, gL_law_438, gL_law_439, Rd_some, Wr_some, Cont_some, Cont_none, iso_O, true_and, hg_s, hg_n, hput_hput, h01, hm]
  refine mx_as m1 ⟨hr _, hr _, hr _⟩ (fun H2 c2 f2 => ?_)
  change Cont _ _ _ _ _ (some (o_as S (g (i + 1)) (g (i + 2)) (g (i + 3))).1) _
  rw [hu, Cont_some]
  simp (disch := omega) only [gL_law_442T, gL_law_442F, gL_law_1412, gL_law_1415, Rd_some, Wr_some, Cont_some, Cont_none, iso_O, true_and, hg_s, hg_n, hput_hput]
  exact hh _ _ (h.step hi.1.1 c1 f1 c2 f2)
theorem lw_6 (h : LI L g i H S) (hi : (0 ≤ i ∧ i + 5 ≤ L) ∧ L ≤ 2560) (hr : ∀ j, -2147483648 ≤ g j ∧ g j ≤ 2147483647) (hh : ∀ H' S', LI L g (i + 5) H' S' → Go 190 18 [some (.ref 0), some (.ref 1), some (.ref 41), some (vi (i + 5))] [] H' Q) : Go 190 448 [some (.ref 0), some (.ref 1), some (.ref 41), some (vi i)] [] H Q := by
  have hx := h.1.x
  have h0 := h.2.2.1
  simp (disch := omega) only [gL_law_448, gL_law_448N, gL_law_449, gL_law_450, gL_law_451, gL_law_452, gL_law_453, aJ_g, gL_law_454, Rd_some, Wr_some, Cont_some, Cont_none, iso_O, true_and, hg_s, hg_n, hput_hput, hx, h0]
  refine cx_rev h.1 (hr _) (fun H1 c1 f1 => ?_)
  obtain ⟨r, hr0, hu⟩ := is_vi (ov_rev (S := S) (p := (g (i + 1))))
  change Cont _ _ _ _ _ (some (o_rev S (g (i + 1))).1) _
  rw [hu, Cont_some]
  have h01 : hget H1 0 = cJ L g := (f1.2 0 (Or.inl rfl)).trans h0
  have m1 := h.2.1.fx f1
  have hm := m1.m41
  simp (disch := omega) only [gL_law_457, gL_law_457N, gL_law_458, gL_law_459, gL_law_460, gL_law_461, gL_law_462, aJ_g, gL_law_463, Rd_some, Wr_some, Cont_some, Cont_none, iso_O, true_and, hg_s, hg_n, hput_hput, h01, hm]
  refine mx_rev m1 (hr _) (fun H2 c2 f2 => ?_)
  change Cont _ _ _ _ _ (some (o_rev S (g (i + 1))).1) _
  rw [hu, Cont_some]
  simp (disch := omega) only [gL_law_466T, gL_law_466F, gL_law_1412, gL_law_1415, Rd_some, Wr_some, Cont_some, Cont_none, iso_O, true_and, hg_s, hg_n, hput_hput]
  exact hh _ _ (h.step hi.1.1 c1 f1 c2 f2)
theorem lw_7 (h : LI L g i H S) (hi : (0 ≤ i ∧ i + 5 ≤ L) ∧ L ≤ 2560) (hr : ∀ j, -2147483648 ≤ g j ∧ g j ≤ 2147483647) (hh : ∀ H' S', LI L g (i + 5) H' S' → Go 190 18 [some (.ref 0), some (.ref 1), some (.ref 41), some (vi (i + 5))] [] H' Q) : Go 190 471 [some (.ref 0), some (.ref 1), some (.ref 41), some (vi i)] [] H Q := by
  have hx := h.1.x
  have h0 := h.2.2.1
  simp (disch := omega) only [gL_law_471, gL_law_471N, gL_law_472, gL_law_473, gL_law_474, gL_law_475, gL_law_476, aJ_g, gL_law_477, gL_law_478, gL_law_479, gL_law_480, gL_law_481, gL_law_482, Rd_some, Wr_some, Cont_some, Cont_none, iso_O, true_and, hg_s, hg_n, hput_hput, hx, h0]
  refine cx_shift h.1 ⟨hr _, hr _⟩ (fun H1 c1 f1 => ?_)
  obtain ⟨r, hr0, hu⟩ := is_vi (ov_shift (S := S) (p := (g (i + 1))) (b := (g (i + 2))))
  change Cont _ _ _ _ _ (some (o_shift S (g (i + 1)) (g (i + 2))).1) _
  rw [hu, Cont_some]
  have h01 : hget H1 0 = cJ L g := (f1.2 0 (Or.inl rfl)).trans h0
  have m1 := h.2.1.fx f1
  have hm := m1.m41
  simp (disch := omega) only [gL_law_485, gL_law_485N, gL_law_486, gL_law_487, gL_law_488, gL_law_489, gL_law_490, aJ_g, gL_law_491, gL_law_492, gL_law_493, gL_law_494, gL_law_495, gL_law_496, Rd_some, Wr_some, Cont_some, Cont_none, iso_O, true_and, hg_s, hg_n, hput_hput, h01, hm]
  refine mx_shift m1 ⟨hr _, hr _⟩ (fun H2 c2 f2 => ?_)
  change Cont _ _ _ _ _ (some (o_shift S (g (i + 1)) (g (i + 2))).1) _
  rw [hu, Cont_some]
  simp (disch := omega) only [gL_law_499T, gL_law_499F, gL_law_1412, gL_law_1415, Rd_some, Wr_some, Cont_some, Cont_none, iso_O, true_and, hg_s, hg_n, hput_hput]
  exact hh _ _ (h.step hi.1.1 c1 f1 c2 f2)
theorem lw_8 (h : LI L g i H S) (hi : (0 ≤ i ∧ i + 5 ≤ L) ∧ L ≤ 2560) (hr : ∀ j, -2147483648 ≤ g j ∧ g j ≤ 2147483647) (hh : ∀ H' S', LI L g (i + 5) H' S' → Go 190 18 [some (.ref 0), some (.ref 1), some (.ref 41), some (vi (i + 5))] [] H' Q) : Go 190 504 [some (.ref 0), some (.ref 1), some (.ref 41), some (vi i)] [] H Q := by
  have hx := h.1.x
  have h0 := h.2.2.1
  simp (disch := omega) only [gL_law_504, gL_law_504N, gL_law_505, gL_law_506, gL_law_507, gL_law_508, gL_law_509, aJ_g, gL_law_510, gL_law_511, gL_law_512, gL_law_513, gL_law_514, gL_law_515, Rd_some, Wr_some, Cont_some, Cont_none, iso_O, true_and, hg_s, hg_n, hput_hput, hx, h0]
  refine cx_root h.1 ⟨hr _, hr _⟩ (fun H1 c1 f1 => ?_)
  obtain ⟨r, hr0, hu⟩ := is_vl (ov_root (S := S) (k := (g (i + 1))) (n := (g (i + 2))))
  change Cont _ _ _ _ _ (some (o_root S (g (i + 1)) (g (i + 2))).1) _
  rw [hu, Cont_some]
  have h01 : hget H1 0 = cJ L g := (f1.2 0 (Or.inl rfl)).trans h0
  have m1 := h.2.1.fx f1
  have hm := m1.m41
  simp (disch := omega) only [gL_law_518, gL_law_518N, gL_law_519, gL_law_520, gL_law_521, gL_law_522, gL_law_523, aJ_g, gL_law_524, gL_law_525, gL_law_526, gL_law_527, gL_law_528, gL_law_529, Rd_some, Wr_some, Cont_some, Cont_none, iso_O, true_and, hg_s, hg_n, hput_hput, h01, hm]
  refine mx_root m1 ⟨hr _, hr _⟩ (fun H2 c2 f2 => ?_)
  change Cont _ _ _ _ _ (some (o_root S (g (i + 1)) (g (i + 2))).1) _
  rw [hu, Cont_some]
  simp (disch := omega) only [gL_law_532T, gL_law_532F, gL_law_1412, gL_law_1415, Rd_some, Wr_some, Cont_some, Cont_none, iso_O, true_and, hg_s, hg_n, hput_hput]
  exact hh _ _ (h.step hi.1.1 c1 f1 c2 f2)
end LWA

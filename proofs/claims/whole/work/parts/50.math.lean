/-! Math and Prime -/
theorem bx_r (a : Int64) : -9223372036854775808 ≤ a.toInt ∧ a.toInt ≤ 9223372036854775807 := ⟨a.le_toInt, a.toInt_le⟩
theorem jx_r (a : Int32) : -2147483648 ≤ a.toInt ∧ a.toInt ≤ 2147483647 := ⟨a.le_toInt, a.toInt_le⟩
theorem neg_msb (a : Int64) : a.toInt < 0 ↔ a.toBitVec.msb = true := by
  show a.toBitVec.toInt < 0 ↔ _
  rw [BitVec.msb_eq_toInt, decide_eq_true_eq]
theorem neg_msb32 (a : Int32) : a.toInt < 0 ↔ a.toBitVec.msb = true := by
  show a.toBitVec.toInt < 0 ↔ _
  rw [BitVec.msb_eq_toInt, decide_eq_true_eq]
theorem bXor_s {x m : Int} (c : (-9223372036854775808 ≤ x ∧ x ≤ 9223372036854775807) ∧ 0 ≤ m ∧ m ≤ 9223372036854775807) : bXor x m < 0 ↔ x < 0 := by
  have e1 := i64 c.1.1 c.1.2
  have e2 := i64 (x := m) (by omega) c.2.2
  have h1 := neg_msb (Int64.ofInt x)
  have h2 := neg_msb (Int64.ofInt m)
  rw [e1] at h1
  rw [e2] at h2
  unfold bXor
  rw [neg_msb, h1]
  have h3 : (Int64.ofInt m).toBitVec.msb = false := by
    cases hm : (Int64.ofInt m).toBitVec.msb with
    | false => rfl
    | true => exact absurd (h2.mpr hm) (by omega)
  rw [show (Int64.ofInt x ^^^ Int64.ofInt m).toBitVec = (Int64.ofInt x).toBitVec ^^^ (Int64.ofInt m).toBitVec from rfl, BitVec.msb_xor, h3, Bool.xor_false]
theorem jXor_s {x m : Int} (c : (-2147483648 ≤ x ∧ x ≤ 2147483647) ∧ 0 ≤ m ∧ m ≤ 2147483647) : jXor x m < 0 ↔ x < 0 := by
  have e1 := i32 c.1.1 c.1.2
  have e2 := i32 (x := m) (by omega) c.2.2
  have h1 := neg_msb32 (Int32.ofInt x)
  have h2 := neg_msb32 (Int32.ofInt m)
  rw [e1] at h1
  rw [e2] at h2
  unfold jXor
  rw [neg_msb32, h1]
  have h3 : (Int32.ofInt m).toBitVec.msb = false := by
    cases hm : (Int32.ofInt m).toBitVec.msb with
    | false => rfl
    | true => exact absurd (h2.mpr hm) (by omega)
  rw [show (Int32.ofInt x ^^^ Int32.ofInt m).toBitVec = (Int32.ofInt x).toBitVec ^^^ (Int32.ofInt m).toBitVec from rfl, BitVec.msb_xor, h3, Bool.xor_false]
/-- floorMod, of what tmod leaves -/
theorem fm_val {x m : Int} (hm : 0 < m) : (0 ≤ x → x.tmod m = x % m) ∧ (x < 0 → (x.tmod m = 0 ∧ x % m = 0) ∨ (x.tmod m < 0 ∧ x.tmod m + m = x % m)) := by
  refine ⟨fun h => Int.tmod_eq_emod_of_nonneg h, fun h => ?_⟩
  have h1 := Int.emod_nonneg x (show m ≠ 0 by omega)
  have h2 := Int.emod_lt_of_pos x hm
  have e := Int.tmod_eq_emod (a := x) (b := m)
  by_cases hd : m ∣ x
  · have h3 : x % m = 0 := Int.emod_eq_zero_of_dvd hd
    rw [if_pos (Or.inr hd), h3] at e
    exact Or.inl ⟨by omega, h3⟩
  · rw [if_neg (by rintro (q | q); omega; exact hd q)] at e
    have : ((m.natAbs : Nat) : Int) = m := by omega
    rw [this] at e
    exact Or.inr ⟨by omega, by omega⟩
section SPEC
variable {H : HP} {Q : Option Value → HP → Prop}
theorem sp_fmL {x m : Int} (c : (-9223372036854775808 ≤ x ∧ x ≤ 9223372036854775807) ∧ 0 < m ∧ m ≤ 9223372036854775807) : Go 184 0 [some (vl x), none, some (vl m), none, none, none] [] H Q ↔ Q (some (vl (x % m))) H := by
  have h1 : _ ∧ _ := bx_r (Int64.ofInt x ^^^ Int64.ofInt m)
  have h1 : -9223372036854775808 ≤ bXor x m ∧ bXor x m ≤ 9223372036854775807 := h1
  have h2 := bXor_s (x := x) (m := m) (by omega)
  obtain ⟨h3, h4⟩ := fm_val (x := x) c.2.1
  have h5 := Int.emod_nonneg x (show m ≠ 0 by omega)
  have h6 := Int.emod_lt_of_pos x c.2.1
  by_cases hx : 0 ≤ x
  · simp (disch := omega) only [gJ9_floorMod_f86c9_0, gJ9_floorMod_f86c9_1, gJ9_floorMod_f86c9_2, gJ9_floorMod_f86c9_3, gJ9_floorMod_f86c9_5, gJ9_floorMod_f86c9_6, gJ9_floorMod_f86c9_7, gJ9_floorMod_f86c9_8, gJ9_floorMod_f86c9_9T, gJ9_floorMod_f86c9_9F, gJ9_floorMod_f86c9_10T, gJ9_floorMod_f86c9_10F, gJ9_floorMod_f86c9_13, gJ9_floorMod_f86c9_15, gJ9_floorMod_f86c9_16T, gJ9_floorMod_f86c9_16F, gJ9_floorMod_f86c9_17T, gJ9_floorMod_f86c9_17F, gJ9_floorMod_f86c9_20, gJ9_floorMod_f86c9_22, gJ9_floorMod_f86c9_23, gJ9_floorMod_f86c9_24, gJ9_floorMod_f86c9_25, gJ9_floorMod_f86c9_27, Rd_some, Wr_some, Cont_some, Cont_none, iso_O, true_and, hg_s, hg_n, hput_hput]
    rw [h3 hx]
  · rcases h4 (by omega) with ⟨e1, e2⟩ | ⟨e1, e2⟩
    · simp (disch := omega) only [gJ9_floorMod_f86c9_0, gJ9_floorMod_f86c9_1, gJ9_floorMod_f86c9_2, gJ9_floorMod_f86c9_3, gJ9_floorMod_f86c9_5, gJ9_floorMod_f86c9_6, gJ9_floorMod_f86c9_7, gJ9_floorMod_f86c9_8, gJ9_floorMod_f86c9_9T, gJ9_floorMod_f86c9_9F, gJ9_floorMod_f86c9_10T, gJ9_floorMod_f86c9_10F, gJ9_floorMod_f86c9_13, gJ9_floorMod_f86c9_15, gJ9_floorMod_f86c9_16T, gJ9_floorMod_f86c9_16F, gJ9_floorMod_f86c9_17T, gJ9_floorMod_f86c9_17F, gJ9_floorMod_f86c9_20, gJ9_floorMod_f86c9_22, gJ9_floorMod_f86c9_23, gJ9_floorMod_f86c9_24, gJ9_floorMod_f86c9_25, gJ9_floorMod_f86c9_27, Rd_some, Wr_some, Cont_some, Cont_none, iso_O, true_and, hg_s, hg_n, hput_hput]
      rw [e1, e2]
    · simp (disch := omega) only [gJ9_floorMod_f86c9_0, gJ9_floorMod_f86c9_1, gJ9_floorMod_f86c9_2, gJ9_floorMod_f86c9_3, gJ9_floorMod_f86c9_5, gJ9_floorMod_f86c9_6, gJ9_floorMod_f86c9_7, gJ9_floorMod_f86c9_8, gJ9_floorMod_f86c9_9T, gJ9_floorMod_f86c9_9F, gJ9_floorMod_f86c9_10T, gJ9_floorMod_f86c9_10F, gJ9_floorMod_f86c9_13, gJ9_floorMod_f86c9_15, gJ9_floorMod_f86c9_16T, gJ9_floorMod_f86c9_16F, gJ9_floorMod_f86c9_17T, gJ9_floorMod_f86c9_17F, gJ9_floorMod_f86c9_20, gJ9_floorMod_f86c9_22, gJ9_floorMod_f86c9_23, gJ9_floorMod_f86c9_24, gJ9_floorMod_f86c9_25, gJ9_floorMod_f86c9_27, Rd_some, Wr_some, Cont_some, Cont_none, iso_O, true_and, hg_s, hg_n, hput_hput]
      rw [e2]
theorem sp_fmI {x m : Int} (c : (-2147483648 ≤ x ∧ x ≤ 2147483647) ∧ 0 < m ∧ m ≤ 2147483647) : Go 183 0 [some (vi x), some (vi m), none] [] H Q ↔ Q (some (vi (x % m))) H := by
  have h1 : _ ∧ _ := jx_r (Int32.ofInt x ^^^ Int32.ofInt m)
  have h1 : -2147483648 ≤ jXor x m ∧ jXor x m ≤ 2147483647 := h1
  have h2 := jXor_s (x := x) (m := m) (by omega)
  obtain ⟨h3, h4⟩ := fm_val (x := x) c.2.1
  have h5 := Int.emod_nonneg x (show m ≠ 0 by omega)
  have h6 := Int.emod_lt_of_pos x c.2.1
  by_cases hx : 0 ≤ x
  · simp (disch := omega) only [gJ9_floorMod_7cf53_0, gJ9_floorMod_7cf53_1, gJ9_floorMod_7cf53_2, gJ9_floorMod_7cf53_3, gJ9_floorMod_7cf53_4, gJ9_floorMod_7cf53_5, gJ9_floorMod_7cf53_6, gJ9_floorMod_7cf53_7T, gJ9_floorMod_7cf53_7F, gJ9_floorMod_7cf53_10, gJ9_floorMod_7cf53_11T, gJ9_floorMod_7cf53_11F, gJ9_floorMod_7cf53_14, gJ9_floorMod_7cf53_15, gJ9_floorMod_7cf53_16, gJ9_floorMod_7cf53_17, gJ9_floorMod_7cf53_18, gJ9_floorMod_7cf53_19, Rd_some, Wr_some, Cont_some, Cont_none, iso_O, true_and, hg_s, hg_n, hput_hput]
    rw [h3 hx]
  · rcases h4 (by omega) with ⟨e1, e2⟩ | ⟨e1, e2⟩
    · simp (disch := omega) only [gJ9_floorMod_7cf53_0, gJ9_floorMod_7cf53_1, gJ9_floorMod_7cf53_2, gJ9_floorMod_7cf53_3, gJ9_floorMod_7cf53_4, gJ9_floorMod_7cf53_5, gJ9_floorMod_7cf53_6, gJ9_floorMod_7cf53_7T, gJ9_floorMod_7cf53_7F, gJ9_floorMod_7cf53_10, gJ9_floorMod_7cf53_11T, gJ9_floorMod_7cf53_11F, gJ9_floorMod_7cf53_14, gJ9_floorMod_7cf53_15, gJ9_floorMod_7cf53_16, gJ9_floorMod_7cf53_17, gJ9_floorMod_7cf53_18, gJ9_floorMod_7cf53_19, Rd_some, Wr_some, Cont_some, Cont_none, iso_O, true_and, hg_s, hg_n, hput_hput]
      rw [e1, e2]
    · simp (disch := omega) only [gJ9_floorMod_7cf53_0, gJ9_floorMod_7cf53_1, gJ9_floorMod_7cf53_2, gJ9_floorMod_7cf53_3, gJ9_floorMod_7cf53_4, gJ9_floorMod_7cf53_5, gJ9_floorMod_7cf53_6, gJ9_floorMod_7cf53_7T, gJ9_floorMod_7cf53_7F, gJ9_floorMod_7cf53_10, gJ9_floorMod_7cf53_11T, gJ9_floorMod_7cf53_11F, gJ9_floorMod_7cf53_14, gJ9_floorMod_7cf53_15, gJ9_floorMod_7cf53_16, gJ9_floorMod_7cf53_17, gJ9_floorMod_7cf53_18, gJ9_floorMod_7cf53_19, Rd_some, Wr_some, Cont_some, Cont_none, iso_O, true_and, hg_s, hg_n, hput_hput]
      rw [e2]
theorem sp_maxI {x y : Int} (c : -2147483648 ≤ x ∧ x ≤ 2147483647 ∧ -2147483648 ≤ y ∧ y ≤ 2147483647) : Go 187 0 [some (vi x), some (vi y)] [] H Q ↔ Q (some (vi (max x y))) H := by
  by_cases h : x < y
  · simp (disch := omega) only [gJ9_max_7cf53_0, gJ9_max_7cf53_1, gJ9_max_7cf53_2T, gJ9_max_7cf53_2F, gJ9_max_7cf53_5, gJ9_max_7cf53_6, gJ9_max_7cf53_9, gJ9_max_7cf53_10, Rd_some, Wr_some, Cont_some, Cont_none, iso_O, true_and, hg_s, hg_n, hput_hput]
    rw [Int.max_eq_right (by omega)]
  · simp (disch := omega) only [gJ9_max_7cf53_0, gJ9_max_7cf53_1, gJ9_max_7cf53_2T, gJ9_max_7cf53_2F, gJ9_max_7cf53_5, gJ9_max_7cf53_6, gJ9_max_7cf53_9, gJ9_max_7cf53_10, Rd_some, Wr_some, Cont_some, Cont_none, iso_O, true_and, hg_s, hg_n, hput_hput]
    rw [Int.max_eq_left (by omega)]
theorem sp_minI {x y : Int} (c : -2147483648 ≤ x ∧ x ≤ 2147483647 ∧ -2147483648 ≤ y ∧ y ≤ 2147483647) : Go 189 0 [some (vi x), some (vi y)] [] H Q ↔ Q (some (vi (min x y))) H := by
  by_cases h : y < x
  · simp (disch := omega) only [gJ9_min_7cf53_0, gJ9_min_7cf53_1, gJ9_min_7cf53_2T, gJ9_min_7cf53_2F, gJ9_min_7cf53_5, gJ9_min_7cf53_6, gJ9_min_7cf53_9, gJ9_min_7cf53_10, Rd_some, Wr_some, Cont_some, Cont_none, iso_O, true_and, hg_s, hg_n, hput_hput]
    rw [Int.min_eq_right (by omega)]
  · simp (disch := omega) only [gJ9_min_7cf53_0, gJ9_min_7cf53_1, gJ9_min_7cf53_2T, gJ9_min_7cf53_2F, gJ9_min_7cf53_5, gJ9_min_7cf53_6, gJ9_min_7cf53_9, gJ9_min_7cf53_10, Rd_some, Wr_some, Cont_some, Cont_none, iso_O, true_and, hg_s, hg_n, hput_hput]
    rw [Int.min_eq_left (by omega)]
theorem sp_maxL {x y : Int} (c : -9223372036854775808 ≤ x ∧ x ≤ 9223372036854775807 ∧ -9223372036854775808 ≤ y ∧ y ≤ 9223372036854775807) : Go 188 0 [some (vl x), none, some (vl y), none] [] H Q ↔ Q (some (vl (max x y))) H := by
  by_cases h : x < y
  · simp (disch := omega) only [gJ9_max_f86c9_0, gJ9_max_f86c9_1, gJ9_max_f86c9_2T, gJ9_max_f86c9_2F, gJ9_max_f86c9_3T, gJ9_max_f86c9_3F, gJ9_max_f86c9_6, gJ9_max_f86c9_7, gJ9_max_f86c9_10, gJ9_max_f86c9_11, Rd_some, Wr_some, Cont_some, Cont_none, iso_O, true_and, hg_s, hg_n, hput_hput]
    rw [Int.max_eq_right (by omega)]
  · simp (disch := omega) only [gJ9_max_f86c9_0, gJ9_max_f86c9_1, gJ9_max_f86c9_2T, gJ9_max_f86c9_2F, gJ9_max_f86c9_3T, gJ9_max_f86c9_3F, gJ9_max_f86c9_6, gJ9_max_f86c9_7, gJ9_max_f86c9_10, gJ9_max_f86c9_11, Rd_some, Wr_some, Cont_some, Cont_none, iso_O, true_and, hg_s, hg_n, hput_hput]
    rw [Int.max_eq_left (by omega)]
theorem sp_absL {x : Int} (c : -9223372036854775808 ≤ x ∧ x ≤ 9223372036854775807) : Go 186 0 [some (vl x), none] [] H Q ↔ Q (some (vl x.natAbs)) H := by
  by_cases h : 0 ≤ x
  · simp (disch := omega) only [gJ9_abs_067f4_0, gJ9_abs_067f4_1, gJ9_abs_067f4_2T, gJ9_abs_067f4_2F, gJ9_abs_067f4_3T, gJ9_abs_067f4_3F, gJ9_abs_067f4_6, gJ9_abs_067f4_7, gJ9_abs_067f4_8, gJ9_abs_067f4_11, gJ9_abs_067f4_12, Rd_some, Wr_some, Cont_some, Cont_none, iso_O, true_and, hg_s, hg_n, hput_hput]
    rw [show (x.natAbs : Int) = x by omega]
  · simp (disch := omega) only [gJ9_abs_067f4_0, gJ9_abs_067f4_1, gJ9_abs_067f4_2T, gJ9_abs_067f4_2F, gJ9_abs_067f4_3T, gJ9_abs_067f4_3F, gJ9_abs_067f4_6, gJ9_abs_067f4_7, gJ9_abs_067f4_8, gJ9_abs_067f4_11, gJ9_abs_067f4_12, Rd_some, Wr_some, Cont_some, Cont_none, iso_O, true_and, hg_s, hg_n, hput_hput]
    rw [show (x.natAbs : Int) = -x by omega]
theorem sp_absI {x : Int} (c : -2147483648 ≤ x ∧ x ≤ 2147483647) : Go 185 0 [some (vi x)] [] H Q ↔ Q (some (vi x.natAbs)) H := by
  by_cases h : 0 ≤ x
  · simp (disch := omega) only [gJ9_abs_0f7a4_0, gJ9_abs_0f7a4_1T, gJ9_abs_0f7a4_1F, gJ9_abs_0f7a4_4, gJ9_abs_0f7a4_5, gJ9_abs_0f7a4_6, gJ9_abs_0f7a4_9, gJ9_abs_0f7a4_10, Rd_some, Wr_some, Cont_some, Cont_none, iso_O, true_and, hg_s, hg_n, hput_hput]
    rw [show (x.natAbs : Int) = x by omega]
  · simp (disch := omega) only [gJ9_abs_0f7a4_0, gJ9_abs_0f7a4_1T, gJ9_abs_0f7a4_1F, gJ9_abs_0f7a4_4, gJ9_abs_0f7a4_5, gJ9_abs_0f7a4_6, gJ9_abs_0f7a4_9, gJ9_abs_0f7a4_10, Rd_some, Wr_some, Cont_some, Cont_none, iso_O, true_and, hg_s, hg_n, hput_hput]
    rw [show (x.natAbs : Int) = -x by omega]
end SPEC

/-! the law: its loop, and the claim of it (begun by program: wip/gen/law.py) -/
section LWF
variable {L : Int} {g : Int → Int} {Q : Option Value → HP → Prop}
theorem lw_loop (hQ : ∀ H', H'.1 ≤ 600000 → H'.2.1 ≤ 7302250 → Q (some (vi 1)) H') (hL : 0 ≤ L ∧ L ≤ 2560) (hr : ∀ j, -2147483648 ≤ g j ∧ g j ≤ 2147483647) : ∀ (f : Nat) (i : Int) (H : HP) (S : SS), L < i + 5 * f + 5 → 0 ≤ i → i ≤ L → LI L g i H S → Go 190 18 [some (.ref 0), some (.ref 1), some (.ref 41), some (vi i)] [] H Q := by
  intro f
  induction f with
  | zero =>
    intro i H S hf h0 hiL h
    rw [gL_law_18]
    simp (disch := omega) only [gL_law_19, gL_law_20, aN_L, aN_J, gL_law_21, gL_law_22, gL_law_23T, gL_law_23F, gL_law_1418, gL_law_1419, Rd_some, Wr_some, Cont_some, Cont_none, iso_O, true_and, hg_s, hg_n, hput_hput, h.2.2.1]
    have h1 := h.2.2.2
    exact hQ _ (by omega) (by omega)
  | succ f ih =>
    intro i H S hf h0 hiL h
    by_cases c : i + 5 ≤ L
    · have hh : ∀ H' S', LI L g (i + 5) H' S' → Go 190 18 [some (.ref 0), some (.ref 1), some (.ref 41), some (vi (i + 5))] [] H' Q := fun H' S' h' => ih (i + 5) H' S' (by omega) (by omega) c h'
      have hi : (0 ≤ i ∧ i + 5 ≤ L) ∧ L ≤ 2560 := ⟨⟨h0, c⟩, hL.2⟩
      rw [gL_law_18]
      simp (disch := omega) only [gL_law_19, gL_law_20, aN_L, aN_J, gL_law_21, gL_law_22, gL_law_23T, gL_law_23F, gL_law_26, gL_law_27, gL_law_28, aJ_g, gL_law_29, gL_law_31, Rd_some, Wr_some, Cont_some, Cont_none, iso_O, true_and, hg_s, hg_n, hput_hput, h.2.2.1]
      have hw := jA_r (g i) 63
      generalize jAnd (g i) 63 = w at hw ⊢
      by_cases w0 : w = 0
      · rw [gL_law_32_0 w0]; exact lw_0 h hi hr hh
      by_cases w1 : w = 1
      · rw [gL_law_32_1 w1]; exact lw_1 h hi hr hh
      by_cases w2 : w = 2
      · rw [gL_law_32_2 w2]; exact lw_2 h hi hr hh
      by_cases w3 : w = 3
      · rw [gL_law_32_3 w3]; exact lw_3 h hi hr hh
      by_cases w4 : w = 4
      · rw [gL_law_32_4 w4]; exact lw_4 h hi hr hh
      by_cases w5 : w = 5
      · rw [gL_law_32_5 w5]; exact lw_5 h hi hr hh
      by_cases w6 : w = 6
      · rw [gL_law_32_6 w6]; exact lw_6 h hi hr hh
      by_cases w7 : w = 7
      · rw [gL_law_32_7 w7]; exact lw_7 h hi hr hh
      by_cases w8 : w = 8
      · rw [gL_law_32_8 w8]; exact lw_8 h hi hr hh
      by_cases w9 : w = 9
      · rw [gL_law_32_9 w9]; exact lw_9 h hi hr hh
      by_cases w10 : w = 10
      · rw [gL_law_32_10 w10]; exact lw_10 h hi hr hh
      by_cases w11 : w = 11
      · rw [gL_law_32_11 w11]; exact lw_11 h hi hr hh
      by_cases w12 : w = 12
      · rw [gL_law_32_12 w12]; exact lw_12 h hi hr hh
      by_cases w13 : w = 13
      · rw [gL_law_32_13 w13]; exact lw_13 h hi hr hh
      by_cases w14 : w = 14
      · rw [gL_law_32_14 w14]; exact lw_14 h hi hr hh
      by_cases w15 : w = 15
      · rw [gL_law_32_15 w15]; exact lw_15 h hi hr hh
      by_cases w16 : w = 16
      · rw [gL_law_32_16 w16]; exact lw_16 h hi hr hh
      by_cases w17 : w = 17
      · rw [gL_law_32_17 w17]; exact lw_17 h hi hr hh
      by_cases w18 : w = 18
      · rw [gL_law_32_18 w18]; exact lw_18 h hi hr hh
      by_cases w19 : w = 19
      · rw [gL_law_32_19 w19]; exact lw_19 h hi hr hh
      by_cases w20 : w = 20
      · rw [gL_law_32_20 w20]; exact lw_20 h hi hr hh
      by_cases w21 : w = 21
      · rw [gL_law_32_21 w21]; exact lw_21 h hi hr hh
      by_cases w22 : w = 22
      · rw [gL_law_32_22 w22]; exact lw_22 h hi hr hh
      by_cases w23 : w = 23
      · rw [gL_law_32_23 w23]; exact lw_23 h hi hr hh
      by_cases w24 : w = 24
      · rw [gL_law_32_24 w24]; exact lw_24 h hi hr hh
      by_cases w25 : w = 25
      · rw [gL_law_32_25 w25]; exact lw_25 h hi hr hh
      by_cases w26 : w = 26
      · rw [gL_law_32_26 w26]; exact lw_26 h hi hr hh
      by_cases w27 : w = 27
      · rw [gL_law_32_27 w27]; exact lw_27 h hi hr hh
      by_cases w28 : w = 28
      · rw [gL_law_32_28 w28]; exact lw_28 h hi hr hh
      by_cases w29 : w = 29
      · rw [gL_law_32_29 w29]; exact lw_29 h hi hr hh
      by_cases w30 : w = 30
      · rw [gL_law_32_30 w30]; exact lw_30 h hi hr hh
      by_cases w31 : w = 31
      · rw [gL_law_32_31 w31]; exact lw_31 h hi hr hh
      by_cases w32 : w = 32
      · rw [gL_law_32_32 w32]; exact lw_32 h hi hr hh
      by_cases w33 : w = 33
      · rw [gL_law_32_33 w33]; exact lw_33 h hi hr hh
      by_cases w34 : w = 34
      · rw [gL_law_32_34 w34]; exact lw_34 h hi hr hh
      rw [gL_law_32O ⟨hw, by omega⟩]
      simp (disch := omega) only [gL_law_1412, gL_law_1415, Rd_some, Wr_some, Cont_some, Cont_none, iso_O, true_and, hg_s, hg_n, hput_hput]
      refine hh _ _ ⟨h.1, h.2.1, h.2.2.1, ?_, ?_⟩
      · have h1 := h.2.2.2; omega
      · have h1 := h.2.2.2; omega
    · rw [gL_law_18]
      simp (disch := omega) only [gL_law_19, gL_law_20, aN_L, aN_J, gL_law_21, gL_law_22, gL_law_23T, gL_law_23F, gL_law_1418, gL_law_1419, Rd_some, Wr_some, Cont_some, Cont_none, iso_O, true_and, hg_s, hg_n, hput_hput, h.2.2.1]
      have h1 := h.2.2.2
      exact hQ _ (by omega) (by omega)
end LWF
def H00 (L : Nat) (xs : Nat → Int32) : HP := (1, 0, fun q => if q = 0 then .inl (.int, L, .inl xs) else .inr (99, []))
theorem law_go {Q : Option Value → HP → Prop} (hQ : ∀ H', H'.1 ≤ 600000 → H'.2.1 ≤ 7302250 → Q (some (vi 1)) H') (L : Nat) (xs : Nat → Int32) (hL : L ≤ 2560) : Go 190 0 [some (.ref 0), none, none, none] [] (H00 L xs) Q := by
  have h0 : hget (H00 L xs) 0 = cJ (L : Int) (fun j => (xs j.toNat).toInt) := by
    have e : ∀ f : Nat → Int32, f = xs → (.inl (.int, L, .inl xs) : AC) = .inl (.int, ((L : Int)).toNat, .inl f) := fun f hf => by rw [hf, Int.toNat_natCast]
    exact e _ (funext fun j => by
      show Int32.ofInt ((xs ((j : Int)).toNat).toInt) = xs j
      rw [Int32.ofInt_toInt, Int.toNat_natCast])
  have n0 : (H00 L xs).1 = 1 := rfl
  have s0 : (H00 L xs).2.1 = 0 := rfl
  generalize H00 L xs = H at h0 n0 s0 ⊢
  simp (disch := omega) only [gL_law_0, gL_law_3, gL_law_4, Rd_some, Wr_some, Cont_some, Cont_none, iso_O, true_and, hg_s, hg_n, hput_hput, n0]
  refine x_init n0 (fun H1 n1 s1 k1 c1 => ?_)
  rw [Cont_none]
  simp (disch := omega) only [gL_law_7, gL_law_7N, gL_law_8, gL_law_11, gL_law_12, Rd_some, Wr_some, Cont_some, Cont_none, iso_O, true_and, hg_s, hg_n, hput_hput, n1]
  refine m_init n1 (fun H2 n2 s2 k2 c2 => ?_)
  rw [Cont_none]
  simp (disch := omega) only [gL_law_15, gL_law_15N, gL_law_16, gL_law_17, Rd_some, Wr_some, Cont_some, Cont_none, iso_O, true_and, hg_s, hg_n, hput_hput]
  refine lw_loop (L := (L : Int)) (g := fun j => (xs j.toNat).toInt) hQ ⟨by omega, by omega⟩ (fun j => jx_r _) 512 0 H2 S0 (by omega) (by omega) (by omega) ⟨CI0 n2 (fun a a1 a2 => by rw [k2 a a2]; exact c1 a a1 a2), MJ0 c2, by rw [k2 0 (by omega), k1]; exact h0, by omega, by omega⟩
theorem law_runs (L : Nat) (xs : Nat → Int32) (hL : L ≤ 2560) : ∃ (fu : Nat) (H' : HP), ex fu 190 (0, entL 4 [.ref 0], []) (H00 L xs) = some (some (.int 1), H') ∧ H'.1 ≤ 600000 ∧ H'.2.1 ≤ 7302250 := by
  obtain ⟨n, v, H', h1, h2, h3, h4⟩ := law_go (Q := fun v H' => v = some (vi 1) ∧ H'.1 ≤ 600000 ∧ H'.2.1 ≤ 7302250) (fun H' a b => ⟨rfl, a, b⟩) L xs hL
  subst h2
  exact ⟨n, H', h1, h3, h4⟩

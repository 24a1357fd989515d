/-! x: rows -/
section HELP
variable {H : HP} {Q : Option Value → HP → Prop} {p : Int}
theorem sp_plT (c : 0 ≤ p ∧ p < 12) : Go 108 0 [some (vi p)] [] H Q ↔ Q (some (vi 1)) H := by simp (disch := omega) only [gX8_isPlace_0, gX8_isPlace_1T, gX8_isPlace_1F, gX8_isPlace_4, gX8_isPlace_5, gX8_isPlace_7T, gX8_isPlace_7F, gX8_isPlace_10, gX8_isPlace_11, gX8_isPlace_14, gX8_isPlace_15, Rd_some, Wr_some, Cont_some, Cont_none, iso_O, true_and, hg_s, hg_n, hput_hput]
theorem sp_plF (c : (-2147483648 ≤ p ∧ p ≤ 2147483647) ∧ ¬ (0 ≤ p ∧ p < 12)) : Go 108 0 [some (vi p)] [] H Q ↔ Q (some (vi 0)) H := by
  by_cases h : 0 ≤ p <;> simp (disch := omega) only [gX8_isPlace_0, gX8_isPlace_1T, gX8_isPlace_1F, gX8_isPlace_4, gX8_isPlace_5, gX8_isPlace_7T, gX8_isPlace_7F, gX8_isPlace_10, gX8_isPlace_11, gX8_isPlace_14, gX8_isPlace_15, Rd_some, Wr_some, Cont_some, Cont_none, iso_O, true_and, hg_s, hg_n, hput_hput]
theorem sp_prT (c : 0 ≤ p ∧ p ≤ 2) : Go 109 0 [some (vi p)] [] H Q ↔ Q (some (vi 1)) H := by simp (disch := omega) only [gX8_isPrime_0, gX8_isPrime_1T, gX8_isPrime_1F, gX8_isPrime_4, gX8_isPrime_5, gX8_isPrime_6T, gX8_isPrime_6F, gX8_isPrime_9, gX8_isPrime_10, gX8_isPrime_13, gX8_isPrime_14, Rd_some, Wr_some, Cont_some, Cont_none, iso_O, true_and, hg_s, hg_n, hput_hput]
theorem sp_prF (c : (-2147483648 ≤ p ∧ p ≤ 2147483647) ∧ ¬ (0 ≤ p ∧ p ≤ 2)) : Go 109 0 [some (vi p)] [] H Q ↔ Q (some (vi 0)) H := by
  by_cases h : 0 ≤ p <;> simp (disch := omega) only [gX8_isPrime_0, gX8_isPrime_1T, gX8_isPrime_1F, gX8_isPrime_4, gX8_isPrime_5, gX8_isPrime_6T, gX8_isPrime_6F, gX8_isPrime_9, gX8_isPrime_10, gX8_isPrime_13, gX8_isPrime_14, Rd_some, Wr_some, Cont_some, Cont_none, iso_O, true_and, hg_s, hg_n, hput_hput]
theorem sp_lnT (c : 0 ≤ p ∧ p ≤ 4) : Go 110 0 [some (vi p)] [] H Q ↔ Q (some (vi 1)) H := by simp (disch := omega) only [gX8_isLane_0, gX8_isLane_1T, gX8_isLane_1F, gX8_isLane_4, gX8_isLane_5, gX8_isLane_6T, gX8_isLane_6F, gX8_isLane_9, gX8_isLane_10, gX8_isLane_13, gX8_isLane_14, Rd_some, Wr_some, Cont_some, Cont_none, iso_O, true_and, hg_s, hg_n, hput_hput]
theorem sp_lnF (c : (-2147483648 ≤ p ∧ p ≤ 2147483647) ∧ ¬ (0 ≤ p ∧ p ≤ 4)) : Go 110 0 [some (vi p)] [] H Q ↔ Q (some (vi 0)) H := by
  by_cases h : 0 ≤ p <;> simp (disch := omega) only [gX8_isLane_0, gX8_isLane_1T, gX8_isLane_1F, gX8_isLane_4, gX8_isLane_5, gX8_isLane_6T, gX8_isLane_6F, gX8_isLane_9, gX8_isLane_10, gX8_isLane_13, gX8_isLane_14, Rd_some, Wr_some, Cont_some, Cont_none, iso_O, true_and, hg_s, hg_n, hput_hput]
theorem sp_wyT (c : 0 ≤ p ∧ p ≤ 2) : Go 111 0 [some (vi p)] [] H Q ↔ Q (some (vi 1)) H := by simp (disch := omega) only [gX8_isWay_0, gX8_isWay_1T, gX8_isWay_1F, gX8_isWay_4, gX8_isWay_5, gX8_isWay_6T, gX8_isWay_6F, gX8_isWay_9, gX8_isWay_10, gX8_isWay_13, gX8_isWay_14, Rd_some, Wr_some, Cont_some, Cont_none, iso_O, true_and, hg_s, hg_n, hput_hput]
theorem sp_wyF (c : (-2147483648 ≤ p ∧ p ≤ 2147483647) ∧ ¬ (0 ≤ p ∧ p ≤ 2)) : Go 111 0 [some (vi p)] [] H Q ↔ Q (some (vi 0)) H := by
  by_cases h : 0 ≤ p <;> simp (disch := omega) only [gX8_isWay_0, gX8_isWay_1T, gX8_isWay_1F, gX8_isWay_4, gX8_isWay_5, gX8_isWay_6T, gX8_isWay_6F, gX8_isWay_9, gX8_isWay_10, gX8_isWay_13, gX8_isWay_14, Rd_some, Wr_some, Cont_some, Cont_none, iso_O, true_and, hg_s, hg_n, hput_hput]
theorem sp_cnT (c : 1 ≤ p ∧ p ≤ 64) : Go 112 0 [some (vi p)] [] H Q ↔ Q (some (vi 1)) H := by simp (disch := omega) only [gX8_isCount_0, gX8_isCount_1, gX8_isCount_2T, gX8_isCount_2F, gX8_isCount_5, gX8_isCount_6, gX8_isCount_8T, gX8_isCount_8F, gX8_isCount_11, gX8_isCount_12, gX8_isCount_15, gX8_isCount_16, Rd_some, Wr_some, Cont_some, Cont_none, iso_O, true_and, hg_s, hg_n, hput_hput]
theorem sp_cnF (c : (-2147483648 ≤ p ∧ p ≤ 2147483647) ∧ ¬ (1 ≤ p ∧ p ≤ 64)) : Go 112 0 [some (vi p)] [] H Q ↔ Q (some (vi 0)) H := by
  by_cases h : 1 ≤ p <;> simp (disch := omega) only [gX8_isCount_0, gX8_isCount_1, gX8_isCount_2T, gX8_isCount_2F, gX8_isCount_5, gX8_isCount_6, gX8_isCount_8T, gX8_isCount_8F, gX8_isCount_11, gX8_isCount_12, gX8_isCount_15, gX8_isCount_16, Rd_some, Wr_some, Cont_some, Cont_none, iso_O, true_and, hg_s, hg_n, hput_hput]
end HELP
def fo (S : SS) (v : Int) : Value × SS := (vi (-10 - v), wFt S v)
def fol (S : SS) (v : Int) : Value × SS := (vl 0, wFt S v)
def o_row (S : SS) (p ln n : Int) (k : Nat) : Value × SS := if 0 ≤ p ∧ p < 12 then (if (0 ≤ ln ∧ ln ≤ 4) ∧ n ≠ 0 ∧ n ≤ 64 then (if 0 ≤ n then (vi 1, wPl (wRd (wFt S 0) k (ln, n, fun _ => 0)) p (some k)) else (vi (-14), wFt S 4)) else (vi (-2), wFt S 0)) else (vi (-1), wFt S 0)
def o_share (S : SS) (p q : Int) : Value × SS := if (0 ≤ p ∧ p < 12) ∧ 0 ≤ q ∧ q < 12 then (vi 1, wPl S p (S.1.1 q)) else (vi (-1), S)
def o_kind (S : SS) (p w : Int) : Value × SS := if 0 ≤ p ∧ p < 12 then (if w = 0 ∨ w = 1 then (match S.1.1 p with
  | none => (vi (-9), S)
  | some k => (vi (if w = 0 then (S.1.2 k).1 else (S.1.2 k).2.1), S)) else (vi (-2), S)) else (vi (-1), S)
def o_put (S : SS) (p i v : Int) : Value × SS := if 0 ≤ p ∧ p < 12 then (match S.1.1 p with
  | none => fo S 1
  | some k => if 0 ≤ i ∧ i < (S.1.2 k).2.1 then (vi 1, wRd (wFt S 0) k ((S.1.2 k).1, (S.1.2 k).2.1, up (S.1.2 k).2.2 i (nar (S.1.2 k).1 v))) else fo S 3) else (vi (-1), wFt S 0)
def o_at (S : SS) (p i : Int) : Value × SS := if 0 ≤ p ∧ p < 12 then (match S.1.1 p with
  | none => fol S 1
  | some k => if 0 ≤ i ∧ i < (S.1.2 k).2.1 then (vl ((S.1.2 k).2.2 i), wFt S 0) else fol S 3) else (vl 0, wFt S 0)
def o_as (S : SS) (p i ln : Int) : Value × SS := if (0 ≤ p ∧ p < 12) ∧ 0 ≤ ln ∧ ln ≤ 4 then (match S.1.1 p with
  | none => fol S 1
  | some k => if (S.1.2 k).1 = ln then (if 0 ≤ i ∧ i < (S.1.2 k).2.1 then (vl ((S.1.2 k).2.2 i), wFt S 0) else fol S 3) else fol S 2) else (vl 0, wFt S 0)
def o_rev (S : SS) (p : Int) : Value × SS := if 0 ≤ p ∧ p < 12 then (match S.1.1 p with
  | none => fo S 1
  | some k => (vi 1, wRd (wFt S 0) k ((S.1.2 k).1, (S.1.2 k).2.1, rev (S.1.2 k).2.2 0 (S.1.2 k).2.1))) else (vi (-1), wFt S 0)
def o_shift (S : SS) (p b : Int) : Value × SS := if 0 ≤ p ∧ p < 12 then (match S.1.1 p with
  | none => fo S 1
  | some k => (vi 1, wRd (wFt S 0) k ((S.1.2 k).1, (S.1.2 k).2.1, rot (S.1.2 k).2.2 (S.1.2 k).2.1 b))) else (vi (-1), wFt S 0)
theorem nar_r (ln v : Int) (hv : -9223372036854775808 ≤ v ∧ v ≤ 9223372036854775807) : (-9223372036854775808 ≤ nar ln v ∧ nar ln v ≤ 9223372036854775807) ∧ (0 ≤ ln → ln ≤ 2 → -2147483648 ≤ nar ln v ∧ nar ln v ≤ 2147483647) := by
  have h1 := jB_r v
  have h2 := jS_r v
  have h3 := jI_r v
  unfold nar
  split
  · omega
  · split
    · omega
    · split
      · omega
      · split
        · omega
        · split <;> omega
theorem rok_up {d : RD} (h : rok d) {i v : Int} (hv : -9223372036854775808 ≤ v ∧ v ≤ 9223372036854775807) : rok (d.1, d.2.1, up d.2.2 i (nar d.1 v)) := by
  have hn := nar_r d.1 v hv
  refine ⟨h.1, h.2.1, fun j j0 j1 => ?_, fun hl j j0 j1 => ?_⟩
  · show _ ≤ up d.2.2 i (nar d.1 v) j ∧ up d.2.2 i (nar d.1 v) j ≤ _
    unfold up
    split
    · exact hn.1
    · exact h.2.2.1 j j0 j1
  · show _ ≤ up d.2.2 i (nar d.1 v) j ∧ up d.2.2 i (nar d.1 v) j ≤ _
    unfold up
    split
    · exact hn.2 h.1.1 hl
    · exact h.2.2.2 hl j j0 j1
/-- entries that are the row's own, in another order -/
theorem rok_perm {d : RD} (h : rok d) {g : Int → Int} (hg : ∀ j, 0 ≤ j → j < d.2.1 → ∃ i, 0 ≤ i ∧ i < d.2.1 ∧ g j = d.2.2 i) : rok (d.1, d.2.1, g) := by
  refine ⟨h.1, h.2.1, fun j j0 j1 => ?_, fun hl j j0 j1 => ?_⟩
  · obtain ⟨i, i0, i1, e⟩ := hg j j0 j1
    show _ ≤ g j ∧ g j ≤ _
    rw [e]; exact h.2.2.1 i i0 i1
  · obtain ⟨i, i0, i1, e⟩ := hg j j0 j1
    show _ ≤ g j ∧ g j ≤ _
    rw [e]; exact h.2.2.2 hl i i0 i1
theorem rok_rev {d : RD} (h : rok d) : rok (d.1, d.2.1, rev d.2.2 0 d.2.1) := rok_perm h fun j j0 j1 => ⟨0 + d.2.1 - 1 - j, by omega, by omega, if_pos ⟨j0, j1⟩⟩
theorem rok_rot {d : RD} (h : rok d) (b : Int) : rok (d.1, d.2.1, rot d.2.2 d.2.1 b) := rok_perm h fun j j0 j1 => ⟨(j - b) % d.2.1, (em h.2.1.1 _).1, (em h.2.1.1 _).2, if_pos ⟨j0, j1⟩⟩
section OPS
variable {H : HP} {S : SS} {Q : Option Value → HP → Prop} {p q i ln n v w b : Int}
theorem cx_row (hc : CI H S) (c : (-2147483648 ≤ p ∧ p ≤ 2147483647) ∧ (-2147483648 ≤ ln ∧ ln ≤ 2147483647) ∧ (-2147483648 ≤ n ∧ n ≤ 2147483647)) (hq : ∀ H', CI H' (o_row S p ln n H.1).2 → FX H H' → Q (some (o_row S p ln n H.1).1) H') : Go 70 0 [some (.ref 1), some (vi p), some (vi ln), some (vi n)] [] H Q := by
  have hx := hc.x
  unfold o_row at hq
  by_cases h1 : 0 ≤ p ∧ p < 12
  · rw [if_pos h1] at hq
    by_cases h2 : (0 ≤ ln ∧ ln ≤ 4) ∧ n ≠ 0 ∧ n ≤ 64
    · rw [if_pos h2] at hq
      by_cases h3 : 0 ≤ n
      · rw [if_pos h3] at hq
        simp (disch := omega) only [gX8_row_0, gX8_row_1, gX8_row_2, pf_8_12, gX8_row_5, gX8_row_6, gX8_row_9T, gX8_row_9F, gX8_row_12, gX8_row_13, gX8_row_14, gX8_row_15, gX8_row_18T, gX8_row_18F, gX8_row_21, gX8_row_22T, gX8_row_22F, gX8_row_25, gX8_row_26, gX8_row_28T, gX8_row_28F, gX8_row_31, gX8_row_33, gX8_row_34, gX8_row_35T, gX8_row_35F, gX8_row_38, gX8_row_39, gX8_row_40, gX8_row_43, Rd_some, Wr_some, Cont_some, Cont_none, iso_O, true_and, hg_s, hg_n, hput_hput, hx, sp_plT, sp_lnT]
        have hc1 := hc.ft 0
        change Go _ _ _ _ (hput H 1 (cX (wFt S 0))) _
        have e1 : (hput H 1 (cX (wFt S 0))).1 = H.1 := rfl
        have e2 : (hput H 1 (cX (wFt S 0))).2.1 = H.2.1 := rfl
        have f1 : FX H (hput H 1 (cX (wFt S 0))) := FX.put (by decide)
        generalize hput H 1 (cX (wFt S 0)) = H1 at hc1 e1 e2 f1
        have h60 := hc1.2.2.2.1
        simp (disch := omega) only [gX8_row_44, gX8_row_45, fl_8_0, gX8_row_48, gX8_row_49, gX8_row_52, gX8_row_53, gX8_row_54, Rd_some, Wr_some, Cont_some, Cont_none, iso_O, true_and, hg_s, hg_n, hput_hput, hc1.x]
        rw [gX8_row_55, sp_rowInit (H := hnew H1 (cO 5 [.int 0, .null]) 2) hn_s (by omega) (by show H1.1 < H1.1 + 1; omega) (by omega)]
        have hp2 : hget (hput (hnew (hnew H1 (cO 5 [.int 0, .null]) 2) (cL n fun _ => 0) n.toNat) H1.1 (cO 5 [vi ln, .ref (hnew H1 (cO 5 [.int 0, .null]) 2).1])) 2 = cR (.object (vCn 5)) 12 (wFt S 0).1.1 := by
          rw [hg_n (by omega), hn_n (by show 2 ≠ H1.1 + 1; omega), hn_n (by omega)]
          exact hc1.pl
        simp (disch := first | omega | decide) only [gX8_row_58, sR_p, gX8_row_59, gX8_row_60, Rd_some, Wr_some, Cont_some, Cont_none, iso_O, true_and, hg_s, hg_n, hput_hput, hp2, sR_p]
        refine hq _ ?_ ?_
        · rw [← e1]
          refine hc1.new (d := (ln, n, fun _ => 0)) h1 rfl (fun a ha ha2 => ?_) ?_ ?_ ?_ ⟨h2.1, ⟨by show 0 < n; omega, by show n ≤ 64; omega⟩, fun j _ _ => by dsimp only; omega, fun _ j _ _ => by dsimp only; omega⟩
          · rw [hg_n ha2, hg_n (by omega), hn_n (by show a ≠ H1.1 + 1; omega), hn_n (by omega)]
          · rw [hg_s]
          · rw [hg_n (by omega), hg_s]; rfl
          · rw [hg_n (by omega), hg_n (by omega)]; exact hn_s
        · refine ⟨⟨?_, ?_, ?_⟩, fun a ha => ?_⟩
          · show H.1 ≤ H1.1 + 1 + 1; omega
          · show H1.1 + 1 + 1 ≤ H.1 + 2; omega
          · show H1.2.1 + 2 + n.toNat ≤ H.2.1 + 66; omega
          · rw [hg_n (by omega), hg_n (by omega), hn_n (by show a ≠ H1.1 + 1; omega), hn_n (by omega)]
            exact f1.2 a ha
      · rw [if_neg h3] at hq
        simp (disch := omega) only [gX8_row_0, gX8_row_1, gX8_row_2, pf_8_12, gX8_row_5, gX8_row_6, gX8_row_9T, gX8_row_9F, gX8_row_12, gX8_row_13, gX8_row_14, gX8_row_15, gX8_row_18T, gX8_row_18F, gX8_row_21, gX8_row_22T, gX8_row_22F, gX8_row_25, gX8_row_26, gX8_row_28T, gX8_row_28F, gX8_row_31, gX8_row_33, gX8_row_34, gX8_row_35T, gX8_row_35F, gX8_row_38, gX8_row_39, gX8_row_40, gX8_row_43, gX8_row_44, gX8_row_45, fl_8_0, gX8_row_48, gX8_row_49, gX8_row_52, gX8_row_53, gX8_row_54, gX8_row_55, gX8_row_58, sR_p, gX8_row_59, gX8_row_60, Rd_some, Wr_some, Cont_some, Cont_none, iso_O, true_and, hg_s, hg_n, hput_hput, gX8_faulted_0, gX8_faulted_1, gX8_faulted_2, pf_8_12, gX8_faulted_5, gX8_faulted_7, gX8_faulted_8, gX8_faulted_9, Rd_some, Wr_some, Cont_some, Cont_none, iso_O, true_and, hg_s, hg_n, hput_hput, hx, sp_plT, sp_lnT]
        exact hq _ (hc.ft 4) (FX.put (by decide))
    · rw [if_neg h2] at hq
      by_cases h4 : 0 ≤ ln ∧ ln ≤ 4
      · by_cases h5 : n = 0 <;> simp (disch := omega) only [gX8_row_0, gX8_row_1, gX8_row_2, pf_8_12, gX8_row_5, gX8_row_6, gX8_row_9T, gX8_row_9F, gX8_row_12, gX8_row_13, gX8_row_14, gX8_row_15, gX8_row_18T, gX8_row_18F, gX8_row_21, gX8_row_22T, gX8_row_22F, gX8_row_25, gX8_row_26, gX8_row_28T, gX8_row_28F, gX8_row_31, gX8_row_33, gX8_row_34, gX8_row_35T, gX8_row_35F, gX8_row_38, gX8_row_39, gX8_row_40, gX8_row_43, gX8_row_44, gX8_row_45, fl_8_0, gX8_row_48, gX8_row_49, gX8_row_52, gX8_row_53, gX8_row_54, gX8_row_55, gX8_row_58, sR_p, gX8_row_59, gX8_row_60, Rd_some, Wr_some, Cont_some, Cont_none, iso_O, true_and, hg_s, hg_n, hput_hput, hx, sp_plT, sp_lnT] <;> exact hq _ (hc.ft 0) (FX.put (by decide))
      · simp (disch := omega) only [gX8_row_0, gX8_row_1, gX8_row_2, pf_8_12, gX8_row_5, gX8_row_6, gX8_row_9T, gX8_row_9F, gX8_row_12, gX8_row_13, gX8_row_14, gX8_row_15, gX8_row_18T, gX8_row_18F, gX8_row_21, gX8_row_22T, gX8_row_22F, gX8_row_25, gX8_row_26, gX8_row_28T, gX8_row_28F, gX8_row_31, gX8_row_33, gX8_row_34, gX8_row_35T, gX8_row_35F, gX8_row_38, gX8_row_39, gX8_row_40, gX8_row_43, gX8_row_44, gX8_row_45, fl_8_0, gX8_row_48, gX8_row_49, gX8_row_52, gX8_row_53, gX8_row_54, gX8_row_55, gX8_row_58, sR_p, gX8_row_59, gX8_row_60, Rd_some, Wr_some, Cont_some, Cont_none, iso_O, true_and, hg_s, hg_n, hput_hput, hx, sp_plT, sp_lnF]
        exact hq _ (hc.ft 0) (FX.put (by decide))
  · rw [if_neg h1] at hq
    simp (disch := omega) only [gX8_row_0, gX8_row_1, gX8_row_2, pf_8_12, gX8_row_5, gX8_row_6, gX8_row_9T, gX8_row_9F, gX8_row_12, gX8_row_13, gX8_row_14, gX8_row_15, gX8_row_18T, gX8_row_18F, gX8_row_21, gX8_row_22T, gX8_row_22F, gX8_row_25, gX8_row_26, gX8_row_28T, gX8_row_28F, gX8_row_31, gX8_row_33, gX8_row_34, gX8_row_35T, gX8_row_35F, gX8_row_38, gX8_row_39, gX8_row_40, gX8_row_43, gX8_row_44, gX8_row_45, fl_8_0, gX8_row_48, gX8_row_49, gX8_row_52, gX8_row_53, gX8_row_54, gX8_row_55, gX8_row_58, sR_p, gX8_row_59, gX8_row_60, Rd_some, Wr_some, Cont_some, Cont_none, iso_O, true_and, hg_s, hg_n, hput_hput, hx, sp_plF]
    exact hq _ (hc.ft 0) (FX.put (by decide))
theorem CI.pla (hc : CI H S) {o : Option Nat} (hp : 0 ≤ p ∧ p < 12) (hk : ∀ k, o = some k → live S k) : CI (hput H 2 (cR (.object (vCn 5)) 12 (up S.1.1 p o))) (wPl S p o) := by
  refine ⟨fun a ha => ?_, fun l hl => ?_, hc.2.2.1, hc.2.2.2.1, hc.2.2.2.2⟩
  · by_cases ea : a = 2
    · subst ea; rw [hg_s]; rfl
    · rw [hg_n ea]; exact (Sh_pl ea).mpr (hc.1 a ha)
  · have hl2 : live S l := by
      obtain ⟨r, r0, r1, r2⟩ := hl
      have r2 : up S.1.1 p o r = some l := r2
      by_cases er : r = p
      · rw [show up S.1.1 p o r = o from if_pos er] at r2; exact hk l r2
      · rw [show up S.1.1 p o r = S.1.1 r from if_neg er] at r2; exact ⟨r, r0, r1, r2⟩
    obtain ⟨o1, o2, o3, o4⟩ := hc.2.1 l hl2
    exact ⟨o1, by rw [hg_n (by omega)]; exact o2, by rw [hg_n (by omega)]; exact o3, o4⟩
theorem cx_share (hc : CI H S) (c : (-2147483648 ≤ p ∧ p ≤ 2147483647) ∧ (-2147483648 ≤ q ∧ q ≤ 2147483647)) (hq : ∀ H', CI H' (o_share S p q).2 → FX H H' → Q (some (o_share S p q).1) H') : Go 71 0 [some (.ref 1), some (vi p), some (vi q)] [] H Q := by
  have hx := hc.x
  have h2 := hc.pl
  unfold o_share at hq
  by_cases h1 : 0 ≤ p ∧ p < 12
  · by_cases h3 : 0 ≤ q ∧ q < 12
    · rw [if_pos ⟨h1, h3⟩] at hq
      cases ho : S.1.1 q with
      | none =>
        rw [ho] at hq
        simp (disch := omega) only [gX8_share_0, gX8_share_1, gX8_share_4T, gX8_share_4F, gX8_share_7, gX8_share_8, gX8_share_11T, gX8_share_11F, gX8_share_14, gX8_share_15, gX8_share_16, gX8_share_17, fl_8_0, gX8_share_20, gX8_share_21, gX8_share_22, gX8_share_25, gX8_share_26, aR_g, gX8_share_28, gX8_share_29, Rd_some, Wr_some, Cont_some, Cont_none, iso_O, true_and, hg_s, hg_n, hput_hput, hx, h2, sp_plT, aR_g, ho, va_rf_n, gX8_share_27N, sN_p]
        exact hq _ (hc.pla h1 (fun k e => by cases e)) (FX.put (by decide))
      | some k =>
        rw [ho] at hq
        have hr := hc.rw' h3 ho
        simp (disch := first | omega | decide) only [gX8_share_0, gX8_share_1, gX8_share_4T, gX8_share_4F, gX8_share_7, gX8_share_8, gX8_share_11T, gX8_share_11F, gX8_share_14, gX8_share_15, gX8_share_16, gX8_share_17, fl_8_0, gX8_share_20, gX8_share_21, gX8_share_22, gX8_share_25, gX8_share_26, aR_g, gX8_share_27, sR_p, gX8_share_28, gX8_share_29, Rd_some, Wr_some, Cont_some, Cont_none, iso_O, true_and, hg_s, hg_n, hput_hput, hx, h2, sp_plT, aR_g, ho, va_rf_s, hr.2.1, sR_p]
        exact hq _ (hc.pla h1 (fun l e => by cases e; exact ⟨q, h3.1, h3.2, ho⟩)) (FX.put (by decide))
    · rw [if_neg (fun t => h3 t.2)] at hq
      simp (disch := omega) only [gX8_share_0, gX8_share_1, gX8_share_4T, gX8_share_4F, gX8_share_7, gX8_share_8, gX8_share_11T, gX8_share_11F, gX8_share_14, gX8_share_15, gX8_share_16, gX8_share_17, fl_8_0, gX8_share_20, gX8_share_21, gX8_share_22, gX8_share_25, gX8_share_26, aR_g, gX8_share_27, sR_p, gX8_share_28, gX8_share_29, Rd_some, Wr_some, Cont_some, Cont_none, iso_O, true_and, hg_s, hg_n, hput_hput, hx, sp_plT, sp_plF]
      exact hq _ hc FX.rf
  · rw [if_neg (fun t => h1 t.1)] at hq
    simp (disch := omega) only [gX8_share_0, gX8_share_1, gX8_share_4T, gX8_share_4F, gX8_share_7, gX8_share_8, gX8_share_11T, gX8_share_11F, gX8_share_14, gX8_share_15, gX8_share_16, gX8_share_17, fl_8_0, gX8_share_20, gX8_share_21, gX8_share_22, gX8_share_25, gX8_share_26, aR_g, gX8_share_27, sR_p, gX8_share_28, gX8_share_29, Rd_some, Wr_some, Cont_some, Cont_none, iso_O, true_and, hg_s, hg_n, hput_hput, hx, sp_plF]
    exact hq _ hc FX.rf
theorem cx_kind (hc : CI H S) (c : (-2147483648 ≤ p ∧ p ≤ 2147483647) ∧ (-2147483648 ≤ w ∧ w ≤ 2147483647)) (hq : ∀ H', CI H' (o_kind S p w).2 → FX H H' → Q (some (o_kind S p w).1) H') : Go 72 0 [some (.ref 1), some (vi p), some (vi w), none] [] H Q := by
  have hx := hc.x
  have h2 := hc.pl
  unfold o_kind at hq
  by_cases h1 : 0 ≤ p ∧ p < 12
  · rw [if_pos h1] at hq
    by_cases h3 : w = 0 ∨ w = 1
    · rw [if_pos h3] at hq
      cases ho : S.1.1 p with
      | none =>
        rw [ho] at hq
        dsimp only at hq
        rcases h3 with rfl | rfl <;> simp (disch := omega) only [gX8_kind_0, gX8_kind_1, gX8_kind_4T, gX8_kind_4F, gX8_kind_7, gX8_kind_8, gX8_kind_9, gX8_kind_10T, gX8_kind_10F, gX8_kind_13, gX8_kind_14, gX8_kind_15T, gX8_kind_15F, gX8_kind_18, gX8_kind_20, gX8_kind_21, gX8_kind_22, fl_8_0, gX8_kind_25, gX8_kind_26, aR_g, gX8_kind_27, gX8_kind_27N, gX8_kind_28, gX8_kind_28N, gX8_kind_29T, gX8_kind_29F, gX8_kind_32, gX8_kind_34, gX8_kind_35, gX8_kind_36T, gX8_kind_36F, gX8_kind_39, gX8_kind_39N, gX8_kind_40, fl_5_0, gX8_kind_43, gX8_kind_46, gX8_kind_46N, gX8_kind_47, gX8_kind_50, Rd_some, Wr_some, Cont_some, Cont_none, iso_O, true_and, hg_s, hg_n, hput_hput, hx, h2, sp_plT, aR_g, ho, va_rf_n] <;> exact hq _ hc FX.rf
      | some k =>
        rw [ho] at hq
        dsimp only at hq
        have hr := hc.rw' h1 ho
        have hw := hr.RW
        rcases h3 with rfl | rfl
        · simp (disch := omega) only [gX8_kind_0, gX8_kind_1, gX8_kind_4T, gX8_kind_4F, gX8_kind_7, gX8_kind_8, gX8_kind_9, gX8_kind_10T, gX8_kind_10F, gX8_kind_13, gX8_kind_14, gX8_kind_15T, gX8_kind_15F, gX8_kind_18, gX8_kind_20, gX8_kind_21, gX8_kind_22, fl_8_0, gX8_kind_25, gX8_kind_26, aR_g, gX8_kind_27, gX8_kind_27N, gX8_kind_28, gX8_kind_28N, gX8_kind_29T, gX8_kind_29F, gX8_kind_32, gX8_kind_34, gX8_kind_35, gX8_kind_36T, gX8_kind_36F, gX8_kind_39, gX8_kind_39N, gX8_kind_40, fl_5_0, gX8_kind_43, gX8_kind_46, gX8_kind_46N, gX8_kind_47, gX8_kind_50, Rd_some, Wr_some, Cont_some, Cont_none, iso_O, true_and, hg_s, hg_n, hput_hput, hx, h2, sp_plT, aR_g, ho, va_rf_s, hr.2.1]
          exact hq _ hc FX.rf
        · simp (disch := omega) only [gX8_kind_0, gX8_kind_1, gX8_kind_4T, gX8_kind_4F, gX8_kind_7, gX8_kind_8, gX8_kind_9, gX8_kind_10T, gX8_kind_10F, gX8_kind_13, gX8_kind_14, gX8_kind_15T, gX8_kind_15F, gX8_kind_18, gX8_kind_20, gX8_kind_21, gX8_kind_22, fl_8_0, gX8_kind_25, gX8_kind_26, aR_g, gX8_kind_27, gX8_kind_27N, gX8_kind_28, gX8_kind_28N, gX8_kind_29T, gX8_kind_29F, gX8_kind_32, gX8_kind_34, gX8_kind_35, gX8_kind_36T, gX8_kind_36F, gX8_kind_39, gX8_kind_39N, gX8_kind_40, fl_5_0, gX8_kind_43, gX8_kind_46, gX8_kind_46N, gX8_kind_47, gX8_kind_50, Rd_some, Wr_some, Cont_some, Cont_none, iso_O, true_and, hg_s, hg_n, hput_hput, hx, h2, sp_plT, aR_g, ho, va_rf_s, hr.2.1, sp_size hr.2.1 hr.2.2.1 hw.sz]
          exact hq _ hc FX.rf
    · rw [if_neg h3] at hq
      simp (disch := omega) only [gX8_kind_0, gX8_kind_1, gX8_kind_4T, gX8_kind_4F, gX8_kind_7, gX8_kind_8, gX8_kind_9, gX8_kind_10T, gX8_kind_10F, gX8_kind_13, gX8_kind_14, gX8_kind_15T, gX8_kind_15F, gX8_kind_18, gX8_kind_20, gX8_kind_21, gX8_kind_22, fl_8_0, gX8_kind_25, gX8_kind_26, aR_g, gX8_kind_27, gX8_kind_27N, gX8_kind_28, gX8_kind_28N, gX8_kind_29T, gX8_kind_29F, gX8_kind_32, gX8_kind_34, gX8_kind_35, gX8_kind_36T, gX8_kind_36F, gX8_kind_39, gX8_kind_39N, gX8_kind_40, fl_5_0, gX8_kind_43, gX8_kind_46, gX8_kind_46N, gX8_kind_47, gX8_kind_50, Rd_some, Wr_some, Cont_some, Cont_none, iso_O, true_and, hg_s, hg_n, hput_hput, hx, sp_plT]
      exact hq _ hc FX.rf
  · rw [if_neg h1] at hq
    simp (disch := omega) only [gX8_kind_0, gX8_kind_1, gX8_kind_4T, gX8_kind_4F, gX8_kind_7, gX8_kind_8, gX8_kind_9, gX8_kind_10T, gX8_kind_10F, gX8_kind_13, gX8_kind_14, gX8_kind_15T, gX8_kind_15F, gX8_kind_18, gX8_kind_20, gX8_kind_21, gX8_kind_22, fl_8_0, gX8_kind_25, gX8_kind_26, aR_g, gX8_kind_27, gX8_kind_27N, gX8_kind_28, gX8_kind_28N, gX8_kind_29T, gX8_kind_29F, gX8_kind_32, gX8_kind_34, gX8_kind_35, gX8_kind_36T, gX8_kind_36F, gX8_kind_39, gX8_kind_39N, gX8_kind_40, fl_5_0, gX8_kind_43, gX8_kind_46, gX8_kind_46N, gX8_kind_47, gX8_kind_50, Rd_some, Wr_some, Cont_some, Cont_none, iso_O, true_and, hg_s, hg_n, hput_hput, hx, sp_plF]
    exact hq _ hc FX.rf
theorem cx_put (hc : CI H S) (c : (-2147483648 ≤ p ∧ p ≤ 2147483647) ∧ (-2147483648 ≤ i ∧ i ≤ 2147483647) ∧ (-9223372036854775808 ≤ v ∧ v ≤ 9223372036854775807)) (hq : ∀ H', CI H' (o_put S p i v).2 → FX H H' → Q (some (o_put S p i v).1) H') : Go 73 0 [some (.ref 1), some (vi p), some (vi i), some (vl v), none, none] [] H Q := by
  have hx := hc.x
  unfold o_put at hq
  by_cases h1 : 0 ≤ p ∧ p < 12
  · rw [if_pos h1] at hq
    have hc1 := hc.ft 0
    have h2 := hc.pl
    cases ho : S.1.1 p with
    | none =>
      rw [ho] at hq
      dsimp only at hq
      simp (disch := omega) only [gX8_put_0, gX8_put_1, gX8_put_2, pf_8_12, gX8_put_5, gX8_put_6, gX8_put_9T, gX8_put_9F, gX8_put_12, gX8_put_13, gX8_put_14, gX8_put_15, fl_8_0, gX8_put_18, gX8_put_19, aR_g, gX8_put_20, gX8_put_20N, gX8_put_22, gX8_put_22N, gX8_put_24T, gX8_put_24F, gX8_put_27, gX8_put_28, gX8_put_29, gX8_put_32, gX8_put_33, gX8_put_33N, gX8_put_35, gX8_put_36, gX8_put_39T, gX8_put_39F, gX8_put_42, gX8_put_43, gX8_put_44, gX8_put_47, gX8_put_48, gX8_put_48N, gX8_put_50, fl_5_1, gX8_put_53, gX8_put_54, gX8_put_54N, gX8_put_56, gX8_put_57, gX8_put_60, sL_p, gX8_put_61, gX8_put_62, Rd_some, Wr_some, Cont_some, Cont_none, iso_O, true_and, hg_s, hg_n, hput_hput, gX8_faulted_0, gX8_faulted_1, gX8_faulted_2, pf_8_12, gX8_faulted_5, gX8_faulted_7, gX8_faulted_8, gX8_faulted_9, Rd_some, Wr_some, Cont_some, Cont_none, iso_O, true_and, hg_s, hg_n, hput_hput, hx, h2, sp_plT, aR_g, ho, va_rf_n]
      exact hq _ (hc.ft 1) (FX.put (by decide))
    | some k =>
      rw [ho] at hq
      dsimp only at hq
      have hr := hc.rw' h1 ho
      have hr1 : Rw (hput H 1 (cX (wFt S 0))) k (S.1.2 k) := hc1.rw' (S := wFt S 0) h1 ho
      have hw := hr1.RW
      have hb := hr1.1
      simp (disch := omega) only [gX8_put_0, gX8_put_1, gX8_put_2, pf_8_12, gX8_put_5, gX8_put_6, gX8_put_9T, gX8_put_9F, gX8_put_12, gX8_put_13, gX8_put_14, gX8_put_15, fl_8_0, gX8_put_18, gX8_put_19, aR_g, gX8_put_20, gX8_put_20N, Rd_some, Wr_some, Cont_some, Cont_none, iso_O, true_and, hg_s, hg_n, hput_hput, hx, h2, sp_plT, aR_g, ho, va_rf_s]
      change Go _ _ _ _ (hput H 1 (cX (wFt S 0))) _
      by_cases h3 : 0 ≤ i ∧ i < (S.1.2 k).2.1
      · rw [if_pos h3] at hq
        simp (disch := omega) only [gX8_put_22, gX8_put_22N, gX8_put_24T, gX8_put_24F, gX8_put_27, gX8_put_28, gX8_put_29, gX8_put_32, gX8_put_33, gX8_put_33N, gX8_put_35, gX8_put_36, gX8_put_39T, gX8_put_39F, gX8_put_42, gX8_put_43, gX8_put_44, gX8_put_47, gX8_put_48, gX8_put_48N, gX8_put_50, fl_5_1, gX8_put_53, gX8_put_54, gX8_put_54N, gX8_put_56, gX8_put_57, gX8_put_60, sL_p, gX8_put_61, gX8_put_62, Rd_some, Wr_some, Cont_some, Cont_none, iso_O, true_and, hg_s, hg_n, hput_hput, hr1.2.1, hr1.2.2.1, sp_has hr1.2.1 hr1.2.2.1 hw.sz, if_pos h3, sp_narrowed hr1.2.1 hr1.2.2.2.1]
        refine hq _ (hc1.cells (S := wFt S 0) h1 ho (rok_up hr.2.2.2 c.2.2)) ⟨⟨Nat.le_refl _, Nat.le_add_right _ _, Nat.le_add_right _ _⟩, fun a ha => by rw [hg_n (by omega), hg_n (by omega)]⟩
      · rw [if_neg h3] at hq
        simp (disch := omega) only [gX8_put_22, gX8_put_22N, gX8_put_24T, gX8_put_24F, gX8_put_27, gX8_put_28, gX8_put_29, gX8_put_32, gX8_put_33, gX8_put_33N, gX8_put_35, gX8_put_36, gX8_put_39T, gX8_put_39F, gX8_put_42, gX8_put_43, gX8_put_44, gX8_put_47, gX8_put_48, gX8_put_48N, gX8_put_50, fl_5_1, gX8_put_53, gX8_put_54, gX8_put_54N, gX8_put_56, gX8_put_57, gX8_put_60, sL_p, gX8_put_61, gX8_put_62, Rd_some, Wr_some, Cont_some, Cont_none, iso_O, true_and, hg_s, hg_n, hput_hput, gX8_faulted_0, gX8_faulted_1, gX8_faulted_2, pf_8_12, gX8_faulted_5, gX8_faulted_7, gX8_faulted_8, gX8_faulted_9, Rd_some, Wr_some, Cont_some, Cont_none, iso_O, true_and, hg_s, hg_n, hput_hput, hr1.2.1, hr1.2.2.1, sp_has hr1.2.1 hr1.2.2.1 hw.sz, if_neg h3]
        exact hq _ (hc.ft 3) (FX.put (by decide))
  · rw [if_neg h1] at hq
    simp (disch := omega) only [gX8_put_0, gX8_put_1, gX8_put_2, pf_8_12, gX8_put_5, gX8_put_6, gX8_put_9T, gX8_put_9F, gX8_put_12, gX8_put_13, gX8_put_14, gX8_put_15, fl_8_0, gX8_put_18, gX8_put_19, aR_g, gX8_put_20, gX8_put_20N, gX8_put_22, gX8_put_22N, gX8_put_24T, gX8_put_24F, gX8_put_27, gX8_put_28, gX8_put_29, gX8_put_32, gX8_put_33, gX8_put_33N, gX8_put_35, gX8_put_36, gX8_put_39T, gX8_put_39F, gX8_put_42, gX8_put_43, gX8_put_44, gX8_put_47, gX8_put_48, gX8_put_48N, gX8_put_50, fl_5_1, gX8_put_53, gX8_put_54, gX8_put_54N, gX8_put_56, gX8_put_57, gX8_put_60, sL_p, gX8_put_61, gX8_put_62, Rd_some, Wr_some, Cont_some, Cont_none, iso_O, true_and, hg_s, hg_n, hput_hput, hx, sp_plF]
    exact hq _ (hc.ft 0) (FX.put (by decide))
end OPS

/-! FastProduct: run -/
def lgf : Nat → Nat → Int → Nat
  | 0, e, _ => e
  | f + 1, e, n => if ((2 ^ e : Nat) : Int) < n then lgf f (e + 1) n else e
/-- the exponent of the least power of two that isn't below n -/
def lg (n : Int) : Nat := lgf 7 0 n
theorem lg_ok : ∀ n : Nat, n < 129 → n ≤ 2 ^ lg n ∧ lg n < 8 := by decide +kernel
section RUN
variable {H : HP} {Q : Option Value → HP → Prop} {F p rr oo : Nat} {P : Int}
theorem lp_exp {n : Int} (hn : 0 ≤ n ∧ n ≤ 128) : ∀ (f e : Nat), e + f = 7 → (Go 115 2 [some (vi n), some (vi (e : Int))] [] H Q ↔ Q (some (vi (lgf f e n : Nat))) H) := by
  intro f
  induction f with
  | zero =>
    intro e he
    rw [gX8_exponentFor_2]
    simp (disch := omega) only [gX8_exponentFor_3, gX8_exponentFor_5T, gX8_exponentFor_5F, gX8_exponentFor_21, gX8_exponentFor_22, Rd_some, Wr_some, Cont_some, Cont_none, iso_O, true_and, hg_s, hg_n, hput_hput]
    rfl
  | succ f ih =>
    intro e he
    have h2e : 2 ^ e ≤ 128 := Nat.pow_le_pow_right (n := 2) (by decide) (show e ≤ 7 by omega)
    have h2e0 : 0 < 2 ^ e := Nat.pow_pos (by decide)
    rw [gX8_exponentFor_2, lgf]
    by_cases hlt : ((2 ^ e : Nat) : Int) < n
    · rw [if_pos hlt, ← ih (e + 1) (by omega)]
      simp (disch := omega) only [gX8_exponentFor_3, gX8_exponentFor_5T, gX8_exponentFor_5F, gX8_exponentFor_8, gX8_exponentFor_9, gX8_exponentFor_10, gX8_exponentFor_11, gX8_exponentFor_12T, gX8_exponentFor_12F, gX8_exponentFor_15, gX8_exponentFor_18, Rd_some, Wr_some, Cont_some, Cont_none, iso_O, true_and, hg_s, hg_n, hput_hput, jShl_1 e (by omega)]
      rfl
    · rw [if_neg hlt]
      simp (disch := omega) only [gX8_exponentFor_3, gX8_exponentFor_5T, gX8_exponentFor_5F, gX8_exponentFor_8, gX8_exponentFor_9, gX8_exponentFor_10, gX8_exponentFor_11, gX8_exponentFor_12T, gX8_exponentFor_12F, gX8_exponentFor_15, gX8_exponentFor_18, gX8_exponentFor_21, gX8_exponentFor_22, Rd_some, Wr_some, Cont_some, Cont_none, iso_O, true_and, hg_s, hg_n, hput_hput, jShl_1 e (by omega)]
theorem sp_exp {n : Int} (hn : 0 ≤ n ∧ n ≤ 128) : Go 115 0 [some (vi n), none] [] H Q ↔ Q (some (vi (lg n : Nat))) H := by
  simp only [gX8_exponentFor_0, gX8_exponentFor_1, Rd_some, Wr_some, Cont_some, Cont_none, iso_O, true_and, hg_s, hg_n, hput_hput]
  exact lp_exp hn 7 0 rfl
def HH (H : HP) (rr oo : Nat) (a b : Int → Int) : HP := hput (hput H rr (cL 128 a)) oo (cL 128 b)
theorem HH_r {a b : Int → Int} (h : rr ≠ oo) : hget (HH H rr oo a b) rr = cL 128 a := by unfold HH; rw [hg_n h, hg_s]
theorem HH_o {a b : Int → Int} : hget (HH H rr oo a b) oo = cL 128 b := hg_s
theorem HH_q {a b : Int → Int} {q : Nat} (h : q ≠ rr ∧ q ≠ oo) : hget (HH H rr oo a b) q = hget H q := by unfold HH; rw [hg_n h.2, hg_n h.1]
theorem HH_pr {a b g : Int → Int} (h : rr ≠ oo) : hput (HH H rr oo a b) rr (cL 128 g) = HH H rr oo g b := by
  unfold HH
  rw [hput_comm (fun e => h e.symm), hput_hput]
theorem HH_po {a b g : Int → Int} : hput (HH H rr oo a b) oo (cL 128 g) = HH H rr oo a g := by
  unfold HH
  rw [hput_hput]
theorem RW.hh {r c : Nat} {ln n : Int} {g a b : Int → Int} (h : RW H r c ln n g) (h1 : rr ≤ 60) (h2 : oo ≤ 60) : RW (HH H rr oo a b) r c ln n g := by
  obtain ⟨a1, a2, a3, a4⟩ := h
  exact ⟨by rw [HH_q (by omega)]; exact a1, by rw [HH_q (by omega)]; exact a2, a3, a4⟩
theorem lp_r1 (hf : hget H F = cO 1 [.ref p, .ref rr, .ref oo]) (hne : (F ≠ 0 ∧ p ≠ 0 ∧ rr ≠ 0 ∧ oo ≠ 0) ∧ F ≠ rr ∧ F ≠ oo ∧ p ≠ rr ∧ p ≠ oo ∧ rr ≠ oo) {N : Int} (hN : 0 ≤ N ∧ N ≤ 128) {a b : Int → Int} (l1 l2 l4 l5 l7 l8 : Option Value) : ∀ (d : Nat) (i : Int), i + d = N → 0 ≤ i → (Go 13 30 [some (.ref F), l1, l2, some (vi N), l4, l5, some (vi i), l7, l8] [] (HH H rr oo (mix (fun _ => 0) a i) (mix (fun _ => 0) b i)) Q ↔ Go 13 58 [some (.ref F), l1, l2, some (vi N), l4, l5, some (vi N), l7, l8] [] (HH H rr oo (mix (fun _ => 0) a N) (mix (fun _ => 0) b N)) Q) := by
  have hf' : ∀ a b, hget (HH H rr oo a b) F = cO 1 [.ref p, .ref rr, .ref oo] := fun a b => by rw [HH_q ⟨hne.2.1, hne.2.2.1⟩]; exact hf
  have e1 := hne.2.2.2.2.2
  intro d
  induction d with
  | zero =>
    intro i hi h0
    rw [show i = N by omega, gX1_run_30]
    simp (disch := omega) only [gX1_run_32, gX1_run_33T, gX1_run_33F, Rd_some, Wr_some, Cont_some, Cont_none, iso_O, true_and, hg_s, hg_n, hput_hput]
  | succ d ih =>
    intro i hi h0
    rw [gX1_run_30]
    simp (disch := omega) only [gX1_run_32, gX1_run_33T, gX1_run_33F, gX1_run_36, gX1_run_37, fl_1_1, gX1_run_40, gX1_run_42, gX1_run_43, sL_p, gX1_run_44, gX1_run_45, fl_1_2, gX1_run_48, gX1_run_50, gX1_run_51, gX1_run_52, gX1_run_55, Rd_some, Wr_some, Cont_some, Cont_none, iso_O, true_and, hg_s, hg_n, hput_hput, hf', HH_r, HH_o, HH_pr, HH_po]
    rw [mix_up h0 rfl, mix_up h0 rfl]
    exact ih (i + 1) (by omega) (by omega)
theorem lp_r2 (hf : hget H F = cO 1 [.ref p, .ref rr, .ref oo]) (hp : hget H p = cO 3 [vl P]) (hP : 1 < P ∧ P < 1073741824) (hne : (F ≠ 0 ∧ p ≠ 0 ∧ rr ≠ 0 ∧ oo ≠ 0) ∧ F ≠ rr ∧ F ≠ oo ∧ p ≠ rr ∧ p ≠ oo ∧ rr ≠ oo) {N : Int} (hN : 0 ≤ N ∧ N ≤ 128) {a b : Int → Int} (ha : mo P a N) (hb : mo P b N) (l1 l2 l4 l5 l7 l8 : Option Value) : ∀ (d : Nat) (i : Int), i + d = N → 0 ≤ i → (Go 13 107 [some (.ref F), l1, l2, some (vi N), l4, l5, some (vi i), l7, l8] [] (HH H rr oo (mix (fun j => a j * b j % P) a i) b) Q ↔ Go 13 147 [some (.ref F), l1, l2, some (vi N), l4, l5, some (vi N), l7, l8] [] (HH H rr oo (mix (fun j => a j * b j % P) a N) b) Q) := by
  have hf' : ∀ a b, hget (HH H rr oo a b) F = cO 1 [.ref p, .ref rr, .ref oo] := fun a b => by rw [HH_q ⟨hne.2.1, hne.2.2.1⟩]; exact hf
  have hp' : ∀ a b, hget (HH H rr oo a b) p = cO 3 [vl P] := fun a b => by rw [HH_q ⟨hne.2.2.2.1, hne.2.2.2.2.1⟩]; exact hp
  have e1 := hne.2.2.2.2.2
  intro d
  induction d with
  | zero =>
    intro i hi h0
    rw [show i = N by omega, gX1_run_107]
    simp (disch := omega) only [gX1_run_109, gX1_run_110T, gX1_run_110F, Rd_some, Wr_some, Cont_some, Cont_none, iso_O, true_and, hg_s, hg_n, hput_hput]
  | succ d ih =>
    intro i hi h0
    have m1 := ha i h0 (by omega)
    have m2 := hb i h0 (by omega)
    have e2 : mix (fun j => a j * b j % P) a i i = a i := mix_out (by omega)
    rw [gX1_run_107]
    simp (disch := omega) only [gX1_run_109, gX1_run_110T, gX1_run_110F, gX1_run_113, gX1_run_114, fl_1_1, gX1_run_117, gX1_run_119, gX1_run_120, fl_1_0, gX1_run_123, gX1_run_124, gX1_run_127, gX1_run_129, aL_g, gX1_run_130, gX1_run_131, fl_1_2, gX1_run_134, gX1_run_136, gX1_run_137, gX1_run_140, sL_p, gX1_run_141, gX1_run_144, Rd_some, Wr_some, Cont_some, Cont_none, iso_O, true_and, hg_s, hg_n, hput_hput, hf', hp', HH_r, HH_o, HH_pr, HH_po, e2, sp_product (hp' _ _) hP]
    rw [mix_up h0 rfl]
    exact ih (i + 1) (by omega) (by omega)
theorem lp_r3 (hf : hget H F = cO 1 [.ref p, .ref rr, .ref oo]) (hp : hget H p = cO 3 [vl P]) (hP : 1 < P ∧ P < 1073741824) (hne : (F ≠ 0 ∧ p ≠ 0 ∧ rr ≠ 0 ∧ oo ≠ 0) ∧ F ≠ rr ∧ F ≠ oo ∧ p ≠ rr ∧ p ≠ oo ∧ rr ≠ oo) {N s : Int} (hN : 0 ≤ N ∧ N ≤ 128) {a b : Int → Int} (ha : mo P a N) (hs : 0 ≤ s ∧ s < P) (l1 l2 l4 l5 l7 : Option Value) : ∀ (d : Nat) (i : Int), i + d = N → 0 ≤ i → (Go 13 179 [some (.ref F), l1, l2, some (vi N), l4, l5, some (vl s), none, some (vi i)] [] (HH H rr oo (mix (fun j => a j * s % P) a i) b) Q ↔ Q none (HH H rr oo (mix (fun j => a j * s % P) a N) b)) := by
  have hf' : ∀ a b, hget (HH H rr oo a b) F = cO 1 [.ref p, .ref rr, .ref oo] := fun a b => by rw [HH_q ⟨hne.2.1, hne.2.2.1⟩]; exact hf
  have hp' : ∀ a b, hget (HH H rr oo a b) p = cO 3 [vl P] := fun a b => by rw [HH_q ⟨hne.2.2.2.1, hne.2.2.2.2.1⟩]; exact hp
  have e1 := hne.2.2.2.2.2
  intro d
  induction d with
  | zero =>
    intro i hi h0
    rw [show i = N by omega, gX1_run_179]
    simp (disch := omega) only [gX1_run_181, gX1_run_182T, gX1_run_182F, gX1_run_214, Rd_some, Wr_some, Cont_some, Cont_none, iso_O, true_and, hg_s, hg_n, hput_hput]
  | succ d ih =>
    intro i hi h0
    have m1 := ha i h0 (by omega)
    have e2 : mix (fun j => a j * s % P) a i i = a i := mix_out (by omega)
    rw [gX1_run_179]
    simp (disch := omega) only [gX1_run_181, gX1_run_182T, gX1_run_182F, gX1_run_185, gX1_run_186, fl_1_1, gX1_run_189, gX1_run_191, gX1_run_192, fl_1_0, gX1_run_195, gX1_run_196, gX1_run_199, gX1_run_201, aL_g, gX1_run_202, gX1_run_204, gX1_run_207, sL_p, gX1_run_208, gX1_run_211, Rd_some, Wr_some, Cont_some, Cont_none, iso_O, true_and, hg_s, hg_n, hput_hput, hf', hp', HH_r, HH_o, HH_pr, HH_po, e2, sp_product (hp' _ _) hP]
    rw [mix_up h0 rfl]
    exact ih (i + 1) (by omega) (by omega)
theorem sp_run (hf : hget H F = cO 1 [.ref p, .ref rr, .ref oo]) (hp : hget H p = cO 3 [vl P]) (hP : 1 < P ∧ P < 1073741824) (hrt : ∀ e, e < 8 → rtOk P e = true) (hne : (F ≠ 0 ∧ p ≠ 0 ∧ rr ≠ 0 ∧ oo ≠ 0) ∧ F ≠ rr ∧ F ≠ oo ∧ p ≠ rr ∧ p ≠ oo ∧ rr ≠ oo) (h60 : rr ≤ 60 ∧ oo ≤ 60) {a0 b0 : Int → Int} (hr : hget H rr = cL 128 a0) (ho : hget H oo = cL 128 b0) {rx cx ry cy : Nat} {lx nx ly ny : Int} {x y : Int → Int} (Rx : RW H rx cx lx nx x) (Ry : RW H ry cy ly ny y) (hq : ∀ g g2 : Int → Int, (∀ k, 0 ≤ k → k < nx + ny - 1 → g k = cv x nx y ny k % P) → Q none (HH H rr oo g g2)) : Go 13 0 [some (.ref F), some (.ref rx), some (.ref ry), none, none, none, none, none, none] [] H Q := by
  have b1 := Rx.2.2.2.1
  have b2 := Ry.2.2.2.1
  have n1 := Rx.2.2.1
  have n2 := Ry.2.2.1
  have e1 := hne.2.2.2.2.2
  have hf' : ∀ a b, hget (HH H rr oo a b) F = cO 1 [.ref p, .ref rr, .ref oo] := fun a b => by rw [HH_q ⟨hne.2.1, hne.2.2.1⟩]; exact hf
  have hp' : ∀ a b, hget (HH H rr oo a b) p = cO 3 [vl P] := fun a b => by rw [HH_q ⟨hne.2.2.2.1, hne.2.2.2.2.1⟩]; exact hp
  have Rx' : ∀ a b, RW (HH H rr oo a b) rx cx lx nx x := fun a b => Rx.hh h60.1 h60.2
  have Ry' : ∀ a b, RW (HH H rr oo a b) ry cy ly ny y := fun a b => Ry.hh h60.1 h60.2
  obtain ⟨k1, k2⟩ := lg_ok (nx + ny - 1).toNat (by omega)
  rw [show (((nx + ny - 1).toNat : Nat) : Int) = nx + ny - 1 by omega] at k1 k2
  simp (disch := omega) only [gX1_run_0, gX1_run_1, gX1_run_2, gX1_run_5, gX1_run_6, gX1_run_9, gX1_run_10, gX1_run_11, gX1_run_12, Rd_some, Wr_some, Cont_some, Cont_none, iso_O, true_and, hg_s, hg_n, hput_hput, Rx.1, Ry.1, sp_size Rx.1 Rx.2.1 Rx.sz, sp_size Ry.1 Ry.2.1 Ry.sz, sp_exp]
  generalize lg (nx + ny - 1) = e at k1 k2
  have h2e : 2 ^ e ≤ 128 := Nat.pow_le_pow_right (n := 2) (by decide) (show e ≤ 7 by omega)
  have h2e0 : 0 < 2 ^ e := Nat.pow_pos (by decide)
  simp (disch := omega) only [gX1_run_15, gX1_run_16, gX1_run_17, gX1_run_18, fl_1_0, gX1_run_21, gX1_run_22, gX1_run_25, gX1_run_27, gX1_run_28, Rd_some, Wr_some, Cont_some, Cont_none, iso_O, true_and, hg_s, hg_n, hput_hput, jShl_1 e k2, hf, hp, sp_rootFor hp hP]
  generalize ew : 3 ^ ((P - 1) / ((2 ^ e : Nat) : Int)).toNat % P = w
  have mw : 0 ≤ w ∧ w < P := by rw [← ew]; exact em (by omega) _
  have mv := em (P := P) (by omega) (w ^ (P - 2).toNat)
  have ms := em (P := P) (by omega) (((2 ^ e : Nat) : Int) ^ (P - 2).toNat)
  obtain ⟨f1, f2, f3, f4⟩ := rt_fact hP (hrt e k2) k2 ew.symm rfl rfl
  have eH : H = HH H rr oo (mix (fun _ => 0) a0 0) (mix (fun _ => 0) b0 0) := by
    rw [mix_0, mix_0]
    unfold HH
    rw [hput_same hr, hput_same ho]
  rw [eH, lp_r1 hf hne (N := ((2 ^ e : Nat) : Int)) (by omega) _ _ _ _ _ _ (2 ^ e) 0 (by omega) (by omega)]
  generalize hA0 : mix (fun _ => (0 : Int)) a0 ((2 ^ e : Nat) : Int) = A0
  generalize hB0 : mix (fun _ => (0 : Int)) b0 ((2 ^ e : Nat) : Int) = B0
  have ld1 := fun Q => sp_load (Q := Q) (hp' A0 B0) hP (Rx' A0 B0).1 (Rx' A0 B0).2.1 Rx.2.2.2.2 (HH_r e1) (by omega) (by omega)
  simp (disch := omega) only [gX1_run_58, gX1_run_59, fl_1_0, gX1_run_62, gX1_run_63, gX1_run_64, fl_1_1, gX1_run_67, Rd_some, Wr_some, Cont_some, Cont_none, iso_O, true_and, hg_s, hg_n, hput_hput, hf', hp', ld1, HH_pr]
  generalize hA : mix (fun j => x j % P) A0 nx = A
  have ld2 := fun Q => sp_load (Q := Q) (hp' A B0) hP (Ry' A B0).1 (Ry' A B0).2.1 Ry.2.2.2.2 HH_o (by omega) (by omega)
  simp (disch := omega) only [gX1_run_70, gX1_run_71, fl_1_0, gX1_run_74, gX1_run_75, gX1_run_76, fl_1_2, gX1_run_79, gX1_run_82, gX1_run_83, gX1_run_84, fl_1_1, gX1_run_87, gX1_run_88, gX1_run_90, Rd_some, Wr_some, Cont_some, Cont_none, iso_O, true_and, hg_s, hg_n, hput_hput, hf', hp', ld2, HH_po]
  generalize hB : mix (fun j => y j % P) B0 ny = B
  have vA : ∀ j : Nat, j < 2 ^ e → A j = if (j : Int) < nx then x j % P else 0 := fun j hj => by
    rw [← hA]
    split
    · rename_i h; exact mix_in ⟨by omega, h⟩
    · rename_i h; rw [mix_out (by omega), ← hA0, mix_in (by omega)]
  have vB : ∀ j : Nat, j < 2 ^ e → B j = if (j : Int) < ny then y j % P else 0 := fun j hj => by
    rw [← hB]
    split
    · rename_i h; exact mix_in ⟨by omega, h⟩
    · rename_i h; rw [mix_out (by omega), ← hB0, mix_in (by omega)]
  have mA : mo P A ((2 ^ e : Nat) : Int) := fun j j0 j1 => by
    have := vA j.toNat (by omega)
    rw [show ((j.toNat : Nat) : Int) = j by omega] at this
    rw [this]
    split
    · exact em (by omega) _
    · omega
  have mB : mo P B ((2 ^ e : Nat) : Int) := fun j j0 j1 => by
    have := vB j.toNat (by omega)
    rw [show ((j.toNat : Nat) : Int) = j by omega] at this
    rw [this]
    split
    · exact em (by omega) _
    · omega
  refine sp_spread (hf' _ _) (hp' _ _) hP ⟨hne.1.2.2.1, hne.2.1, hne.2.2.2.1⟩ k2 (HH_r e1) mA mw f2 (fun A1 hA1 => ?_)
  rw [HH_pr e1]
  simp (disch := omega) only [gX1_run_93, gX1_run_94, gX1_run_95, fl_1_2, gX1_run_98, gX1_run_99, gX1_run_101, Rd_some, Wr_some, Cont_some, Cont_none, iso_O, true_and, hg_s, hg_n, hput_hput, hf']
  refine sp_spread (hf' _ _) (hp' _ _) hP ⟨hne.1.2.2.2, hne.2.2.1, hne.2.2.2.2.1⟩ k2 HH_o mB mw f2 (fun B1 hB1 => ?_)
  rw [HH_po]
  simp (disch := omega) only [gX1_run_104, gX1_run_105, Rd_some, Wr_some, Cont_some, Cont_none, iso_O, true_and, hg_s, hg_n, hput_hput]
  have mA1 : mo P A1 ((2 ^ e : Nat) : Int) := fun j j0 j1 => by
    have := hA1 j.toNat (by omega)
    rw [show ((j.toNat : Nat) : Int) = j by omega] at this
    rw [this]; exact em (by omega) _
  have mB1 : mo P B1 ((2 ^ e : Nat) : Int) := fun j j0 j1 => by
    have := hB1 j.toNat (by omega)
    rw [show ((j.toNat : Nat) : Int) = j by omega] at this
    rw [this]; exact em (by omega) _
  have eH2 : HH H rr oo A1 B1 = HH H rr oo (mix (fun j => A1 j * B1 j % P) A1 0) B1 := by rw [mix_0]
  rw [eH2, lp_r2 hf hp hP hne (N := ((2 ^ e : Nat) : Int)) (by omega) mA1 mB1 _ _ _ _ _ _ (2 ^ e) 0 (by omega) (by omega)]
  generalize hC : mix (fun j => A1 j * B1 j % P) A1 ((2 ^ e : Nat) : Int) = C
  have vC : ∀ j : Nat, j < 2 ^ e → C j = A1 j * B1 j % P := fun j hj => by rw [← hC]; exact mix_in (by omega)
  have mC : mo P C ((2 ^ e : Nat) : Int) := fun j j0 j1 => by
    have := vC j.toNat (by omega)
    rw [show ((j.toNat : Nat) : Int) = j by omega] at this
    rw [this]; exact em (by omega) _
  simp (disch := omega) only [gX1_run_147, gX1_run_148, gX1_run_149, fl_1_1, gX1_run_152, gX1_run_153, gX1_run_154, fl_1_0, gX1_run_157, gX1_run_159, gX1_run_162, Rd_some, Wr_some, Cont_some, Cont_none, iso_O, true_and, hg_s, hg_n, hput_hput, hf', hp', sp_recip (hp' _ _) hP]
  refine sp_spread (hf' _ _) (hp' _ _) hP ⟨hne.1.2.2.1, hne.2.1, hne.2.2.2.1⟩ k2 (HH_r e1) mC mv f3 (fun D hD => ?_)
  rw [HH_pr e1]
  simp (disch := omega) only [gX1_run_165, gX1_run_166, fl_1_0, gX1_run_169, gX1_run_170, gX1_run_171, gX1_run_174, gX1_run_176, gX1_run_177, Rd_some, Wr_some, Cont_some, Cont_none, iso_O, true_and, hg_s, hg_n, hput_hput, hf', hp', sp_recip (hp' _ _) hP]
  have mD : mo P D ((2 ^ e : Nat) : Int) := fun j j0 j1 => by
    have := hD j.toNat (by omega)
    rw [show ((j.toNat : Nat) : Int) = j by omega] at this
    rw [this]; exact em (by omega) _
  have eH3 : HH H rr oo D B1 = HH H rr oo (mix (fun j => D j * (((2 ^ e : Nat) : Int) ^ (P - 2).toNat % P) % P) D 0) B1 := by rw [mix_0]
  rw [eH3, lp_r3 hf hp hP hne (N := ((2 ^ e : Nat) : Int)) (by omega) mD ms _ _ _ _ (some (vi 0)) (2 ^ e) 0 (by omega) (by omega)]
  refine hq _ _ (fun k k0 k3 => ?_)
  rw [mix_in (by omega)]
  have hk : k.toNat < 2 ^ e := by omega
  have hDk := hD k.toNat hk
  rw [show ((k.toNat : Nat) : Int) = k by omega] at hDk
  rw [hDk]
  have hmain := ntt_prod (P := P) (w := w) (v := w ^ (P - 2).toNat % P) (e := e) (nx := nx.toNat) (ny := ny.toNat) (x := x) (y := y) (a := A) (b := B) (i := k.toNat) (by omega) (by omega) (by omega) (fun j hj => by rw [vA j (by omega), if_pos (by omega)]; exact cg.md) (fun j h1 h2 => by rw [vA j h2, if_neg (by omega)]) (fun j hj => by rw [vB j (by omega), if_pos (by omega)]; exact cg.md) (fun j h1 h2 => by rw [vB j h2, if_neg (by omega)]) f1 f2 f3 (by omega)
  rw [show ((nx.toNat : Nat) : Int) = nx by omega, show ((ny.toNat : Nat) : Int) = ny by omega, show ((k.toNat : Nat) : Int) = k by omega] at hmain
  have hCd : cg P (df (w ^ (P - 2).toNat % P) C (2 ^ e) k.toNat) (df (w ^ (P - 2).toNat % P) (fun t => df w A (2 ^ e) t.toNat * df w B (2 ^ e) t.toNat) (2 ^ e) k.toNat) := by
    unfold df
    refine cg.sm fun j hj => cg.ml ?_ cg.rf
    rw [vC j hj]
    refine cg.md.tr ?_
    have h1 := hA1 j hj
    have h2 := hB1 j hj
    unfold df at h1 h2
    rw [h1, h2]
    dsimp only
    rw [Int.toNat_natCast]
    exact cg.md.ml cg.md
  have h5 : cg P (df (w ^ (P - 2).toNat % P) C (2 ^ e) k.toNat % P * (((2 ^ e : Nat) : Int) ^ (P - 2).toNat % P)) (((2 ^ e : Nat) : Int) * cv x nx y ny k * (((2 ^ e : Nat) : Int) ^ (P - 2).toNat % P)) := (cg.md.tr (hCd.tr hmain)).ml cg.rf
  refine h5.trans ?_
  have h6 : ((2 ^ e : Nat) : Int) * cv x nx y ny k * (((2 ^ e : Nat) : Int) ^ (P - 2).toNat % P) = cv x nx y ny k * (((2 ^ e : Nat) : Int) * (((2 ^ e : Nat) : Int) ^ (P - 2).toNat % P)) := by
    ac_rfl
  rw [h6]
  have h7 := (cg.rf (P := P) (a := cv x nx y ny k)).ml f4
  rw [Int.mul_one] at h7
  exact h7
end RUN

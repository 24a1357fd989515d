/-! Polynomials: values, series, quotients -/
def EV (P : Int) (x : Int → Int) (n t : Int) : Int := sm (fun i => x i * t ^ i.toNat) n.toNat % P
/-- the residues, and 0 beyond them -/
def Xz (P : Int) (x : Int → Int) (n i : Int) : Int := if i < n then x i % P else 0
theorem Xz_r {P : Int} (hP : 0 < P) (x : Int → Int) (n i : Int) : 0 ≤ Xz P x n i ∧ Xz P x n i < P := by
  unfold Xz
  split
  · exact em hP _
  · omega
/-- the series that is 1 over X: its first k numbers -/
def ser (P s : Int) (X : Int → Int) : Nat → Int → Int
  | 0 => fun _ => 0
  | k + 1 => up (ser P s X k) k (((if k = 0 then 1 else 0) - sm (fun i => X (i + 1) * ser P s X k (k - 1 - i)) k) * s % P)
theorem ser_r {P s : Int} {X : Int → Int} (hP : 0 < P) (k : Nat) (j : Int) : 0 ≤ ser P s X k j ∧ ser P s X k j < P := by
  induction k with
  | zero => exact ⟨Int.le_refl 0, hP⟩
  | succ k ih =>
    rw [ser]
    unfold up
    split
    · exact em hP _
    · exact ih
/-- one step of the division: the row, the quotient -/
def dvA (P s : Int) (B : Int → Int) (g : Nat) (k : Nat) (A : Int → Int) : Int → Int := fun t => if (k : Int) ≤ t ∧ t ≤ (k : Int) + g then (A t - A ((k : Int) + g) * s % P * B (t - k)) % P else A t
/-- the row behind the steps q - 1 .. k -/
def dv (P s : Int) (B : Int → Int) (g : Nat) (A : Int → Int) (q : Nat) : Nat → Int → Int
  | 0 => A
  | e + 1 => dvA P s B g (q - (e + 1)) (dv P s B g A q e)
/-- the quotient's entry k -/
def dq (P s : Int) (B : Int → Int) (g : Nat) (A : Int → Int) (q k : Nat) : Int := dv P s B g A q (q - (k + 1)) ((k : Int) + g) * s % P
theorem dvA_r {P s : Int} {B A : Int → Int} {g k : Nat} (hP : 0 < P) {n : Int} (h : mo P A n) : mo P (dvA P s B g k A) n := by
  intro j j0 j1
  unfold dvA
  split
  · exact em hP _
  · exact h j j0 j1
theorem dv_r {P s : Int} {B A : Int → Int} {g q : Nat} (hP : 0 < P) {n : Int} (h : mo P A n) (e : Nat) : mo P (dv P s B g A q e) n := by
  induction e with
  | zero => exact h
  | succ e ih => exact dvA_r hP ih
theorem dv_hi {P s : Int} {B A : Int → Int} {g q : Nat} {n : Int} (hn : 0 < q → (q : Int) + g ≤ n) (e : Nat) (he : e ≤ q) {j : Int} (hj : n ≤ j) : dv P s B g A q e j = A j := by
  induction e with
  | zero => rfl
  | succ e ih =>
    have hn := hn (by omega)
    rw [dv, ← ih (by omega)]
    exact if_neg (by omega)
/-- two rows that agree below n give the same -/
theorem dv_cg {P s : Int} {B B' A A' : Int → Int} {g q : Nat} {n : Int} (hn : 0 < q → (q : Int) + g ≤ n) (hA : ∀ j, 0 ≤ j → j < n → A j = A' j) (hB : ∀ j, 0 ≤ j → j ≤ (g : Int) → B j = B' j) (e : Nat) (he : e ≤ q) : ∀ j, 0 ≤ j → j < n → dv P s B g A q e j = dv P s B' g A' q e j := by
  induction e with
  | zero => exact hA
  | succ e ih =>
    intro j j0 j1
    have ih' := ih (by omega)
    have hn := hn (by omega)
    rw [dv, dv]
    unfold dvA
    split
    · rename_i h
      rw [ih' j j0 j1, ih' (((q - (e + 1) : Nat) : Int) + g) (by omega) (by omega), hB _ (by omega) (by omega)]
    · exact ih' j j0 j1
section PO2
variable {H : HP} {Q : Option Value → HP → Prop} {p : Nat} {P : Int}
theorem lp_va (hp : hget H p = cO 3 [vl P]) (hP : 1 < P ∧ P < 1073741824) (hpp : 24 < p ∧ p < 28) (h4 : hget H 4 = cO 2 [.ref 5, .ref 6, .ref 7]) {rx cx ry cy : Nat} {lx n ly m : Int} {x y : Int → Int} (Rx : RW H rx cx lx n x) (Ry : RW H ry cy ly m y) {u : Int} (h16 : hget H 16 = cO 6 [.ref 17, vi u]) {f g : Int → Int} (h5 : hget H 5 = cL 64 f) (hf : mo P f n) (hfx : ∀ i : Nat, (i : Int) < n → cg P (f i) (x i)) : ∀ (e : Nat) (k : Int), k + e = m → 0 ≤ k → (Go 24 12 [some (.ref 4), some (.ref rx), some (.ref ry), some (.ref p), some (.ref 16), some (vi k)] [] (hput H 17 (cL 64 (mix (fun j => EV P x n (y j)) g k))) Q ↔ Q none (hput H 17 (cL 64 (mix (fun j => EV P x n (y j)) g m)))) := by
  have n1 := Rx.2.2.2.1
  have n2 := Ry.2.2.2.1
  have q1 := Rx.2.2.1
  have hp' : ∀ c, hget (hput H 17 c) p = cO 3 [vl P] := fun c => by rw [hg_n (by omega)]; exact hp
  have h4' : ∀ c, hget (hput H 17 c) 4 = cO 2 [.ref 5, .ref 6, .ref 7] := fun c => by rw [hg_n (by omega)]; exact h4
  have h5' : ∀ c, hget (hput H 17 c) 5 = cL 64 f := fun c => by rw [hg_n (by omega)]; exact h5
  have h16' : ∀ c, hget (hput H 17 c) 16 = cO 6 [.ref 17, vi u] := fun c => by rw [hg_n (by omega)]; exact h16
  have Rx' : ∀ c, RW (hput H 17 c) rx cx lx n x := fun c => Rx.fm (Fm.rf.put (lo := 17) (hi := 17) (by omega)) (by omega)
  have Ry' : ∀ c, RW (hput H 17 c) ry cy ly m y := fun c => Ry.fm (Fm.rf.put (lo := 17) (hi := 17) (by omega)) (by omega)
  intro e
  induction e with
  | zero =>
    intro k hk h0
    rw [show k = m by omega, gX2_valuesAt_12]
    simp (disch := omega) only [gX2_valuesAt_14, gX2_valuesAt_15, gX2_valuesAt_18T, gX2_valuesAt_18F, gX2_valuesAt_58, Rd_some, Wr_some, Cont_some, Cont_none, iso_O, true_and, hg_s, hg_n, hput_hput, (Ry' _).1, sp_size (Ry' _).1 (Ry' _).2.1 Ry.sz]
  | succ e ih =>
    intro k hk h0
    have m1 := em (P := P) (by omega) (y k)
    have m2 := Ry.2.2.2.2 k h0 (by omega)
    have hv := fun Q c => sp_value2 (Q := Q) (hp' c) hP (h5' c) (m := n) (by omega) hf m1
    have e3 : sm (fun i => f i * (y k % P) ^ i.toNat) n.toNat % P = EV P x n (y k) := cg.sm fun i hi => (hfx i (by omega)).ml (cg.md.pw _)
    rw [gX2_valuesAt_12]
    simp (disch := omega) only [gX2_valuesAt_14, gX2_valuesAt_15, gX2_valuesAt_18T, gX2_valuesAt_18F, gX2_valuesAt_21, gX2_valuesAt_23, fl_6_0, gX2_valuesAt_26, gX2_valuesAt_28, gX2_valuesAt_29, gX2_valuesAt_30, fl_2_0, gX2_valuesAt_33, gX2_valuesAt_34, gX2_valuesAt_37, gX2_valuesAt_38, gX2_valuesAt_39, fl_5_1, gX2_valuesAt_42, gX2_valuesAt_44, aL_g, gX2_valuesAt_45, gX2_valuesAt_48, gX2_valuesAt_51, sL_p, gX2_valuesAt_52, gX2_valuesAt_55, Rd_some, Wr_some, Cont_some, Cont_none, iso_O, true_and, hg_s, hg_n, hput_hput, (Rx' _).1, (Ry' _).1, (Ry' _).2.1, sp_size (Rx' _).1 (Rx' _).2.1 Rx.sz, sp_size (Ry' _).1 (Ry' _).2.1 Ry.sz, h16', hp', h4', hv, sp_reduced (hp' _) hP]
    rw [e3, mix_up h0 rfl]
    exact ih (k + 1) (by omega) (by omega)
theorem sp_va (hp : hget H p = cO 3 [vl P]) (hP : 1 < P ∧ P < 1073741824) (hpp : 24 < p ∧ p < 28) (h4 : hget H 4 = cO 2 [.ref 5, .ref 6, .ref 7]) {rx cx ry cy : Nat} {lx n ly m : Int} {x y : Int → Int} (Rx : RW H rx cx lx n x) (Ry : RW H ry cy ly m y) {u : Int} (h16 : hget H 16 = cO 6 [.ref 17, vi u]) {f g : Int → Int} (h5 : hget H 5 = cL 64 f) (h17 : hget H 17 = cL 64 g) (hq : ∀ F, Q none (hput (hput H 5 (cL 64 F)) 17 (cL 64 (mix (fun j => EV P x n (y j)) g m)))) : Go 24 0 [some (.ref 4), some (.ref rx), some (.ref ry), some (.ref p), some (.ref 16), none] [] H Q := by
  have n1 := Rx.2.2.2.1
  have n2 := Ry.2.2.2.1
  have q1 := Rx.2.2.1
  have ld := fun Q => sp_load (Q := Q) hp hP Rx.1 Rx.2.1 Rx.2.2.2.2 h5 (by omega) (by omega)
  simp (disch := omega) only [gX2_valuesAt_0, gX2_valuesAt_1, gX2_valuesAt_2, gX2_valuesAt_3, fl_2_0, gX2_valuesAt_6, gX2_valuesAt_9, gX2_valuesAt_10, Rd_some, Wr_some, Cont_some, Cont_none, iso_O, true_and, hg_s, hg_n, hput_hput, h4, hp, ld]
  generalize hF : mix (fun j => x j % P) f n = F
  have vF : ∀ j, 0 ≤ j → j < n → F j = x j % P := fun j j0 j1 => by rw [← hF]; exact mix_in ⟨j0, j1⟩
  have eH : hput H 5 (cL 64 F) = hput (hput H 5 (cL 64 F)) 17 (cL 64 (mix (fun j => EV P x n (y j)) g 0)) := by
    rw [mix_0]
    exact (hput_same (by rw [hg_n (by omega)]; exact h17)).symm
  rw [eH]
  refine (lp_va (H := hput H 5 (cL 64 F)) (by rw [hg_n (by omega)]; exact hp) hP hpp (by rw [hg_n (by omega)]; exact h4) (Rx.fm (Fm.rf.put (lo := 5) (hi := 5) (by omega)) (by omega)) (Ry.fm (Fm.rf.put (lo := 5) (hi := 5) (by omega)) (by omega)) (by rw [hg_n (by omega)]; exact h16) hg_s (fun j j0 j1 => by rw [vF j j0 j1]; exact em (by omega) _) (fun i hi => by rw [vF i (by omega) hi]; exact cg.md) m.toNat 0 (by omega) (by omega)).mpr (hq F)
theorem lp_in2 (hp : hget H p = cO 3 [vl P]) (hP : 1 < P ∧ P < 1073741824) (h4 : hget H 4 = cO 2 [.ref 5, .ref 6, .ref 7]) {rx cx : Nat} {lx n : Int} {x : Int → Int} (Rx : RW H rx cx lx n x) {N : Int} (h16 : hget H 16 = cO 6 [.ref 17, vi N]) {f c : Int → Int} (h5 : hget H 5 = cL 64 f) (hf : ∀ j, 0 ≤ j → j < n → f j = x j % P) (h17 : hget H 17 = cL 64 c) {k : Nat} (hk : 1 ≤ k ∧ (k : Int) < N ∧ N ≤ 64) {g : Int → Int} (hg : ∀ j, 0 ≤ j → j < (k : Int) → c j = g j ∧ 0 ≤ g j ∧ g j < P) {l4 l5 : Option Value} : ∀ (e i : Nat), 1 ≤ i → (i : Int) + e = min ((k : Int) + 1) n → (Go 22 47 [some (.ref 4), some (.ref rx), some (.ref p), some (.ref 16), l4, l5, some (vi (k : Int)), some (vl (sm (fun t => Xz P x n (t + 1) * g ((k : Int) - 1 - t)) (i - 1) % P)), none, some (vi (i : Int))] [] H Q ↔ Go 22 98 [some (.ref 4), some (.ref rx), some (.ref p), some (.ref 16), l4, l5, some (vi (k : Int)), some (vl (sm (fun t => Xz P x n (t + 1) * g ((k : Int) - 1 - t)) k % P)), none, some (vi (min ((k : Int) + 1) n))] [] H Q) := by
  have n1 := Rx.2.2.2.1
  intro e
  induction e with
  | zero =>
    intro i h1 hi
    have et : sm (fun t => Xz P x n (t + 1) * g ((k : Int) - 1 - t)) k = sm (fun t => Xz P x n (t + 1) * g ((k : Int) - 1 - t)) (i - 1) := sm_tail (by omega) (fun j j0 j1 => by
      rw [show Xz P x n (j + 1) = 0 from if_neg (by omega), Int.zero_mul])
    rw [et, show min ((k : Int) + 1) n = (i : Int) by omega, gX2_invert_47]
    by_cases hik : (k : Int) < i
    · simp (disch := omega) only [gX2_invert_49, gX2_invert_51T, gX2_invert_51F, Rd_some, Wr_some, Cont_some, Cont_none, iso_O, true_and, hg_s, hg_n, hput_hput]
    · simp (disch := omega) only [gX2_invert_49, gX2_invert_51T, gX2_invert_51F, gX2_invert_54, gX2_invert_56, gX2_invert_57, gX2_invert_60T, gX2_invert_60F, Rd_some, Wr_some, Cont_some, Cont_none, iso_O, true_and, hg_s, hg_n, hput_hput, Rx.1, sp_size Rx.1 Rx.2.1 Rx.sz]
  | succ e ih =>
    intro i h1 hi
    have f1 := hf i (by omega) (by omega)
    have m1 := em (P := P) (by omega) (x i)
    obtain ⟨g1, g2⟩ := hg ((k : Int) - i) (by omega) (by omega)
    have m2 := em (P := P) (by omega) (x i % P * g ((k : Int) - i))
    have m3 := em (P := P) (by omega) (sm (fun t => Xz P x n (t + 1) * g ((k : Int) - 1 - t)) (i - 1))
    have e1 : (sm (fun t => Xz P x n (t + 1) * g ((k : Int) - 1 - t)) (i - 1) % P + x i % P * g ((k : Int) - i) % P) % P = sm (fun t => Xz P x n (t + 1) * g ((k : Int) - 1 - t)) (i + 1 - 1) % P := by
      rw [show i + 1 - 1 = i - 1 + 1 by omega, sm]
      refine cg.ad cg.md ?_
      rw [show ((i - 1 : Nat) : Int) + 1 = (i : Int) by omega, show (k : Int) - 1 - ((i - 1 : Nat) : Int) = (k : Int) - i by omega, show Xz P x n i = x i % P from if_pos (by omega)]
      exact cg.md
    rw [gX2_invert_47]
    simp (disch := omega) only [gX2_invert_49, gX2_invert_51T, gX2_invert_51F, gX2_invert_54, gX2_invert_56, gX2_invert_57, gX2_invert_60T, gX2_invert_60F, gX2_invert_63, gX2_invert_64, gX2_invert_66, gX2_invert_67, gX2_invert_68, fl_2_0, gX2_invert_71, gX2_invert_73, aL_g, gX2_invert_74, gX2_invert_75, fl_6_0, gX2_invert_78, gX2_invert_80, gX2_invert_82, gX2_invert_83, gX2_invert_84, gX2_invert_87, gX2_invert_90, gX2_invert_92, gX2_invert_95, Rd_some, Wr_some, Cont_some, Cont_none, iso_O, true_and, hg_s, hg_n, hput_hput, Rx.1, sp_size Rx.1 Rx.2.1 Rx.sz, h4, h5, h16, h17, hp, f1, g1, sp_product hp hP, sp_sum hp hP, e1]
    exact ih (i + 1) (by omega) (by omega)
theorem lp_in1 (hp : hget H p = cO 3 [vl P]) (hP : 1 < P ∧ P < 1073741824) (hpp : 24 < p ∧ p < 28) (h4 : hget H 4 = cO 2 [.ref 5, .ref 6, .ref 7]) {rx cx : Nat} {lx n : Int} {x : Int → Int} (Rx : RW H rx cx lx n x) {N : Int} (hN : 1 ≤ N ∧ N ≤ 64) (h16 : hget H 16 = cO 6 [.ref 17, vi N]) {f : Int → Int} (h5 : hget H 5 = cL 64 f) (hf : ∀ j, 0 ≤ j → j < n → f j = x j % P) {s : Int} (hs : 0 ≤ s ∧ s < P) (hq : ∀ c, (∀ j, 0 ≤ j → j < N → c j = ser P s (Xz P x n) N.toNat j) → Q none (hput H 17 (cL 64 c))) : ∀ (e k : Nat) (c : Int → Int) (l7 l8 l9 : Option Value), 1 ≤ k → (k : Int) + e = N → (∀ j, 0 ≤ j → j < (k : Int) → c j = ser P s (Xz P x n) k j) → Go 22 32 [some (.ref 4), some (.ref rx), some (.ref p), some (.ref 16), some (vl s), none, some (vi (k : Int)), l7, l8, l9] [] (hput H 17 (cL 64 c)) Q := by
  have n1 := Rx.2.2.2.1
  have q1 := Rx.2.2.1
  have hp' : ∀ c, hget (hput H 17 c) p = cO 3 [vl P] := fun c => by rw [hg_n (by omega)]; exact hp
  have h4' : ∀ c, hget (hput H 17 c) 4 = cO 2 [.ref 5, .ref 6, .ref 7] := fun c => by rw [hg_n (by omega)]; exact h4
  have h5' : ∀ c, hget (hput H 17 c) 5 = cL 64 f := fun c => by rw [hg_n (by omega)]; exact h5
  have h16' : ∀ c, hget (hput H 17 c) 16 = cO 6 [.ref 17, vi N] := fun c => by rw [hg_n (by omega)]; exact h16
  have Rx' : ∀ c, RW (hput H 17 c) rx cx lx n x := fun c => Rx.fm (Fm.rf.put (lo := 17) (hi := 17) (by omega)) (by omega)
  intro e
  induction e with
  | zero =>
    intro k c l7 l8 l9 h1 hk hc
    rw [gX2_invert_32]
    simp (disch := omega) only [gX2_invert_34, gX2_invert_35, fl_6_1, gX2_invert_38T, gX2_invert_38F, gX2_invert_124, Rd_some, Wr_some, Cont_some, Cont_none, iso_O, true_and, hg_s, hg_n, hput_hput, h16']
    exact hq c (fun j j0 j1 => by rw [show N.toNat = k by omega]; exact hc j j0 (by omega))
  | succ e ih =>
    intro k c l7 l8 l9 h1 hk hc
    rw [gX2_invert_32]
    simp (disch := omega) only [gX2_invert_34, gX2_invert_35, fl_6_1, gX2_invert_38T, gX2_invert_38F, gX2_invert_41, gX2_invert_42, gX2_invert_44, gX2_invert_45, Rd_some, Wr_some, Cont_some, Cont_none, iso_O, true_and, hg_s, hg_n, hput_hput, h16']
    have key := lp_in2 (H := hput H 17 (cL 64 c)) (Q := Q) (hp' _) hP (h4' _) (Rx' _) (h16' _) (h5' _) hf hg_s (k := k) (by omega) (g := ser P s (Xz P x n) k) (fun j j0 j1 => ⟨hc j j0 j1, ser_r (by omega) k j⟩) (l4 := some (vl s)) (l5 := none) (min ((k : Int) + 1) n - 1).toNat 1 (Nat.le_refl 1) (by omega)
    rw [show 1 - 1 = 0 from rfl, sm, Int.zero_emod] at key
    refine key.mpr ?_
    have m1 := em (P := P) (by omega) (sm (fun t => Xz P x n (t + 1) * ser P s (Xz P x n) k ((k : Int) - 1 - t)) k)
    have m2 := em (P := P) (by omega) (0 - sm (fun t => Xz P x n (t + 1) * ser P s (Xz P x n) k ((k : Int) - 1 - t)) k % P)
    simp (disch := omega) only [gX2_invert_98, gX2_invert_99, fl_6_0, gX2_invert_102, gX2_invert_104, gX2_invert_105, gX2_invert_106, gX2_invert_107, gX2_invert_109, gX2_invert_112, gX2_invert_114, gX2_invert_117, sL_p, gX2_invert_118, gX2_invert_121, Rd_some, Wr_some, Cont_some, Cont_none, iso_O, true_and, hg_s, hg_n, hput_hput, h16', hp', sp_diff (hp' _) hP, sp_product (hp' _) hP]
    refine ih (k + 1) _ _ _ _ (by omega) (by omega) (fun j j0 j1 => ?_)
    rw [ser]
    unfold up
    by_cases ej : j = (k : Int)
    · rw [if_pos ej, if_pos ej, if_neg (by omega)]
      exact cg.ml (cg.md.tr (cg.sb cg.rf cg.md)) cg.rf
    · rw [if_neg ej, if_neg ej]; exact hc j j0 (by omega)
theorem sp_in (hp : hget H p = cO 3 [vl P]) (hP : 1 < P ∧ P < 1073741824) (hpp : 24 < p ∧ p < 28) (h4 : hget H 4 = cO 2 [.ref 5, .ref 6, .ref 7]) {rx cx : Nat} {lx n : Int} {x : Int → Int} (Rx : RW H rx cx lx n x) {N : Int} (hN : 1 ≤ N ∧ N ≤ 64) (h16 : hget H 16 = cO 6 [.ref 17, vi N]) {f g : Int → Int} (h5 : hget H 5 = cL 64 f) (h17 : hget H 17 = cL 64 g) (hq : ∀ F c, (∀ j, 0 ≤ j → j < N → c j = ser P ((x 0 % P) ^ (P - 2).toNat % P) (Xz P x n) N.toNat j) → Q none (hput (hput H 5 (cL 64 F)) 17 (cL 64 c))) : Go 22 0 [some (.ref 4), some (.ref rx), some (.ref p), some (.ref 16), none, none, none, none, none, none] [] H Q := by
  have n1 := Rx.2.2.2.1
  have q1 := Rx.2.2.1
  have ld := fun Q => sp_load (Q := Q) hp hP Rx.1 Rx.2.1 Rx.2.2.2.2 h5 (by omega) (by omega)
  simp (disch := omega) only [gX2_invert_0, gX2_invert_1, gX2_invert_2, gX2_invert_3, fl_2_0, gX2_invert_6, Rd_some, Wr_some, Cont_some, Cont_none, iso_O, true_and, hg_s, hg_n, hput_hput, h4, hp, ld]
  generalize hF : mix (fun j => x j % P) f n = F
  have vF : ∀ j, 0 ≤ j → j < n → F j = x j % P := fun j j0 j1 => by rw [← hF]; exact mix_in ⟨j0, j1⟩
  have f0 := vF 0 (by omega) (by omega)
  have m0 := em (P := P) (by omega) (x 0)
  have ms := em (P := P) (by omega) ((x 0 % P) ^ (P - 2).toNat)
  have hp' : ∀ c, hget (hput H 5 c) p = cO 3 [vl P] := fun c => by rw [hg_n (by omega)]; exact hp
  have h4' : ∀ c, hget (hput H 5 c) 4 = cO 2 [.ref 5, .ref 6, .ref 7] := fun c => by rw [hg_n (by omega)]; exact h4
  have h16' : ∀ c, hget (hput H 5 c) 16 = cO 6 [.ref 17, vi N] := fun c => by rw [hg_n (by omega)]; exact h16
  have h17' : ∀ c, hget (hput H 5 c) 17 = cL 64 g := fun c => by rw [hg_n (by omega)]; exact h17
  simp (disch := omega) only [gX2_invert_9, gX2_invert_10, gX2_invert_11, fl_2_0, gX2_invert_14, gX2_invert_15, aL_g, gX2_invert_16, gX2_invert_19, gX2_invert_21, gX2_invert_22, fl_6_0, gX2_invert_25, gX2_invert_26, gX2_invert_28, sL_p, gX2_invert_29, gX2_invert_30, Rd_some, Wr_some, Cont_some, Cont_none, iso_O, true_and, hg_s, hg_n, hput_hput, hp', h4', h16', h17', f0, sp_recip (hp' _) hP]
  refine lp_in1 (H := hput H 5 (cL 64 F)) (hp' _) hP hpp (h4' _) (Rx.fm (Fm.rf.put (lo := 5) (hi := 5) (by omega)) (by omega)) hN (h16' _) hg_s vF ms (fun c hc => hq F c hc) (N - 1).toNat 1 _ _ _ _ (Nat.le_refl 1) (by omega) (fun j j0 j1 => ?_)
  rw [show j = 0 by omega]
  show (x 0 % P) ^ (P - 2).toNat % P = (1 - 0) * _ % P
  rw [Int.sub_zero, Int.one_mul, Int.emod_emod]
end PO2

/-! Polynomials: quotients and rests -/
def dvP (P f : Int) (B : Int → Int) (k : Int) (A : Int → Int) (j : Int) : Int → Int := fun t => if k ≤ t ∧ t < k + j then (A t - f * B (t - k)) % P else A t
theorem dvP_up {P f : Int} {B A : Int → Int} {k j x : Int} (hj : 0 ≤ j) (hx : x = (A (k + j) - f * B j) % P) : up (dvP P f B k A j) (k + j) x = dvP P f B k A (j + 1) := by
  funext t
  unfold up dvP
  by_cases h : t = k + j
  · rw [if_pos h, if_pos (by omega), hx, h, show k + j - k = j by omega]
  · rw [if_neg h]
    by_cases h2 : k ≤ t ∧ t < k + j
    · rw [if_pos h2, if_pos (by omega)]
    · rw [if_neg h2, if_neg (by omega)]
theorem dvP_0 {P f : Int} {B A : Int → Int} {k : Int} : dvP P f B k A 0 = A := by
  funext t
  exact if_neg (by omega)
section PAR
variable {H : HP} {Q : Option Value → HP → Prop} {p : Nat} {P : Int}
def HD (H : HP) (A C : Int → Int) : HP := hput (hput H 5 (cL 64 A)) 17 (cL 64 C)
theorem HD_5 {A C : Int → Int} : hget (HD H A C) 5 = cL 64 A := by unfold HD; rw [hg_n (by omega), hg_s]
theorem HD_17 {A C : Int → Int} : hget (HD H A C) 17 = cL 64 C := hg_s
theorem HD_q {A C : Int → Int} {q : Nat} (h : q ≠ 5 ∧ q ≠ 17) : hget (HD H A C) q = hget H q := by unfold HD; rw [hg_n h.2, hg_n h.1]
theorem HD_p5 {A C A' : Int → Int} : hput (HD H A C) 5 (cL 64 A') = HD H A' C := by unfold HD; rw [hput_comm (by omega), hput_hput]
theorem HD_p17 {A C C' : Int → Int} : hput (HD H A C) 17 (cL 64 C') = HD H A C' := by unfold HD; rw [hput_hput]
theorem lp_pa2 (hp : hget H p = cO 3 [vl P]) (hP : 1 < P ∧ P < 1073741824) (hpp : 24 < p ∧ p < 28) (h4 : hget H 4 = cO 2 [.ref 5, .ref 6, .ref 7]) {A C B : Int → Int} (h6 : hget H 6 = cL 64 B) {g n k f : Int} (hg : 0 ≤ g ∧ g < 64) (hk : 0 ≤ k ∧ k + g < n ∧ n ≤ 64) (hA : mo P A n) (hB : mo P B (g + 1)) (hf : 0 ≤ f ∧ f < P) {l1 l2 l4 l5 l7 l8 : Option Value} : ∀ (e : Nat) (j : Int), j + e = g + 1 → 0 ≤ j → (Go 23 83 [some (.ref 4), l1, l2, some (.ref p), l4, l5, some (vi g), l7, l8, some (vi k), some (vl f), none, some (vi j)] [] (HD H (dvP P f B k A j) C) Q ↔ Go 23 133 [some (.ref 4), l1, l2, some (.ref p), l4, l5, some (vi g), l7, l8, some (vi k), some (vl f), none, some (vi (g + 1))] [] (HD H (dvP P f B k A (g + 1)) C) Q) := by
  have hp' : ∀ A C, hget (HD H A C) p = cO 3 [vl P] := fun A C => by rw [HD_q (by omega)]; exact hp
  have h4' : ∀ A C, hget (HD H A C) 4 = cO 2 [.ref 5, .ref 6, .ref 7] := fun A C => by rw [HD_q (by omega)]; exact h4
  have h6' : ∀ A C, hget (HD H A C) 6 = cL 64 B := fun A C => by rw [HD_q (by omega)]; exact h6
  intro e
  induction e with
  | zero =>
    intro j hj h0
    rw [show j = g + 1 by omega, gX2_part_83]
    simp (disch := omega) only [gX2_part_85, gX2_part_87T, gX2_part_87F, Rd_some, Wr_some, Cont_some, Cont_none, iso_O, true_and, hg_s, hg_n, hput_hput]
  | succ e ih =>
    intro j hj h0
    have m1 := hA (k + j) (by omega) (by omega)
    have m2 := hB j h0 (by omega)
    have m3 := em (P := P) (by omega) (f * B j)
    have e1 : dvP P f B k A j (k + j) = A (k + j) := if_neg (by omega)
    rw [gX2_part_83]
    simp (disch := omega) only [gX2_part_85, gX2_part_87T, gX2_part_87F, gX2_part_90, gX2_part_91, fl_2_0, gX2_part_94, gX2_part_96, gX2_part_98, gX2_part_99, gX2_part_100, gX2_part_101, gX2_part_104, gX2_part_106, gX2_part_108, gX2_part_109, aL_g, gX2_part_110, gX2_part_111, gX2_part_113, gX2_part_114, fl_2_1, gX2_part_117, gX2_part_119, gX2_part_120, gX2_part_123, gX2_part_126, sL_p, gX2_part_127, gX2_part_130, Rd_some, Wr_some, Cont_some, Cont_none, iso_O, true_and, hg_s, hg_n, hput_hput, hp', h4', h6', HD_5, HD_p5, e1, sp_product (hp' _ _) hP, sp_diff (hp' _ _) hP]
    rw [dvP_up h0 (cg.sb cg.rf cg.md)]
    exact ih (j + 1) (by omega) (by omega)
theorem lp_pa1 (hp : hget H p = cO 3 [vl P]) (hP : 1 < P ∧ P < 1073741824) (hpp : 24 < p ∧ p < 28) (h4 : hget H 4 = cO 2 [.ref 5, .ref 6, .ref 7]) {B A0 B0 : Int → Int} (h6 : hget H 6 = cL 64 B) {g q : Nat} {n s u : Int} (hg : g < 64) (hq1 : 0 < q → (q : Int) + g ≤ n) (hn : n ≤ 64) (hB : mo P B ((g : Int) + 1)) (hBB : ∀ j, 0 ≤ j → j ≤ (g : Int) → B j = B0 j) (hA0 : mo P A0 n) (hs : 0 ≤ s ∧ s < P) (h16 : hget H 16 = cO 6 [.ref 17, vi u]) {l1 l2 l5 : Option Value} (hq : ∀ A C l9 l10 l11 l12, (∀ j, 0 ≤ j → j < n → A j = dv P s B0 g A0 q q j) → (∀ j : Nat, j < q → C j = dq P s B0 g A0 q j) → Go 23 139 [some (.ref 4), l1, l2, some (.ref p), some (.ref 16), l5, some (vi (g : Int)), some (vl s), none, l9, l10, l11, l12] [] (HD H A C) Q) : ∀ (f e : Nat) (A C : Int → Int) (l10 l11 l12 : Option Value), e + f = q → (∀ j, 0 ≤ j → j < n → A j = dv P s B0 g A0 q e j) → (∀ j : Nat, q - e ≤ j → j < q → C j = dq P s B0 g A0 q j) → Go 23 47 [some (.ref 4), l1, l2, some (.ref p), some (.ref 16), l5, some (vi (g : Int)), some (vl s), none, some (vi ((q : Int) - e - 1)), l10, l11, l12] [] (HD H A C) Q := by
  have hp' : ∀ A C, hget (HD H A C) p = cO 3 [vl P] := fun A C => by rw [HD_q (by omega)]; exact hp
  have h4' : ∀ A C, hget (HD H A C) 4 = cO 2 [.ref 5, .ref 6, .ref 7] := fun A C => by rw [HD_q (by omega)]; exact h4
  have h16' : ∀ A C, hget (HD H A C) 16 = cO 6 [.ref 17, vi u] := fun A C => by rw [HD_q (by omega)]; exact h16
  intro f
  induction f with
  | zero =>
    intro e A C l10 l11 l12 he hA hC
    rw [show (q : Int) - e - 1 = -1 by omega, gX2_part_47]
    simp (disch := omega) only [gX2_part_49T, gX2_part_49F, Rd_some, Wr_some, Cont_some, Cont_none, iso_O, true_and, hg_s, hg_n, hput_hput]
    rw [show e = q by omega] at hA hC
    exact hq A C _ _ _ _ hA (fun j hj => hC j (by omega) hj)
  | succ f ih =>
    intro e A C l10 l11 l12 he hA hC
    have hqn := hq1 (by omega)
    have hmA : mo P A n := fun j j0 j1 => by rw [hA j j0 j1]; exact dv_r (by omega) hA0 e j j0 j1
    have ek : (q : Int) - e - 1 = ((q - (e + 1) : Nat) : Int) := by omega
    rw [ek]
    generalize hk : q - (e + 1) = k at *
    have m1 := hmA ((k : Int) + g) (by omega) (by omega)
    have m2 := em (P := P) (by omega) (A ((k : Int) + g) * s)
    rw [gX2_part_47]
    simp (disch := omega) only [gX2_part_49T, gX2_part_49F, gX2_part_52, gX2_part_53, gX2_part_54, fl_2_0, gX2_part_57, gX2_part_59, gX2_part_61, gX2_part_62, aL_g, gX2_part_63, gX2_part_65, gX2_part_68, gX2_part_70, gX2_part_72, fl_6_0, gX2_part_75, gX2_part_77, gX2_part_79, sL_p, gX2_part_80, gX2_part_81, Rd_some, Wr_some, Cont_some, Cont_none, iso_O, true_and, hg_s, hg_n, hput_hput, hp', h4', h16', HD_5, HD_17, HD_p17, sp_product (hp' _ _) hP]
    have key := lp_pa2 (H := H) (Q := Q) (A := A) (C := up C (k : Int) (A ((k : Int) + g) * s % P)) hp hP hpp h4 h6 (g := (g : Int)) (n := n) (k := (k : Int)) (f := A ((k : Int) + g) * s % P) (by omega) (by omega) hmA hB m2 (l1 := l1) (l2 := l2) (l4 := some (.ref 16)) (l5 := l5) (l7 := some (vl s)) (l8 := none) (g + 1) 0 (by omega) (by omega)
    rw [dvP_0] at key
    refine key.mpr ?_
    simp (disch := omega) only [gX2_part_133, gX2_part_136, Rd_some, Wr_some, Cont_some, Cont_none, iso_O, true_and, hg_s, hg_n, hput_hput]
    have := ih (e + 1) (dvP P (A ((k : Int) + g) * s % P) B k A ((g : Int) + 1)) (up C (k : Int) (A ((k : Int) + g) * s % P)) (some (vl (A ((k : Int) + g) * s % P))) none (some (vi ((g : Int) + 1))) (by omega) (fun j j0 j1 => ?_) (fun j j0 j1 => ?_)
    · rw [show (q : Int) - ((e + 1 : Nat) : Int) - 1 = (k : Int) + -1 by omega] at this
      exact this
    · rw [dv]
      unfold dvP dvA
      rw [hk]
      by_cases hj : (k : Int) ≤ j ∧ j ≤ (k : Int) + g
      · rw [if_pos (by omega), if_pos hj, hA j j0 j1, hA _ (by omega) (by omega), hBB _ (by omega) (by omega)]
      · rw [if_neg (by omega), if_neg hj]; exact hA j j0 j1
    · unfold up
      by_cases ej : (j : Int) = (k : Int)
      · rw [if_pos ej, show j = k by omega]
        unfold dq
        rw [hA _ (by omega) (by omega), show q - (k + 1) = e by omega]
      · rw [if_neg ej]; exact hC j (by omega) j1
theorem lp_pa3 (h4 : hget H 4 = cO 2 [.ref 5, .ref 6, .ref 7]) {rx cx : Nat} {lx n : Int} {x : Int → Int} (Rx : RW H rx cx lx n x) {A r : Int → Int} (h5 : hget H 5 = cL 64 A) {g u : Int} (hg : 0 ≤ g ∧ g ≤ 64) (h18 : hget H 18 = cO 6 [.ref 19, vi u]) {l2 l3 l4 l7 l8 l10 l11 l12 : Option Value} : ∀ (e : Nat) (j : Int), j + e = g → 0 ≤ j → (Go 23 142 [some (.ref 4), some (.ref rx), l2, l3, l4, some (.ref 18), some (vi g), l7, l8, some (vi j), l10, l11, l12] [] (hput H 19 (cL 64 (mix (fun j => if j < n then A j else 0) r j))) Q ↔ Q none (hput H 19 (cL 64 (mix (fun j => if j < n then A j else 0) r g)))) := by
  have n1 := Rx.2.2.2.1
  have h4' : ∀ c, hget (hput H 19 c) 4 = cO 2 [.ref 5, .ref 6, .ref 7] := fun c => by rw [hg_n (by omega)]; exact h4
  have h5' : ∀ c, hget (hput H 19 c) 5 = cL 64 A := fun c => by rw [hg_n (by omega)]; exact h5
  have h18' : ∀ c, hget (hput H 19 c) 18 = cO 6 [.ref 19, vi u] := fun c => by rw [hg_n (by omega)]; exact h18
  have Rx' : ∀ c, RW (hput H 19 c) rx cx lx n x := fun c => Rx.fm (Fm.rf.put (lo := 19) (hi := 19) (by omega)) (by omega)
  intro e
  induction e with
  | zero =>
    intro j hj h0
    rw [show j = g by omega, gX2_part_142]
    simp (disch := omega) only [gX2_part_144, gX2_part_146T, gX2_part_146F, gX2_part_183, Rd_some, Wr_some, Cont_some, Cont_none, iso_O, true_and, hg_s, hg_n, hput_hput]
  | succ e ih =>
    intro j hj h0
    rw [gX2_part_142]
    by_cases hjn : j < n
    · simp (disch := omega) only [gX2_part_144, gX2_part_146T, gX2_part_146F, gX2_part_149, gX2_part_151, fl_6_0, gX2_part_154, gX2_part_156, gX2_part_158, gX2_part_159, gX2_part_162T, gX2_part_162F, gX2_part_165, gX2_part_166, fl_2_0, gX2_part_169, gX2_part_171, aL_g, gX2_part_172, gX2_part_175, gX2_part_176, sL_p, gX2_part_177, gX2_part_180, Rd_some, Wr_some, Cont_some, Cont_none, iso_O, true_and, hg_s, hg_n, hput_hput, (Rx' _).1, sp_size (Rx' _).1 (Rx' _).2.1 Rx.sz, h4', h5', h18']
      rw [mix_up h0 (by rw [if_pos hjn])]
      exact ih (j + 1) (by omega) (by omega)
    · simp (disch := omega) only [gX2_part_144, gX2_part_146T, gX2_part_146F, gX2_part_149, gX2_part_151, fl_6_0, gX2_part_154, gX2_part_156, gX2_part_158, gX2_part_159, gX2_part_162T, gX2_part_162F, gX2_part_165, gX2_part_166, fl_2_0, gX2_part_169, gX2_part_171, aL_g, gX2_part_172, gX2_part_175, gX2_part_176, sL_p, gX2_part_177, gX2_part_180, Rd_some, Wr_some, Cont_some, Cont_none, iso_O, true_and, hg_s, hg_n, hput_hput, (Rx' _).1, sp_size (Rx' _).1 (Rx' _).2.1 Rx.sz, h18']
      rw [mix_up h0 (by rw [if_neg hjn])]
      exact ih (j + 1) (by omega) (by omega)
theorem sp_part (hp : hget H p = cO 3 [vl P]) (hP : 1 < P ∧ P < 1073741824) (hpp : 24 < p ∧ p < 28) (h4 : hget H 4 = cO 2 [.ref 5, .ref 6, .ref 7]) {rx cx ry cy : Nat} {lx n ly m : Int} {x y : Int → Int} (Rx : RW H rx cx lx n x) (Ry : RW H ry cy ly m y) {g q : Nat} (hg : (g : Int) < m) (hqe : (q : Int) = max (n - g) 0) (h16 : hget H 16 = cO 6 [.ref 17, vi (q : Int)]) (h18 : hget H 18 = cO 6 [.ref 19, vi (g : Int)]) {f5 f6 c17 c19 : Int → Int} (h5 : hget H 5 = cL 64 f5) (h6 : hget H 6 = cL 64 f6) (h17 : hget H 17 = cL 64 c17) (h19 : hget H 19 = cL 64 c19) (hq : ∀ H', H'.1 = H.1 → H'.2.1 = H.2.1 → (∀ a, a ≠ 5 → a ≠ 6 → a ≠ 17 → a ≠ 19 → hget H' a = hget H a) → (∃ f, hget H' 5 = cL 64 f) → (∃ f, hget H' 6 = cL 64 f) → (∃ C, hget H' 17 = cL 64 C ∧ ∀ j : Nat, j < q → C j = dq P ((y g % P) ^ (P - 2).toNat % P) (Xz P y m) g (Xz P x n) q j) → (∃ R, hget H' 19 = cL 64 R ∧ ∀ j : Nat, j < g → R j = dv P ((y g % P) ^ (P - 2).toNat % P) (Xz P y m) g (Xz P x n) q q j) → Q none H') : Go 23 0 [some (.ref 4), some (.ref rx), some (.ref ry), some (.ref p), some (.ref 16), some (.ref 18), none, none, none, none, none, none, none] [] H Q := by
  have n1 := Rx.2.2.2.1
  have n2 := Ry.2.2.2.1
  have q1 := Rx.2.2.1
  have q2 := Ry.2.2.1
  have ld := fun Q => sp_load (Q := Q) hp hP Rx.1 Rx.2.1 Rx.2.2.2.2 h5 (by omega) (by omega)
  simp (disch := omega) only [gX2_part_0, gX2_part_2, fl_6_1, gX2_part_5, gX2_part_7, gX2_part_8, gX2_part_9, gX2_part_10, fl_2_0, gX2_part_13, Rd_some, Wr_some, Cont_some, Cont_none, iso_O, true_and, hg_s, hg_n, hput_hput, h18, h4, hp, ld]
  generalize hF : mix (fun j => x j % P) f5 n = F
  have vF : ∀ j, 0 ≤ j → j < n → F j = x j % P := fun j j0 j1 => by rw [← hF]; exact mix_in ⟨j0, j1⟩
  have hp' : ∀ c, hget (hput H 5 c) p = cO 3 [vl P] := fun c => by rw [hg_n (by omega)]; exact hp
  have h4' : ∀ c, hget (hput H 5 c) 4 = cO 2 [.ref 5, .ref 6, .ref 7] := fun c => by rw [hg_n (by omega)]; exact h4
  have Ry' : ∀ c, RW (hput H 5 c) ry cy ly m y := fun c => Ry.fm (Fm.rf.put (lo := 5) (hi := 5) (by omega)) (by omega)
  have ld2 := fun Q c => sp_load (H := hput H 5 c) (Q := Q) (f := f6) (hp' c) hP (Ry' c).1 (Ry' c).2.1 Ry.2.2.2.2 (t := 6) (by rw [hg_n (by omega)]; exact h6) (by omega) (by omega)
  simp (disch := omega) only [gX2_part_16, gX2_part_17, gX2_part_18, gX2_part_19, fl_2_1, gX2_part_22, Rd_some, Wr_some, Cont_some, Cont_none, iso_O, true_and, hg_s, hg_n, hput_hput, h4', hp', ld2]
  generalize hG : mix (fun j => y j % P) f6 m = G
  have vG : ∀ j, 0 ≤ j → j < m → G j = y j % P := fun j j0 j1 => by rw [← hG]; exact mix_in ⟨j0, j1⟩
  have g0 := vG g (by omega) (by omega)
  have m0 := em (P := P) (by omega) (y g)
  have ms := em (P := P) (by omega) ((y g % P) ^ (P - 2).toNat)
  have xp : ∀ c d, hget (hput (hput H 5 c) 6 d) p = cO 3 [vl P] := fun c d => by rw [hg_n (by omega)]; exact hp' c
  have x4 : ∀ c d, hget (hput (hput H 5 c) 6 d) 4 = cO 2 [.ref 5, .ref 6, .ref 7] := fun c d => by rw [hg_n (by omega)]; exact h4' c
  have x16 : ∀ c d, hget (hput (hput H 5 c) 6 d) 16 = cO 6 [.ref 17, vi (q : Int)] := fun c d => by rw [hg_n (by omega), hg_n (by omega)]; exact h16
  simp (disch := omega) only [gX2_part_25, gX2_part_26, gX2_part_27, fl_2_1, gX2_part_30, gX2_part_32, aL_g, gX2_part_33, gX2_part_36, gX2_part_38, gX2_part_40, fl_6_1, gX2_part_43, gX2_part_44, gX2_part_45, Rd_some, Wr_some, Cont_some, Cont_none, iso_O, true_and, hg_s, hg_n, hput_hput, xp, x4, x16, g0, sp_recip (xp _ _) hP]
  generalize hs : (y g % P) ^ (P - 2).toNat % P = s at *
  have eH : hput (hput H 5 (cL 64 F)) 6 (cL 64 G) = HD (hput (hput H 5 (cL 64 F)) 6 (cL 64 G)) F c17 := by
    unfold HD
    have e5 : hput (hput (hput H 5 (cL 64 F)) 6 (cL 64 G)) 5 (cL 64 F) = hput (hput H 5 (cL 64 F)) 6 (cL 64 G) := hput_same (by rw [hg_n (by omega), hg_s])
    have e17 : hput (hput (hput H 5 (cL 64 F)) 6 (cL 64 G)) 17 (cL 64 c17) = hput (hput H 5 (cL 64 F)) 6 (cL 64 G) := hput_same (by rw [hg_n (by omega), hg_n (by omega)]; exact h17)
    rw [e5, e17]
  have hA0 : mo P (Xz P x n) n := fun j _ _ => Xz_r (by omega) x n j
  have key := lp_pa1 (H := hput (hput H 5 (cL 64 F)) 6 (cL 64 G)) (Q := Q) (B := G) (A0 := Xz P x n) (B0 := Xz P y m) (g := g) (q := q) (n := n) (s := s) (l1 := some (.ref rx)) (l2 := some (.ref ry)) (l5 := some (.ref 18)) (xp _ _) hP hpp (x4 _ _) hg_s (by omega) (by omega) (by omega) (fun j j0 j1 => by rw [vG j j0 (by omega)]; exact em (by omega) _) (fun j j0 j1 => by rw [vG j j0 (by omega)]; exact (if_pos (by omega)).symm) hA0 ms (x16 _ _) (fun A C l9 l10 l11 l12 vA vC => by
    simp (disch := omega) only [gX2_part_139, gX2_part_140, Rd_some, Wr_some, Cont_some, Cont_none, iso_O, true_and, hg_s, hg_n, hput_hput]
    have y4 : hget (HD (hput (hput H 5 (cL 64 F)) 6 (cL 64 G)) A C) 4 = cO 2 [.ref 5, .ref 6, .ref 7] := by rw [HD_q (by omega)]; exact x4 _ _
    have y18 : hget (HD (hput (hput H 5 (cL 64 F)) 6 (cL 64 G)) A C) 18 = cO 6 [.ref 19, vi (g : Int)] := by rw [HD_q (by omega), hg_n (by omega), hg_n (by omega)]; exact h18
    have y19 : hget (HD (hput (hput H 5 (cL 64 F)) 6 (cL 64 G)) A C) 19 = cL 64 c19 := by rw [HD_q (by omega), hg_n (by omega), hg_n (by omega)]; exact h19
    have yR : RW (HD (hput (hput H 5 (cL 64 F)) 6 (cL 64 G)) A C) rx cx lx n x := ⟨by rw [HD_q (by omega), hg_n (by omega), hg_n (by omega)]; exact Rx.1, by rw [HD_q (by omega), hg_n (by omega), hg_n (by omega)]; exact Rx.2.1, Rx.2.2⟩
    have eH2 : HD (hput (hput H 5 (cL 64 F)) 6 (cL 64 G)) A C = hput (HD (hput (hput H 5 (cL 64 F)) 6 (cL 64 G)) A C) 19 (cL 64 (mix (fun j => if j < n then A j else 0) c19 0)) := by
      rw [mix_0]
      exact (hput_same y19).symm
    rw [eH2, lp_pa3 (g := (g : Int)) y4 yR HD_5 (by omega) y18 g 0 (by omega) (by omega)]
    refine hq _ rfl rfl (fun a a1 a2 a3 a4 => by rw [hg_n a4, HD_q ⟨a1, a3⟩, hg_n a2, hg_n a1]) ⟨A, by rw [hg_n (by omega)]; exact HD_5⟩ ⟨G, by rw [hg_n (by omega), HD_q (by omega), hg_s]⟩ ⟨C, by rw [hg_n (by omega)]; exact HD_17, vC⟩ ⟨_, hg_s, fun j hj => ?_⟩
    rw [mix_in (by omega)]
    by_cases hjn : (j : Int) < n
    · rw [if_pos hjn]; exact vA j (by omega) hjn
    · rw [if_neg hjn, dv_hi (n := n) (by omega) q (Nat.le_refl q) (by omega)]
      exact (if_neg hjn).symm) q 0 F c17 none none none (by omega) (fun j j0 j1 => by rw [vF j j0 j1]; exact (if_pos j1).symm) (fun j j0 j1 => by omega)
  rw [← eH, show (q : Int) - ((0 : Nat) : Int) - 1 = (q : Int) - 1 by omega] at key
  exact key
end PAR

/-! Polynomials: what passes through points -/
/-- times (X - a) -/
def lin (a : Int) (f : Int → Int) : Int → Int := fun k => (if 0 < k then f (k - 1) else 0) - a * f k
theorem lin_cm (a b : Int) (f : Int → Int) : lin a (lin b f) = lin b (lin a f) := by
  funext k
  unfold lin
  have e : ∀ t, a * (b * t) = b * (a * t) := fun t => Int.mul_left_comm a b t
  by_cases h : 0 < k
  · by_cases h2 : 0 < k - 1
    · simp only [if_pos h, if_pos h2, Int.mul_sub, e]; omega
    · simp only [if_pos h, if_neg h2, Int.mul_sub, e]; omega
  · simp only [if_neg h, Int.mul_sub, e, Int.mul_zero]
/-- the product of (X - a j), j < m; all, and all but j = i -/
def ww (a : Int → Int) : Nat → Int → Int
  | 0 => un
  | m + 1 => lin (a m) (ww a m)
def bs (a : Int → Int) (i : Nat) : Nat → Int → Int
  | 0 => un
  | m + 1 => if m = i then bs a i m else lin (a m) (bs a i m)
/-- the product of (a i - a j), j < m, j not i -/
def und (a : Int → Int) (i : Nat) : Nat → Int
  | 0 => 1
  | m + 1 => if m = i then und a i m else und a i m * (a i - a m)
theorem bs_w {a : Int → Int} {i m : Nat} (h : m ≤ i) : bs a i m = ww a m := by
  induction m with
  | zero => rfl
  | succ m ih => rw [bs, if_neg (by omega), ww, ih (by omega)]
theorem w_bs {a : Int → Int} {i m : Nat} (h : i < m) : ww a m = lin (a i) (bs a i m) := by
  induction m with
  | zero => omega
  | succ m ih =>
    by_cases e : m = i
    · rw [bs, if_pos e, ww, e, bs_w (Nat.le_refl i)]
    · rw [bs, if_neg e, ww, ih (by omega), lin_cm]
theorem ww_0 {a : Int → Int} {m : Nat} {k : Int} (h : (m : Int) < k) : ww a m k = 0 := by
  induction m generalizing k with
  | zero => exact if_neg (by omega)
  | succ m ih =>
    show (if 0 < k then ww a m (k - 1) else 0) - a m * ww a m k = 0
    rw [if_pos (by omega), ih (by omega), ih (by omega), Int.mul_zero]
    rfl
theorem bs_0 {a : Int → Int} {i m : Nat} {k : Int} (h : (m : Int) < k ∨ (i < m ∧ (m : Int) ≤ k)) : bs a i m k = 0 := by
  induction m generalizing k with
  | zero => exact if_neg (by omega)
  | succ m ih =>
    rw [bs]
    by_cases e : m = i
    · rw [if_pos e]
      exact ih (Or.inl (by omega))
    · rw [if_neg e]
      show (if 0 < k then bs a i m (k - 1) else 0) - a m * bs a i m k = 0
      rw [if_pos (by omega), ih (by omega), ih (by omega), Int.mul_zero]
      rfl
theorem bs_ev (a : Int → Int) (i m : Nat) : sm (fun k => bs a i m k * a i ^ k.toNat) (m + 1) = und a i m := by
  induction m with
  | zero =>
    rw [sm, sm]
    show (0 : Int) + (if ((0 : Nat) : Int) = 0 then 1 else 0) * a i ^ ((0 : Nat) : Int).toNat = 1
    rw [if_pos (show ((0 : Nat) : Int) = 0 from rfl), show ((0 : Nat) : Int).toNat = 0 from rfl, Int.pow_zero]
    rfl
  | succ m ih =>
    by_cases e : m = i
    · rw [sm, und, if_pos e, bs, if_pos e, ih, bs_0 (k := ((m + 1 : Nat) : Int)) (Or.inl (by omega)), Int.zero_mul, Int.add_zero]
    · rw [und, if_neg e, bs, if_neg e, ← ih]
      have h1 : sm (fun k => lin (a m) (bs a i m) k * a i ^ k.toNat) (m + 1 + 1) = sm (fun k => (if 0 < k then bs a i m (k - 1) else 0) * a i ^ k.toNat) (m + 1 + 1) - a m * sm (fun k => bs a i m k * a i ^ k.toNat) (m + 1 + 1) := by
        rw [← sm_mul]
        have : ∀ N, sm (fun k => lin (a m) (bs a i m) k * a i ^ k.toNat) N = sm (fun k => (if 0 < k then bs a i m (k - 1) else 0) * a i ^ k.toNat) N - sm (fun k => a m * (bs a i m k * a i ^ k.toNat)) N := by
          intro N
          induction N with
          | zero => rfl
          | succ N ihN =>
            rw [sm, sm, sm, ihN]
            unfold lin
            rw [Int.sub_mul, Int.mul_assoc]
            omega
        exact this _
      have h2 : sm (fun k => (if 0 < k then bs a i m (k - 1) else 0) * a i ^ k.toNat) (m + 1 + 1) = a i * sm (fun k => bs a i m k * a i ^ k.toNat) (m + 1) := by
        rw [show m + 1 + 1 = 1 + (m + 1) by omega, sm_split, ← sm_mul]
        rw [show sm (fun k => (if 0 < k then bs a i m (k - 1) else 0) * a i ^ k.toNat) 1 = 0 by rw [sm, sm, if_neg (by decide), Int.zero_mul]; rfl, Int.zero_add]
        refine sm_cN fun k hk => ?_
        rw [if_pos (by omega), show ((1 : Nat) : Int) + (k : Int) - 1 = (k : Int) by omega, show (((1 : Nat) : Int) + (k : Int)).toNat = k + 1 by omega, Int.toNat_natCast, Int.pow_succ]
        ac_rfl
      have h3 : sm (fun k => bs a i m k * a i ^ k.toNat) (m + 1 + 1) = sm (fun k => bs a i m k * a i ^ k.toNat) (m + 1) := by
        rw [sm, bs_0 (k := ((m + 1 : Nat) : Int)) (Or.inl (by omega)), Int.zero_mul, Int.add_zero]
      rw [h1, h2, h3, ← Int.sub_mul, Int.mul_comm]
section THR
variable {H : HP} {Q : Option Value → HP → Prop} {p : Nat} {P : Int}
theorem lp_fw2 (hp : hget H p = cO 3 [vl P]) (hP : 1 < P ∧ P < 1073741824) (hpp : 24 < p ∧ p < 28) (h4 : hget H 4 = cO 2 [.ref 5, .ref 6, .ref 7]) {f a : Int → Int} (h5 : hget H 5 = cL 64 f) {i : Nat} (hi : i < 64) (hf : f i = a i ∧ 0 ≤ a i ∧ a i < P) {l1 : Option Value} (hq : ∀ c l4, (∀ j, 1 ≤ j → j ≤ (i : Int) + 1 → c j = ww a (i + 1) j % P) → c 0 = ww a i 0 % P → Go 26 79 [some (.ref 4), l1, some (.ref p), some (vi (i : Int)), l4] [] (hput H 7 (cL 65 c)) Q) : ∀ (k : Nat) (c : Int → Int), k ≤ i → (∀ j, 0 ≤ j → j ≤ (k : Int) → c j = ww a i j % P) → (∀ j, (k : Int) < j → j ≤ (i : Int) + 1 → c j = ww a (i + 1) j % P) → Go 26 31 [some (.ref 4), l1, some (.ref p), some (vi (i : Int)), some (vi (k : Int))] [] (hput H 7 (cL 65 c)) Q := by
  have hp' : ∀ c, hget (hput H 7 c) p = cO 3 [vl P] := fun c => by rw [hg_n (by omega)]; exact hp
  have h4' : ∀ c, hget (hput H 7 c) 4 = cO 2 [.ref 5, .ref 6, .ref 7] := fun c => by rw [hg_n (by omega)]; exact h4
  have h5' : ∀ c, hget (hput H 7 c) 5 = cL 64 f := fun c => by rw [hg_n (by omega)]; exact h5
  intro k
  induction k with
  | zero =>
    intro c hk h1 h2
    rw [gX2_fillWhole_31]
    simp (disch := omega) only [gX2_fillWhole_33T, gX2_fillWhole_33F, Rd_some, Wr_some, Cont_some, Cont_none, iso_O, true_and, hg_s, hg_n, hput_hput]
    exact hq c _ (fun j j0 j1 => h2 j (by omega) j1) (h1 0 (by omega) (by omega))
  | succ k ih =>
    intro c hk h1 h2
    have c1 := h1 ((k + 1 : Nat) : Int) (by omega) (by omega)
    have c0 := h1 (((k + 1 : Nat) : Int) - 1) (by omega) (by omega)
    have m1 := em (P := P) (by omega) (ww a i ((k + 1 : Nat) : Int))
    have m0 := em (P := P) (by omega) (ww a i (((k + 1 : Nat) : Int) - 1))
    have m2 := em (P := P) (by omega) (a i * (ww a i ((k + 1 : Nat) : Int) % P))
    have f1 := hf.1
    rw [gX2_fillWhole_31]
    simp (disch := omega) only [gX2_fillWhole_33T, gX2_fillWhole_33F, gX2_fillWhole_36, gX2_fillWhole_37, fl_2_2, gX2_fillWhole_40, gX2_fillWhole_42, gX2_fillWhole_43, gX2_fillWhole_44, gX2_fillWhole_47, gX2_fillWhole_49, gX2_fillWhole_50, gX2_fillWhole_51, aL_g, gX2_fillWhole_52, gX2_fillWhole_53, gX2_fillWhole_54, fl_2_0, gX2_fillWhole_57, gX2_fillWhole_58, gX2_fillWhole_59, gX2_fillWhole_60, gX2_fillWhole_63, gX2_fillWhole_65, gX2_fillWhole_66, gX2_fillWhole_69, gX2_fillWhole_72, sL_p, gX2_fillWhole_73, gX2_fillWhole_76, Rd_some, Wr_some, Cont_some, Cont_none, iso_O, true_and, hg_s, hg_n, hput_hput, hp', h4', h5', f1, c0, c1, sp_product (hp' _) hP, sp_diff (hp' _) hP]
    rw [show ((k + 1 : Nat) : Int) + -1 = (k : Int) by omega]
    refine ih _ (by omega) (fun j j0 j1 => ?_) (fun j j0 j1 => ?_)
    · unfold up
      rw [if_neg (by omega)]
      exact h1 j j0 (by omega)
    · unfold up
      by_cases e : j = ((k + 1 : Nat) : Int)
      · rw [if_pos e, e]
        show _ = ((if 0 < ((k + 1 : Nat) : Int) then ww a i (((k + 1 : Nat) : Int) - 1) else 0) - a i * ww a i ((k + 1 : Nat) : Int)) % P
        rw [if_pos (by omega)]
        exact cg.sb cg.md (cg.md.tr (cg.rf.ml cg.md))
      · rw [if_neg e]; exact h2 j (by omega) j1
theorem lp_fw1 (hp : hget H p = cO 3 [vl P]) (hP : 1 < P ∧ P < 1073741824) (hpp : 24 < p ∧ p < 28) (h4 : hget H 4 = cO 2 [.ref 5, .ref 6, .ref 7]) {f a : Int → Int} (h5 : hget H 5 = cL 64 f) {n : Int} (hn : 0 ≤ n ∧ n ≤ 64) (hf : ∀ j, 0 ≤ j → j < n → f j = a j ∧ 0 ≤ a j ∧ a j < P) (hq : ∀ c, (∀ j, 0 ≤ j → j ≤ n → c j = ww a n.toNat j % P) → Q none (hput H 7 (cL 65 c))) : ∀ (e i : Nat) (c : Int → Int) (l4 : Option Value), (i : Int) + e = n → (∀ j, 0 ≤ j → j ≤ (i : Int) → c j = ww a i j % P) → Go 26 9 [some (.ref 4), some (vi n), some (.ref p), some (vi (i : Int)), l4] [] (hput H 7 (cL 65 c)) Q := by
  have hp' : ∀ c, hget (hput H 7 c) p = cO 3 [vl P] := fun c => by rw [hg_n (by omega)]; exact hp
  have h4' : ∀ c, hget (hput H 7 c) 4 = cO 2 [.ref 5, .ref 6, .ref 7] := fun c => by rw [hg_n (by omega)]; exact h4
  have h5' : ∀ c, hget (hput H 7 c) 5 = cL 64 f := fun c => by rw [hg_n (by omega)]; exact h5
  intro e
  induction e with
  | zero =>
    intro i c l4 hi hc
    rw [gX2_fillWhole_9]
    simp (disch := omega) only [gX2_fillWhole_10, gX2_fillWhole_11T, gX2_fillWhole_11F, gX2_fillWhole_112, Rd_some, Wr_some, Cont_some, Cont_none, iso_O, true_and, hg_s, hg_n, hput_hput]
    exact hq c (fun j j0 j1 => by rw [show n.toNat = i by omega]; exact hc j j0 (by omega))
  | succ e ih =>
    intro i c l4 hi hc
    have fi := hf i (by omega) (by omega)
    have ci := hc i (by omega) (by omega)
    have mi := em (P := P) (by omega) (ww a i i)
    rw [gX2_fillWhole_9]
    simp (disch := omega) only [gX2_fillWhole_10, gX2_fillWhole_11T, gX2_fillWhole_11F, gX2_fillWhole_14, gX2_fillWhole_15, fl_2_2, gX2_fillWhole_18, gX2_fillWhole_19, gX2_fillWhole_20, gX2_fillWhole_21, gX2_fillWhole_22, gX2_fillWhole_25, gX2_fillWhole_26, aL_g, gX2_fillWhole_27, sL_p, gX2_fillWhole_28, gX2_fillWhole_29, Rd_some, Wr_some, Cont_some, Cont_none, iso_O, true_and, hg_s, hg_n, hput_hput, h4']
    refine lp_fw2 hp hP hpp h4 h5 (i := i) (by omega) fi (fun c' l4 h1 h2 => ?_) i _ (Nat.le_refl i) (fun j j0 j1 => ?_) (fun j j0 j1 => ?_)
    · have m0 := em (P := P) (by omega) (ww a i 0)
      have m2 := em (P := P) (by omega) (a i * (ww a i 0 % P))
      have f1 := fi.1
      simp (disch := omega) only [gX2_fillWhole_79, gX2_fillWhole_80, fl_2_2, gX2_fillWhole_83, gX2_fillWhole_84, gX2_fillWhole_85, gX2_fillWhole_86, gX2_fillWhole_87, gX2_fillWhole_88, fl_2_0, gX2_fillWhole_91, gX2_fillWhole_92, aL_g, gX2_fillWhole_93, gX2_fillWhole_94, gX2_fillWhole_97, gX2_fillWhole_98, gX2_fillWhole_99, gX2_fillWhole_102, gX2_fillWhole_105, sL_p, gX2_fillWhole_106, gX2_fillWhole_109, Rd_some, Wr_some, Cont_some, Cont_none, iso_O, true_and, hg_s, hg_n, hput_hput, hp', h4', h5', f1, h2, sp_product (hp' _) hP, sp_diff (hp' _) hP]
      refine ih (i + 1) _ _ (by omega) (fun j j0 j1 => ?_)
      unfold up
      by_cases e0 : j = 0
      · rw [if_pos e0, e0]
        show _ = ((if (0 : Int) < 0 then ww a i (0 - 1) else 0) - a i * ww a i 0) % P
        rw [if_neg (by decide)]
        exact cg.sb cg.rf (cg.md.tr (cg.rf.ml cg.md))
      · rw [if_neg e0]; exact h1 j (by omega) (by omega)
    · unfold up
      rw [if_neg (by omega)]
      exact hc j j0 j1
    · unfold up
      have ej : j = (i : Int) + 1 := by omega
      rw [if_pos ej, ci, ej]
      show _ = ((if 0 < (i : Int) + 1 then ww a i ((i : Int) + 1 - 1) else 0) - a i * ww a i ((i : Int) + 1)) % P
      rw [if_pos (by omega), ww_0 (k := (i : Int) + 1) (by omega), Int.mul_zero, Int.sub_zero, show (i : Int) + 1 - 1 = (i : Int) by omega]
theorem sp_fw (hp : hget H p = cO 3 [vl P]) (hP : 1 < P ∧ P < 1073741824) (hpp : 24 < p ∧ p < 28) (h4 : hget H 4 = cO 2 [.ref 5, .ref 6, .ref 7]) {f a g : Int → Int} (h5 : hget H 5 = cL 64 f) (h7 : hget H 7 = cL 65 g) {n : Int} (hn : 0 ≤ n ∧ n ≤ 64) (hf : ∀ j, 0 ≤ j → j < n → f j = a j ∧ 0 ≤ a j ∧ a j < P) (hq : ∀ c, (∀ j, 0 ≤ j → j ≤ n → c j = ww a n.toNat j % P) → Q none (hput H 7 (cL 65 c))) : Go 26 0 [some (.ref 4), some (vi n), some (.ref p), none, none] [] H Q := by
  simp (disch := omega) only [gX2_fillWhole_0, gX2_fillWhole_1, fl_2_2, gX2_fillWhole_4, gX2_fillWhole_5, gX2_fillWhole_6, sL_p, gX2_fillWhole_7, gX2_fillWhole_8, Rd_some, Wr_some, Cont_some, Cont_none, iso_O, true_and, hg_s, hg_n, hput_hput, h4, h7]
  refine lp_fw1 hp hP hpp h4 h5 hn hf hq n.toNat 0 _ _ (by omega) (fun j j0 j1 => ?_)
  rw [show j = 0 by omega]
  show (1 : Int) = 1 % P
  rw [Int.emod_eq_of_lt (by decide) hP.1]
theorem lp_lo (hp : hget H p = cO 3 [vl P]) (hP : 1 < P ∧ P < 1073741824) (hpp : 24 < p ∧ p < 28) (h4 : hget H 4 = cO 2 [.ref 5, .ref 6, .ref 7]) {w a : Int → Int} (h7 : hget H 7 = cL 65 w) {n : Int} (hn : 0 ≤ n ∧ n ≤ 64) {i : Nat} (hi : (i : Int) < n) (hw : ∀ j, 0 ≤ j → j ≤ n → w j = ww a n.toNat j % P) (ha : 0 ≤ a i ∧ a i < P) {l3 : Option Value} (hq : ∀ c, (∀ j, 0 ≤ j → j < n → c j = bs a i n.toNat j % P) → Q none (hput H 6 (cL 64 c))) : ∀ (k : Nat) (c : Int → Int), (k : Int) ≤ n → (∀ j, (k : Int) ≤ j → j < n → c j = bs a i n.toNat j % P) → Go 27 6 [some (.ref 4), some (vl (a i)), none, l3, some (.ref p), some (vl (bs a i n.toNat k % P)), none, some (vi (k : Int))] [] (hput H 6 (cL 64 c)) Q := by
  have hp' : ∀ c, hget (hput H 6 c) p = cO 3 [vl P] := fun c => by rw [hg_n (by omega)]; exact hp
  have h4' : ∀ c, hget (hput H 6 c) 4 = cO 2 [.ref 5, .ref 6, .ref 7] := fun c => by rw [hg_n (by omega)]; exact h4
  have h7' : ∀ c, hget (hput H 6 c) 7 = cL 65 w := fun c => by rw [hg_n (by omega)]; exact h7
  intro k
  induction k with
  | zero =>
    intro c hk hc
    rw [gX2_leaveOut_6]
    simp (disch := omega) only [gX2_leaveOut_8T, gX2_leaveOut_8F, gX2_leaveOut_50, Rd_some, Wr_some, Cont_some, Cont_none, iso_O, true_and, hg_s, hg_n, hput_hput]
    exact hq c hc
  | succ k ih =>
    intro c hk hc
    have w1 := hw ((k + 1 : Nat) : Int) (by omega) (by omega)
    have m1 := em (P := P) (by omega) (ww a n.toNat ((k + 1 : Nat) : Int))
    have m2 := em (P := P) (by omega) (bs a i n.toNat ((k + 1 : Nat) : Int))
    have m3 := em (P := P) (by omega) (bs a i n.toNat ((k + 1 : Nat) : Int) % P * a i)
    have e1 : (ww a n.toNat ((k + 1 : Nat) : Int) % P + bs a i n.toNat ((k + 1 : Nat) : Int) % P * a i % P) % P = bs a i n.toNat (k : Int) % P := by
      have c1 : cg P (ww a n.toNat ((k + 1 : Nat) : Int) % P + bs a i n.toNat ((k + 1 : Nat) : Int) % P * a i % P) (ww a n.toNat ((k + 1 : Nat) : Int) + bs a i n.toNat ((k + 1 : Nat) : Int) * a i) := cg.md.ad (cg.md.tr (cg.md.ml cg.rf))
      refine c1.trans ?_
      rw [w_bs (i := i) (by omega)]
      unfold lin
      rw [if_pos (by omega), show ((k + 1 : Nat) : Int) - 1 = (k : Int) by omega, Int.mul_comm (a i)]
      congr 1
      omega
    have ek : ((k + 1 : Nat) : Int) - 1 = (k : Int) := by omega
    have mk := em (P := P) (by omega) (bs a i n.toNat (k : Int))
    rw [gX2_leaveOut_6]
    simp (disch := omega) only [gX2_leaveOut_8T, gX2_leaveOut_8F, gX2_leaveOut_11, gX2_leaveOut_13, gX2_leaveOut_14, fl_2_2, gX2_leaveOut_17, gX2_leaveOut_19, aL_g, gX2_leaveOut_20, gX2_leaveOut_22, gX2_leaveOut_24, gX2_leaveOut_25, gX2_leaveOut_28, gX2_leaveOut_31, gX2_leaveOut_33, gX2_leaveOut_34, fl_2_1, gX2_leaveOut_37, gX2_leaveOut_39, gX2_leaveOut_40, gX2_leaveOut_41, gX2_leaveOut_43, sL_p, gX2_leaveOut_44, gX2_leaveOut_47, Rd_some, Wr_some, Cont_some, Cont_none, iso_O, true_and, hg_s, hg_n, hput_hput, hp', h4', h7', w1, sp_product (hp' _) hP, sp_sum (hp' _) hP, e1, ek]
    rw [show ((k + 1 : Nat) : Int) + -1 = (k : Int) by omega]
    refine ih _ (by omega) (fun j j0 j1 => ?_)
    unfold up
    by_cases e : j = (k : Int)
    · rw [if_pos e, e]
    · rw [if_neg e]; exact hc j (by omega) j1
theorem sp_lo (hp : hget H p = cO 3 [vl P]) (hP : 1 < P ∧ P < 1073741824) (hpp : 24 < p ∧ p < 28) (h4 : hget H 4 = cO 2 [.ref 5, .ref 6, .ref 7]) {w a g : Int → Int} (h7 : hget H 7 = cL 65 w) (h6 : hget H 6 = cL 64 g) {n : Int} (hn : 0 ≤ n ∧ n ≤ 64) {i : Nat} (hi : (i : Int) < n) (hw : ∀ j, 0 ≤ j → j ≤ n → w j = ww a n.toNat j % P) (ha : 0 ≤ a i ∧ a i < P) (hq : ∀ c, (∀ j, 0 ≤ j → j < n → c j = bs a i n.toNat j % P) → Q none (hput H 6 (cL 64 c))) : Go 27 0 [some (.ref 4), some (vl (a i)), none, some (vi n), some (.ref p), none, none, none] [] H Q := by
  simp (disch := omega) only [gX2_leaveOut_0, gX2_leaveOut_1, gX2_leaveOut_3, gX2_leaveOut_4, Rd_some, Wr_some, Cont_some, Cont_none, iso_O, true_and, hg_s, hg_n, hput_hput]
  have key := lp_lo (l3 := some (vi n)) hp hP hpp h4 h7 hn hi hw ha hq n.toNat g (by omega) (fun j j0 j1 => by omega)
  rw [hput_same h6, bs_0 (k := ((n.toNat : Nat) : Int)) (Or.inr ⟨by omega, Int.le_refl _⟩), Int.zero_emod, show ((n.toNat : Nat) : Int) = n by omega] at key
  exact key
/-- the factor of the point i, the entry k -/
def itf (P : Int) (a y : Int → Int) (n : Nat) (i : Int) : Int := y i % P * ((und a i.toNat n % P) ^ (P - 2).toNat % P) % P
def itv (P : Int) (a y : Int → Int) (n : Nat) (k : Int) (m : Nat) : Int := sm (fun i => itf P a y n i * bs a i.toNat n k) m
theorem lp_th2 (hp : hget H p = cO 3 [vl P]) (hP : 1 < P ∧ P < 1073741824) (hpp : 24 < p ∧ p < 28) (h4 : hget H 4 = cO 2 [.ref 5, .ref 6, .ref 7]) {s g : Int → Int} {u n fc : Int} (hn : 0 ≤ n ∧ n ≤ 64) (h6 : hget H 6 = cL 64 s) (h16 : hget H 16 = cO 6 [.ref 17, vi u]) (hs : mo P s n) (hg : mo P g n) (hf : 0 ≤ fc ∧ fc < P) {l1 l2 l6 l7 l8 : Option Value} : ∀ (e : Nat) (k : Int), k + e = n → 0 ≤ k → (Go 25 117 [some (.ref 4), l1, l2, some (.ref p), some (.ref 16), some (vi n), l6, l7, l8, some (vl fc), none, some (vi k)] [] (hput H 17 (cL 64 (mix (fun j => (g j + fc * s j) % P) g k))) Q ↔ Go 25 163 [some (.ref 4), l1, l2, some (.ref p), some (.ref 16), some (vi n), l6, l7, l8, some (vl fc), none, some (vi n)] [] (hput H 17 (cL 64 (mix (fun j => (g j + fc * s j) % P) g n))) Q) := by
  have hp' : ∀ c, hget (hput H 17 c) p = cO 3 [vl P] := fun c => by rw [hg_n (by omega)]; exact hp
  have h4' : ∀ c, hget (hput H 17 c) 4 = cO 2 [.ref 5, .ref 6, .ref 7] := fun c => by rw [hg_n (by omega)]; exact h4
  have h6' : ∀ c, hget (hput H 17 c) 6 = cL 64 s := fun c => by rw [hg_n (by omega)]; exact h6
  have h16' : ∀ c, hget (hput H 17 c) 16 = cO 6 [.ref 17, vi u] := fun c => by rw [hg_n (by omega)]; exact h16
  intro e
  induction e with
  | zero =>
    intro k hk h0
    rw [show k = n by omega, gX2_through_117]
    simp (disch := omega) only [gX2_through_119, gX2_through_121T, gX2_through_121F, Rd_some, Wr_some, Cont_some, Cont_none, iso_O, true_and, hg_s, hg_n, hput_hput]
  | succ e ih =>
    intro k hk h0
    have m1 := hs k h0 (by omega)
    have m2 := hg k h0 (by omega)
    have m3 := em (P := P) (by omega) (fc * s k)
    have e1 : mix (fun j => (g j + fc * s j) % P) g k k = g k := mix_out (by omega)
    rw [gX2_through_117]
    simp (disch := omega) only [gX2_through_119, gX2_through_121T, gX2_through_121F, gX2_through_124, gX2_through_126, fl_6_0, gX2_through_129, gX2_through_131, gX2_through_132, gX2_through_134, gX2_through_137, gX2_through_139, aL_g, gX2_through_140, gX2_through_141, gX2_through_143, gX2_through_144, fl_2_1, gX2_through_147, gX2_through_149, gX2_through_150, gX2_through_153, gX2_through_156, sL_p, gX2_through_157, gX2_through_160, Rd_some, Wr_some, Cont_some, Cont_none, iso_O, true_and, hg_s, hg_n, hput_hput, hp', h4', h6', h16', e1, sp_product (hp' _) hP, sp_sum (hp' _) hP]
    rw [mix_up h0 (show (g k + fc * s k % P) % P = (g k + fc * s k) % P from cg.ad cg.rf cg.md)]
    exact ih (k + 1) (by omega) (by omega)
theorem lp_th0 {n : Int} (h16 : hget H 16 = cO 6 [.ref 17, vi n]) {g : Int → Int} (hn : 0 ≤ n ∧ n ≤ 64) {l0 l1 l2 l3 l7 l8 l9 l10 l11 : Option Value} : ∀ (e : Nat) (k : Int), k + e = n → 0 ≤ k → (Go 25 26 [l0, l1, l2, l3, some (.ref 16), some (vi n), some (vi k), l7, l8, l9, l10, l11] [] (hput H 17 (cL 64 (mix (fun _ => 0) g k))) Q ↔ Go 25 48 [l0, l1, l2, l3, some (.ref 16), some (vi n), some (vi n), l7, l8, l9, l10, l11] [] (hput H 17 (cL 64 (mix (fun _ => 0) g n))) Q) := by
  have h16' : ∀ c, hget (hput H 17 c) 16 = hget H 16 := fun c => by rw [hg_n (by omega)]
  intro e
  induction e with
  | zero =>
    intro k hk h0
    rw [show k = n by omega, gX2_through_26]
    simp (disch := omega) only [gX2_through_28, gX2_through_30T, gX2_through_30F, Rd_some, Wr_some, Cont_some, Cont_none, iso_O, true_and, hg_s, hg_n, hput_hput]
  | succ e ih =>
    intro k hk h0
    rw [gX2_through_26]
    simp (disch := omega) only [gX2_through_28, gX2_through_30T, gX2_through_30F, gX2_through_33, gX2_through_35, fl_6_0, gX2_through_38, gX2_through_40, gX2_through_41, sL_p, gX2_through_42, gX2_through_45, Rd_some, Wr_some, Cont_some, Cont_none, iso_O, true_and, hg_s, hg_n, hput_hput, h16', h16]
    rw [mix_up h0 rfl]
    exact ih (k + 1) (by omega) (by omega)
end THR

/-! Powers of polynomials -/
/-- the product of two series -/
def cp (f g : Int → Int) (i : Int) : Int := sm (fun j => f j * g (i - j)) (i.toNat + 1)
theorem cp_ind (f g : Int → Int) (i : Int) (N : Nat) (h0 : 0 ≤ i) (hN : i < N) : cp f g i = sm (fun a => sm (fun b => if a + b = i then f a * g b else 0) N) N := by
  have h1 : sm (fun a => sm (fun b => if a + b = i then f a * g b else 0) N) N = sm (fun a => sm (fun b => if a + b = i then f a * g b else 0) N) (i.toNat + 1) := sm_tail (by omega) (fun a a0 a1 => sm_0 (fun b b0 b1 => if_neg (by omega)))
  rw [h1]
  unfold cp
  refine sm_cN fun a ha => ?_
  rw [sm_one (i := i.toNat - a) (by omega) (fun b hb hne => if_neg (by omega)), if_pos (by omega)]
  congr 2
  omega
theorem cp_as (f g h : Int → Int) (i : Int) (h0 : 0 ≤ i) : cp (cp f g) h i = cp f (cp g h) i := by
  have hR : cp f (cp g h) i = sm (fun a => sm (fun b => sm (fun d => if a + b + d = i then f a * (g b * h d) else 0) (i.toNat + 1)) (i.toNat + 1)) (i.toNat + 1) := by
    rw [cp]
    refine sm_cN fun a ha => ?_
    rw [cp_ind g h (i - a) (i.toNat + 1) (by omega) (by omega), ← sm_mul]
    refine sm_cN fun b hb => ?_
    rw [← sm_mul]
    refine sm_cN fun d hd => ?_
    by_cases e : (a : Int) + b + d = i
    · rw [if_pos e, if_pos (by omega)]
    · rw [if_neg e, if_neg (by omega), Int.mul_zero]
  have hL : cp (cp f g) h i = sm (fun c => sm (fun a => sm (fun b => if a + b = c then f a * g b * h (i - c) else 0) (i.toNat + 1)) (i.toNat + 1)) (i.toNat + 1) := by
    rw [cp]
    refine sm_cN fun c hc => ?_
    rw [cp_ind f g c (i.toNat + 1) (by omega) (by omega), ← sm_mulr]
    refine sm_cN fun a ha => ?_
    rw [← sm_mulr]
    refine sm_cN fun b hb => ?_
    by_cases e : (a : Int) + b = c
    · rw [if_pos e, if_pos e]
    · rw [if_neg e, if_neg e, Int.zero_mul]
  rw [hL, hR, sm_swap (fun c a => sm (fun b => if a + b = c then f a * g b * h (i - c) else 0) (i.toNat + 1))]
  refine sm_cN fun a ha => ?_
  rw [sm_swap (fun c b => if (a : Int) + b = c then f a * g b * h (i - c) else 0)]
  refine sm_cN fun b hb => ?_
  by_cases e : (a : Int) + b ≤ i
  · rw [sm_one (i := a + b) (by omega) (fun c hc hne => if_neg (by omega)), if_pos (by omega), sm_one (i := i.toNat - (a + b)) (by omega) (fun d hd hne => if_neg (by omega)), if_pos (by omega), Int.mul_assoc]
    congr 3
    omega
  · rw [sm_0 (fun c c0 c1 => if_neg (by omega)), sm_0 (fun d d0 d1 => if_neg (by omega))]
def un (i : Int) : Int := if i = 0 then 1 else 0
theorem cp_un (f : Int → Int) (i : Int) (h0 : 0 ≤ i) : cp un f i = f i ∧ cp f un i = f i := by
  unfold cp un
  constructor
  · rw [sm_one (i := 0) (by omega) (fun j hj hne => by rw [if_neg (by omega), Int.zero_mul]), if_pos (show ((0 : Nat) : Int) = 0 from rfl), Int.one_mul]
    congr 1
    omega
  · rw [sm_one (i := i.toNat) (by omega) (fun j hj hne => by rw [if_neg (by omega), Int.mul_zero]), if_pos (by omega), Int.mul_one]
    congr 1
    omega
theorem cp_c {f g f' g' : Int → Int} {i : Int} (hf : ∀ j, 0 ≤ j → j ≤ i → f j = f' j) (hg : ∀ j, 0 ≤ j → j ≤ i → g j = g' j) (h0 : 0 ≤ i) : cp f g i = cp f' g' i := by
  unfold cp
  exact sm_cN fun j hj => by rw [hf j (by omega) (by omega), hg _ (by omega) (by omega)]
theorem cp_cg {P : Int} {f g f' g' : Int → Int} {i : Int} (hf : ∀ j, 0 ≤ j → j ≤ i → cg P (f j) (f' j)) (hg : ∀ j, 0 ≤ j → j ≤ i → cg P (g j) (g' j)) (h0 : 0 ≤ i) : cg P (cp f g i) (cp f' g' i) := by
  unfold cp
  exact cg.sm fun j hj => (hf j (by omega) (by omega)).ml (hg _ (by omega) (by omega))
def cpow (f : Int → Int) : Nat → Int → Int
  | 0 => un
  | k + 1 => cp f (cpow f k)
theorem cpow_2 (f : Int → Int) (k : Nat) : ∀ i, 0 ≤ i → cpow (cp f f) k i = cpow f (2 * k) i := by
  induction k with
  | zero => intro i _; rfl
  | succ k ih =>
    intro i h0
    show cp (cp f f) (cpow (cp f f) k) i = cp f (cp f (cpow f (2 * k))) i
    rw [cp_c (fun j _ _ => rfl) (fun j j0 _ => ih j j0) h0, cp_as _ _ _ _ h0]
theorem jAnd_p : ∀ b : Nat, b < 1001 → jAnd b 1 = ((b % 2 : Nat) : Int) := by decide +kernel
theorem jShr_p : ∀ b : Nat, b < 1001 → jShr b 1 = ((b / 2 : Nat) : Int) := by decide +kernel
section POW
variable {H : HP} {Q : Option Value → HP → Prop} {p aa bb : Nat} {P : Int}
theorem lp_ms2 (hp : hget H p = cO 3 [vl P]) (hP : 1 < P ∧ P < 1073741824) {fa gb f g : Int → Int} (ha : hget H aa = cL 64 fa) (hb : hget H bb = cL 64 gb) {k : Nat} (hk : k < 64) (hf : ∀ j, 0 ≤ j → j ≤ (k : Int) → fa j = f j ∧ 0 ≤ f j ∧ f j < P) (hg : ∀ j, 0 ≤ j → j ≤ (k : Int) → gb j = g j ∧ 0 ≤ g j ∧ g j < P) {l2 : Option Value} : ∀ (e i : Nat), i + e = k + 1 → (Go 21 16 [some (.ref aa), some (.ref bb), l2, some (.ref p), some (vi (k : Int)), some (vl (sm (fun j => f j * g ((k : Int) - j)) i % P)), none, some (vi (i : Int))] [] H Q ↔ Go 21 52 [some (.ref aa), some (.ref bb), l2, some (.ref p), some (vi (k : Int)), some (vl (cp f g k % P)), none, some (vi ((k : Int) + 1))] [] H Q) := by
  intro e
  induction e with
  | zero =>
    intro i hi
    rw [show i = k + 1 by omega, gX2_multiplyShort_16]
    simp (disch := omega) only [gX2_multiplyShort_18, gX2_multiplyShort_20T, gX2_multiplyShort_20F, Rd_some, Wr_some, Cont_some, Cont_none, iso_O, true_and, hg_s, hg_n, hput_hput]
    unfold cp
    rw [Int.toNat_natCast]
    exact Iff.rfl
  | succ e ih =>
    intro i hi
    obtain ⟨f1, f2⟩ := hf i (by omega) (by omega)
    obtain ⟨g1, g2⟩ := hg ((k : Int) - i) (by omega) (by omega)
    have m2 := em (P := P) (by omega) (f i * g ((k : Int) - i))
    have m3 := em (P := P) (by omega) (sm (fun j => f j * g ((k : Int) - j)) i)
    have e1 : (sm (fun j => f j * g ((k : Int) - j)) i % P + f i * g ((k : Int) - i) % P) % P = sm (fun j => f j * g ((k : Int) - j)) (i + 1) % P := cg.md.ad cg.md
    rw [gX2_multiplyShort_16]
    simp (disch := omega) only [gX2_multiplyShort_18, gX2_multiplyShort_20T, gX2_multiplyShort_20F, gX2_multiplyShort_23, gX2_multiplyShort_24, gX2_multiplyShort_26, gX2_multiplyShort_27, gX2_multiplyShort_28, gX2_multiplyShort_30, aL_g, gX2_multiplyShort_31, gX2_multiplyShort_32, gX2_multiplyShort_34, gX2_multiplyShort_36, gX2_multiplyShort_37, gX2_multiplyShort_38, gX2_multiplyShort_41, gX2_multiplyShort_44, gX2_multiplyShort_46, gX2_multiplyShort_49, Rd_some, Wr_some, Cont_some, Cont_none, iso_O, true_and, hg_s, hg_n, hput_hput, hp, ha, hb, f1, g1, sp_product hp hP, sp_sum hp hP, e1]
    exact ih (i + 1) (by omega)
theorem lp_ms1 (hpa : p ≠ aa ∧ aa ≠ 0) (hp : hget H p = cO 3 [vl P]) (hP : 1 < P ∧ P < 1073741824) {f g : Int → Int} {n : Int} (hn : n ≤ 64) (hf : mo P f n) (hg : mo P g n) (hb : ∀ (c : Int → Int) (k : Int), (∀ j, 0 ≤ j → j ≤ k → c j = f j) → ∃ gb, hget (hput H aa (cL 64 c)) bb = cL 64 gb ∧ ∀ j, 0 ≤ j → j ≤ k → gb j = g j) (hq : ∀ c, (∀ j, 0 ≤ j → j < n → c j = cp f g j % P) → Q none (hput H aa (cL 64 c))) {l2 : Option Value} : ∀ (k : Nat) (c : Int → Int) (l5 l6 l7 : Option Value), (k : Int) ≤ n → (∀ j, 0 ≤ j → j < (k : Int) → c j = f j) → (∀ j, (k : Int) ≤ j → j < n → c j = cp f g j % P) → Go 21 5 [some (.ref aa), some (.ref bb), l2, some (.ref p), some (vi ((k : Int) - 1)), l5, l6, l7] [] (hput H aa (cL 64 c)) Q := by
  have hp' : ∀ c, hget (hput H aa c) p = cO 3 [vl P] := fun c => by rw [hg_n hpa.1]; exact hp
  intro k
  induction k with
  | zero =>
    intro c l5 l6 l7 hk h1 h2
    rw [show ((0 : Nat) : Int) - 1 = -1 from rfl, gX2_multiplyShort_5]
    simp (disch := omega) only [gX2_multiplyShort_7T, gX2_multiplyShort_7F, gX2_multiplyShort_64, Rd_some, Wr_some, Cont_some, Cont_none, iso_O, true_and, hg_s, hg_n, hput_hput]
    exact hq c (fun j j0 j1 => h2 j j0 j1)
  | succ k ih =>
    intro c l5 l6 l7 hk h1 h2
    obtain ⟨gb, b1, b2⟩ := hb c k (fun j j0 j1 => h1 j j0 (by omega))
    rw [show ((k + 1 : Nat) : Int) - 1 = (k : Int) by omega, gX2_multiplyShort_5]
    simp (disch := omega) only [gX2_multiplyShort_7T, gX2_multiplyShort_7F, gX2_multiplyShort_10, gX2_multiplyShort_11, gX2_multiplyShort_13, gX2_multiplyShort_14, Rd_some, Wr_some, Cont_some, Cont_none, iso_O, true_and, hg_s, hg_n, hput_hput]
    have key := lp_ms2 (H := hput H aa (cL 64 c)) (Q := Q) (l2 := l2) (hp' _) hP hg_s b1 (k := k) (by omega) (f := f) (g := g) (fun j j0 j1 => ⟨h1 j j0 (by omega), hf j j0 (by omega)⟩) (fun j j0 j1 => ⟨b2 j j0 j1, hg j j0 (by omega)⟩) (k + 1) 0 (by omega)
    rw [sm, Int.zero_emod] at key
    refine key.mpr ?_
    have ha0 := hpa.2
    simp (disch := omega) only [gX2_multiplyShort_52, gX2_multiplyShort_53, gX2_multiplyShort_55, gX2_multiplyShort_57, sL_p, gX2_multiplyShort_58, gX2_multiplyShort_61, Rd_some, Wr_some, Cont_some, Cont_none, iso_O, true_and, hg_s, hg_n, hput_hput]
    rw [show (k : Int) + -1 = (k : Int) - 1 by omega]
    refine ih _ _ _ _ (by omega) (fun j j0 j1 => ?_) (fun j j0 j1 => ?_)
    · unfold up
      rw [if_neg (by omega)]
      exact h1 j j0 (by omega)
    · unfold up
      by_cases e : j = (k : Int)
      · rw [if_pos e, e]
      · rw [if_neg e]; exact h2 j (by omega) j1
theorem sp_ms (hpa : p ≠ aa ∧ aa ≠ 0) (hp : hget H p = cO 3 [vl P]) (hP : 1 < P ∧ P < 1073741824) {f g : Int → Int} {n : Int} (hn : 0 ≤ n ∧ n ≤ 64) (hf : mo P f n) (hg : mo P g n) (ha : hget H aa = cL 64 f) (hb : ∀ (c : Int → Int) (k : Int), (∀ j, 0 ≤ j → j ≤ k → c j = f j) → ∃ gb, hget (hput H aa (cL 64 c)) bb = cL 64 gb ∧ ∀ j, 0 ≤ j → j ≤ k → gb j = g j) (hq : ∀ c, (∀ j, 0 ≤ j → j < n → c j = cp f g j % P) → Q none (hput H aa (cL 64 c))) : Go 21 0 [some (.ref aa), some (.ref bb), some (vi n), some (.ref p), none, none, none, none] [] H Q := by
  simp (disch := omega) only [gX2_multiplyShort_0, gX2_multiplyShort_1, gX2_multiplyShort_2, gX2_multiplyShort_3, Rd_some, Wr_some, Cont_some, Cont_none, iso_O, true_and, hg_s, hg_n, hput_hput]
  have key := lp_ms1 (l2 := some (vi n)) hpa hp hP hn.2 hf hg hb hq n.toNat f none none none (by omega) (fun j _ _ => rfl) (fun j j0 j1 => by omega)
  rw [hput_same ha, show ((n.toNat : Nat) : Int) = n by omega] at key
  exact key
theorem lp_ra1 (hp : hget H p = cO 3 [vl P]) (hP : 1 < P ∧ P < 1073741824) (hpp : 24 < p ∧ p < 28) (h4 : hget H 4 = cO 2 [.ref 5, .ref 6, .ref 7]) {rx cx : Nat} {lx n : Int} {x : Int → Int} (Rx : RW H rx cx lx n x) {N u : Int} (hN : 1 ≤ N ∧ N ≤ 64) (h16 : hget H 16 = cO 6 [.ref 17, vi u]) {f g : Int → Int} {l3 : Option Value} : ∀ (e : Nat) (i : Int), i + e = N → 0 ≤ i → (Go 20 10 [some (.ref 4), some (.ref rx), some (.ref p), l3, some (.ref 16), some (vi N), some (vi i)] [] (HD H (mix (Xz P x n) f i) (mix un g i)) Q ↔ Go 20 72 [some (.ref 4), some (.ref rx), some (.ref p), l3, some (.ref 16), some (vi N), some (vi N)] [] (HD H (mix (Xz P x n) f N) (mix un g N)) Q) := by
  have n1 := Rx.2.2.2.1
  have q1 := Rx.2.2.1
  have hp' : ∀ A C, hget (HD H A C) p = cO 3 [vl P] := fun A C => by rw [HD_q (by omega)]; exact hp
  have h4' : ∀ A C, hget (HD H A C) 4 = cO 2 [.ref 5, .ref 6, .ref 7] := fun A C => by rw [HD_q (by omega)]; exact h4
  have h16' : ∀ A C, hget (HD H A C) 16 = cO 6 [.ref 17, vi u] := fun A C => by rw [HD_q (by omega)]; exact h16
  have Rx' : ∀ A C, RW (HD H A C) rx cx lx n x := fun A C => ⟨by rw [HD_q (by omega)]; exact Rx.1, by rw [HD_q (by omega)]; exact Rx.2.1, Rx.2.2⟩
  intro e
  induction e with
  | zero =>
    intro i hi h0
    rw [show i = N by omega, gX2_raise_10]
    simp (disch := omega) only [gX2_raise_12, gX2_raise_14T, gX2_raise_14F, Rd_some, Wr_some, Cont_some, Cont_none, iso_O, true_and, hg_s, hg_n, hput_hput]
  | succ e ih =>
    intro i hi h0
    rw [gX2_raise_10]
    by_cases hin : i < n
    · have m1 := Rx.2.2.2.2 i h0 hin
      by_cases hz : i = 0
      · simp (disch := omega) only [gX2_raise_12, gX2_raise_14T, gX2_raise_14F, gX2_raise_17, gX2_raise_18, fl_2_0, gX2_raise_21, gX2_raise_23, gX2_raise_25, gX2_raise_26, gX2_raise_29T, gX2_raise_29F, gX2_raise_32, gX2_raise_33, gX2_raise_34, fl_5_1, gX2_raise_37, gX2_raise_39, aL_g, gX2_raise_40, gX2_raise_43, gX2_raise_46, gX2_raise_47, sL_p, gX2_raise_48, gX2_raise_50, fl_6_0, gX2_raise_53, gX2_raise_55, gX2_raise_57T, gX2_raise_57F, gX2_raise_60, gX2_raise_61, gX2_raise_64, gX2_raise_65, gX2_raise_66, gX2_raise_69, Rd_some, Wr_some, Cont_some, Cont_none, iso_O, true_and, hg_s, hg_n, hput_hput, (Rx' _ _).1, (Rx' _ _).2.1, sp_size (Rx' _ _).1 (Rx' _ _).2.1 Rx.sz, hp', h4', h16', HD_5, HD_17, HD_p5, HD_p17, sp_reduced (hp' _ _) hP]
        rw [mix_up h0 (show x i % P = Xz P x n i from (if_pos hin).symm), mix_up h0 (show 1 = un i from (if_pos hz).symm)]
        exact ih (i + 1) (by omega) (by omega)
      · simp (disch := omega) only [gX2_raise_12, gX2_raise_14T, gX2_raise_14F, gX2_raise_17, gX2_raise_18, fl_2_0, gX2_raise_21, gX2_raise_23, gX2_raise_25, gX2_raise_26, gX2_raise_29T, gX2_raise_29F, gX2_raise_32, gX2_raise_33, gX2_raise_34, fl_5_1, gX2_raise_37, gX2_raise_39, aL_g, gX2_raise_40, gX2_raise_43, gX2_raise_46, gX2_raise_47, sL_p, gX2_raise_48, gX2_raise_50, fl_6_0, gX2_raise_53, gX2_raise_55, gX2_raise_57T, gX2_raise_57F, gX2_raise_60, gX2_raise_61, gX2_raise_64, gX2_raise_65, gX2_raise_66, gX2_raise_69, Rd_some, Wr_some, Cont_some, Cont_none, iso_O, true_and, hg_s, hg_n, hput_hput, (Rx' _ _).1, (Rx' _ _).2.1, sp_size (Rx' _ _).1 (Rx' _ _).2.1 Rx.sz, hp', h4', h16', HD_5, HD_17, HD_p5, HD_p17, sp_reduced (hp' _ _) hP]
        rw [mix_up h0 (show x i % P = Xz P x n i from (if_pos hin).symm), mix_up h0 (show 0 = un i from (if_neg hz).symm)]
        exact ih (i + 1) (by omega) (by omega)
    · simp (disch := omega) only [gX2_raise_12, gX2_raise_14T, gX2_raise_14F, gX2_raise_17, gX2_raise_18, fl_2_0, gX2_raise_21, gX2_raise_23, gX2_raise_25, gX2_raise_26, gX2_raise_29T, gX2_raise_29F, gX2_raise_32, gX2_raise_33, gX2_raise_34, fl_5_1, gX2_raise_37, gX2_raise_39, aL_g, gX2_raise_40, gX2_raise_43, gX2_raise_46, gX2_raise_47, sL_p, gX2_raise_48, gX2_raise_50, fl_6_0, gX2_raise_53, gX2_raise_55, gX2_raise_57T, gX2_raise_57F, gX2_raise_60, gX2_raise_61, gX2_raise_64, gX2_raise_65, gX2_raise_66, gX2_raise_69, Rd_some, Wr_some, Cont_some, Cont_none, iso_O, true_and, hg_s, hg_n, hput_hput, (Rx' _ _).1, sp_size (Rx' _ _).1 (Rx' _ _).2.1 Rx.sz, hp', h4', h16', HD_5, HD_17, HD_p5, HD_p17]
      rw [mix_up h0 (show 0 = Xz P x n i from (if_neg hin).symm), mix_up h0 (show 0 = un i from (if_neg (by omega)).symm)]
      exact ih (i + 1) (by omega) (by omega)
theorem lp_ra2 (hp : hget H p = cO 3 [vl P]) (hP : 1 < P ∧ P < 1073741824) (hpp : 24 < p ∧ p < 28) (h4 : hget H 4 = cO 2 [.ref 5, .ref 6, .ref 7]) {N u : Int} (hN : 1 ≤ N ∧ N ≤ 64) (h16 : hget H 16 = cO 6 [.ref 17, vi u]) {X : Int → Int} {E : Nat} (hq : ∀ A C, (∀ j, 0 ≤ j → j < N → C j = cpow X E j % P) → Q none (HD H A C)) {l1 l3 : Option Value} : ∀ (f k : Nat) (A C F R : Int → Int), k < 2 ^ f → k < 1001 → mo P A N → mo P C N → (∀ j, 0 ≤ j → j < N → cg P (A j) (F j)) → (∀ j, 0 ≤ j → j < N → cg P (C j) (R j)) → (∀ i, 0 ≤ i → cp R (cpow F k) i = cpow X E i) → Go 20 75 [some (.ref 4), l1, some (.ref p), l3, some (.ref 16), some (vi N), some (vi (k : Int))] [] (HD H A C) Q := by
  have hp' : ∀ A C, hget (HD H A C) p = cO 3 [vl P] := fun A C => by rw [HD_q (by omega)]; exact hp
  have h4' : ∀ A C, hget (HD H A C) 4 = cO 2 [.ref 5, .ref 6, .ref 7] := fun A C => by rw [HD_q (by omega)]; exact h4
  have h16' : ∀ A C, hget (HD H A C) 16 = cO 6 [.ref 17, vi u] := fun A C => by rw [HD_q (by omega)]; exact h16
  have stop : ∀ (A C F R : Int → Int), mo P C N → (∀ j, 0 ≤ j → j < N → cg P (C j) (R j)) → (∀ i, 0 ≤ i → cp R (cpow F 0) i = cpow X E i) → Go 20 75 [some (.ref 4), l1, some (.ref p), l3, some (.ref 16), some (vi N), some (vi ((0 : Nat) : Int))] [] (HD H A C) Q := by
    intro A C F R hmC hC hI
    rw [gX2_raise_75]
    simp (disch := omega) only [gX2_raise_77T, gX2_raise_77F, gX2_raise_125, Rd_some, Wr_some, Cont_some, Cont_none, iso_O, true_and, hg_s, hg_n, hput_hput]
    refine hq A C (fun j j0 j1 => ?_)
    have m := hmC j j0 j1
    have e1 : cg P (C j) (cpow X E j) := by
      rw [← hI j j0, show cp R (cpow F 0) j = R j from (cp_un R j j0).2]
      exact hC j j0 j1
    have e1 : C j % P = cpow X E j % P := e1
    rw [← e1, Int.emod_eq_of_lt m.1 m.2]
  intro f
  induction f with
  | zero =>
    intro k A C F R hk hk2 hmA hmC hA hC hI
    have : k = 0 := by have : (2 : Nat) ^ 0 = 1 := rfl; omega
    subst this
    exact stop A C F R hmC hC hI
  | succ f ih =>
    intro k A C F R hk hk2 hmA hmC hA hC hI
    by_cases h0 : k = 0
    · subst h0; exact stop A C F R hmC hC hI
    · have hk3 : k / 2 < 2 ^ f := by rw [Nat.pow_succ] at hk; omega
      /- squaring -/
      have sq : ∀ (C R : Int → Int), mo P C N → (∀ j, 0 ≤ j → j < N → cg P (C j) (R j)) → (∀ i, 0 ≤ i → cp R (cpow F (2 * (k / 2))) i = cpow X E i) → Go 20 102 [some (.ref 4), l1, some (.ref p), l3, some (.ref 16), some (vi N), some (vi (k : Int))] [] (HD H A C) Q := by
        intro C R hmC hC hI
        simp (disch := omega) only [gX2_raise_102, gX2_raise_103, fl_2_0, gX2_raise_106, gX2_raise_107, gX2_raise_110, gX2_raise_112, gX2_raise_113, Rd_some, Wr_some, Cont_some, Cont_none, iso_O, true_and, hg_s, hg_n, hput_hput, h4']
        refine sp_ms (aa := 5) (bb := 5) (by omega) (hp' _ _) hP (by omega) hmA hmA HD_5 (fun c k hc => ⟨c, hg_s, hc⟩) (fun A' hA' => ?_)
        rw [HD_p5]
        simp (disch := omega) only [gX2_raise_116, gX2_raise_118, gX2_raise_119, gX2_raise_120, gX2_raise_122, Rd_some, Wr_some, Cont_some, Cont_none, iso_O, true_and, hg_s, hg_n, hput_hput, jShr_p k hk2]
        refine ih (k / 2) A' C (cp F F) R hk3 (by omega) (fun j j0 j1 => by rw [hA' j j0 j1]; exact em (by omega) _) hmC (fun j j0 j1 => ?_) hC (fun i i0 => ?_)
        · rw [hA' j j0 j1]
          exact cg.md.tr (cp_cg (fun t t0 t1 => hA t t0 (by omega)) (fun t t0 t1 => hA t t0 (by omega)) j0)
        · rw [← hI i i0]
          exact cp_c (fun j _ _ => rfl) (fun j j0 _ => cpow_2 F (k / 2) j j0) i0
      rw [gX2_raise_75]
      by_cases ho : k % 2 = 0
      · have ea : jAnd k 1 = 0 := by rw [jAnd_p k hk2, ho]; rfl
        simp (disch := omega) only [gX2_raise_77T, gX2_raise_77F, gX2_raise_80, gX2_raise_82, gX2_raise_83, gX2_raise_84T, gX2_raise_84F, Rd_some, Wr_some, Cont_some, Cont_none, iso_O, true_and, hg_s, hg_n, hput_hput, ea]
        refine sq C R hmC hC ?_
        rw [show 2 * (k / 2) = k by omega]
        exact hI
      · have ea : jAnd k 1 = 1 := by rw [jAnd_p k hk2, show k % 2 = 1 by omega]; rfl
        simp (disch := omega) only [gX2_raise_77T, gX2_raise_77F, gX2_raise_80, gX2_raise_82, gX2_raise_83, gX2_raise_84T, gX2_raise_84F, gX2_raise_87, gX2_raise_89, fl_6_0, gX2_raise_92, gX2_raise_93, fl_2_0, gX2_raise_96, gX2_raise_98, gX2_raise_99, Rd_some, Wr_some, Cont_some, Cont_none, iso_O, true_and, hg_s, hg_n, hput_hput, ea, h4', h16']
        refine sp_ms (aa := 17) (bb := 5) (by omega) (hp' _ _) hP (by omega) hmC hmA HD_17 (fun c k hc => ⟨A, by rw [HD_p17]; exact HD_5, fun _ _ _ => rfl⟩) (fun C' hC' => ?_)
        rw [HD_p17]
        refine sq C' (cp R F) (fun j j0 j1 => by rw [hC' j j0 j1]; exact em (by omega) _) (fun j j0 j1 => ?_) (fun i i0 => ?_)
        · rw [hC' j j0 j1]
          exact cg.md.tr (cp_cg (fun t t0 t1 => hC t t0 (by omega)) (fun t t0 t1 => hA t t0 (by omega)) j0)
        · rw [cp_as _ _ _ _ i0, ← hI i i0]
          conv => rhs; rw [show k = 2 * (k / 2) + 1 by omega]
          rfl
theorem sp_raise (hp : hget H p = cO 3 [vl P]) (hP : 1 < P ∧ P < 1073741824) (hpp : 24 < p ∧ p < 28) (h4 : hget H 4 = cO 2 [.ref 5, .ref 6, .ref 7]) {rx cx : Nat} {lx n : Int} {x : Int → Int} (Rx : RW H rx cx lx n x) {N : Int} (hN : 1 ≤ N ∧ N ≤ 64) (h16 : hget H 16 = cO 6 [.ref 17, vi N]) {f g : Int → Int} (h5 : hget H 5 = cL 64 f) (h17 : hget H 17 = cL 64 g) {t : Int} (ht : 0 ≤ t ∧ t ≤ 1000) (hq : ∀ A C, (∀ j, 0 ≤ j → j < N → C j = cpow (Xz P x n) t.toNat j % P) → Q none (HD H A C)) : Go 20 0 [some (.ref 4), some (.ref rx), some (.ref p), some (vi t), some (.ref 16), none, none] [] H Q := by
  simp (disch := omega) only [gX2_raise_0, gX2_raise_2, fl_6_1, gX2_raise_5, gX2_raise_7, gX2_raise_8, Rd_some, Wr_some, Cont_some, Cont_none, iso_O, true_and, hg_s, hg_n, hput_hput, h16]
  have eH : H = HD H (mix (Xz P x n) f 0) (mix un g 0) := by
    rw [mix_0, mix_0]
    unfold HD
    rw [hput_same h5, hput_same h17]
  rw [eH, lp_ra1 hp hP hpp h4 Rx hN h16 N.toNat 0 (by omega) (by omega)]
  simp (disch := omega) only [gX2_raise_72, gX2_raise_73, Rd_some, Wr_some, Cont_some, Cont_none, iso_O, true_and, hg_s, hg_n, hput_hput]
  have key := lp_ra2 (Q := Q) (l1 := some (.ref rx)) (l3 := some (vi t)) hp hP hpp h4 hN h16 (X := Xz P x n) (E := t.toNat) hq 10 t.toNat (mix (Xz P x n) f N) (mix un g N) (Xz P x n) un (by have : (2 : Nat) ^ 10 = 1024 := rfl; omega) (by omega) (fun j j0 j1 => by rw [mix_in ⟨j0, j1⟩]; exact Xz_r (by omega) _ _ _) (fun j j0 j1 => by rw [mix_in ⟨j0, j1⟩]; unfold un; split <;> omega) (fun j j0 j1 => by rw [mix_in ⟨j0, j1⟩]; exact cg.rf) (fun j j0 j1 => by rw [mix_in ⟨j0, j1⟩]; exact cg.rf) (fun i i0 => (cp_un _ i i0).1)
  rw [show ((t.toNat : Nat) : Int) = t by omega] at key
  exact key
end POW

/-! Prime -/
theorem mb {x y : Int} (c : 0 ≤ x ∧ x < 2147483648 ∧ 0 ≤ y ∧ y < 2147483648) : 0 ≤ x * y ∧ x * y ≤ 4611686014132420609 :=
  ⟨Int.mul_nonneg c.1 c.2.2.1, Int.le_trans (Int.mul_le_mul (show x ≤ 2147483647 by omega) (show y ≤ 2147483647 by omega) c.2.2.1 (by decide)) (by decide)⟩
theorem em {P : Int} (hP : 0 < P) (x : Int) : 0 ≤ x % P ∧ x % P < P := ⟨Int.emod_nonneg x (by omega), Int.emod_lt_of_pos x hP⟩
theorem bShr_1 {a : Int} (c : -9223372036854775808 ≤ a ∧ a ≤ 9223372036854775807) : bShr a 1 = a / 2 := bShr_v (k := 1) c (by decide)
theorem pw_emod (a P : Int) (k : Nat) : (a % P) ^ k % P = a ^ k % P := by
  induction k with
  | zero => rw [Int.pow_zero, Int.pow_zero]
  | succ k ih => rw [Int.pow_succ, Int.pow_succ, Int.mul_emod, ih, Int.emod_emod, ← Int.mul_emod]
theorem sq_pow (s : Int) (k : Nat) : s ^ (2 * k) = (s * s) ^ k := by
  induction k with
  | zero => rw [Nat.mul_zero, Int.pow_zero, Int.pow_zero]
  | succ k ih => rw [show 2 * (k + 1) = 2 * k + 1 + 1 by omega, Int.pow_succ, Int.pow_succ, ih, Int.pow_succ, Int.mul_assoc]
/-- a filling: a below i, f from there on -/
def mix {α : Type} (a f : Int → α) (i : Int) : Int → α := fun j => if 0 ≤ j ∧ j < i then a j else f j
theorem mix_up {α : Type} {a f : Int → α} {i : Int} {x : α} (hi : 0 ≤ i) (hx : x = a i) : up (mix a f i) i x = mix a f (i + 1) := by
  funext j
  unfold up mix
  by_cases h : j = i
  · rw [if_pos h, if_pos (by omega), h, hx]
  · rw [if_neg h]
    by_cases h2 : 0 ≤ j ∧ j < i
    · rw [if_pos h2, if_pos (by omega)]
    · rw [if_neg h2, if_neg (by omega)]
theorem mix_0 {α : Type} {a f : Int → α} : mix a f 0 = f := by
  funext j
  exact if_neg (by omega)
theorem mix_in {α : Type} {a f : Int → α} {i j : Int} (h : 0 ≤ j ∧ j < i) : mix a f i j = a j := if_pos h
theorem mix_out {α : Type} {a f : Int → α} {i j : Int} (h : ¬ (0 ≤ j ∧ j < i)) : mix a f i j = f j := if_neg h
/-- Horner's value of the first k numbers -/
def hz (P : Int) (g : Int → Int) (x : Int) : Nat → Int → Int
  | 0, v => v
  | k + 1, v => hz P g x k ((v * x % P + g k) % P)
/-- the degree of the first k numbers over P -/
def dg (P : Int) (g : Int → Int) : Nat → Int
  | 0 => -1
  | k + 1 => if g k % P = 0 then dg P g k else k
section SPEC
variable {H : HP} {Q : Option Value → HP → Prop} {p : Nat} {P : Int}
theorem sp_reduced (hp : hget H p = cO 3 [vl P]) (hP : 1 < P ∧ P < 1073741824) {x : Int} (c : -9223372036854775808 ≤ x ∧ x ≤ 9223372036854775807) : Go 29 0 [some (.ref p), some (vl x), none] [] H Q ↔ Q (some (vl (x % P))) H := by
  simp (disch := omega) only [gX3_reduced_0, gX3_reduced_1, gX3_reduced_2, fl_3_0, gX3_reduced_5, gX3_reduced_8, Rd_some, Wr_some, Cont_some, Cont_none, iso_O, true_and, hg_s, hg_n, hput_hput, hp, sp_fmL]
theorem sp_product (hp : hget H p = cO 3 [vl P]) (hP : 1 < P ∧ P < 1073741824) {x y : Int} (c : 0 ≤ x ∧ x < 2147483648 ∧ 0 ≤ y ∧ y < 2147483648) : Go 30 0 [some (.ref p), some (vl x), none, some (vl y), none] [] H Q ↔ Q (some (vl (x * y % P))) H := by
  have h1 := mb c
  simp (disch := omega) only [gX3_product_0, gX3_product_1, gX3_product_2, gX3_product_3, gX3_product_4, fl_3_0, gX3_product_7, gX3_product_8, Rd_some, Wr_some, Cont_some, Cont_none, iso_O, true_and, hg_s, hg_n, hput_hput, hp]
  rw [Int.tmod_eq_emod_of_nonneg h1.1]
theorem sum_v {x y : Int} (c : 0 ≤ x ∧ x < P ∧ 0 ≤ y ∧ y < P) : (x + y) % P = if P ≤ x + y then x + y - P else x + y := by
  split
  · rw [← Int.sub_emod_right, Int.emod_eq_of_lt (by omega) (by omega)]
  · rw [Int.emod_eq_of_lt (by omega) (by omega)]
theorem dif_v {x y : Int} (c : 0 ≤ x ∧ x < P ∧ 0 ≤ y ∧ y < P) : (x - y) % P = if y ≤ x then x - y else x - y + P := by
  split
  · rw [Int.emod_eq_of_lt (by omega) (by omega)]
  · rw [← Int.add_emod_right, Int.emod_eq_of_lt (by omega) (by omega)]
theorem sp_sum (hp : hget H p = cO 3 [vl P]) (hP : 1 < P ∧ P < 1073741824) {x y : Int} (c : 0 ≤ x ∧ x < P ∧ 0 ≤ y ∧ y < P) : Go 31 0 [some (.ref p), some (vl x), none, some (vl y), none, none, none] [] H Q ↔ Q (some (vl ((x + y) % P))) H := by
  rw [sum_v c]
  split
  · simp (disch := omega) only [gX3_sum_0, gX3_sum_1, gX3_sum_2, gX3_sum_3, gX3_sum_5, gX3_sum_7, gX3_sum_8, fl_3_0, gX3_sum_11T, gX3_sum_11F, gX3_sum_12T, gX3_sum_12F, gX3_sum_15, gX3_sum_17, gX3_sum_18, gX3_sum_21, gX3_sum_22, gX3_sum_25, gX3_sum_27, Rd_some, Wr_some, Cont_some, Cont_none, iso_O, true_and, hg_s, hg_n, hput_hput, hp]
  · simp (disch := omega) only [gX3_sum_0, gX3_sum_1, gX3_sum_2, gX3_sum_3, gX3_sum_5, gX3_sum_7, gX3_sum_8, fl_3_0, gX3_sum_11T, gX3_sum_11F, gX3_sum_12T, gX3_sum_12F, gX3_sum_15, gX3_sum_17, gX3_sum_18, gX3_sum_21, gX3_sum_22, gX3_sum_25, gX3_sum_27, Rd_some, Wr_some, Cont_some, Cont_none, iso_O, true_and, hg_s, hg_n, hput_hput, hp]
theorem sp_diff (hp : hget H p = cO 3 [vl P]) (hP : 1 < P ∧ P < 1073741824) {x y : Int} (c : 0 ≤ x ∧ x < P ∧ 0 ≤ y ∧ y < P) : Go 32 0 [some (.ref p), some (vl x), none, some (vl y), none] [] H Q ↔ Q (some (vl ((x - y) % P))) H := by
  rw [dif_v c]
  split
  · simp (disch := omega) only [gX3_difference_0, gX3_difference_1, gX3_difference_2T, gX3_difference_2F, gX3_difference_3T, gX3_difference_3F, gX3_difference_6, gX3_difference_7, gX3_difference_8, gX3_difference_9, gX3_difference_12, gX3_difference_13, gX3_difference_14, gX3_difference_15, gX3_difference_16, fl_3_0, gX3_difference_19, gX3_difference_20, Rd_some, Wr_some, Cont_some, Cont_none, iso_O, true_and, hg_s, hg_n, hput_hput, hp]
  · simp (disch := omega) only [gX3_difference_0, gX3_difference_1, gX3_difference_2T, gX3_difference_2F, gX3_difference_3T, gX3_difference_3F, gX3_difference_6, gX3_difference_7, gX3_difference_8, gX3_difference_9, gX3_difference_12, gX3_difference_13, gX3_difference_14, gX3_difference_15, gX3_difference_16, fl_3_0, gX3_difference_19, gX3_difference_20, Rd_some, Wr_some, Cont_some, Cont_none, iso_O, true_and, hg_s, hg_n, hput_hput, hp]
theorem lp_raised (hp : hget H p = cO 3 [vl P]) (hP : 1 < P ∧ P < 1073741824) : ∀ (k : Nat) (e r s : Int) (l1 l2 l3 l4 : Option Value), 0 ≤ e → e < (2 : Int) ^ k → e ≤ 4611686018427387904 → 0 ≤ r ∧ r < P → 0 ≤ s ∧ s < 2147483648 → (Go 33 9 [some (.ref p), l1, l2, l3, l4, some (vl r), none, some (vl s), none, some (vl e), none] [] H Q ↔ Q (some (vl (r * s ^ e.toNat % P))) H) := by
  intro k
  induction k with
  | zero =>
    intro e r s l1 l2 l3 l4 he he2 he3 hr hs
    have e0 : e = 0 := by
      have : (2 : Int) ^ 0 = 1 := rfl
      omega
    subst e0
    simp (disch := omega) only [gX3_raised_9, gX3_raised_11, gX3_raised_12T, gX3_raised_12F, gX3_raised_54, gX3_raised_56, Rd_some, Wr_some, Cont_some, Cont_none, iso_O, true_and, hg_s, hg_n, hput_hput]
    rw [show r * s ^ (0 : Int).toNat = r by simp, Int.emod_eq_of_lt hr.1 hr.2]
  | succ k ih =>
    intro e r s l1 l2 l3 l4 he he2 he3 hr hs
    by_cases e0 : e = 0
    · subst e0
      simp (disch := omega) only [gX3_raised_9, gX3_raised_11, gX3_raised_12T, gX3_raised_12F, gX3_raised_54, gX3_raised_56, Rd_some, Wr_some, Cont_some, Cont_none, iso_O, true_and, hg_s, hg_n, hput_hput]
      rw [show r * s ^ (0 : Int).toNat = r by simp, Int.emod_eq_of_lt hr.1 hr.2]
    · have h1 := em (P := P) (by omega) (r * s)
      have h2 := em (P := P) (by omega) (s * s)
      have he4 : e / 2 < (2 : Int) ^ k := by
        rw [Int.pow_succ] at he2
        omega
      by_cases ho : e % 2 = 0
      · rw [gX3_raised_9]
        simp (disch := omega) only [gX3_raised_11, gX3_raised_12T, gX3_raised_12F, gX3_raised_13T, gX3_raised_13F, gX3_raised_16, gX3_raised_18, gX3_raised_19, gX3_raised_20, gX3_raised_21T, gX3_raised_21F, gX3_raised_22T, gX3_raised_22F, gX3_raised_25, gX3_raised_26, gX3_raised_28, gX3_raised_30, gX3_raised_33, gX3_raised_35, gX3_raised_36, gX3_raised_38, gX3_raised_40, gX3_raised_43, gX3_raised_45, gX3_raised_47, gX3_raised_48, gX3_raised_49, gX3_raised_51, Rd_some, Wr_some, Cont_some, Cont_none, iso_O, true_and, hg_s, hg_n, hput_hput, bAnd_1, bShr_1, hp, sp_product hp hP]
        rw [ih (e / 2) r _ _ _ _ _ (by omega) he4 (by omega) hr (by omega)]
        have e5 : e.toNat = 2 * (e / 2).toNat := by omega
        rw [e5, sq_pow, Int.mul_emod, pw_emod, ← Int.mul_emod]
      · rw [gX3_raised_9]
        simp (disch := omega) only [gX3_raised_11, gX3_raised_12T, gX3_raised_12F, gX3_raised_13T, gX3_raised_13F, gX3_raised_16, gX3_raised_18, gX3_raised_19, gX3_raised_20, gX3_raised_21T, gX3_raised_21F, gX3_raised_22T, gX3_raised_22F, gX3_raised_25, gX3_raised_26, gX3_raised_28, gX3_raised_30, gX3_raised_33, gX3_raised_35, gX3_raised_36, gX3_raised_38, gX3_raised_40, gX3_raised_43, gX3_raised_45, gX3_raised_47, gX3_raised_48, gX3_raised_49, gX3_raised_51, Rd_some, Wr_some, Cont_some, Cont_none, iso_O, true_and, hg_s, hg_n, hput_hput, bAnd_1, bShr_1, hp, sp_product hp hP]
        rw [ih (e / 2) _ _ _ _ _ _ (by omega) he4 (by omega) (by omega) (by omega)]
        have e5 : e.toNat = 2 * (e / 2).toNat + 1 := by omega
        rw [e5, Int.pow_succ, sq_pow, Int.mul_emod, pw_emod, Int.emod_emod, ← Int.mul_emod, Int.mul_assoc, Int.mul_comm s]
theorem sp_raised (hp : hget H p = cO 3 [vl P]) (hP : 1 < P ∧ P < 1073741824) {x e : Int} (c : 0 ≤ x ∧ x < 2147483648 ∧ 0 ≤ e ∧ e < 1073741824) : Go 33 0 [some (.ref p), some (vl x), none, some (vl e), none, none, none, none, none, none, none] [] H Q ↔ Q (some (vl (x ^ e.toNat % P))) H := by
  simp only [gX3_raised_0, gX3_raised_1, gX3_raised_3, gX3_raised_4, gX3_raised_6, gX3_raised_7, Rd_some, Wr_some, Cont_some, Cont_none, iso_O, true_and, hg_s, hg_n, hput_hput]
  rw [lp_raised hp hP 30 e 1 x _ _ _ _ (by omega) (by show e < 1073741824; omega) (by omega) (by omega) (by omega), Int.one_mul]
theorem sp_recip (hp : hget H p = cO 3 [vl P]) (hP : 1 < P ∧ P < 1073741824) {x : Int} (c : 0 ≤ x ∧ x < 2147483648) : Go 34 0 [some (.ref p), some (vl x), none] [] H Q ↔ Q (some (vl (x ^ (P - 2).toNat % P))) H := by
  simp (disch := omega) only [gX3_reciprocal_0, gX3_reciprocal_1, gX3_reciprocal_2, gX3_reciprocal_3, fl_3_0, gX3_reciprocal_6, gX3_reciprocal_9, gX3_reciprocal_10, gX3_reciprocal_13, Rd_some, Wr_some, Cont_some, Cont_none, iso_O, true_and, hg_s, hg_n, hput_hput, hp, sp_raised hp hP]
theorem sp_hasRoot (hp : hget H p = cO 3 [vl P]) (hP : 1 < P ∧ P < 1073741824) {n : Int} (c : -2147483648 ≤ n ∧ n ≤ 2147483647) : Go 35 0 [some (.ref p), some (vi n)] [] H Q ↔ Q (some (vi (if 0 < n ∧ (P - 1) % n = 0 then 1 else 0))) H := by
  by_cases h : 0 < n
  · have h1 : (P - 1).tmod n = (P - 1) % n := Int.tmod_eq_emod_of_nonneg (by omega)
    have h2 := em h (P - 1)
    by_cases h3 : (P - 1) % n = 0
    · rw [if_pos ⟨h, h3⟩]
      simp (disch := omega) only [gX3_hasRoot_0, gX3_hasRoot_1T, gX3_hasRoot_1F, gX3_hasRoot_4, gX3_hasRoot_5, fl_3_0, gX3_hasRoot_8, gX3_hasRoot_9, gX3_hasRoot_10, gX3_hasRoot_11, gX3_hasRoot_12, gX3_hasRoot_13, gX3_hasRoot_14T, gX3_hasRoot_14F, gX3_hasRoot_15T, gX3_hasRoot_15F, gX3_hasRoot_18, gX3_hasRoot_19, gX3_hasRoot_22, gX3_hasRoot_23, Rd_some, Wr_some, Cont_some, Cont_none, iso_O, true_and, hg_s, hg_n, hput_hput, hp, h1]
    · rw [if_neg (fun q => h3 q.2)]
      simp (disch := omega) only [gX3_hasRoot_0, gX3_hasRoot_1T, gX3_hasRoot_1F, gX3_hasRoot_4, gX3_hasRoot_5, fl_3_0, gX3_hasRoot_8, gX3_hasRoot_9, gX3_hasRoot_10, gX3_hasRoot_11, gX3_hasRoot_12, gX3_hasRoot_13, gX3_hasRoot_14T, gX3_hasRoot_14F, gX3_hasRoot_15T, gX3_hasRoot_15F, gX3_hasRoot_18, gX3_hasRoot_19, gX3_hasRoot_22, gX3_hasRoot_23, Rd_some, Wr_some, Cont_some, Cont_none, iso_O, true_and, hg_s, hg_n, hput_hput, hp, h1]
  · rw [if_neg (fun q => h q.1)]
    simp (disch := omega) only [gX3_hasRoot_0, gX3_hasRoot_1T, gX3_hasRoot_1F, gX3_hasRoot_4, gX3_hasRoot_5, fl_3_0, gX3_hasRoot_8, gX3_hasRoot_9, gX3_hasRoot_10, gX3_hasRoot_11, gX3_hasRoot_12, gX3_hasRoot_13, gX3_hasRoot_14T, gX3_hasRoot_14F, gX3_hasRoot_15T, gX3_hasRoot_15F, gX3_hasRoot_18, gX3_hasRoot_19, gX3_hasRoot_22, gX3_hasRoot_23, Rd_some, Wr_some, Cont_some, Cont_none, iso_O, true_and, hg_s, hg_n, hput_hput, hp]
theorem sp_rootFor (hp : hget H p = cO 3 [vl P]) (hP : 1 < P ∧ P < 1073741824) {n : Int} (c : 0 < n ∧ n ≤ 2147483647) : Go 36 0 [some (.ref p), some (vi n)] [] H Q ↔ Q (some (vl (3 ^ ((P - 1) / n).toNat % P))) H := by
  have h1 : (P - 1).tdiv n = (P - 1) / n := Int.tdiv_eq_ediv_of_nonneg (by omega)
  have h2 : 0 ≤ (P - 1) / n := Int.ediv_nonneg (by omega) (by omega)
  have h3 : (P - 1) / n ≤ P - 1 := Int.ediv_le_self _ (by omega)
  simp (disch := omega) only [gX3_rootFor_0, gX3_rootFor_1T, gX3_rootFor_1F, gX3_rootFor_4, gX3_rootFor_5, gX3_rootFor_8, gX3_rootFor_9, fl_3_0, gX3_rootFor_12, gX3_rootFor_13, gX3_rootFor_14, gX3_rootFor_15, gX3_rootFor_16, gX3_rootFor_17, gX3_rootFor_20, gX3_rootFor_23, gX3_rootFor_24, Rd_some, Wr_some, Cont_some, Cont_none, iso_O, true_and, hg_s, hg_n, hput_hput, hp, h1, sp_raised hp hP]
theorem lp_valueAt (hp : hget H p = cO 3 [vl P]) (hP : 1 < P ∧ P < 1073741824) {a : Nat} {n : Int} {g : Int → Int} (ha : hget H a = cL n g) (hn : n ≤ 1000000) (hg : ∀ j, 0 ≤ j → j < n → 0 ≤ g j ∧ g j < P) {x : Int} (hx : 0 ≤ x ∧ x < P) : ∀ (k : Nat) (i v : Int) (l2 : Option Value), i = (k : Int) - 1 → (k : Int) ≤ n → 0 ≤ v ∧ v < P → (Go 38 13 [some (.ref p), some (.ref a), l2, some (vl x), none, some (vl v), none, some (vi i)] [] H Q ↔ Q (some (vl (hz P g x k v))) H) := by
  intro k
  induction k with
  | zero =>
    intro i v l2 hi hk hv
    simp (disch := omega) only [gX3_valueAt_13, gX3_valueAt_15T, gX3_valueAt_15F, gX3_valueAt_41, gX3_valueAt_43, Rd_some, Wr_some, Cont_some, Cont_none, iso_O, true_and, hg_s, hg_n, hput_hput]
    rfl
  | succ k ih =>
    intro i v l2 hi hk hv
    have h1 := em (P := P) (by omega) (v * x)
    have h2 := hg i (by omega) (by omega)
    have h3 := em (P := P) (by omega) (v * x % P + g i)
    rw [gX3_valueAt_13]
    simp (disch := omega) only [gX3_valueAt_15T, gX3_valueAt_15F, gX3_valueAt_18, gX3_valueAt_19, gX3_valueAt_20, gX3_valueAt_22, gX3_valueAt_23, gX3_valueAt_26, gX3_valueAt_27, gX3_valueAt_29, aL_g, gX3_valueAt_30, gX3_valueAt_33, gX3_valueAt_35, gX3_valueAt_38, Rd_some, Wr_some, Cont_some, Cont_none, iso_O, true_and, hg_s, hg_n, hput_hput, hp, ha, sp_product hp hP, sp_sum hp hP]
    rw [ih (i + -1) _ _ (by omega) (by omega) h3]
    rw [show i = (k : Int) by omega]
    rfl
theorem sp_valueAt (hp : hget H p = cO 3 [vl P]) (hP : 1 < P ∧ P < 1073741824) {a : Nat} {n : Int} {g : Int → Int} (ha : hget H a = cL n g) (hn : 0 ≤ n ∧ n ≤ 1000000) (hg : ∀ j, 0 ≤ j → j < n → 0 ≤ g j ∧ g j < P) {x m : Int} (c : (0 ≤ x ∧ x < P) ∧ 0 ≤ m ∧ m ≤ n) : Go 38 0 [some (.ref p), some (.ref a), some (vi m), some (vl x), none, none, none, none] [] H Q ↔ Q (some (vl (hz P g x m.toNat 0))) H := by
  simp (disch := omega) only [gX3_valueAt_0, gX3_valueAt_1, gX3_valueAt_3, gX3_valueAt_4, gX3_valueAt_5, aN_L, aN_J, gX3_valueAt_6, gX3_valueAt_9, gX3_valueAt_10, gX3_valueAt_11, Rd_some, Wr_some, Cont_some, Cont_none, iso_O, true_and, hg_s, hg_n, hput_hput, ha, sp_minI]
  rw [Int.min_eq_left c.2.2, lp_valueAt hp hP ha hn.2 hg c.1 m.toNat (m - 1) 0 _ (by omega) (by omega) (by omega)]
end SPEC

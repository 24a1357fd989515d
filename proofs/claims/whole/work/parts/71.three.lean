/-! Products: by one prime, by three -/
theorem abs_le {a B : Int} : (a.natAbs : Int) ≤ B ↔ -B ≤ a ∧ a ≤ B := by omega
theorem sm_abs {f : Int → Int} {B : Int} {k : Nat} (h : ∀ j : Nat, j < k → -B ≤ f j ∧ f j ≤ B) : -(k * B) ≤ sm f k ∧ sm f k ≤ k * B := by
  induction k with
  | zero => rw [sm]; simp
  | succ k ih =>
    have h1 := ih (fun j hj => h j (by omega))
    have h2 := h k (by omega)
    rw [sm, show ((k + 1 : Nat) : Int) * B = k * B + B by rw [show ((k + 1 : Nat) : Int) = (k : Int) + 1 by omega, Int.add_mul, Int.one_mul]]
    omega
theorem sm_win {f : Int → Int} {B a m : Int} (hm : 0 ≤ m) (hB : 0 ≤ B) {k : Nat} (h : ∀ j : Nat, j < k → -B ≤ f j ∧ f j ≤ B) (h0 : ∀ j : Nat, j < k → ¬ (a ≤ (j : Int) ∧ (j : Int) < a + m) → f j = 0) : -(max 0 (min m (k - a)) * B) ≤ sm f k ∧ sm f k ≤ max 0 (min m (k - a)) * B := by
  induction k with
  | zero =>
    rw [sm]
    have : 0 ≤ max 0 (min m (((0 : Nat) : Int) - a)) * B := Int.mul_nonneg (by omega) hB
    omega
  | succ k ih =>
    have h1 := ih (fun j hj => h j (by omega)) (fun j hj => h0 j (by omega))
    rw [sm]
    by_cases hw : a ≤ (k : Int) ∧ (k : Int) < a + m
    · have h2 := h k (by omega)
      rw [show max 0 (min m (((k + 1 : Nat) : Int) - a)) = max 0 (min m ((k : Int) - a)) + 1 by omega, Int.add_mul, Int.one_mul]
      omega
    · rw [h0 k (by omega) hw, Int.add_zero]
      have : max 0 (min m ((k : Int) - a)) * B ≤ max 0 (min m (((k + 1 : Nat) : Int) - a)) * B := Int.mul_le_mul_of_nonneg_right (by omega) hB
      omega
theorem gs_ge {g : Int → Int} {k : Nat} {m : Int} {j : Nat} (hj : j < k) : ((g j).natAbs : Int) ≤ gs g k m := by
  induction k with
  | zero => omega
  | succ k ih =>
    rw [gs]
    by_cases e : j = k
    · rw [e]; omega
    · have := ih (by omega); omega
theorem gs_r {g : Int → Int} {n : Int} (h : sml g n) : ∀ k : Nat, (k : Int) ≤ n → 0 ≤ gs g k 0 ∧ gs g k 0 ≤ 2147483648 := by
  intro k
  induction k with
  | zero => intro _; rw [gs]; omega
  | succ k ih =>
    intro hk
    have h1 := ih (by omega)
    have h2 := h k (by omega) (by omega)
    rw [gs]
    omega
theorem tm_r {x y : Int → Int} {nx ny B : Int} (hB : 0 ≤ B) (h : ∀ i j, 0 ≤ i → i < nx → 0 ≤ j → j < ny → -B ≤ x i * y j ∧ x i * y j ≤ B) (k : Int) (i : Nat) (hi : (i : Int) < nx) : -B ≤ tm x y ny k i ∧ tm x y ny k i ≤ B := by
  unfold tm
  split
  · rename_i hq; exact h i (k - i) (by omega) hi hq.1 hq.2
  · omega
/-- the product's entries have less than 70 bits -/
theorem cv_r {x y : Int → Int} {nx ny : Int} (sx : sml x nx) (sy : sml y ny) (hn : 0 ≤ nx ∧ nx ≤ 64) (k : Int) : -295147905179352825856 ≤ cv x nx y ny k ∧ cv x nx y ny k ≤ 295147905179352825856 := by
  have h := sm_abs (f := tm x y ny k) (B := 4611686018427387904) (k := nx.toNat) (fun j hj => tm_r (by decide) (fun a b a0 a1 b0 b1 => ml (sx a a0 a1) (sy b b0 b1)) k j (by omega))
  unfold cv
  omega
/-- less than half a prime, where the sizes are small -/
theorem cv_s {x y : Int → Int} {nx ny B : Int} (hn : 0 ≤ nx) (hm : 0 ≤ ny) (hB : 0 ≤ B) (h : ∀ i j, 0 ≤ i → i < nx → 0 ≤ j → j < ny → -B ≤ x i * y j ∧ x i * y j ≤ B) (k : Int) : -(min nx ny * B) ≤ cv x nx y ny k ∧ cv x nx y ny k ≤ min nx ny * B := by
  unfold cv
  have t := fun (j : Nat) (hj : j < nx.toNat) => tm_r hB h k j (by omega)
  by_cases hq : nx ≤ ny
  · rw [Int.min_eq_left hq]
    have := sm_abs t
    rw [show ((nx.toNat : Nat) : Int) = nx by omega] at this
    exact this
  · rw [Int.min_eq_right (by omega)]
    have h1 := sm_win (a := k - ny + 1) (m := ny) hm hB t (fun j hj hw => if_neg (by omega))
    have h2 : max 0 (min ny (((nx.toNat : Nat) : Int) - (k - ny + 1))) * B ≤ ny * B := Int.mul_le_mul_of_nonneg_right (by omega) hB
    omega
theorem gs_mul {x y : Int → Int} {nx ny : Int} {i j : Int} (i0 : 0 ≤ i) (i1 : i < nx) (j0 : 0 ≤ j) (j1 : j < ny) : -(gs x nx.toNat 0 * gs y ny.toNat 0) ≤ x i * y j ∧ x i * y j ≤ gs x nx.toNat 0 * gs y ny.toNat 0 := by
  have h1 := gs_ge (g := x) (k := nx.toNat) (m := 0) (j := i.toNat) (by omega)
  have h2 := gs_ge (g := y) (k := ny.toNat) (m := 0) (j := j.toNat) (by omega)
  rw [show ((i.toNat : Nat) : Int) = i by omega] at h1
  rw [show ((j.toNat : Nat) : Int) = j by omega] at h2
  have h3 : ((x i * y j).natAbs : Int) ≤ gs x nx.toNat 0 * gs y ny.toNat 0 := by
    rw [Int.natAbs_mul, Int.natCast_mul]
    exact Int.mul_le_mul h1 h2 (by omega) (by omega)
  omega
/-- a number of least size out of what it leaves -/
theorem cen {P V r : Int} (hP : 1 < P) (hr : r = V % P) (hV : -P < 2 * V ∧ 2 * V < P) : (if P / 2 < r then r - P else r) = V := by
  have h1 := em (P := P) (by omega) V
  by_cases h0 : 0 ≤ V
  · rw [Int.emod_eq_of_lt h0 (by omega)] at hr
    rw [if_neg (by omega), hr]
  · have : V % P = V + P := by rw [← Int.add_emod_right]; exact Int.emod_eq_of_lt (by omega) (by omega)
    rw [this] at hr
    rw [if_pos (by omega), hr]
    omega
theorem crt1 {V l0 l1 : Int} (h0 : l0 = V % 998244353) (h1 : l1 = V % 1004535809) : (l1 - l0) % 1004535809 * 669690699 % 1004535809 = (V / 998244353) % 1004535809 := by
  have e0 : V = l0 + 998244353 * (V / 998244353) := by omega
  have h2 : cg 1004535809 (l1 - l0) (998244353 * (V / 998244353)) := by
    have : cg 1004535809 (l1 - l0) (V - l0) := cg.sb (by rw [h1]; exact cg.md) cg.rf
    rw [show V - l0 = 998244353 * (V / 998244353) by omega] at this
    exact this
  have h3 : cg 1004535809 ((l1 - l0) % 1004535809 * 669690699) (998244353 * (V / 998244353) * 669690699) := (cg.md.tr h2).ml cg.rf
  refine h3.trans ?_
  rw [show 998244353 * (V / 998244353) * 669690699 = (V / 998244353) * (998244353 * 669690699) by omega]
  have h4 : cg 1004535809 (998244353 * 669690699) 1 := by unfold cg; decide
  have := (cg.rf (P := 1004535809) (a := V / 998244353)).ml h4
  rw [Int.mul_one] at this
  exact this
theorem crt2 {V l2 st : Int} (h2 : l2 = V % 469762049) (hs : st = V % 998244353 + (V / 998244353) % 1004535809 * 998244353) : (l2 - st) % 469762049 * 354521948 % 469762049 = (V / 1002772198720536577) % 469762049 ∧ V = st + (V / 1002772198720536577) * 1002772198720536577 ∧ 0 ≤ st ∧ st < 1002772198720536577 := by
  have e1 : V = st + (V / 1002772198720536577) * 1002772198720536577 := by
    have a1 : V / 998244353 / 1004535809 = V / 1002772198720536577 := by
      rw [Int.ediv_ediv_of_nonneg (by decide)]; rfl
    omega
  have b0 : 0 ≤ st ∧ st < 1002772198720536577 := by omega
  refine ⟨?_, e1, b0⟩
  have h3 : cg 469762049 (l2 - st) ((V / 1002772198720536577) * 1002772198720536577) := by
    have : cg 469762049 (l2 - st) (V - st) := cg.sb (by rw [h2]; exact cg.md) cg.rf
    rw [show V - st = (V / 1002772198720536577) * 1002772198720536577 by omega] at this
    exact this
  have h4 : cg 469762049 ((l2 - st) % 469762049 * 354521948) ((V / 1002772198720536577) * 1002772198720536577 * 354521948) := (cg.md.tr h3).ml cg.rf
  refine h4.trans ?_
  rw [show (V / 1002772198720536577) * 1002772198720536577 * 354521948 = (V / 1002772198720536577) * (1002772198720536577 * 354521948) by omega]
  have h5 : cg 469762049 (1002772198720536577 * 354521948) 1 := by unfold cg; decide
  have := (cg.rf (P := 469762049) (a := V / 1002772198720536577)).ml h5
  rw [Int.mul_one] at this
  exact this
section THREE
variable {H : HP} {Q : Option Value → HP → Prop}
/-- the three fast ones and their primes; what stands in the rows of the first results -/
def FO (H : HP) : Prop := (hget H 25 = cO 3 [vl 998244353] ∧ hget H 26 = cO 3 [vl 1004535809] ∧ hget H 27 = cO 3 [vl 469762049]) ∧ hget H 32 = cO 1 [.ref 25, .ref 33, .ref 34] ∧ hget H 35 = cO 1 [.ref 26, .ref 36, .ref 37] ∧ hget H 38 = cO 1 [.ref 27, .ref 39, .ref 40]
theorem FO.fm {H H' : HP} (h : FO H) (f : Fm 28 31 H H') : FO H' := by
  obtain ⟨⟨a1, a2, a3⟩, a4, a5, a6⟩ := h
  exact ⟨⟨by rw [f.2.2 25 (by omega)]; exact a1, by rw [f.2.2 26 (by omega)]; exact a2, by rw [f.2.2 27 (by omega)]; exact a3⟩, by rw [f.2.2 32 (by omega)]; exact a4, by rw [f.2.2 35 (by omega)]; exact a5, by rw [f.2.2 38 (by omega)]; exact a6⟩
abbrev pJ0 : Int := 669690699
abbrev pJ1 : Int := 354521948
theorem sp_join3 (hF : FO H) {n V : Int} (hp : hget H 28 = cPr n 669690699 354521948) {u w : Int} (hs : hget H 31 = cO 7 [vl u, vl w]) {l0 l1 l2 : Int} (h0 : l0 = V % 998244353) (h1 : l1 = V % 1004535809) (h2 : l2 = V % 469762049) (hV : -295147905179352825856 ≤ V ∧ V ≤ 295147905179352825856) : Go 49 0 [some (.ref 28), some (vl l0), none, some (vl l1), none, some (vl l2), none, none, none, none, none, none, none, none, none] [] H Q ↔ Q none (hput H 31 (cW V)) := by
  obtain ⟨⟨p0, p1, p2⟩, o0, o1, o2⟩ := hF
  have c1 := crt1 h0 h1
  generalize hd1 : (V / 998244353) % 1004535809 = d1 at *
  have m1 : 0 ≤ d1 ∧ d1 < 1004535809 := by rw [← hd1]; exact em (by decide) _
  obtain ⟨c2, c3, c4⟩ := crt2 (V := V) h2 (st := l0 + d1 * 998244353) (by rw [h0, hd1])
  have m2 := em (P := 469762049) (by decide) (V / 1002772198720536577)
  have c5 := cen (P := 469762049) (V := V / 1002772198720536577) (by decide) rfl (by omega)
  have b0 : 0 ≤ l0 ∧ l0 < 998244353 := by rw [h0]; exact em (by decide) _
  have b1 : 0 ≤ l1 ∧ l1 < 1004535809 := by rw [h1]; exact em (by decide) _
  have b2 : 0 ≤ l2 ∧ l2 < 469762049 := by rw [h2]; exact em (by decide) _
  have r1 := em (P := 1004535809) (by decide) (l1 - l0)
  have r2 := em (P := 469762049) (by decide) (l2 - (l0 + d1 * 998244353))
  have p1' : ∀ c, hget (hput H 31 c) 28 = cPr n 669690699 354521948 := fun c => by rw [hg_n (by omega)]; exact hp
  simp (disch := omega) only [gX4_join_0, gX4_join_1, fl_4_5, gX4_join_4, fl_1_0, gX4_join_7, gX4_join_7N, gX4_join_9, gX4_join_10, fl_4_6, gX4_join_13, gX4_join_16, gX4_join_16N, gX4_join_18, gX4_join_18N, gX4_join_20, gX4_join_20N, gX4_join_22, gX4_join_23, gX4_join_24, gX4_join_25, gX4_join_28, gX4_join_29, fl_4_7, gX4_join_32, gX4_join_35, gX4_join_37, gX4_join_38, gX4_join_40, gX4_join_43, gX4_join_44, gX4_join_45, Rd_some, Wr_some, Cont_some, Cont_none, iso_O, true_and, hg_s, hg_n, hput_hput, hp, o1, o2, p1, p2, sp_reduced p1 (by decide), sp_product p1 (by decide), c1]
  simp (disch := omega) only [gX4_join_47, gX4_join_47N, gX4_join_49, gX4_join_49N, gX4_join_51, gX4_join_53, gX4_join_55, gX4_join_56, gX4_join_59, gX4_join_60, fl_4_8, gX4_join_63, gX4_join_66, gX4_join_68, gX4_join_69, fl_4_3, gX4_join_72, gX4_join_75, gX4_join_76, gX4_join_79, gX4_join_81, gX4_join_84, gX4_join_85, Rd_some, Wr_some, Cont_some, Cont_none, iso_O, true_and, hg_s, hg_n, hput_hput, hp, p2, sp_reduced p2 (by decide), sp_product p2 (by decide), c2, hs, p1', sp_clear hs (by decide), sp_addW (s := 31) hg_s (by decide)]
  generalize hd2 : V / 1002772198720536577 = d2 at *
  rw [Int.zero_add]
  by_cases hg : 469762049 / 2 < d2 % 469762049
  · rw [if_pos hg] at c5
    simp (disch := omega) only [gX4_join_88, gX4_join_90, gX4_join_93T, gX4_join_93F, gX4_join_94T, gX4_join_94F, gX4_join_97, gX4_join_99, gX4_join_102, gX4_join_103, gX4_join_106, gX4_join_108, gX4_join_111, gX4_join_114, Rd_some, Wr_some, Cont_some, Cont_none, iso_O, true_and, hg_s, hg_n, hput_hput, sp_addProduct (s := 31) hg_s (by decide), c5]
    rw [← c3]
  · rw [if_neg hg] at c5
    simp (disch := omega) only [gX4_join_88, gX4_join_90, gX4_join_93T, gX4_join_93F, gX4_join_94T, gX4_join_94F, gX4_join_97, gX4_join_99, gX4_join_102, gX4_join_103, gX4_join_106, gX4_join_108, gX4_join_111, gX4_join_114, Rd_some, Wr_some, Cont_some, Cont_none, iso_O, true_and, hg_s, hg_n, hput_hput, sp_addProduct (s := 31) hg_s (by decide), c5]
    rw [← c3]
end THREE

/-! m: carry -/
theorem cr_half {V : Int → Int} {n m : Int} (hm : 2 ≤ m) (hr : Vr V n) (hg : ¬ ng V n) (i : Nat) : cr V n m (n.toNat + i) * 2 ^ i ≤ 75557863725914323419136 := by
  induction i with
  | zero =>
    rw [Int.pow_zero, Int.mul_one]
    exact (cr_r hm hr hg _).2
  | succ i ih =>
    have h0 := cr_r hm hr hg (n.toNat + i)
    have e : cr V n m (n.toNat + (i + 1)) = cr V n m (n.toNat + i) / m := by
      show (cr V n m (n.toNat + i) + vt V n ((n.toNat + i : Nat) : Int)) / m = _
      rw [show vt V n ((n.toNat + i : Nat) : Int) = 0 from if_neg (by omega), Int.add_zero]
    rw [e]
    generalize cr V n m (n.toNat + i) = c at *
    have h1 : 0 ≤ c / m := Int.ediv_nonneg h0.1 (by omega)
    have h2 : m * (c / m) ≤ c := Int.mul_ediv_self_le (by omega)
    have h3 : 2 * (c / m) ≤ m * (c / m) := Int.mul_le_mul_of_nonneg_right hm h1
    have h4 : (0 : Int) < 2 ^ i := Int.pow_pos (by decide)
    have h5 : 2 * (c / m) * 2 ^ i ≤ c * 2 ^ i := Int.mul_le_mul_of_nonneg_right (by omega) (Int.le_of_lt h4)
    rw [Int.pow_succ, show c / m * (2 ^ i * 2) = 2 * (c / m) * 2 ^ i by ac_rfl]
    omega
theorem cr_end {V : Int → Int} {n m : Int} (hm : 2 ≤ m) (hr : Vr V n) (hg : ¬ ng V n) : cr V n m (n.toNat + 80) = 0 := by
  have h0 := (cr_r hm hr hg (n.toNat + 80)).1
  have h1 := cr_half hm hr hg 80
  have e : (2 : Int) ^ 80 = 1208925819614629174706176 := by decide
  rw [e] at h1
  omega
theorem cr_0 {V : Int → Int} {n m : Int} (hm : 2 ≤ m) {K : Nat} (hK : n ≤ (K : Int)) (h : cr V n m K = 0) (i : Nat) : cr V n m (K + i) = 0 ∧ dt V n m (K + i) = 0 ∧ ld' V n m (K + i) = ld' V n m K := by
  have key : ∀ j : Nat, K ≤ j → cr V n m j = 0 → dt V n m j = 0 := fun j hj e => by
    unfold dt
    rw [e, show vt V n (j : Int) = 0 from if_neg (by omega), Int.add_zero, Int.zero_emod]
  induction i with
  | zero => exact ⟨h, key K (Nat.le_refl K) h, rfl⟩
  | succ i ih =>
    have e : cr V n m (K + (i + 1)) = 0 := by
      show (cr V n m (K + i) + vt V n ((K + i : Nat) : Int)) / m = 0
      rw [ih.1, show vt V n ((K + i : Nat) : Int) = 0 from if_neg (by omega), Int.add_zero, Int.zero_ediv]
    refine ⟨e, key _ (by omega) e, ?_⟩
    show (if dt V n m (K + i) = 0 then ld' V n m (K + i) else ((K + i : Nat) : Int)) = _
    rw [if_pos ih.2.1, ih.2.2]
theorem jAnd_1 {a : Int} (h : a = 0 ∨ a = 1) : jAnd a 1 = a := by rcases h with rfl | rfl <;> decide
theorem jAnd_0 {a : Int} (h : a = 0 ∨ a = 1) : jAnd a 0 = 0 := by rcases h with rfl | rfl <;> decide
section MCAR
variable {H : HP} {S : SS} {T : TT} {Q : Option Value → HP → Prop} {a m n : Int}
theorem lp_sgn (h41 : hget H 41 = cM S) (hn : (S.2.2 2).1 = n ∧ 0 ≤ n ∧ n ≤ 127) {U V : Int → Int} (h47 : hget H 47 = cL 128 U) (hU : ∀ j, 0 ≤ j → j < n → U j = V j / 18446744073709551616) (hV : Vr V n) {l1 l2 l5 l6 l7 l8 l9 l10 l11 l12 l13 : Option Value} {g : Int} (hg : g = 0 ∨ g = 1) : ∀ (f k : Nat), (k : Int) + f = n → (Go 158 39 [some (.ref 41), l1, l2, some (vi (if ngb V k = true then 0 else g)), some (vi (k : Int)), l5, l6, l7, l8, l9, l10, l11, l12, l13] [] H Q ↔ Go 158 74 [some (.ref 41), l1, l2, some (vi (if ngb V n.toNat = true then 0 else g)), some (vi n), l5, l6, l7, l8, l9, l10, l11, l12, l13] [] H Q) := by
  have hnS := hn.1
  intro f
  induction f with
  | zero =>
    intro k hk
    rw [show n.toNat = k by omega, show n = (k : Int) by omega, gX9_carry_39]
    have hnk : (S.2.2 2).1 = (k : Int) := by omega
    simp (disch := omega) only [gX9_carry_41, gX9_carry_42, fl_9_8, gX9_carry_45T, gX9_carry_45F, Rd_some, Wr_some, Cont_some, Cont_none, iso_O, true_and, hg_s, hg_n, hput_hput, h41, hnk]
  | succ f ih =>
    intro k hk
    have h1 := hU k (by omega) (by omega)
    have h2 := hV k (by omega) (by omega)
    rw [← ih (k + 1) (by omega), ngb]
    have hf : (if ngb V k = true then (0 : Int) else g) = 0 ∨ (if ngb V k = true then (0 : Int) else g) = 1 := by
      split
      · exact Or.inl rfl
      · exact hg
    rw [gX9_carry_39]
    by_cases hb : V k < 0
    · rw [decide_eq_true hb, Bool.or_true, if_pos rfl]
      generalize (if ngb V k = true then (0 : Int) else g) = G at *
      simp (disch := omega) only [gX9_carry_41, gX9_carry_42, fl_9_8, gX9_carry_45T, gX9_carry_45F, gX9_carry_48, gX9_carry_49, gX9_carry_50, fl_9_9, gX9_carry_53, gX9_carry_55, aL_g, gX9_carry_56, gX9_carry_57T, gX9_carry_57F, gX9_carry_58T, gX9_carry_58F, gX9_carry_61, gX9_carry_62, gX9_carry_65, gX9_carry_66, gX9_carry_67, gX9_carry_68, gX9_carry_71, Rd_some, Wr_some, Cont_some, Cont_none, iso_O, true_and, hg_s, hg_n, hput_hput, h41, hnS, h47, h1, jAnd_0 hf]
      exact Iff.rfl
    · rw [decide_eq_false hb, Bool.or_false]
      generalize (if ngb V k = true then (0 : Int) else g) = G at *
      simp (disch := omega) only [gX9_carry_41, gX9_carry_42, fl_9_8, gX9_carry_45T, gX9_carry_45F, gX9_carry_48, gX9_carry_49, gX9_carry_50, fl_9_9, gX9_carry_53, gX9_carry_55, aL_g, gX9_carry_56, gX9_carry_57T, gX9_carry_57F, gX9_carry_58T, gX9_carry_58F, gX9_carry_61, gX9_carry_62, gX9_carry_65, gX9_carry_66, gX9_carry_67, gX9_carry_68, gX9_carry_71, Rd_some, Wr_some, Cont_some, Cont_none, iso_O, true_and, hg_s, hg_n, hput_hput, h41, hnS, h47, h1, jAnd_1 hf]
      exact Iff.rfl
theorem lp_zc (h41 : hget H 41 = cM S) {f : Int → Int} {l1 l2 l3 l5 l6 l7 l8 l9 l10 l11 l12 l13 : Option Value} : ∀ (e : Nat) (i : Int), i + e = 9 → 0 ≤ i → (Go 158 84 [some (.ref 41), l1, l2, l3, some (vi i), l5, l6, l7, l8, l9, l10, l11, l12, l13] [] (hput H 56 (cL 9 (mix (fun _ => 0) f i))) Q ↔ Go 158 105 [some (.ref 41), l1, l2, l3, some (vi 9), l5, l6, l7, l8, l9, l10, l11, l12, l13] [] (hput H 56 (cL 9 (mix (fun _ => 0) f 9))) Q) := by
  have x41 : ∀ c, hget (hput H 56 c) 41 = cM S := fun c => by rw [hg_n (by omega)]; exact h41
  intro e
  induction e with
  | zero =>
    intro i hi h0
    rw [show i = 9 by omega, gX9_carry_84]
    simp (disch := omega) only [gX9_carry_86, gX9_carry_88T, gX9_carry_88F, Rd_some, Wr_some, Cont_some, Cont_none, iso_O, true_and, hg_s, hg_n, hput_hput]
  | succ e ih =>
    intro i hi h0
    rw [gX9_carry_84]
    simp (disch := omega) only [gX9_carry_86, gX9_carry_88T, gX9_carry_88F, gX9_carry_91, gX9_carry_92, fl_9_22, gX9_carry_95, gX9_carry_97, gX9_carry_98, sL_p, gX9_carry_99, gX9_carry_102, Rd_some, Wr_some, Cont_some, Cont_none, iso_O, true_and, hg_s, hg_n, hput_hput, x41]
    rw [mix_up h0 rfl]
    exact ih (i + 1) (by omega) (by omega)
/-- whether the digits go on -/
def mre (V : Int → Int) (n m : Int) (k : Nat) : Int := if k = 0 ∨ cr V n m k ≠ 0 ∨ (k : Int) < n then 1 else 0
theorem lp_c3 (h41 : hget H 41 = cM S) (hn : (S.2.2 2).1 = n ∧ 0 ≤ n ∧ n ≤ 127) {U W V : Int → Int} (h47 : hget H 47 = cL 128 U) (h48 : hget H 48 = cL 128 W) (hUW : ∀ j, 0 ≤ j → j < n → U j = V j / 18446744073709551616 ∧ W j = V j) (hm : 2 ≤ m ∧ m ≤ 10000) (hr : Vr V n) (hg : ¬ ng V n) {l1 l3 : Option Value} (hq : ∀ (K : Nat) (D c : Int → Int) (l6 l7 l8 l9 l10 l11 l12 l13 : Option Value), 1 ≤ K → n ≤ (K : Int) → K ≤ n.toNat + 80 → cr V n m K = 0 → (∀ j : Nat, j < K → D j = dt V n m j) → Go 158 351 [some (.ref 41), l1, some (vi m), l3, some (vi (K : Int)), some (vi 0), l6, l7, l8, l9, l10, l11, l12, l13] [] (hput (hput H 55 (cJ 400 D)) 56 (cL 9 c)) Q) : ∀ (f k : Nat) (D c : Int → Int) (l6 l7 l8 l9 l10 l11 l12 l13 : Option Value), k + f = n.toNat + 80 → mo 65536 c 9 → lv c 9 = cr V n m k → (∀ j : Nat, j < k → D j = dt V n m j) → Go 158 111 [some (.ref 41), l1, some (vi m), l3, some (vi (k : Int)), some (vi (mre V n m k)), l6, l7, l8, l9, l10, l11, l12, l13] [] (hput (hput H 55 (cJ 400 D)) 56 (cL 9 c)) Q := by
  have x41 : ∀ d, hget (hput H 55 d) 41 = cM S := fun d => by rw [hg_n (by omega)]; exact h41
  have y41 : ∀ d c, hget (hput (hput H 55 d) 56 c) 41 = cM S := fun d c => by rw [hg_n (by omega)]; exact x41 d
  have x47 : ∀ d, hget (hput H 55 d) 47 = cL 128 U := fun d => by rw [hg_n (by omega)]; exact h47
  have x48 : ∀ d, hget (hput H 55 d) 48 = cL 128 W := fun d => by rw [hg_n (by omega)]; exact h48
  have y55 : ∀ d c, hget (hput (hput H 55 d) 56 c) 55 = d := fun d c => by rw [hg_n (by omega), hg_s]
  have cm : ∀ d c e, hput (hput (hput H 55 d) 56 c) 55 e = hput (hput H 55 e) 56 c := fun d c e => by rw [hput_comm (by omega), hput_hput]
  have hnS := hn.1
  have stop : ∀ (k : Nat) (D c : Int → Int) (l6 l7 l8 l9 l10 l11 l12 l13 : Option Value), ¬ (k = 0 ∨ cr V n m k ≠ 0 ∨ (k : Int) < n) → k ≤ n.toNat + 80 → (∀ j : Nat, j < k → D j = dt V n m j) → Go 158 111 [some (.ref 41), l1, some (vi m), l3, some (vi (k : Int)), some (vi (mre V n m k)), l6, l7, l8, l9, l10, l11, l12, l13] [] (hput (hput H 55 (cJ 400 D)) 56 (cL 9 c)) Q := by
    intro k D c l6 l7 l8 l9 l10 l11 l12 l13 hk hk2 hD
    rw [show mre V n m k = 0 from if_neg hk, gX9_carry_111]
    simp (disch := omega) only [gX9_carry_113T, gX9_carry_113F, Rd_some, Wr_some, Cont_some, Cont_none, iso_O, true_and, hg_s, hg_n, hput_hput]
    refine hq k D c _ _ _ _ _ _ _ _ ?_ ?_ hk2 ?_ hD
    · exact Nat.pos_of_ne_zero fun e => hk (Or.inl e)
    · exact Int.not_lt.mp fun e => hk (Or.inr (Or.inr e))
    · exact Classical.byContradiction fun e => hk (Or.inr (Or.inl e))
  intro f
  induction f with
  | zero =>
    intro k D c l6 l7 l8 l9 l10 l11 l12 l13 hk hmo hlv hD
    refine stop k D c _ _ _ _ _ _ _ _ ?_ (by omega) hD
    rw [show k = n.toNat + 80 by omega, cr_end hm.1 hr hg]
    rintro (e | e | e)
    · omega
    · exact e rfl
    · omega
  | succ f ih =>
    intro k D c l6 l7 l8 l9 l10 l11 l12 l13 hk hmo hlv hD
    by_cases hmr : k = 0 ∨ cr V n m k ≠ 0 ∨ (k : Int) < n
    · have c0 := cr_r hm.1 hr hg k
      have hv : 0 ≤ vt V n k ∧ vt V n k ≤ 75557863725914323419136 := by
        unfold vt
        split
        · rename_i h
          have h1 := hr k (by omega) h
          have h2 : ¬ V k < 0 := fun q => hg ⟨k, by omega, h, q⟩
          omega
        · decide
      have e9 : (65536 : Int) ^ 9 = 22300745198530623141535718272648361505980416 := by decide
      rw [show mre V n m k = 1 from if_pos hmr, gX9_carry_111]
      simp (disch := omega) only [gX9_carry_113T, gX9_carry_113F, gX9_carry_116, gX9_carry_117, gX9_carry_119, gX9_carry_120, Rd_some, Wr_some, Cont_some, Cont_none, iso_O, true_and, hg_s, hg_n, hput_hput]
      refine lp_c1 (x41 _) hn (x47 _) (x48 _) hUW (k := (k : Int)) (v := vt V n k) (by omega) rfl hv hmo (by rw [hlv, e9]; omega) (fun c1 l9 l10 l11 l12 m1 v1 => ?_) 9 0 c 0 _ _ _ _ rfl hmo (fun t _ _ => rfl) (by omega) (by rw [Int.zero_mul, Int.add_zero, Int.pow_zero, Int.emod_one]; rfl)
      simp (disch := omega) only [gX9_carry_237, gX9_carry_238, gX9_carry_240, gX9_carry_241, gX9_carry_243, gX9_carry_245, Rd_some, Wr_some, Cont_some, Cont_none, iso_O, true_and, hg_s, hg_n, hput_hput]
      have tot : lv c1 9 = cr V n m k + vt V n k := by rw [v1, hlv]
      refine lp_c2 (x41 _) hm m1 (fun c2 i l12 l13 m2 v2 i1 i2 => ?_) 9 0 c1 0 0 _ _ rfl m1 (fun t _ => rfl) (by omega) (Or.inl rfl) ⟨fun _ => rfl, fun _ => rfl⟩ (by rw [Int.zero_mul, show hs c1 0 = 0 from rfl, Int.mul_zero]; omega)
      rw [tot] at v2 ⊢
      have v2 : lv c2 9 = cr V n m (k + 1) := v2
      have dd : (cr V n m k + vt V n k) % m = dt V n m k := rfl
      rw [dd]
      have hD' : ∀ j : Nat, j < k + 1 → up D (k : Int) (dt V n m k) j = dt V n m j := fun j hj => by
        unfold up
        by_cases e : (j : Int) = k
        · rw [if_pos e, show j = k by omega]
        · rw [if_neg e]; exact hD j (by omega)
      have go := fun l6 l7 l8 l9 l10 l11 l12 l13 => ih (k + 1) (up D (k : Int) (dt V n m k)) c2 l6 l7 l8 l9 l10 l11 l12 l13 (by omega) m2 v2 hD'
      by_cases hi : i = 0
      · have z := i2.mp hi
        by_cases hkn : (k : Int) + 1 < n
        · rw [show mre V n m (k + 1) = 1 from if_pos (Or.inr (Or.inr (by omega)))] at go
          simp (disch := omega) only [gX9_carry_314, gX9_carry_315, fl_9_21, gX9_carry_318, gX9_carry_320, gX9_carry_322, gX9_carry_323, sJ_p, gX9_carry_324, gX9_carry_327, gX9_carry_329T, gX9_carry_329F, gX9_carry_332, gX9_carry_334, gX9_carry_335, fl_9_8, gX9_carry_338T, gX9_carry_338F, gX9_carry_341, gX9_carry_342, gX9_carry_345, gX9_carry_346, gX9_carry_348, Rd_some, Wr_some, Cont_some, Cont_none, iso_O, true_and, hg_s, hg_n, hput_hput, y41, y55, cm, hnS]
          exact go _ _ _ _ _ _ _ _
        · rw [show mre V n m (k + 1) = 0 from if_neg (by rintro (e | e | e); omega; exact e (by rw [← v2]; exact z); omega)] at go
          simp (disch := omega) only [gX9_carry_314, gX9_carry_315, fl_9_21, gX9_carry_318, gX9_carry_320, gX9_carry_322, gX9_carry_323, sJ_p, gX9_carry_324, gX9_carry_327, gX9_carry_329T, gX9_carry_329F, gX9_carry_332, gX9_carry_334, gX9_carry_335, fl_9_8, gX9_carry_338T, gX9_carry_338F, gX9_carry_341, gX9_carry_342, gX9_carry_345, gX9_carry_346, gX9_carry_348, Rd_some, Wr_some, Cont_some, Cont_none, iso_O, true_and, hg_s, hg_n, hput_hput, y41, y55, cm, hnS]
          exact go _ _ _ _ _ _ _ _
      · rw [show mre V n m (k + 1) = 1 from if_pos (Or.inr (Or.inl (by rw [← v2]; exact fun e => hi (i2.mpr e))))] at go
        simp (disch := omega) only [gX9_carry_314, gX9_carry_315, fl_9_21, gX9_carry_318, gX9_carry_320, gX9_carry_322, gX9_carry_323, sJ_p, gX9_carry_324, gX9_carry_327, gX9_carry_329T, gX9_carry_329F, gX9_carry_332, gX9_carry_334, gX9_carry_335, fl_9_8, gX9_carry_338T, gX9_carry_338F, gX9_carry_341, gX9_carry_342, gX9_carry_345, gX9_carry_346, gX9_carry_348, Rd_some, Wr_some, Cont_some, Cont_none, iso_O, true_and, hg_s, hg_n, hput_hput, y41, y55, cm, hnS]
        exact go _ _ _ _ _ _ _ _
    · exact stop k D c _ _ _ _ _ _ _ _ hmr (by omega) hD
theorem lp_c4 (h41 : hget H 41 = cM S) {V D : Int → Int} (h55 : hget H 55 = cJ 400 D) (hm : 2 ≤ m ∧ m ≤ 10000) {l1 l3 l5 l6 l7 l8 l9 l10 l11 l12 l13 : Option Value} : ∀ (k : Nat), k + 1 ≤ 400 → (∀ j : Nat, j < k + 1 → D j = dt V n m j) → (Go 158 351 [some (.ref 41), l1, some (vi m), l3, some (vi ((k + 1 : Nat) : Int)), l5, l6, l7, l8, l9, l10, l11, l12, l13] [] H Q ↔ Go 158 375 [some (.ref 41), l1, some (vi m), l3, some (vi (ld' V n m (k + 1) + 1)), l5, l6, l7, l8, l9, l10, l11, l12, l13] [] H Q) := by
  intro k
  induction k with
  | zero =>
    intro hk hD
    rw [show ld' V n m (0 + 1) = 0 by show (if dt V n m 0 = 0 then (0 : Int) else ((0 : Nat) : Int)) = 0; split <;> rfl, gX9_carry_351]
    simp (disch := omega) only [gX9_carry_353, gX9_carry_354T, gX9_carry_354F, Rd_some, Wr_some, Cont_some, Cont_none, iso_O, true_and, hg_s, hg_n, hput_hput]
    rfl
  | succ k ih =>
    intro hk hD
    have d1 := hD (k + 1) (by omega)
    have r1 := em (show 0 < m by omega) (cr V n m (k + 1) + vt V n ((k + 1 : Nat) : Int))
    have r1 : 0 ≤ dt V n m (k + 1) ∧ dt V n m (k + 1) < m := r1
    have ei : ((k + 1 + 1 : Nat) : Int) - 1 = ((k + 1 : Nat) : Int) := by omega
    have hl : ld' V n m (k + 1 + 1) = if dt V n m (k + 1) = 0 then ld' V n m (k + 1) else ((k + 1 : Nat) : Int) := rfl
    rw [hl, gX9_carry_351]
    by_cases hz : dt V n m (k + 1) = 0
    · rw [if_pos hz, ← ih (by omega) (fun j hj => hD j (by omega))]
      simp (disch := omega) only [gX9_carry_353, gX9_carry_354T, gX9_carry_354F, gX9_carry_357, gX9_carry_358, fl_9_21, gX9_carry_361, gX9_carry_363, gX9_carry_364, gX9_carry_365, aJ_g, gX9_carry_366T, gX9_carry_366F, gX9_carry_369, gX9_carry_372, Rd_some, Wr_some, Cont_some, Cont_none, iso_O, true_and, hg_s, hg_n, hput_hput, h41, h55, ei, d1]
      rw [show ((k + 1 + 1 : Nat) : Int) + -1 = ((k + 1 : Nat) : Int) by omega]
    · rw [if_neg hz]
      simp (disch := omega) only [gX9_carry_353, gX9_carry_354T, gX9_carry_354F, gX9_carry_357, gX9_carry_358, fl_9_21, gX9_carry_361, gX9_carry_363, gX9_carry_364, gX9_carry_365, aJ_g, gX9_carry_366T, gX9_carry_366F, Rd_some, Wr_some, Cont_some, Cont_none, iso_O, true_and, hg_s, hg_n, hput_hput, h41, h55, ei, d1]
      rw [show ((k + 1 + 1 : Nat) : Int) = ((k + 1 : Nat) : Int) + 1 by omega]
theorem lp_c5 (h41 : hget H 41 = cM S) {D B en : Int → Int} (h55 : hget H 55 = cJ 400 D) {N r : Int} (hN : 0 ≤ N ∧ N ≤ 64) (hr : 0 ≤ r ∧ r ≤ 12) (hD : ∀ j, 0 ≤ j → j < N → B j = D j ∧ 0 ≤ D j ∧ D j ≤ 10000) {l1 l2 l3 l5 l8 l9 l10 l11 l12 l13 : Option Value} : ∀ (e : Nat) (i : Int), i + e = N → 0 ≤ i → (Go 158 398 [some (.ref 41), l1, l2, l3, some (vi N), l5, some (vi r), some (vi i), l8, l9, l10, l11, l12, l13] [] (hput H 45 (cL 832 (lay B en (64 * r) i))) Q ↔ Q (some (vi N)) (hput H 45 (cL 832 (lay B en (64 * r) N)))) := by
  have x41 : ∀ c, hget (hput H 45 c) 41 = cM S := fun c => by rw [hg_n (by omega)]; exact h41
  have x55 : ∀ c, hget (hput H 45 c) 55 = cJ 400 D := fun c => by rw [hg_n (by omega)]; exact h55
  intro e
  induction e with
  | zero =>
    intro i hi h0
    rw [show i = N by omega, gX9_carry_398]
    simp (disch := omega) only [gX9_carry_400, gX9_carry_402T, gX9_carry_402F, gX9_carry_432, gX9_carry_434, Rd_some, Wr_some, Cont_some, Cont_none, iso_O, true_and, hg_s, hg_n, hput_hput]
  | succ e ih =>
    intro i hi h0
    have d1 := hD i h0 (by omega)
    rw [gX9_carry_398]
    simp (disch := omega) only [gX9_carry_400, gX9_carry_402T, gX9_carry_402F, gX9_carry_405, gX9_carry_406, fl_9_4, gX9_carry_409, gX9_carry_411, gX9_carry_413, gX9_carry_414, gX9_carry_416, gX9_carry_417, gX9_carry_418, fl_9_21, gX9_carry_421, gX9_carry_423, aJ_g, gX9_carry_424, gX9_carry_425, sL_p, gX9_carry_426, gX9_carry_429, Rd_some, Wr_some, Cont_some, Cont_none, iso_O, true_and, hg_s, hg_n, hput_hput, x41, x55]
    rw [lay_up h0 d1.1.symm]
    exact ih (i + 1) (by omega) (by omega)
theorem mx_carry (hm0 : MJ H S) {k : Nat} (hk : ¬ live S k) (c : (-2147483648 ≤ a ∧ a ≤ 2147483647) ∧ (-2147483648 ≤ m ∧ m ≤ 2147483647)) (hq : MG H Q (o_carry S a m k)) : Go 158 0 [some (.ref 41), some (vi a), some (vi m), none, none, none, none, none, none, none, none, none, none, none] [] H Q := by
  obtain ⟨T, h1, h2, h3, h4⟩ := id hm0
  have hx := h1.v.1
  have hn0 := h3.2.2.1
  have hVr := h3.2.2.2.2.2.2.2
  obtain ⟨U, h47, hU⟩ := h1 47 (by decide) (by decide)
  obtain ⟨W, h48, hW⟩ := h1 48 (by decide) (by decide)
  obtain ⟨D0, h55⟩ := h1 55 (by decide) (by decide)
  obtain ⟨c0, h56⟩ := h1 56 (by decide) (by decide)
  unfold o_carry MG at hq
  by_cases ha : 0 ≤ a ∧ a < 12
  · rw [if_pos ha] at hq
    by_cases hm : 2 ≤ m ∧ m ≤ 10000
    · rw [if_pos hm] at hq
      have sg := fun g (hg : g = 0 ∨ g = 1) (l5 l6 l7 l8 l9 l10 l11 l12 l13 : Option Value) => lp_sgn (Q := Q) (l1 := some (vi a)) (l2 := some (vi m)) (l5 := l5) (l6 := l6) (l7 := l7) (l8 := l8) (l9 := l9) (l10 := l10) (l11 := l11) (l12 := l12) (l13 := l13) hx ⟨rfl, hn0⟩ h47 hU hVr hg (S.2.2 2).1.toNat 0 (by omega)
      by_cases hz : (S.2.2 2).1 = 0
      · rw [if_pos (Or.inl hz)] at hq
        simp (disch := omega) only [gX9_carry_0, gX9_carry_1, gX9_carry_4T, gX9_carry_4F, gX9_carry_7, gX9_carry_8, gX9_carry_9, gX9_carry_10, gX9_carry_11, gX9_carry_14, gX9_carry_17T, gX9_carry_17F, gX9_carry_20, gX9_carry_22, gX9_carry_23, gX9_carry_24, fl_9_8, gX9_carry_27T, gX9_carry_27F, gX9_carry_30, gX9_carry_31, gX9_carry_34, gX9_carry_35, gX9_carry_36, gX9_carry_37, Rd_some, Wr_some, Cont_some, Cont_none, iso_O, true_and, hg_s, hg_n, hput_hput, hx, sp_mplT, sp_wiT]
        refine (sg 0 (Or.inl rfl) _ _ _ _ _ _ _ _ _).mpr ?_
        rw [show (if ngb (S.2.2 2).2 (S.2.2 2).1.toNat = true then (0 : Int) else 0) = 0 by split <;> rfl]
        simp (disch := omega) only [gX9_carry_74, gX9_carry_75T, gX9_carry_75F, gX9_carry_78, gX9_carry_80, Rd_some, Wr_some, Cont_some, Cont_none, iso_O, true_and, hg_s, hg_n, hput_hput]
        exact hq _ hm0 Fm.rf
      · simp (disch := omega) only [gX9_carry_0, gX9_carry_1, gX9_carry_4T, gX9_carry_4F, gX9_carry_7, gX9_carry_8, gX9_carry_9, gX9_carry_10, gX9_carry_11, gX9_carry_14, gX9_carry_17T, gX9_carry_17F, gX9_carry_20, gX9_carry_22, gX9_carry_23, gX9_carry_24, fl_9_8, gX9_carry_27T, gX9_carry_27F, gX9_carry_30, gX9_carry_31, gX9_carry_34, gX9_carry_35, gX9_carry_36, gX9_carry_37, Rd_some, Wr_some, Cont_some, Cont_none, iso_O, true_and, hg_s, hg_n, hput_hput, hx, sp_mplT, sp_wiT]
        refine (sg 1 (Or.inr rfl) _ _ _ _ _ _ _ _ _).mpr ?_
        by_cases hb : ngb (S.2.2 2).2 (S.2.2 2).1.toNat = true
        · rw [if_pos (Or.inr hb)] at hq
          rw [if_pos hb]
          simp (disch := omega) only [gX9_carry_74, gX9_carry_75T, gX9_carry_75F, gX9_carry_78, gX9_carry_80, Rd_some, Wr_some, Cont_some, Cont_none, iso_O, true_and, hg_s, hg_n, hput_hput]
          exact hq _ hm0 Fm.rf
        · rw [if_neg (fun t => t.elim hz hb)] at hq
          rw [if_neg hb]
          have hb' : ¬ ng (S.2.2 2).2 (S.2.2 2).1 := fun t => hb (ngb_ng.mpr (by rw [show (((S.2.2 2).1.toNat : Nat) : Int) = (S.2.2 2).1 by omega]; exact t))
          simp (disch := omega) only [gX9_carry_74, gX9_carry_75T, gX9_carry_75F, gX9_carry_78, gX9_carry_80, gX9_carry_81, gX9_carry_82, Rd_some, Wr_some, Cont_some, Cont_none, iso_O, true_and, hg_s, hg_n, hput_hput]
          have eH : H = hput H 56 (cL 9 (mix (fun _ => 0) c0 0)) := by rw [mix_0]; exact (hput_same h56).symm
          rw [eH, lp_zc hx 9 0 (by omega) (by omega)]
          simp (disch := omega) only [gX9_carry_105, gX9_carry_106, gX9_carry_108, gX9_carry_109, Rd_some, Wr_some, Cont_some, Cont_none, iso_O, true_and, hg_s, hg_n, hput_hput]
          have eH2 : hput H 56 (cL 9 (mix (fun _ => 0) c0 9)) = hput (hput H 55 (cJ 400 D0)) 56 (cL 9 (mix (fun _ => 0) c0 9)) := by rw [hput_same h55]
          rw [eH2]
          have hmz : mo 65536 (mix (fun _ => 0) c0 9) 9 := fun j j0 j1 => by rw [mix_in ⟨j0, j1⟩]; omega
          have hlz : lv (mix (fun _ => 0) c0 9) 9 = 0 := by
            unfold lv
            exact sm_0 (fun j j0 j1 => by rw [mix_in ⟨j0, by omega⟩, Int.zero_mul])
          have L0 := ld_r (S.2.2 2).2 (S.2.2 2).1 m ((S.2.2 2).1 + 128).toNat
          have L1 : 0 ≤ lastD S m := L0.1
          have key := lp_c3 (H := H) (Q := Q) (l1 := some (vi a)) (l3 := some (vi 1)) hx ⟨rfl, hn0⟩ h47 h48 (fun j j0 j1 => ⟨hU j j0 j1, hW j j0 j1⟩) hm hVr hb' (fun K D c l6 l7 l8 l9 l10 l11 l12 l13 K1 K2 K3 K4 hD => by
            obtain ⟨K', rfl⟩ : ∃ K', K = K' + 1 := ⟨K - 1, by omega⟩
            have y41 : hget (hput (hput H 55 (cJ 400 D)) 56 (cL 9 c)) 41 = cM S := by rw [hg_n (by omega), hg_n (by omega)]; exact hx
            have y55 : hget (hput (hput H 55 (cJ 400 D)) 56 (cL 9 c)) 55 = cJ 400 D := by rw [hg_n (by omega), hg_s]
            have f1 : Fm 41 60 H (hput (hput H 55 (cJ 400 D)) 56 (cL 9 c)) := (Fm.rf.put (by omega)).put (by omega)
            have yq : ∀ q, q ≠ 55 → q ≠ 56 → hget (hput (hput H 55 (cJ 400 D)) 56 (cL 9 c)) q = hget H q := fun q q1 q2 => by rw [hg_n q2, hg_n q1]
            have y56 : hget (hput (hput H 55 (cJ 400 D)) 56 (cL 9 c)) 56 = cL 9 c := hg_s
            rw [lp_c4 (V := (S.2.2 2).2) (n := (S.2.2 2).1) y41 y55 hm K' (by omega) hD]
            have eL : ld' (S.2.2 2).2 (S.2.2 2).1 m (K' + 1) = lastD S m := by
              have := (cr_0 hm.1 K2 K4 (((S.2.2 2).1 + 128).toNat - (K' + 1))).2.2
              rw [show K' + 1 + (((S.2.2 2).1 + 128).toNat - (K' + 1)) = ((S.2.2 2).1 + 128).toNat by omega] at this
              exact this.symm
            have lk := (ld_r (S.2.2 2).2 (S.2.2 2).1 m (K' + 1))
            have lk2 : lastD S m < K' + 1 := by
              rw [← eL]
              show (if dt _ _ m K' = 0 then ld' _ _ m K' else (K' : Int)) < _
              have := ld_r (S.2.2 2).2 (S.2.2 2).1 m K'
              split <;> omega
            rw [eL]
            have MH2 : MH (hput (hput H 55 (cJ 400 D)) 56 (cL 9 c)) S T := fun q q1 q2 => by
              by_cases b1 : q = 55
              · subst b1; exact ⟨D, y55⟩
              · by_cases b2 : q = 56
                · subst b2; exact ⟨c, y56⟩
                · rw [yq q b1 b2]; exact h1 q q1 q2
            generalize hput (hput H 55 (cJ 400 D)) 56 (cL 9 c) = H1 at *
            by_cases hl : lastD S m < 64
            · rw [if_pos hl] at hq
              have hrk := rok_dg hm hl
              simp (disch := omega) only [gX9_carry_375, gX9_carry_377, gX9_carry_379T, gX9_carry_379F, gX9_carry_382, gX9_carry_384, gX9_carry_385, gX9_carry_386, gX9_carry_387, gX9_carry_388, gX9_carry_390, Rd_some, Wr_some, Cont_some, Cont_none, iso_O, true_and, hg_s, hg_n, hput_hput, y41]
              refine sp_renew MH2.v h2.bd MH2.e ha (fun r r1 r2 => ?_)
              simp (disch := omega) only [gX9_carry_393, gX9_carry_395, gX9_carry_396, Rd_some, Wr_some, Cont_some, Cont_none, iso_O, true_and, hg_s, hg_n, hput_hput]
              generalize hH2 : hput (hput (hput H1 42 (cJ 12 (up T.1.1 a r))) 43 (cJ 13 (up T.1.2 r 2))) 44 (cJ 13 (up T.2.1 r (lastD S m + 1))) = H2
              have k0 : ∀ q, q ≠ 42 → q ≠ 43 → q ≠ 44 → hget H2 q = hget H1 q := fun q q1 q2 q3 => by rw [← hH2, hg_n q3, hg_n q2, hg_n q1]
              have f2 : Fm 41 60 H H2 := by rw [← hH2]; exact ((f1.put (by omega)).put (by omega)).put (by omega)
              have e0 : zf T.2.2 (64 * r) 64 = lay (dgs S m) (zf T.2.2 (64 * r) 64) (64 * r) 0 := by
                funext x
                exact (if_neg (by omega)).symm
              rw [e0, lp_c5 (S := S) (D := D) (by rw [k0 41 (by omega) (by omega) (by omega)]; exact y41) (by rw [k0 55 (by omega) (by omega) (by omega)]; exact y55) (by omega) r1 (fun j j0 j1 => by
                have := hD j.toNat (by omega)
                rw [show ((j.toNat : Nat) : Int) = j by omega] at this
                have r := dgs_r (S := S) hm.1 j
                have e : dgs S m j = D j := this.symm
                omega) (lastD S m + 1).toNat 0 (by omega) (by omega)]
              refine hq _ ⟨((up T.1.1 a r, up T.1.2 r 2), (up T.2.1 r (lastD S m + 1), lay (dgs S m) (zf T.2.2 (64 * r) 64) (64 * r) (lastD S m + 1))), fun q q1 q2 => ?_, h2.new (d := (2, lastD S m + 1, mix (dgs S m) (fun _ => 0) (lastD S m + 1))) h4 ha hk r1 r2 (fun j j0 j1 => ?_) (fun x x1 => ?_), h3, fun l hl => ?_⟩ (f2.put (by omega))
              · refine Mh_pl.mpr (Mh_rd.mpr ?_)
                by_cases e5 : q = 45
                · subst e5; rw [hg_s]; rfl
                · rw [hg_n e5, ← hH2]
                  by_cases e4 : q = 44
                  · subst e4; rw [hg_s]; rfl
                  · rw [hg_n e4]
                    by_cases e3 : q = 43
                    · subst e3; rw [hg_s]; rfl
                    · rw [hg_n e3]
                      by_cases e2 : q = 42
                      · subst e2; rw [hg_s]; rfl
                      · rw [hg_n e2]; exact (Mh_T (by omega)).mpr (MH2 q q1 q2)
              · have j1 : j < lastD S m + 1 := j1
                show lay _ _ _ _ _ = mix (dgs S m) (fun _ => 0) (lastD S m + 1) j
                unfold lay
                rw [if_pos (by omega), mix_in ⟨j0, j1⟩]
                exact congrArg _ (by omega)
              · unfold lay zf
                rw [if_neg (by omega), if_neg (by omega)]
              · obtain ⟨t, t0, t1, t2⟩ := hl
                have t2 : up S.1.1 a (some k) t = some l := t2
                show rok (if l = k then _ else S.1.2 l)
                by_cases e : l = k
                · rw [if_pos e]; exact hrk
                · rw [if_neg e]
                  refine h4 l ⟨t, t0, t1, ?_⟩
                  by_cases e2 : t = a
                  · rw [show up S.1.1 a (some k) t = some k from if_pos e2] at t2; cases t2; exact absurd rfl e
                  · rw [show up S.1.1 a (some k) t = S.1.1 t from if_neg e2] at t2; exact t2
            · rw [if_neg hl] at hq
              simp (disch := omega) only [gX9_carry_375, gX9_carry_377, gX9_carry_379T, gX9_carry_379F, gX9_carry_382, gX9_carry_384, Rd_some, Wr_some, Cont_some, Cont_none, iso_O, true_and, hg_s, hg_n, hput_hput]
              exact hq _ ⟨T, MH2, h2, h3, h4⟩ f1) ((S.2.2 2).1.toNat + 80) 0 D0 (mix (fun _ => 0) c0 9) none none none none none none none none (by omega) hmz hlz (fun j hj => by omega)
          exact key
    · rw [if_neg hm] at hq
      simp (disch := omega) only [gX9_carry_0, gX9_carry_1, gX9_carry_4T, gX9_carry_4F, gX9_carry_7, gX9_carry_8, gX9_carry_9, gX9_carry_10, gX9_carry_11, gX9_carry_14, gX9_carry_17T, gX9_carry_17F, gX9_carry_20, gX9_carry_22, Rd_some, Wr_some, Cont_some, Cont_none, iso_O, true_and, hg_s, hg_n, hput_hput, sp_mplT, sp_wiF]
      exact hq _ hm0 Fm.rf
  · rw [if_neg ha] at hq
    simp (disch := omega) only [gX9_carry_0, gX9_carry_1, gX9_carry_4T, gX9_carry_4F, gX9_carry_7, gX9_carry_8, gX9_carry_9, gX9_carry_10, gX9_carry_11, gX9_carry_14, gX9_carry_17T, gX9_carry_17F, gX9_carry_20, gX9_carry_22, gX9_carry_23, gX9_carry_24, fl_9_8, gX9_carry_27T, gX9_carry_27F, gX9_carry_30, gX9_carry_31, gX9_carry_34, gX9_carry_35, gX9_carry_36, gX9_carry_37, gX9_carry_39, gX9_carry_41, gX9_carry_42, gX9_carry_45T, gX9_carry_45F, gX9_carry_48, gX9_carry_49, gX9_carry_50, fl_9_9, gX9_carry_53, gX9_carry_55, aL_g, gX9_carry_56, gX9_carry_57T, gX9_carry_57F, gX9_carry_58T, gX9_carry_58F, gX9_carry_61, gX9_carry_62, gX9_carry_65, gX9_carry_66, gX9_carry_67, gX9_carry_68, gX9_carry_71, gX9_carry_74, gX9_carry_75T, gX9_carry_75F, gX9_carry_78, gX9_carry_80, gX9_carry_81, gX9_carry_82, gX9_carry_84, gX9_carry_86, gX9_carry_88T, gX9_carry_88F, gX9_carry_91, gX9_carry_92, fl_9_22, gX9_carry_95, gX9_carry_97, gX9_carry_98, sL_p, gX9_carry_99, gX9_carry_102, gX9_carry_105, gX9_carry_106, gX9_carry_108, gX9_carry_109, gX9_carry_111, gX9_carry_113T, gX9_carry_113F, gX9_carry_116, gX9_carry_117, gX9_carry_119, gX9_carry_120, gX9_carry_122, gX9_carry_124, gX9_carry_126T, gX9_carry_126F, gX9_carry_129, gX9_carry_131, gX9_carry_132, gX9_carry_135T, gX9_carry_135F, gX9_carry_138, gX9_carry_140, gX9_carry_142T, gX9_carry_142F, gX9_carry_145, gX9_carry_146, gX9_carry_149, gX9_carry_151, gX9_carry_152T, gX9_carry_152F, gX9_carry_155, gX9_carry_156, fl_9_10, gX9_carry_159, gX9_carry_161, gX9_carry_162, gX9_carry_164, gX9_carry_166, gX9_carry_167, gX9_carry_168, gX9_carry_171, gX9_carry_172, gX9_carry_175, gX9_carry_176, gX9_carry_179, gX9_carry_181, gX9_carry_182, gX9_carry_184, gX9_carry_186, gX9_carry_187, gX9_carry_188, gX9_carry_189, gX9_carry_190, gX9_carry_193, gX9_carry_194, gX9_carry_196, gX9_carry_197, gX9_carry_200, gX9_carry_202, gX9_carry_203, gX9_carry_205, gX9_carry_206, gX9_carry_208, gX9_carry_209, gX9_carry_211, gX9_carry_212, gX9_carry_215, gX9_carry_217, gX9_carry_219, gX9_carry_222, gX9_carry_223, gX9_carry_224, gX9_carry_226, gX9_carry_228, gX9_carry_229, gX9_carry_231, gX9_carry_234, gX9_carry_237, gX9_carry_238, gX9_carry_240, gX9_carry_241, gX9_carry_243, gX9_carry_245, gX9_carry_247, gX9_carry_249T, gX9_carry_249F, gX9_carry_252, gX9_carry_254, gX9_carry_256, gX9_carry_257, gX9_carry_258, gX9_carry_261, gX9_carry_263, gX9_carry_264, gX9_carry_265, gX9_carry_267, gX9_carry_268, gX9_carry_271, gX9_carry_273, gX9_carry_275, gX9_carry_276, gX9_carry_277, gX9_carry_278, gX9_carry_279, gX9_carry_281, gX9_carry_282, gX9_carry_283, gX9_carry_284, gX9_carry_286, gX9_carry_288, gX9_carry_289, gX9_carry_292, gX9_carry_294, gX9_carry_295, gX9_carry_296T, gX9_carry_296F, gX9_carry_297T, gX9_carry_297F, gX9_carry_300, gX9_carry_301, gX9_carry_304, gX9_carry_305, gX9_carry_306, gX9_carry_308, gX9_carry_311, gX9_carry_314, gX9_carry_315, fl_9_21, gX9_carry_318, gX9_carry_320, gX9_carry_322, gX9_carry_323, sJ_p, gX9_carry_324, gX9_carry_327, gX9_carry_329T, gX9_carry_329F, gX9_carry_332, gX9_carry_334, gX9_carry_335, gX9_carry_338T, gX9_carry_338F, gX9_carry_341, gX9_carry_342, gX9_carry_345, gX9_carry_346, gX9_carry_348, gX9_carry_351, gX9_carry_353, gX9_carry_354T, gX9_carry_354F, gX9_carry_357, gX9_carry_358, gX9_carry_361, gX9_carry_363, gX9_carry_364, gX9_carry_365, aJ_g, gX9_carry_366T, gX9_carry_366F, gX9_carry_369, gX9_carry_372, gX9_carry_375, gX9_carry_377, gX9_carry_379T, gX9_carry_379F, gX9_carry_382, gX9_carry_384, gX9_carry_385, gX9_carry_386, gX9_carry_387, gX9_carry_388, gX9_carry_390, gX9_carry_393, gX9_carry_395, gX9_carry_396, gX9_carry_398, gX9_carry_400, gX9_carry_402T, gX9_carry_402F, gX9_carry_405, gX9_carry_406, fl_9_4, gX9_carry_409, gX9_carry_411, gX9_carry_413, gX9_carry_414, gX9_carry_416, gX9_carry_417, gX9_carry_418, gX9_carry_421, gX9_carry_423, gX9_carry_424, gX9_carry_425, gX9_carry_426, gX9_carry_429, gX9_carry_432, gX9_carry_434, Rd_some, Wr_some, Cont_some, Cont_none, iso_O, true_and, hg_s, hg_n, hput_hput, sp_mplF]
    exact hq _ hm0 Fm.rf
end MCAR

/-! m: exact products -/
theorem bXor_min (a : Int) : bXor a (-9223372036854775808) = a % 18446744073709551616 - 9223372036854775808 := by
  unfold bXor
  have hb : (Int64.ofInt a ^^^ Int64.ofInt (-9223372036854775808)).toBitVec = (Int64.ofInt a).toBitVec ^^^ (Int64.ofInt (-9223372036854775808)).toBitVec := rfl
  have h0 := tnL a
  generalize hx : (Int64.ofInt a).toBitVec = x at hb h0
  generalize hT : (Int64.ofInt a ^^^ Int64.ofInt (-9223372036854775808)).toBitVec = T at hb
  have e1 : T.toNat % 2 ^ 63 = x.toNat % 2 ^ 63 := by
    rw [hb, BitVec.toNat_xor, Nat.xor_mod_two_pow, show (Int64.ofInt (-9223372036854775808)).toBitVec.toNat % 2 ^ 63 = 0 by decide, Nat.xor_zero]
  have e2 : T.msb = !x.msb := by
    rw [hb, BitVec.msb_xor, show (Int64.ofInt (-9223372036854775808)).toBitVec.msb = true by decide, Bool.xor_true]
  rw [msb_ge, msb_ge] at e2
  have e3 : (Int64.ofInt a ^^^ Int64.ofInt (-9223372036854775808)).toInt = T.toInt := by rw [← hT]; rfl
  rw [e3, BitVec.toInt_eq_toNat_cond]
  have h1 := x.isLt
  have h2 := T.isLt
  have hn := Int.emod_nonneg a (show (18446744073709551616 : Int) ≠ 0 by decide)
  have e4 : (2 : Nat) ^ 63 = 9223372036854775808 := by decide
  have e5 : (2 : Nat) ^ 64 = 18446744073709551616 := by decide
  rw [e4] at e1
  rw [e5] at h1 h2 ⊢
  by_cases c1 : 9223372036854775808 ≤ T.toNat <;> by_cases c2 : 9223372036854775808 ≤ x.toNat <;> simp only [c1, c2, decide_true, decide_false, Bool.not_true, Bool.not_false, reduceCtorEq] at e2
  · rw [if_neg (by omega)]; omega
  · rw [if_pos (by omega)]; omega
/-- the product's rows show V up to N -/
def PM (H : HP) (N : Int) (V : Int → Int) : Prop := ∃ U W, hget H 47 = cL 128 U ∧ hget H 48 = cL 128 W ∧ ∀ j, 0 ≤ j → j < N → U j = V j / 18446744073709551616 ∧ W j = V j
/-- a place shows a row -/
def VR (H : HP) (S : SS) (p : Int) (d : RD) : Prop := hget H 41 = cM S ∧ (0 < d.2.1 ∧ d.2.1 ≤ 64) ∧ ∀ Q : Option Value → HP → Prop, (Go 124 0 [some (.ref 41), some (vi p)] [] H Q ↔ Q (some (vi d.2.1)) H) ∧ (Go 125 0 [some (.ref 41), some (vi p)] [] H Q ↔ Q (some (vi d.1)) H) ∧ ∀ i, 0 ≤ i → i < d.2.1 → (Go 123 0 [some (.ref 41), some (vi p), some (vi i)] [] H Q ↔ Q (some (vl (d.2.2 i))) H)
section MPRO
variable {H : HP} {S : SS} {T : TT} {Q : Option Value → HP → Prop} {p i a b w n v : Int} {d : RD} {k : Nat}
theorem vr_cnt (h : VR H S p d) : Go 124 0 [some (.ref 41), some (vi p)] [] H Q ↔ Q (some (vi d.2.1)) H := (h.2.2 Q).1
theorem vr_lan (h : VR H S p d) : Go 125 0 [some (.ref 41), some (vi p)] [] H Q ↔ Q (some (vi d.1)) H := (h.2.2 Q).2.1
theorem vr_ent (h : VR H S p d) (c : 0 ≤ i ∧ i < d.2.1) : Go 123 0 [some (.ref 41), some (vi p), some (vi i)] [] H Q ↔ Q (some (vl (d.2.2 i))) H := (h.2.2 Q).2.2 i c.1 c.2
theorem VR.of (h : MV H S T) {en : Int → Int} (he : hget H 45 = cL 832 en) (hp : 0 ≤ p ∧ p < 12) (hr : 0 ≤ T.1.1 p ∧ T.1.1 p ≤ 12) (hd : 0 < d.2.1 ∧ d.2.1 ≤ 64) (h1 : T.1.2 (T.1.1 p) = d.1) (h2 : T.2.1 (T.1.1 p) = d.2.1) (h3 : ∀ j, 0 ≤ j → j < d.2.1 → en (64 * T.1.1 p + j) = d.2.2 j) : VR H S p d := by
  refine ⟨h.1, hd, fun Q => ⟨?_, ?_, fun i i0 i1 => ?_⟩⟩
  · rw [sp_cnt h ⟨hp, hr⟩, h2]
  · rw [sp_lan h ⟨hp, hr⟩, h1]
  · rw [sp_ent h he ⟨⟨hp, hr⟩, by omega⟩, h3 i i0 i1]
theorem MH.vr (h : MH H S T) (hr : MR S T) (hk : ∀ k, live S k → rok (S.1.2 k)) (hp : 0 ≤ p ∧ p < 12) (ho : S.1.1 p = some k) : VR H S p (S.1.2 k) := by
  obtain ⟨r1, r2, r3, r4⟩ := hr.ro hp ho
  exact VR.of h.v h.e hp r1 (hk k ⟨p, hp.1, hp.2, ho⟩).2.1 r2 r3 r4
/-- the rows' tables are the same, whatever else has changed -/
theorem MH.vr2 {H' : HP} {S' : SS} (h : MH H S T) (hr : MR S T) (hk : ∀ k, live S k → rok (S.1.2 k)) (hp : 0 ≤ p ∧ p < 12) (ho : S.1.1 p = some k) (e1 : hget H' 41 = cM S') (e : ∀ a, 42 ≤ a → a ≤ 45 → hget H' a = hget H a) : VR H' S' p (S.1.2 k) := by
  obtain ⟨r1, r2, r3, r4⟩ := hr.ro hp ho
  exact VR.of (T := T) ⟨e1, by rw [e 42 (by omega) (by omega)]; exact h.v.2.1, by rw [e 43 (by omega) (by omega)]; exact h.v.2.2.1, by rw [e 44 (by omega) (by omega)]; exact h.v.2.2.2⟩ (by rw [e 45 (by omega) (by omega)]; exact h.e) hp r1 (hk k ⟨p, hp.1, hp.2, ho⟩).2.1 r2 r3 r4
theorem up_same {α : Type} {g : Int → α} {i : Int} {x : α} : up g i x i = x := if_pos rfl
theorem sp_add (hx : hget H 41 = cM S) {N k : Int} {V : Int → Int} (hp : PM H N V) (c : (0 ≤ k ∧ k < N ∧ N ≤ 128) ∧ (-9223372036854775808 ≤ v ∧ v ≤ 9223372036854775807)) (hq : ∀ H', Fm 47 48 H H' → PM H' N (up V k (V k + v)) → Q none H') : Go 149 0 [some (.ref 41), some (vi k), some (vl v), none, none, none] [] H Q := by
  obtain ⟨U, W, h1, h2, h3⟩ := hp
  obtain ⟨e1, e2⟩ := h3 k c.1.1 c.1.2.1
  have x1 := bXor_min (V k + v)
  have x2 := bXor_min (V k)
  have n1 := Int.emod_nonneg (V k) (show (18446744073709551616 : Int) ≠ 0 by decide)
  have n2 := Int.emod_nonneg (V k + v) (show (18446744073709551616 : Int) ≠ 0 by decide)
  have n3 := Int.emod_lt_of_pos (V k) (show (0 : Int) < 18446744073709551616 by decide)
  have n4 := Int.emod_lt_of_pos (V k + v) (show (0 : Int) < 18446744073709551616 by decide)
  have fin : ∀ X Y : Int, X = (V k + v) / 18446744073709551616 → Y = V k + v → Q none (hput (hput H 48 (cL 128 (up W k Y))) 47 (cL 128 (up U k X))) := by
    intro X Y hX hY
    refine hq _ ((Fm.rf.put (by omega)).put (by omega)) ⟨_, _, hg_s, by rw [hg_n (by omega), hg_s], fun j j0 j1 => ?_⟩
    unfold up
    by_cases e : j = k
    · rw [if_pos e, if_pos e, if_pos e, hX, hY]; exact ⟨rfl, rfl⟩
    · rw [if_neg e, if_neg e, if_neg e]; exact h3 j j0 j1
  by_cases hv : v < 0
  · by_cases hc : (V k + v) % 18446744073709551616 < V k % 18446744073709551616
    · simp (disch := omega) only [gX9_add_0, gX9_add_1, fl_9_10, gX9_add_4, gX9_add_5, aL_g, gX9_add_6, gX9_add_8, gX9_add_9, gX9_add_12, gX9_add_13, gX9_add_15, gX9_add_16, gX9_add_17, sL_p, gX9_add_18, gX9_add_19, fl_9_9, gX9_add_22, gX9_add_23, gX9_add_24, gX9_add_25, gX9_add_26, gX9_add_27T, gX9_add_27F, gX9_add_28T, gX9_add_28F, gX9_add_31, gX9_add_34, gX9_add_37, gX9_add_38, gX9_add_39, gX9_add_42, gX9_add_43, gX9_add_44, gX9_add_47, gX9_add_48, gX9_add_50, gX9_add_53, gX9_add_54T, gX9_add_54F, gX9_add_55T, gX9_add_55F, gX9_add_58, gX9_add_59, gX9_add_62, gX9_add_63, gX9_add_64, gX9_add_65, gX9_add_66, Rd_some, Wr_some, Cont_some, Cont_none, iso_O, true_and, hg_s, hg_n, hput_hput, hx, h1, h2, up_same, e2, x1, x2]
      exact fin _ _ (by rw [e1]; omega) rfl
    · simp (disch := omega) only [gX9_add_0, gX9_add_1, fl_9_10, gX9_add_4, gX9_add_5, aL_g, gX9_add_6, gX9_add_8, gX9_add_9, gX9_add_12, gX9_add_13, gX9_add_15, gX9_add_16, gX9_add_17, sL_p, gX9_add_18, gX9_add_19, fl_9_9, gX9_add_22, gX9_add_23, gX9_add_24, gX9_add_25, gX9_add_26, gX9_add_27T, gX9_add_27F, gX9_add_28T, gX9_add_28F, gX9_add_31, gX9_add_34, gX9_add_37, gX9_add_38, gX9_add_39, gX9_add_42, gX9_add_43, gX9_add_44, gX9_add_47, gX9_add_48, gX9_add_50, gX9_add_53, gX9_add_54T, gX9_add_54F, gX9_add_55T, gX9_add_55F, gX9_add_58, gX9_add_59, gX9_add_62, gX9_add_63, gX9_add_64, gX9_add_65, gX9_add_66, Rd_some, Wr_some, Cont_some, Cont_none, iso_O, true_and, hg_s, hg_n, hput_hput, hx, h1, h2, up_same, e2, x1, x2]
      exact fin _ _ (by rw [e1]; omega) rfl
  · by_cases hc : (V k + v) % 18446744073709551616 < V k % 18446744073709551616
    · simp (disch := omega) only [gX9_add_0, gX9_add_1, fl_9_10, gX9_add_4, gX9_add_5, aL_g, gX9_add_6, gX9_add_8, gX9_add_9, gX9_add_12, gX9_add_13, gX9_add_15, gX9_add_16, gX9_add_17, sL_p, gX9_add_18, gX9_add_19, fl_9_9, gX9_add_22, gX9_add_23, gX9_add_24, gX9_add_25, gX9_add_26, gX9_add_27T, gX9_add_27F, gX9_add_28T, gX9_add_28F, gX9_add_31, gX9_add_34, gX9_add_37, gX9_add_38, gX9_add_39, gX9_add_42, gX9_add_43, gX9_add_44, gX9_add_47, gX9_add_48, gX9_add_50, gX9_add_53, gX9_add_54T, gX9_add_54F, gX9_add_55T, gX9_add_55F, gX9_add_58, gX9_add_59, gX9_add_62, gX9_add_63, gX9_add_64, gX9_add_65, gX9_add_66, Rd_some, Wr_some, Cont_some, Cont_none, iso_O, true_and, hg_s, hg_n, hput_hput, hx, h1, h2, up_same, e2, x1, x2]
      exact fin _ _ (by rw [e1]; omega) rfl
    · simp (disch := omega) only [gX9_add_0, gX9_add_1, fl_9_10, gX9_add_4, gX9_add_5, aL_g, gX9_add_6, gX9_add_8, gX9_add_9, gX9_add_12, gX9_add_13, gX9_add_15, gX9_add_16, gX9_add_17, sL_p, gX9_add_18, gX9_add_19, fl_9_9, gX9_add_22, gX9_add_23, gX9_add_24, gX9_add_25, gX9_add_26, gX9_add_27T, gX9_add_27F, gX9_add_28T, gX9_add_28F, gX9_add_31, gX9_add_34, gX9_add_37, gX9_add_38, gX9_add_39, gX9_add_42, gX9_add_43, gX9_add_44, gX9_add_47, gX9_add_48, gX9_add_50, gX9_add_53, gX9_add_54T, gX9_add_54F, gX9_add_55T, gX9_add_55F, gX9_add_58, gX9_add_59, gX9_add_62, gX9_add_63, gX9_add_64, gX9_add_65, gX9_add_66, Rd_some, Wr_some, Cont_some, Cont_none, iso_O, true_and, hg_s, hg_n, hput_hput, hx, h1, h2, up_same, e2, x1, x2]
      exact fin _ _ (by rw [e1]; omega) rfl
theorem lp_clear (hx : hget H 41 = cM S) {N : Int} {U W : Int → Int} (hN : 0 ≤ N ∧ N ≤ 128) : ∀ (d : Nat) (i : Int), i + d = N → 0 ≤ i → (Go 148 7 [some (.ref 41), some (vi N), some (vi i)] [] (hput (hput H 47 (cL 128 (mix (fun _ => 0) U i))) 48 (cL 128 (mix (fun _ => 0) W i))) Q ↔ Q none (hput (hput H 47 (cL 128 (mix (fun _ => 0) U N))) 48 (cL 128 (mix (fun _ => 0) W N)))) := by
  have hx' : ∀ c d, hget (hput (hput H 47 c) 48 d) 41 = cM S := fun c d => by rw [hg_n (by omega), hg_n (by omega)]; exact hx
  have h47 : ∀ c d, hget (hput (hput H 47 c) 48 d) 47 = c := fun c d => by rw [hg_n (by omega), hg_s]
  have cm : ∀ c d e, hput (hput (hput H 47 c) 48 d) 47 e = hput (hput H 47 e) 48 d := fun c d e => by rw [hput_comm (by omega), hput_hput]
  intro d
  induction d with
  | zero =>
    intro i hi h0
    rw [show i = N by omega, gX9_clearProduct_7]
    simp (disch := omega) only [gX9_clearProduct_8, gX9_clearProduct_9T, gX9_clearProduct_9F, gX9_clearProduct_32, Rd_some, Wr_some, Cont_some, Cont_none, iso_O, true_and, hg_s, hg_n, hput_hput]
  | succ d ih =>
    intro i hi h0
    rw [gX9_clearProduct_7]
    simp (disch := omega) only [gX9_clearProduct_8, gX9_clearProduct_9T, gX9_clearProduct_9F, gX9_clearProduct_12, gX9_clearProduct_13, fl_9_9, gX9_clearProduct_16, gX9_clearProduct_17, gX9_clearProduct_18, sL_p, gX9_clearProduct_19, gX9_clearProduct_20, fl_9_10, gX9_clearProduct_23, gX9_clearProduct_24, gX9_clearProduct_25, gX9_clearProduct_26, gX9_clearProduct_29, Rd_some, Wr_some, Cont_some, Cont_none, iso_O, true_and, hg_s, hg_n, hput_hput, hx', h47, cm]
    rw [mix_up h0 rfl, mix_up h0 rfl]
    exact ih (i + 1) (by omega) (by omega)
theorem sp_clearP (h : MH H S T) (g : Int → Int) (c : 0 ≤ n ∧ n ≤ 128) (hq : ∀ H', H'.1 = H.1 → H'.2.1 = H.2.1 → (∀ a, a ≠ 41 → a ≠ 47 → a ≠ 48 → hget H' a = hget H a) → hget H' 41 = cM (wSh S 2 n g) → PM H' n (fun _ => 0) → Q none H') : Go 148 0 [some (.ref 41), some (vi n), none] [] H Q := by
  obtain ⟨U, hU, -⟩ := h 47 (by decide) (by decide)
  obtain ⟨W, hW, -⟩ := h 48 (by decide) (by decide)
  simp (disch := omega) only [gX9_clearProduct_0, gX9_clearProduct_1, gX9_clearProduct_2, pf_9_8, gX9_clearProduct_5, gX9_clearProduct_6, Rd_some, Wr_some, Cont_some, Cont_none, iso_O, true_and, hg_s, hg_n, hput_hput, h.v.1]
  have e : ∀ H1 : HP, hget H1 47 = cL 128 U → hget H1 48 = cL 128 W → H1 = hput (hput H1 47 (cL 128 (mix (fun _ => 0) U 0))) 48 (cL 128 (mix (fun _ => 0) W 0)) := fun H1 a b => by
    rw [mix_0, mix_0, hput_same a, hput_same b]
  change Go _ _ _ _ (hput H 41 (cM (wSh S 2 n g))) _
  rw [e (hput H 41 (cM (wSh S 2 n g))) (by rw [hg_n (by omega)]; exact hU) (by rw [hg_n (by omega)]; exact hW)]
  rw [lp_clear (S := wSh S 2 n g) hg_s c n.toNat 0 (by omega) (by omega)]
  refine hq _ rfl rfl (fun a a1 a2 a3 => by rw [hg_n a3, hg_n a2, hg_n a1]) (by rw [hg_n (by omega), hg_n (by omega), hg_s]) ⟨_, _, by rw [hg_n (by omega), hg_s], hg_s, fun j j0 j1 => ?_⟩
  rw [mix_in ⟨j0, j1⟩, mix_in ⟨j0, j1⟩]
  exact ⟨rfl, rfl⟩
/-- the product is there -/
theorem MJ.prod {H1 H' : HP} {S1 : SS} {V : Int → Int} (h1 : MH H1 S1 T) (h2 : MR S1 T) (h3 : SI S1) (h4 : ∀ k, live S1 k → rok (S1.1.2 k)) (e : ∀ a, 41 ≤ a → a ≤ 60 → a ≠ 41 → a ≠ 47 → a ≠ 48 → hget H' a = hget H1 a) (e1 : hget H' 41 = cM (wSh S1 2 n V)) (hp : PM H' n V) (hn : 0 ≤ n ∧ n ≤ 127) (hV : Vr V n) : MJ H' (wSh S1 2 n V) := by
  obtain ⟨U, W, p1, p2, p3⟩ := hp
  refine ⟨T, fun a a1 a2 => ?_, h2, ?_, h4⟩
  · by_cases b1 : a = 41
    · subst b1; exact e1
    · by_cases b2 : a = 47
      · subst b2; exact ⟨U, p1, fun j j0 j1 => (p3 j j0 j1).1⟩
      · by_cases b3 : a = 48
        · subst b3; exact ⟨W, p2, fun j j0 j1 => (p3 j j0 j1).2⟩
        · rw [e a a1 a2 b1 b2 b3]
          have := h1 a a1 a2
          unfold Mh at this ⊢
          split at this <;> first | exact absurd rfl b1 | exact absurd rfl b2 | exact absurd rfl b3 | exact this
  · obtain ⟨s1, s2, s3, s4, s5, s6, s7, s8⟩ := h3
    exact ⟨s1, s2, hn, s4, s5, s6, s7, hV⟩
theorem lp_great (hv : VR H S p d) (hs : sml d.2.2 d.2.1) : ∀ (e k : Nat) (i m : Int) (l5 l6 : Option Value), i = (k : Int) → (k : Int) + e = d.2.1 → m = gs d.2.2 k 0 → (Go 151 5 [some (.ref 41), some (vi p), some (vl m), none, some (vi i), l5, l6] [] H Q ↔ Q (some (vl (gs d.2.2 d.2.1.toNat 0))) H) := by
  have hn := hv.2.1
  intro e
  induction e with
  | zero =>
    intro k i m l5 l6 hi hk hm
    rw [gX9_greatest_5]
    simp (disch := omega) only [gX9_greatest_7, gX9_greatest_8, gX9_greatest_9, gX9_greatest_12T, gX9_greatest_12F, gX9_greatest_67, gX9_greatest_68, Rd_some, Wr_some, Cont_some, Cont_none, iso_O, true_and, hg_s, hg_n, hput_hput, hv.1, vr_cnt hv]
    rw [hm, show d.2.1.toNat = k by omega]
  | succ e ih =>
    intro k i m l5 l6 hi hk hm
    have h1 := hs i (by omega) (by omega)
    have h2 := gs_r hs k (by omega)
    rw [← hm] at h2
    have h3 : gs d.2.2 (k + 1) 0 = max m ((d.2.2 i).natAbs : Int) := by rw [gs, ← hm, ← hi]
    rw [gX9_greatest_5]
    by_cases c1 : d.2.2 i < 0
    · by_cases c2 : m < -(d.2.2 i)
      · simp (disch := omega) only [gX9_greatest_7, gX9_greatest_8, gX9_greatest_9, gX9_greatest_12T, gX9_greatest_12F, gX9_greatest_15, gX9_greatest_16, gX9_greatest_17, gX9_greatest_19, gX9_greatest_22, gX9_greatest_23T, gX9_greatest_23F, gX9_greatest_24T, gX9_greatest_24F, gX9_greatest_27, gX9_greatest_28, gX9_greatest_29, gX9_greatest_31, gX9_greatest_34, gX9_greatest_35, gX9_greatest_38, gX9_greatest_39, gX9_greatest_40, gX9_greatest_42, gX9_greatest_45, gX9_greatest_47, gX9_greatest_49, gX9_greatest_50T, gX9_greatest_50F, gX9_greatest_51T, gX9_greatest_51F, gX9_greatest_54, gX9_greatest_56, gX9_greatest_59, gX9_greatest_60, gX9_greatest_61, gX9_greatest_64, Rd_some, Wr_some, Cont_some, Cont_none, iso_O, true_and, hg_s, hg_n, hput_hput, hv.1, vr_cnt hv, vr_ent hv]
        exact ih (k + 1) (i + 1) _ _ _ (by omega) (by omega) (by rw [h3]; omega)
      · simp (disch := omega) only [gX9_greatest_7, gX9_greatest_8, gX9_greatest_9, gX9_greatest_12T, gX9_greatest_12F, gX9_greatest_15, gX9_greatest_16, gX9_greatest_17, gX9_greatest_19, gX9_greatest_22, gX9_greatest_23T, gX9_greatest_23F, gX9_greatest_24T, gX9_greatest_24F, gX9_greatest_27, gX9_greatest_28, gX9_greatest_29, gX9_greatest_31, gX9_greatest_34, gX9_greatest_35, gX9_greatest_38, gX9_greatest_39, gX9_greatest_40, gX9_greatest_42, gX9_greatest_45, gX9_greatest_47, gX9_greatest_49, gX9_greatest_50T, gX9_greatest_50F, gX9_greatest_51T, gX9_greatest_51F, gX9_greatest_54, gX9_greatest_56, gX9_greatest_59, gX9_greatest_60, gX9_greatest_61, gX9_greatest_64, Rd_some, Wr_some, Cont_some, Cont_none, iso_O, true_and, hg_s, hg_n, hput_hput, hv.1, vr_cnt hv, vr_ent hv]
        exact ih (k + 1) (i + 1) _ _ _ (by omega) (by omega) (by rw [h3]; omega)
    · by_cases c2 : m < d.2.2 i
      · simp (disch := omega) only [gX9_greatest_7, gX9_greatest_8, gX9_greatest_9, gX9_greatest_12T, gX9_greatest_12F, gX9_greatest_15, gX9_greatest_16, gX9_greatest_17, gX9_greatest_19, gX9_greatest_22, gX9_greatest_23T, gX9_greatest_23F, gX9_greatest_24T, gX9_greatest_24F, gX9_greatest_27, gX9_greatest_28, gX9_greatest_29, gX9_greatest_31, gX9_greatest_34, gX9_greatest_35, gX9_greatest_38, gX9_greatest_39, gX9_greatest_40, gX9_greatest_42, gX9_greatest_45, gX9_greatest_47, gX9_greatest_49, gX9_greatest_50T, gX9_greatest_50F, gX9_greatest_51T, gX9_greatest_51F, gX9_greatest_54, gX9_greatest_56, gX9_greatest_59, gX9_greatest_60, gX9_greatest_61, gX9_greatest_64, Rd_some, Wr_some, Cont_some, Cont_none, iso_O, true_and, hg_s, hg_n, hput_hput, hv.1, vr_cnt hv, vr_ent hv]
        exact ih (k + 1) (i + 1) _ _ _ (by omega) (by omega) (by rw [h3]; omega)
      · simp (disch := omega) only [gX9_greatest_7, gX9_greatest_8, gX9_greatest_9, gX9_greatest_12T, gX9_greatest_12F, gX9_greatest_15, gX9_greatest_16, gX9_greatest_17, gX9_greatest_19, gX9_greatest_22, gX9_greatest_23T, gX9_greatest_23F, gX9_greatest_24T, gX9_greatest_24F, gX9_greatest_27, gX9_greatest_28, gX9_greatest_29, gX9_greatest_31, gX9_greatest_34, gX9_greatest_35, gX9_greatest_38, gX9_greatest_39, gX9_greatest_40, gX9_greatest_42, gX9_greatest_45, gX9_greatest_47, gX9_greatest_49, gX9_greatest_50T, gX9_greatest_50F, gX9_greatest_51T, gX9_greatest_51F, gX9_greatest_54, gX9_greatest_56, gX9_greatest_59, gX9_greatest_60, gX9_greatest_61, gX9_greatest_64, Rd_some, Wr_some, Cont_some, Cont_none, iso_O, true_and, hg_s, hg_n, hput_hput, hv.1, vr_cnt hv, vr_ent hv]
        exact ih (k + 1) (i + 1) _ _ _ (by omega) (by omega) (by rw [h3]; omega)
theorem sp_great (hv : VR H S p d) (hs : sml d.2.2 d.2.1) : Go 151 0 [some (.ref 41), some (vi p), none, none, none, none, none] [] H Q ↔ Q (some (vl (gs d.2.2 d.2.1.toNat 0))) H := by
  have hn := hv.2.1
  simp only [gX9_greatest_0, gX9_greatest_1, gX9_greatest_2, gX9_greatest_3, Rd_some, Wr_some, Cont_some, Cont_none, iso_O, true_and, hg_s, hg_n, hput_hput]
  exact lp_great hv hs d.2.1.toNat 0 0 0 _ _ rfl (by omega) rfl
end MPRO

/-! Products: plain ways. The objects have their places: 28 Products, 29 and 30 its rows, 31 the sum, 32 .. 40 the three fast ones -/
def Fm (lo hi : Nat) (H H' : HP) : Prop := H'.1 = H.1 ∧ H'.2.1 = H.2.1 ∧ ∀ a, (a < lo ∨ hi < a) → hget H' a = hget H a
theorem Fm.rf {lo hi : Nat} {H : HP} : Fm lo hi H H := ⟨rfl, rfl, fun _ _ => rfl⟩
theorem Fm.put {lo hi b : Nat} {H H' : HP} {c : AC} (h : Fm lo hi H H') (hb : lo ≤ b ∧ b ≤ hi) : Fm lo hi H (hput H' b c) := ⟨h.1, h.2.1, fun a ha => by rw [hg_n (by omega)]; exact h.2.2 a ha⟩
theorem Fm.tr {lo hi : Nat} {H H1 H2 : HP} (h : Fm lo hi H H1) (h2 : Fm lo hi H1 H2) : Fm lo hi H H2 := ⟨h2.1.trans h.1, h2.2.1.trans h.2.1, fun a ha => (h2.2.2 a ha).trans (h.2.2 a ha)⟩
theorem Fm.wd {lo hi lo' hi' : Nat} {H H' : HP} (h : Fm lo hi H H') (hb : lo' ≤ lo ∧ hi ≤ hi') : Fm lo' hi' H H' := ⟨h.1, h.2.1, fun a ha => h.2.2 a (by omega)⟩
/-- a row at r, its cells at c -/
def RW (H : HP) (r c : Nat) (ln n : Int) (g : Int → Int) : Prop := hget H r = cO 5 [vi ln, .ref c] ∧ hget H c = cL n g ∧ (60 < r ∧ 60 < c ∧ r ≠ c) ∧ (0 < n ∧ n ≤ 64) ∧ ∀ j, 0 ≤ j → j < n → -9223372036854775808 ≤ g j ∧ g j ≤ 9223372036854775807
theorem RW.fm {H H' : HP} {r c lo hi : Nat} {ln n : Int} {g : Int → Int} (h : RW H r c ln n g) (f : Fm lo hi H H') (hh : hi ≤ 60) : RW H' r c ln n g := by
  obtain ⟨h1, h2, h3, h4⟩ := h
  exact ⟨by rw [f.2.2 r (by omega)]; exact h1, by rw [f.2.2 c (by omega)]; exact h2, h3, h4⟩
theorem RW.sz {H : HP} {r c : Nat} {ln n : Int} {g : Int → Int} (h : RW H r c ln n g) : 0 ≤ n ∧ n ≤ 1000000 := by
  have := h.2.2.2.1
  omega
/-- the sum of the first k -/
def sm (f : Int → Int) : Nat → Int
  | 0 => 0
  | k + 1 => sm f k + f k
theorem sm_0 {f : Int → Int} {k : Nat} (h : ∀ j : Int, 0 ≤ j → j < k → f j = 0) : sm f k = 0 := by
  induction k with
  | zero => rfl
  | succ k ih => rw [sm, ih (fun j h1 h2 => h j h1 (by omega)), h k (by omega) (by omega)]; rfl
theorem sm_tail {f : Int → Int} {a b : Nat} (hab : a ≤ b) (h : ∀ j : Int, (a : Int) ≤ j → j < b → f j = 0) : sm f b = sm f a := by
  induction b with
  | zero => rw [show a = 0 by omega]
  | succ b ih =>
    by_cases hb : a = b + 1
    · rw [hb]
    · rw [sm, ih (by omega) (fun j h1 h2 => h j h1 (by omega)), h b (by omega) (by omega), Int.add_zero]
theorem sm_congr {f g : Int → Int} {k : Nat} (h : ∀ j : Int, 0 ≤ j → j < k → f j = g j) : sm f k = sm g k := by
  induction k with
  | zero => rfl
  | succ k ih => rw [sm, sm, ih (fun j h1 h2 => h j h1 (by omega)), h k (by omega) (by omega)]
abbrev cPr (n : Int) (i0 i1 : Int) : AC := cO 4 [.ref 29, .ref 30, vi n, .ref 31, .ref 32, .ref 35, .ref 38, vl i0, vl i1]
/-- THE PRODUCT's first k entries are V's; the sum is anything -/
def PS (H : HP) (n i0 i1 : Int) (V : Int → Int) (k : Int) : Prop := hget H 28 = cPr n i0 i1 ∧ (∃ U W : Int → Int, hget H 29 = cL 127 U ∧ hget H 30 = cL 127 W ∧ ∀ j, 0 ≤ j → j < k → U j = V j / 18446744073709551616 ∧ W j = V j) ∧ ∃ u w : Int, hget H 31 = cO 7 [vl u, vl w]
section SPEC
variable {H : HP} {Q : Option Value → HP → Prop} {i0 i1 : Int}
theorem sp_pHas {n i : Int} (hp : hget H 28 = cPr n i0 i1) (hn : 0 ≤ n ∧ n ≤ 127) (ci : -2147483648 ≤ i ∧ i ≤ 2147483647) : Go 42 0 [some (.ref 28), some (vi i)] [] H Q ↔ Q (some (vi (if 0 ≤ i ∧ i < n then 1 else 0))) H := by
  by_cases h : 0 ≤ i
  · by_cases h2 : i < n
    · rw [if_pos ⟨h, h2⟩]
      simp (disch := omega) only [gX4_has_0, gX4_has_1T, gX4_has_1F, gX4_has_4, gX4_has_5, gX4_has_6, fl_4_2, gX4_has_9T, gX4_has_9F, gX4_has_12, gX4_has_13, gX4_has_16, gX4_has_17, Rd_some, Wr_some, Cont_some, Cont_none, iso_O, true_and, hg_s, hg_n, hput_hput, hp]
    · rw [if_neg (fun q => h2 q.2)]
      simp (disch := omega) only [gX4_has_0, gX4_has_1T, gX4_has_1F, gX4_has_4, gX4_has_5, gX4_has_6, fl_4_2, gX4_has_9T, gX4_has_9F, gX4_has_12, gX4_has_13, gX4_has_16, gX4_has_17, Rd_some, Wr_some, Cont_some, Cont_none, iso_O, true_and, hg_s, hg_n, hput_hput, hp]
  · rw [if_neg (fun q => h q.1)]
    simp (disch := omega) only [gX4_has_0, gX4_has_1T, gX4_has_1F, gX4_has_4, gX4_has_5, gX4_has_6, fl_4_2, gX4_has_9T, gX4_has_9F, gX4_has_12, gX4_has_13, gX4_has_16, gX4_has_17, Rd_some, Wr_some, Cont_some, Cont_none, iso_O, true_and, hg_s, hg_n, hput_hput, hp]
theorem sp_keepSum {n k V : Int} {U W : Int → Int} (hp : hget H 28 = cPr n i0 i1) (hU : hget H 29 = cL 127 U) (hW : hget H 30 = cL 127 W) (hs : hget H 31 = cW V) (ck : 0 ≤ k ∧ k < 127) : Go 44 0 [some (.ref 28), some (vi k)] [] H Q ↔ Q none (hput (hput H 29 (cL 127 (up U k (V / 18446744073709551616)))) 30 (cL 127 (up W k V))) := by
  simp (disch := omega) only [gX4_keepSum_0, gX4_keepSum_1, fl_4_0, gX4_keepSum_4, gX4_keepSum_5, gX4_keepSum_6, fl_4_3, gX4_keepSum_9, fl_7_0, gX4_keepSum_12, sL_p, gX4_keepSum_13, gX4_keepSum_14, fl_4_1, gX4_keepSum_17, gX4_keepSum_18, gX4_keepSum_19, gX4_keepSum_22, fl_7_1, gX4_keepSum_25, gX4_keepSum_26, Rd_some, Wr_some, Cont_some, Cont_none, iso_O, true_and, hg_s, hg_n, hput_hput, hp, hU, hW, hs]
/-- a sum is kept -/
theorem PS.keep {n k v : Int} {V : Int → Int} (h : PS H n i0 i1 V k) (hs : hget H 31 = cW v) (hk : 0 ≤ k ∧ k < 127) (hv : v = V k) {G : Prop} (hq : ∀ H', Fm 28 31 H H' → PS H' n i0 i1 V (k + 1) → (Q none H' → G)) : Go 44 0 [some (.ref 28), some (vi k)] [] H Q → G := by
  obtain ⟨h1, ⟨U, W, h2, h3, h4⟩, -⟩ := h
  rw [sp_keepSum h1 h2 h3 hs hk]
  refine hq _ ((Fm.rf.put (by omega)).put (by omega)) ⟨by rw [hg_n (by omega), hg_n (by omega)]; exact h1, ⟨_, _, by rw [hg_n (by omega), hg_s], hg_s, fun j j0 j1 => ?_⟩, ⟨_, _, by rw [hg_n (by omega), hg_n (by omega)]; exact hs⟩⟩
  unfold up
  by_cases e : j = k
  · rw [if_pos e, if_pos e, hv, e]; exact ⟨rfl, rfl⟩
  · rw [if_neg e, if_neg e]; exact h4 j j0 (by omega)
theorem PS.keep' {n k v : Int} {V : Int → Int} (h : PS H n i0 i1 V k) (hs : hget H 31 = cW v) (hk : 0 ≤ k ∧ k < 127) (hv : v = V k) (hq : ∀ H', Fm 28 31 H H' → PS H' n i0 i1 V (k + 1) → Q none H') : Go 44 0 [some (.ref 28), some (vi k)] [] H Q := by
  obtain ⟨h1, ⟨U, W, h2, h3, h4⟩, -⟩ := h
  rw [sp_keepSum h1 h2 h3 hs hk]
  refine hq _ ((Fm.rf.put (by omega)).put (by omega)) ⟨by rw [hg_n (by omega), hg_n (by omega)]; exact h1, ⟨_, _, by rw [hg_n (by omega), hg_s], hg_s, fun j j0 j1 => ?_⟩, ⟨_, _, by rw [hg_n (by omega), hg_n (by omega)]; exact hs⟩⟩
  unfold up
  by_cases e : j = k
  · rw [if_pos e, if_pos e, hv, e]; exact ⟨rfl, rfl⟩
  · rw [if_neg e, if_neg e]; exact h4 j j0 (by omega)
/-- the sum's cell moves -/
theorem PS.sum {n k v : Int} {V : Int → Int} (h : PS H n i0 i1 V k) : PS (hput H 31 (cW v)) n i0 i1 V k := by
  obtain ⟨h1, ⟨U, W, h2, h3, h4⟩, -⟩ := h
  exact ⟨by rw [hg_n (by omega)]; exact h1, ⟨U, W, by rw [hg_n (by omega)]; exact h2, by rw [hg_n (by omega)]; exact h3, h4⟩, ⟨_, _, hg_s⟩⟩
theorem PS.cnt {n m k : Int} {V V' : Int → Int} (h : PS H n i0 i1 V k) : PS (hput H 28 (cPr m i0 i1)) m i0 i1 V' 0 := by
  obtain ⟨h1, ⟨U, W, h2, h3, h4⟩, u, w, h5⟩ := h
  exact ⟨hg_s, ⟨U, W, by rw [hg_n (by omega)]; exact h2, by rw [hg_n (by omega)]; exact h3, fun j _ _ => by omega⟩, ⟨u, w, by rw [hg_n (by omega)]; exact h5⟩⟩
/-- a term of the product's entry k -/
def tm (x : Int → Int) (y : Int → Int) (m k i : Int) : Int := if 0 ≤ k - i ∧ k - i < m then x i * y (k - i) else 0
/-- the product's entry k -/
def cv (x : Int → Int) (n : Int) (y : Int → Int) (m k : Int) : Int := sm (tm x y m k) n.toNat
/-- numbers of 32 bits -/
def sml (x : Int → Int) (n : Int) : Prop := ∀ j, 0 ≤ j → j < n → -2147483648 ≤ x j ∧ x j ≤ 2147483647
theorem ml {a b : Int} (ha : -2147483648 ≤ a ∧ a ≤ 2147483647) (hb : -2147483648 ≤ b ∧ b ≤ 2147483647) : -4611686018427387904 ≤ a * b ∧ a * b ≤ 4611686018427387904 := by
  have h1 : a.natAbs ≤ 2147483648 := by omega
  have h2 : b.natAbs ≤ 2147483648 := by omega
  have h3 : (a * b).natAbs ≤ 2147483648 * 2147483648 := by rw [Int.natAbs_mul]; exact Nat.mul_le_mul h1 h2
  omega
theorem lp_plain2 {rx cx ry cy : Nat} {lx nx ly ny : Int} {x y : Int → Int} (k : Int) (hk : 0 ≤ k ∧ k < 127) (sx : sml x nx) (sy : sml y ny) {n : Int} {V : Int → Int} {H0 : HP} (hq : ∀ (H' : HP) (l : Option Value), Fm 28 31 H0 H' → PS H' n i0 i1 V k → hget H' 31 = cW (cv x nx y ny k) → Go 45 91 [some (.ref 28), some (.ref rx), some (.ref ry), some (vi k), l] [] H' Q) :
    ∀ (d : Nat) (i : Int) (H : HP), nx - i ≤ d → 0 ≤ i → i ≤ nx → k - ny + 1 ≤ i → Fm 28 31 H0 H → PS H n i0 i1 V k → hget H 31 = cW (sm (tm x y ny k) i.toNat) → RW H rx cx lx nx x → RW H ry cy ly ny y → Go 45 46 [some (.ref 28), some (.ref rx), some (.ref ry), some (vi k), some (vi i)] [] H Q := by
  intro d
  induction d with
  | zero =>
    intro i H hd h0 hi hlo hf hps hs Rx Ry
    have ei : i = nx := by omega
    have b1 := Rx.2.2.2.1
    rw [gX4_byPlainSums_46]
    by_cases hki : k < i
    · simp (disch := omega) only [gX4_byPlainSums_48, gX4_byPlainSums_49T, gX4_byPlainSums_49F, Rd_some, Wr_some, Cont_some, Cont_none, iso_O, true_and, hg_s, hg_n, hput_hput]
      exact hq H _ hf hps (by rw [hs, ei]; rfl)
    · simp (disch := omega) only [gX4_byPlainSums_48, gX4_byPlainSums_49T, gX4_byPlainSums_49F, gX4_byPlainSums_52, gX4_byPlainSums_54, gX4_byPlainSums_55, gX4_byPlainSums_58T, gX4_byPlainSums_58F, Rd_some, Wr_some, Cont_some, Cont_none, iso_O, true_and, hg_s, hg_n, hput_hput, Rx.1, sp_size Rx.1 Rx.2.1 Rx.sz]
      exact hq H _ hf hps (by rw [hs, ei]; rfl)
  | succ d ih =>
    intro i H hd h0 hi hlo hf hps hs Rx Ry
    have b1 := Rx.2.2.2.1
    have b2 := Ry.2.2.2.1
    by_cases hki : k < i
    · rw [gX4_byPlainSums_46]
      simp (disch := omega) only [gX4_byPlainSums_48, gX4_byPlainSums_49T, gX4_byPlainSums_49F, Rd_some, Wr_some, Cont_some, Cont_none, iso_O, true_and, hg_s, hg_n, hput_hput]
      refine hq H _ hf hps ?_
      rw [hs]
      unfold cv
      rw [sm_tail (f := tm x y ny k) (a := i.toNat) (b := nx.toNat) (by omega) (fun j j0 j1 => if_neg (by omega))]
    · by_cases hin : i = nx
      · rw [gX4_byPlainSums_46]
        simp (disch := omega) only [gX4_byPlainSums_48, gX4_byPlainSums_49T, gX4_byPlainSums_49F, gX4_byPlainSums_52, gX4_byPlainSums_54, gX4_byPlainSums_55, gX4_byPlainSums_58T, gX4_byPlainSums_58F, Rd_some, Wr_some, Cont_some, Cont_none, iso_O, true_and, hg_s, hg_n, hput_hput, Rx.1, sp_size Rx.1 Rx.2.1 Rx.sz]
        exact hq H _ hf hps (by rw [hs, hin]; rfl)
      · have m1 := sx i h0 (by omega)
        have m2 := sy (k - i) (by omega) (by omega)
        have m3 := ml m1 m2
        have n1 := Rx.2.2.1
        have n2 := Ry.2.2.1
        rw [gX4_byPlainSums_46]
        simp (disch := omega) only [gX4_byPlainSums_48, gX4_byPlainSums_49T, gX4_byPlainSums_49F, gX4_byPlainSums_52, gX4_byPlainSums_54, gX4_byPlainSums_55, gX4_byPlainSums_58T, gX4_byPlainSums_58F, gX4_byPlainSums_61, gX4_byPlainSums_62, fl_4_3, gX4_byPlainSums_65, gX4_byPlainSums_66, fl_5_1, gX4_byPlainSums_69, gX4_byPlainSums_71, aL_g, gX4_byPlainSums_72, gX4_byPlainSums_73, gX4_byPlainSums_76, gX4_byPlainSums_77, gX4_byPlainSums_79, gX4_byPlainSums_80, gX4_byPlainSums_81, gX4_byPlainSums_82, gX4_byPlainSums_85, gX4_byPlainSums_88, Rd_some, Wr_some, Cont_some, Cont_none, iso_O, true_and, hg_s, hg_n, hput_hput, Rx.1, Rx.2.1, Ry.1, Ry.2.1, hps.1, hs, sp_size Rx.1 Rx.2.1 Rx.sz, sp_addW hs (by decide)]
        refine ih (i + 1) _ (by omega) (by omega) (by omega) (by omega) (hf.put (by omega)) hps.sum ?_ (Rx.fm (Fm.rf.put (lo := 28) (hi := 31) (by omega)) (by omega)) (Ry.fm (Fm.rf.put (lo := 28) (hi := 31) (by omega)) (by omega))
        rw [hg_s, show (i + 1).toNat = i.toNat + 1 by omega, sm]
        unfold tm
        rw [show ((i.toNat : Nat) : Int) = i by omega, if_pos (by omega)]
theorem lp_plain {rx cx ry cy : Nat} {lx nx ly ny : Int} {x y : Int → Int} (sx : sml x nx) (sy : sml y ny) {H0 : HP} (Rx0 : RW H0 rx cx lx nx x) (Ry0 : RW H0 ry cy ly ny y) (hq : ∀ (H' : HP), Fm 28 31 H0 H' → PS H' (nx + ny - 1) i0 i1 (fun k => cv x nx y ny k) (nx + ny - 1) → Q none H') :
    ∀ (d : Nat) (k : Int) (H : HP) (l : Option Value), nx + ny - 1 - k ≤ d → 0 ≤ k → k ≤ nx + ny - 1 → Fm 28 31 H0 H → PS H (nx + ny - 1) i0 i1 (fun k => cv x nx y ny k) k → Go 45 17 [some (.ref 28), some (.ref rx), some (.ref ry), some (vi k), l] [] H Q := by
  have b1 := Rx0.2.2.2.1
  have b2 := Ry0.2.2.2.1
  intro d
  induction d with
  | zero =>
    intro k H l hd h0 hk hf hps
    have ek : k = nx + ny - 1 := by omega
    subst ek
    rw [gX4_byPlainSums_17]
    simp (disch := omega) only [gX4_byPlainSums_18, gX4_byPlainSums_19, fl_4_2, gX4_byPlainSums_22T, gX4_byPlainSums_22F, gX4_byPlainSums_102, Rd_some, Wr_some, Cont_some, Cont_none, iso_O, true_and, hg_s, hg_n, hput_hput, hps.1]
    exact hq H hf hps
  | succ d ih =>
    intro k H l hd h0 hk hf hps
    by_cases ek : k = nx + ny - 1
    · subst ek
      rw [gX4_byPlainSums_17]
      simp (disch := omega) only [gX4_byPlainSums_18, gX4_byPlainSums_19, fl_4_2, gX4_byPlainSums_22T, gX4_byPlainSums_22F, gX4_byPlainSums_102, Rd_some, Wr_some, Cont_some, Cont_none, iso_O, true_and, hg_s, hg_n, hput_hput, hps.1]
      exact hq H hf hps
    · have Rx := Rx0.fm hf (by omega)
      have Ry := Ry0.fm hf (by omega)
      obtain ⟨u, w, hs⟩ := hps.2.2
      have n2 := Ry0.2.2.1
      have Ry' := Ry.fm (Fm.rf.put (lo := 28) (hi := 31) (b := 31) (c := cW 0) (by omega)) (by omega)
      have Rx' := Rx.fm (Fm.rf.put (lo := 28) (hi := 31) (b := 31) (c := cW 0) (by omega)) (by omega)
      rw [gX4_byPlainSums_17]
      simp (disch := omega) only [gX4_byPlainSums_18, gX4_byPlainSums_19, fl_4_2, gX4_byPlainSums_22T, gX4_byPlainSums_22F, gX4_byPlainSums_25, gX4_byPlainSums_26, fl_4_3, gX4_byPlainSums_29, gX4_byPlainSums_32, gX4_byPlainSums_33, gX4_byPlainSums_34, gX4_byPlainSums_35, gX4_byPlainSums_38, gX4_byPlainSums_39, gX4_byPlainSums_40, gX4_byPlainSums_41, gX4_byPlainSums_44, Rd_some, Wr_some, Cont_some, Cont_none, iso_O, true_and, hg_s, hg_n, hput_hput, hps.1, hs, sp_clear hs (by decide), Ry'.1, sp_size Ry'.1 Ry'.2.1 Ry'.sz, sp_maxI]
      refine lp_plain2 k (by omega) sx sy (n := nx + ny - 1) (V := fun k => cv x nx y ny k) (H0 := H) (fun H' l hf' hps' hs' => ?_) nx.toNat (max 0 (k - ny + 1)) _ (by omega) (by omega) (by omega) (by omega) (Fm.rf.put (by omega)) hps.sum ?_ Rx' Ry'
      · simp (disch := omega) only [gX4_byPlainSums_91, gX4_byPlainSums_92, gX4_byPlainSums_93, Rd_some, Wr_some, Cont_some, Cont_none, iso_O, true_and, hg_s, hg_n, hput_hput, hps'.1]
        refine hps'.keep' hs' (by omega) rfl (fun H2 hf2 hps2 => ?_)
        simp (disch := omega) only [gX4_byPlainSums_96, gX4_byPlainSums_99, Rd_some, Wr_some, Cont_some, Cont_none, iso_O, true_and, hg_s, hg_n, hput_hput]
        exact ih (k + 1) H2 _ (by omega) (by omega) (by omega) ((hf.tr hf').tr hf2) hps2
      · rw [hg_s, sm_0 (f := tm x y ny k) (fun j j0 j1 => if_neg (by omega))]
theorem sp_plain {rx cx ry cy : Nat} {lx nx ly ny : Int} {x y : Int → Int} (sx : sml x nx) (sy : sml y ny) (Rx0 : RW H rx cx lx nx x) (Ry0 : RW H ry cy ly ny y) {n k : Int} {V : Int → Int} (hps : PS H n i0 i1 V k) (hq : ∀ (H' : HP), Fm 28 31 H H' → PS H' (nx + ny - 1) i0 i1 (fun k => cv x nx y ny k) (nx + ny - 1) → Q none H') : Go 45 0 [some (.ref 28), some (.ref rx), some (.ref ry), none, none] [] H Q := by
  have b1 := Rx0.2.2.2.1
  have b2 := Ry0.2.2.2.1
  simp (disch := omega) only [gX4_byPlainSums_0, gX4_byPlainSums_1, gX4_byPlainSums_2, gX4_byPlainSums_5, gX4_byPlainSums_6, gX4_byPlainSums_9, gX4_byPlainSums_10, gX4_byPlainSums_11, gX4_byPlainSums_12, pf_4_2, gX4_byPlainSums_15, gX4_byPlainSums_16, Rd_some, Wr_some, Cont_some, Cont_none, iso_O, true_and, hg_s, hg_n, hput_hput, Rx0.1, Ry0.1, sp_size Rx0.1 Rx0.2.1 Rx0.sz, sp_size Ry0.1 Ry0.2.1 Ry0.sz, hps.1]
  exact lp_plain sx sy (Rx0.fm (Fm.rf.put (lo := 28) (hi := 31) (by omega)) (by omega)) (Ry0.fm (Fm.rf.put (lo := 28) (hi := 31) (by omega)) (by omega)) (fun H' hf' h => hq H' ((Fm.rf.put (by omega)).tr hf') h) (nx + ny - 1).toNat 0 _ _ (by omega) (by omega) (by omega) Fm.rf hps.cnt
end SPEC

/-! FastProduct: swapByBits, joinHalves, spread -/
theorem jShr_1 : ∀ b : Nat, b < 129 → jShr b 1 = ((b / 2 : Nat) : Int) := by decide +kernel
theorem jShl_1 : ∀ e : Nat, e < 8 → jShl 1 e = ((2 ^ e : Nat) : Int) := by decide +kernel
/-- the next mirror -/
def mlb : Nat → Int → Int → Int
  | 0, m, b => m + b
  | f + 1, m, b => if 0 < b ∧ ¬ jAnd m b = 0 then mlb f (m - b) (b / 2) else m + b
theorem mlb_rv : ∀ e, e < 8 → ∀ i, i < 128 → i + 1 < 2 ^ e → mlb 8 (rv e i : Nat) ((2 ^ e / 2 : Nat) : Int) = (rv e (i + 1) : Nat) := by decide +kernel
theorem rv_rv : ∀ e, e < 8 → ∀ i, i < 128 → i < 2 ^ e → rv e (rv e i) = i ∧ rv e i < 2 ^ e := by decide +kernel
theorem rv_0 : ∀ e, e < 8 → rv e 0 = 0 := by decide
def rI (e : Nat) (j : Int) : Int := (rv e j.toNat : Nat)
/-- the first i pairs have changed places -/
def swf (f r : Int → Int) (N i : Int) : Int → Int := fun j => if (0 ≤ j ∧ j < N) ∧ (j < i ∨ r j < i) then f (r j) else f j
theorem swf_swap {f r : Int → Int} {N i : Int} (hr : ∀ j, 0 ≤ j → j < N → (0 ≤ r j ∧ r j < N) ∧ r (r j) = j) (hi : 0 ≤ i ∧ i < N) (h : i < r i) : up (up (swf f r N i) i (swf f r N i (r i))) (r i) (swf f r N i i) = swf f r N (i + 1) := by
  obtain ⟨h1, h2⟩ := hr i hi.1 hi.2
  funext j
  have e1 : swf f r N i (r i) = f (r i) := if_neg (by rw [h2]; omega)
  have e2 : swf f r N i i = f i := if_neg (by omega)
  rw [e1, e2]
  unfold up swf
  by_cases hj : j = r i
  · rw [if_pos hj, hj, if_pos (by rw [h2]; omega), h2]
  · rw [if_neg hj]
    by_cases hj2 : j = i
    · rw [if_pos hj2, hj2, if_pos (by omega)]
    · rw [if_neg hj2]
      by_cases hN : 0 ≤ j ∧ j < N
      · have hne : r j ≠ i := fun e => hj (by rw [← e, (hr j hN.1 hN.2).2])
        by_cases hq : j < i ∨ r j < i
        · rw [if_pos ⟨hN, hq⟩, if_pos ⟨hN, by omega⟩]
        · rw [if_neg (fun t => hq t.2), if_neg (fun t => hq (by have := t.2; omega))]
      · rw [if_neg (fun t => hN t.1), if_neg (fun t => hN t.1)]
theorem swf_keep {f r : Int → Int} {N i : Int} (hr : ∀ j, 0 ≤ j → j < N → (0 ≤ r j ∧ r j < N) ∧ r (r j) = j) (hi : 0 ≤ i ∧ i < N) (h : ¬ i < r i) : swf f r N i = swf f r N (i + 1) := by
  obtain ⟨h1, h2⟩ := hr i hi.1 hi.2
  funext j
  unfold swf
  by_cases hN : 0 ≤ j ∧ j < N
  · by_cases hq : j < i ∨ r j < i
    · rw [if_pos ⟨hN, hq⟩, if_pos ⟨hN, by omega⟩]
    · rw [if_neg (fun t => hq t.2)]
      by_cases hq2 : j < i + 1 ∨ r j < i + 1
      · rw [if_pos ⟨hN, hq2⟩]
        have hj : j = i ∨ r j = i := by omega
        rcases hj with e | e
        · rw [e]
          have : r i = i := by rw [e] at hq; omega
          rw [this]
        · have e3 : j = r i := by rw [← e, (hr j hN.1 hN.2).2]
          have : r i = i := by omega
          rw [e3, h2, this]
      · rw [if_neg (fun t => hq2 t.2)]
  · rw [if_neg (fun t => hN t.1), if_neg (fun t => hN t.1)]
theorem swf_0 {f r : Int → Int} {N : Int} (hr : ∀ j, 0 ≤ j → j < N → (0 ≤ r j ∧ r j < N) ∧ r (r j) = j) : swf f r N 0 = f := by
  funext j
  refine if_neg (fun ⟨h1, h2⟩ => ?_)
  have := (hr j h1.1 h1.2).1
  omega
section FAST
variable {H : HP} {Q : Option Value → HP → Prop} {t : Nat}
theorem lp_bits {len i : Int} {l5 : Option Value} {X : Int} (hq : ∀ b' : Int, Go 16 4 [some (.ref t), some (vi len), some (vi X), some (vi (i + 1)), some (vi b'), l5] [] H Q) : ∀ (f : Nat) (m : Int) (b : Nat), b < 2 ^ f → b < 129 → mlb f m b = X → Go 16 35 [some (.ref t), some (vi len), some (vi m), some (vi i), some (vi b), l5] [] H Q := by
  intro f
  induction f with
  | zero =>
    intro m b hb hb2 hX
    have : b = 0 := by have : (2 : Nat) ^ 0 = 1 := rfl; omega
    subst this
    rw [gX1_swapByBits_35]
    simp (disch := omega) only [gX1_swapByBits_37T, gX1_swapByBits_37F, gX1_swapByBits_61, gX1_swapByBits_62, gX1_swapByBits_64, gX1_swapByBits_65, gX1_swapByBits_66, gX1_swapByBits_69, Rd_some, Wr_some, Cont_some, Cont_none, iso_O, true_and, hg_s, hg_n, hput_hput]
    have := hq ((0 : Nat) : Int)
    rw [← hX] at this
    exact this
  | succ f ih =>
    intro m b hb hb2 hX
    rw [mlb] at hX
    have hr := jx_r (Int32.ofInt m &&& Int32.ofInt (b : Int))
    have hr : -2147483648 ≤ jAnd m b ∧ jAnd m b ≤ 2147483647 := hr
    by_cases h0 : 0 < (b : Int)
    · by_cases h1 : jAnd m b = 0
      · rw [if_neg (fun q => q.2 h1)] at hX
        rw [gX1_swapByBits_35]
        simp (disch := omega) only [gX1_swapByBits_37T, gX1_swapByBits_37F, gX1_swapByBits_40, gX1_swapByBits_41, gX1_swapByBits_43, gX1_swapByBits_44T, gX1_swapByBits_44F, gX1_swapByBits_61, gX1_swapByBits_62, gX1_swapByBits_64, gX1_swapByBits_65, gX1_swapByBits_66, gX1_swapByBits_69, Rd_some, Wr_some, Cont_some, Cont_none, iso_O, true_and, hg_s, hg_n, hput_hput]
        have := hq (b : Int)
        rw [← hX] at this
        exact this
      · rw [if_pos ⟨h0, h1⟩] at hX
        rw [gX1_swapByBits_35]
        simp (disch := omega) only [gX1_swapByBits_37T, gX1_swapByBits_37F, gX1_swapByBits_40, gX1_swapByBits_41, gX1_swapByBits_43, gX1_swapByBits_44T, gX1_swapByBits_44F, gX1_swapByBits_47, gX1_swapByBits_48, gX1_swapByBits_50, gX1_swapByBits_51, gX1_swapByBits_52, gX1_swapByBits_54, gX1_swapByBits_55, gX1_swapByBits_56, gX1_swapByBits_58, Rd_some, Wr_some, Cont_some, Cont_none, iso_O, true_and, hg_s, hg_n, hput_hput]
        rw [jShr_1 b hb2]
        exact ih (m - b) (b / 2) (by rw [Nat.pow_succ] at hb; omega) (by omega) (by rw [← hX]; congr 1)
    · rw [if_neg (fun q => h0 q.1)] at hX
      rw [gX1_swapByBits_35]
      simp (disch := omega) only [gX1_swapByBits_37T, gX1_swapByBits_37F, gX1_swapByBits_61, gX1_swapByBits_62, gX1_swapByBits_64, gX1_swapByBits_65, gX1_swapByBits_66, gX1_swapByBits_69, Rd_some, Wr_some, Cont_some, Cont_none, iso_O, true_and, hg_s, hg_n, hput_hput]
      have := hq (b : Int)
      rw [← hX] at this
      exact this
theorem lp_swap {e : Nat} (he : e < 8) {f : Int → Int} (ht : t ≠ 0) : ∀ (d k : Nat) (m : Int) (l4 l5 : Option Value), k + d = 2 ^ e → (k < 2 ^ e → m = (rv e k : Nat)) → (-2147483648 ≤ m ∧ m ≤ 2147483647) → (Q none (hput H t (cL 128 (swf f (rI e) ((2 ^ e : Nat) : Int) ((2 ^ e : Nat) : Int))))) → Go 16 4 [some (.ref t), some (vi ((2 ^ e : Nat) : Int)), some (vi m), some (vi (k : Int)), l4, l5] [] (hput H t (cL 128 (swf f (rI e) ((2 ^ e : Nat) : Int) k))) Q := by
  have h2e : 2 ^ e ≤ 128 := Nat.pow_le_pow_right (n := 2) (by decide) (show e ≤ 7 by omega)
  have hr : ∀ j, 0 ≤ j → j < ((2 ^ e : Nat) : Int) → (0 ≤ rI e j ∧ rI e j < ((2 ^ e : Nat) : Int)) ∧ rI e (rI e j) = j := by
    intro j j0 j1
    obtain ⟨a1, a2⟩ := rv_rv e he j.toNat (by omega) (by omega)
    unfold rI
    refine ⟨⟨by omega, by omega⟩, ?_⟩
    rw [Int.toNat_natCast, a1]
    omega
  intro d
  induction d with
  | zero =>
    intro k m l4 l5 hk hm hr2 hq
    rw [gX1_swapByBits_4]
    simp (disch := omega) only [gX1_swapByBits_5, gX1_swapByBits_6T, gX1_swapByBits_6F, gX1_swapByBits_72, Rd_some, Wr_some, Cont_some, Cont_none, iso_O, true_and, hg_s, hg_n, hput_hput]
    rw [show (k : Int) = ((2 ^ e : Nat) : Int) by omega]
    exact hq
  | succ d ih =>
    intro k m l4 l5 hk hm hr2 hq
    have hkN : k < 2 ^ e := by omega
    have em := hm hkN
    have er : rI e k = m := by rw [em]; unfold rI; rw [Int.toNat_natCast]
    obtain ⟨r1, r2⟩ := hr k (by omega) (by omega)
    rw [er] at r1
    /- behind the swap -/
    have cont : ∀ (l4 l5 : Option Value), Go 16 30 [some (.ref t), some (vi ((2 ^ e : Nat) : Int)), some (vi m), some (vi (k : Int)), l4, l5] [] (hput H t (cL 128 (swf f (rI e) ((2 ^ e : Nat) : Int) ((k : Int) + 1)))) Q := by
      intro l4 l5
      simp (disch := omega) only [gX1_swapByBits_30, gX1_swapByBits_31, gX1_swapByBits_32, gX1_swapByBits_33, Rd_some, Wr_some, Cont_some, Cont_none, iso_O, true_and, hg_s, hg_n, hput_hput]
      rw [jShr_1 (2 ^ e) (by omega)]
      refine lp_bits (X := mlb 8 m ((2 ^ e / 2 : Nat) : Int)) (fun b' => ?_) 8 m (2 ^ e / 2) (by have : (2 : Nat) ^ 8 = 256 := rfl; omega) (by omega) rfl
      have key : k + 1 < 2 ^ e → mlb 8 m ((2 ^ e / 2 : Nat) : Int) = (rv e (k + 1) : Nat) := fun h => by rw [em]; exact mlb_rv e he k (by omega) h
      by_cases hl : k + 1 < 2 ^ e
      · have h3 := (rv_rv e he (k + 1) (by omega) hl).2
        exact ih (k + 1) _ _ _ (by omega) key (by rw [key hl]; omega) hq
      · rw [gX1_swapByBits_4]
        simp (disch := omega) only [gX1_swapByBits_5, gX1_swapByBits_6T, gX1_swapByBits_6F, gX1_swapByBits_72, Rd_some, Wr_some, Cont_some, Cont_none, iso_O, true_and, hg_s, hg_n, hput_hput]
        rw [show (k : Int) + 1 = ((2 ^ e : Nat) : Int) by omega]
        exact hq
    rw [gX1_swapByBits_4]
    by_cases hlt : (k : Int) < m
    · simp (disch := omega) only [gX1_swapByBits_5, gX1_swapByBits_6T, gX1_swapByBits_6F, gX1_swapByBits_9, gX1_swapByBits_10, gX1_swapByBits_11T, gX1_swapByBits_11F, gX1_swapByBits_14, gX1_swapByBits_15, gX1_swapByBits_16, aL_g, gX1_swapByBits_17, gX1_swapByBits_19, gX1_swapByBits_20, gX1_swapByBits_21, gX1_swapByBits_22, gX1_swapByBits_23, gX1_swapByBits_24, sL_p, gX1_swapByBits_25, gX1_swapByBits_26, gX1_swapByBits_27, gX1_swapByBits_29, Rd_some, Wr_some, Cont_some, Cont_none, iso_O, true_and, hg_s, hg_n, hput_hput]
      have := swf_swap (f := f) hr (i := (k : Int)) (by omega) (by rw [er]; exact hlt)
      rw [er] at this
      rw [this]
      exact cont _ _
    · simp (disch := omega) only [gX1_swapByBits_5, gX1_swapByBits_6T, gX1_swapByBits_6F, gX1_swapByBits_9, gX1_swapByBits_10, gX1_swapByBits_11T, gX1_swapByBits_11F, Rd_some, Wr_some, Cont_some, Cont_none, iso_O, true_and, hg_s, hg_n, hput_hput]
      rw [swf_keep (f := f) hr (i := (k : Int)) (by omega) (by rw [er]; exact hlt)]
      exact cont _ _
theorem sp_swap {e : Nat} (he : e < 8) {f : Int → Int} (ht : t ≠ 0) (hf : hget H t = cL 128 f) (hq : ∀ g : Int → Int, (∀ i : Nat, i < 2 ^ e → g i = f (rv e i : Nat)) → Q none (hput H t (cL 128 g))) : Go 16 0 [some (.ref t), some (vi ((2 ^ e : Nat) : Int)), none, none, none, none] [] H Q := by
  have h2e : 2 ^ e ≤ 128 := Nat.pow_le_pow_right (n := 2) (by decide) (show e ≤ 7 by omega)
  have hr : ∀ j, 0 ≤ j → j < ((2 ^ e : Nat) : Int) → (0 ≤ rI e j ∧ rI e j < ((2 ^ e : Nat) : Int)) ∧ rI e (rI e j) = j := by
    intro j j0 j1
    obtain ⟨a1, a2⟩ := rv_rv e he j.toNat (by omega) (by omega)
    unfold rI
    refine ⟨⟨by omega, by omega⟩, ?_⟩
    rw [Int.toNat_natCast, a1]
    omega
  simp only [gX1_swapByBits_0, gX1_swapByBits_1, gX1_swapByBits_2, gX1_swapByBits_3, Rd_some, Wr_some, Cont_some, Cont_none, iso_O, true_and, hg_s, hg_n, hput_hput]
  have e2 : H = hput H t (cL 128 (swf f (rI e) ((2 ^ e : Nat) : Int) ((0 : Nat) : Int))) := by
    rw [show ((0 : Nat) : Int) = 0 from rfl, swf_0 hr]; exact (hput_same hf).symm
  have key := lp_swap (H := H) (Q := Q) he (f := f) ht (2 ^ e) 0 0 none none (by omega) (fun _ => by rw [rv_0 e he]; rfl) (by decide) (hq _ (fun i hi => by
    unfold swf
    rw [if_pos ⟨by omega, Or.inl (by omega)⟩]
    unfold rI
    rw [Int.toNat_natCast]))
  rw [← e2] at key
  exact key
/-- the blocks before s are joined, and i - s pairs of the block at s -/
def jg (P w h : Int) (c : Int → Int) (s i : Int) : Int → Int := fun j => if (0 ≤ j ∧ j < i) ∨ (s + h ≤ j ∧ j < i + h) then stg P w h c j else c j
theorem stg_lo {P w h s i : Int} {c : Int → Int} (h0 : 0 < h) (hs : s % (2 * h) = 0) (hi : s ≤ i ∧ i < s + h) : stg P w h c i = (c i + c (i + h) * w ^ (i - s).toNat) % P := by
  have e : i % (2 * h) = i - s := by
    rw [show i = s + (i - s) by omega, Int.add_emod, hs, Int.zero_add, Int.emod_emod, Int.emod_eq_of_lt (by omega) (by omega)]
    omega
  unfold stg
  rw [e, if_pos (by omega)]
theorem stg_hi {P w h s i : Int} {c : Int → Int} (h0 : 0 < h) (hs : s % (2 * h) = 0) (hi : s ≤ i ∧ i < s + h) : stg P w h c (i + h) = (c i - c (i + h) * w ^ (i - s).toNat) % P := by
  have e : (i + h) % (2 * h) = i - s + h := by
    rw [show i + h = s + (i - s + h) by omega, Int.add_emod, hs, Int.zero_add, Int.emod_emod, Int.emod_eq_of_lt (by omega) (by omega)]
  unfold stg
  rw [e, if_neg (by omega), show i + h - h = i by omega, show i - s + h - h = i - s by omega]
theorem jg_up {P w h s i : Int} {c : Int → Int} (h0 : 0 < h) (hs0 : 0 ≤ s) (hs : s % (2 * h) = 0) (hi : s ≤ i ∧ i < s + h) {X Y : Int} (hX : X = (c i + c (i + h) * w ^ (i - s).toNat) % P) (hY : Y = (c i - c (i + h) * w ^ (i - s).toNat) % P) : up (up (jg P w h c s i) i X) (i + h) Y = jg P w h c s (i + 1) := by
  rw [← stg_lo h0 hs hi] at hX
  rw [← stg_hi h0 hs hi] at hY
  funext j
  unfold up jg
  by_cases e1 : j = i + h
  · rw [if_pos e1, e1, if_pos (by omega), hY]
  · rw [if_neg e1]
    by_cases e2 : j = i
    · rw [if_pos e2, e2, if_pos (by omega), hX]
    · rw [if_neg e2]
      by_cases e3 : (0 ≤ j ∧ j < i) ∨ (s + h ≤ j ∧ j < i + h)
      · rw [if_pos e3, if_pos (by omega)]
      · rw [if_neg e3, if_neg (by omega)]
theorem jg_next {P w h s : Int} {c : Int → Int} (h0 : 0 < h) (hs : 0 ≤ s) : jg P w h c s (s + h) = jg P w h c (s + 2 * h) (s + 2 * h) := by
  funext j
  unfold jg
  by_cases e3 : (0 ≤ j ∧ j < s + h) ∨ (s + h ≤ j ∧ j < s + h + h)
  · rw [if_pos e3, if_pos (by omega)]
  · rw [if_neg e3, if_neg (by omega)]
end FAST

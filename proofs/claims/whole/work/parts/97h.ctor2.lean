/-! the constructors of x and of m -/
def S0 : SS := ((fun _ => none, fun _ => (0, 0, fun _ => 0)), (0, -9), fun _ => (0, fun _ => 0))
/-- an object under construction at p: its fields, and what was made since -/
def PX (C : Nat → AC → Prop) (B : HP) (m0 p ci : Nat) (H : HP) (fs : List Value) (m s : Nat) : Prop := hget H p = cO ci fs ∧ H.1 = m ∧ H.2.1 = s ∧ (∀ a, a < m0 → a ≠ p → hget H a = hget B a) ∧ (∀ a, m0 ≤ a → a < m → C a (hget H a)) ∧ p < m0 ∧ m0 ≤ m
theorem hput_new {H : HP} {c d : AC} {k m : Nat} (h : H.1 = m) : hput (hnew H c k) m d = hnew H d k := by
  subst h
  unfold hput hnew
  congr 2
  funext q
  dsimp only
  by_cases e : q = H.1
  · rw [if_pos e, if_pos e]
  · rw [if_neg e, if_neg e, if_neg e]
section PXS
variable {C : Nat → AC → Prop} {B H H' : HP} {m0 p ci m m' s k j t y pc : Nat} {fs fs' : List Value} {c : AC} {L : List (Option Value)} {st : List Value} {Q : Option Value → HP → Prop}
theorem PX.new (h : PX C B m0 p ci H fs m s) (hm : m' = m + 1) (hC : C m c) : PX C B m0 p ci (hnew H c k) fs m' (s + k) := by
  obtain ⟨h1, h2, h3, h4, h5, h6, h7⟩ := h
  refine ⟨by rw [hn_n (by omega)]; exact h1, by rw [hm, ← h2]; rfl, by rw [← h3]; rfl, fun a a1 a2 => by rw [hn_n (by omega)]; exact h4 a a1 a2, fun a a1 a2 => ?_, h6, by omega⟩
  by_cases e : a = m
  · rw [hn_at (e.trans h2.symm), e]; exact hC
  · rw [hn_n (by omega)]; exact h5 a a1 (by omega)
theorem PX.fld (h : PX C B m0 p ci H fs m s) : PX C B m0 p ci (hput H p (cO ci fs')) fs' m s := by
  obtain ⟨h1, h2, h3, h4, h5, h6, h7⟩ := h
  exact ⟨hg_s, h2, h3, fun a a1 a2 => by rw [hg_n a2]; exact h4 a a1 a2, fun a a1 a2 => by rw [hg_n (by omega)]; exact h5 a a1 a2, h6, h7⟩
theorem PX.sub (h : PX C B m0 p ci H fs m s) (w : NW (hnew H c k) H' m j t) (hm : m' = m + 1 + j) (hC : ∀ a, m ≤ a → a < m' → C a (hget H' a)) : PX C B m0 p ci H' fs m' (s + k + t) := by
  obtain ⟨h1, h2, h3, h4, h5, h6, h7⟩ := h
  obtain ⟨w1, w2, w3⟩ := w
  have w1 : H'.1 = H.1 + 1 + j := w1
  have w2 : H'.2.1 = H.2.1 + k + t := w2
  have key : ∀ a, a < m → hget H' a = hget H a := fun a ha => by rw [w3 a (by show a < H.1 + 1; omega) (by omega), hn_n (by omega)]
  refine ⟨by rw [key p (by omega)]; exact h1, by omega, by omega, fun a a1 a2 => by rw [key a (by omega)]; exact h4 a a1 a2, fun a a1 a2 => ?_, h6, by omega⟩
  by_cases e : a < m
  · rw [key a e]; exact h5 a a1 e
  · exact hC a (by omega) a2
theorem PX.goA (h : PX C B m0 p ci H fs m s) (hm : m' = m + 1) (hC : C m c) (hh : ∀ H1, PX C B m0 p ci H1 fs' m' (s + k) → Go y pc L st H1 Q) : Go y pc L st (hput (hnew H c k) p (cO ci fs')) Q := hh _ (h.new hm hC).fld
theorem PX.goC (h : PX C B m0 p ci H fs m s) (hh : ∀ H1, PX C B m0 p ci H1 fs' m s → Go y pc L st H1 Q) : Go y pc L st (hput H p (cO ci fs')) Q := hh _ h.fld
theorem PX.goN (h : PX C B m0 p ci H fs m s) (hm : m' = m + 1) (hC : C m c) (hh : ∀ H1, PX C B m0 p ci H1 fs m' (s + k) → Go y pc L st H1 Q) : Go y pc L st (hnew H c k) Q := hh _ (h.new hm hC)
theorem PX.cg {C' : Nat → AC → Prop} (h : PX C B m0 p ci H fs m s) (hC : ∀ a c, C a c → C' a c) : PX C' B m0 p ci H fs m s := ⟨h.1, h.2.1, h.2.2.1, h.2.2.2.1, fun a a1 a2 => hC a _ (h.2.2.2.2.1 a a1 a2), h.2.2.2.2.2⟩
end PXS
section CT2
variable {H : HP} {Q : Option Value → HP → Prop}
theorem eqn_0 {g : Int → Int} {V : Int → Int} : eqn g (0, V) := fun j j0 j1 => by have j1 : j < 0 := j1; omega
theorem eqH_0 {g : Int → Int} {V : Int → Int} : eqH g (0, V) := fun j j0 j1 => by have j1 : j < 0 := j1; omega
theorem ni_prod (hm : H.1 = 29) (hp : hget H 28 = cO 4 [.null, .null, .int 0, .null, .null, .null, .null, .long 0, .long 0]) (h26 : hget H 26 = cO 3 [vl 1004535809]) (h27 : hget H 27 = cO 3 [vl 469762049]) (hq : ∀ H', NW H H' 28 12 1033 → (∀ a, 28 ≤ a → a < 41 → Sh S0 a (hget H' a)) → Q none H') : Go 41 0 [some (.ref 28), some (.ref 25), some (.ref 26), some (.ref 27)] [] H Q := by
  have hf : ∀ {H1 : HP} {fs : List Value} {m s : Nat}, PX (Sh S0) H 29 28 4 H1 fs m s → hget H1 26 = cO 3 [vl 1004535809] ∧ hget H1 27 = cO 3 [vl 469762049] := fun h => ⟨(h.2.2.2.1 26 (by omega) (by omega)).trans h26, (h.2.2.2.1 27 (by omega) (by omega)).trans h27⟩
  have key : ∀ H1, PX (Sh S0) H 29 28 4 H1 [.null, .null, .int 0, .null, .null, .null, .null, .long 0, .long 0] 29 H.2.1 → Go 41 0 [some (.ref 28), some (.ref 25), some (.ref 26), some (.ref 27)] [] H1 Q := by
    intro H1 h
    have hx := h.1
    have hN := h.2.1
    -- upper, lower, count
    simp (disch := omega) only [gX4_init_0, gX4_init_1, gX4_init_4, gX4_init_5, gX4_init_7, gX4_init_9, pf_4_0, Rd_some, Wr_some, Cont_some, Cont_none, iso_O, true_and, hg_s, hg_n, hput_hput, hx, hN, hn_n]
    refine h.goA (m' := 30) rfl ⟨_, rfl, eqH_0⟩ (fun H h => ?_)
    have hx := h.1
    have hN := h.2.1
    simp (disch := omega) only [gX4_init_12, gX4_init_13, gX4_init_15, gX4_init_17, pf_4_1, Rd_some, Wr_some, Cont_some, Cont_none, iso_O, true_and, hg_s, hg_n, hput_hput, hx, hN, hn_n]
    refine h.goA (m' := 31) rfl ⟨_, rfl, eqn_0⟩ (fun H h => ?_)
    have hx := h.1
    have hN := h.2.1
    simp (disch := omega) only [gX4_init_20, gX4_init_21, gX4_init_22, pf_4_2, Rd_some, Wr_some, Cont_some, Cont_none, iso_O, true_and, hg_s, hg_n, hput_hput, hx]
    refine h.goC (fun H h => ?_)
    have hx := h.1
    have hN := h.2.1
    -- the sum
    simp (disch := omega) only [gX4_init_25, gX4_init_26, gX4_init_29, gX4_init_30, Rd_some, Wr_some, Cont_some, Cont_none, iso_O, true_and, hg_s, hg_n, hput_hput, hN]
    rw [ni_wide (hn_at hN.symm) (by omega), Cont_none, hput_new hN]
    refine h.goN (m' := 32) rfl ⟨0, 0, rfl⟩ (fun H h => ?_)
    have hx := h.1
    have hN := h.2.1
    simp (disch := omega) only [gX4_init_33, pf_4_3, Rd_some, Wr_some, Cont_some, Cont_none, iso_O, true_and, hg_s, hg_n, hput_hput, hx]
    refine h.goC (fun H h => ?_)
    have hx := h.1
    have hN := h.2.1
    -- fast 25
    simp (disch := omega) only [gX4_init_36, gX4_init_37, gX4_init_40, gX4_init_41, gX4_init_42, Rd_some, Wr_some, Cont_some, Cont_none, iso_O, true_and, hg_s, hg_n, hput_hput, hN]
    refine ni_fast (m := 33) (by show H.1 + 1 = 33; omega) (hn_at hN.symm) (by omega) (fun H' w c0 c1 c2 => ?_)
    have h := h.sub (m' := 35) w rfl (fun a a1 a2 => by
      have ha : a = 32 ∨ a = 33 ∨ a = 34 := by omega
      rcases ha with rfl | rfl | rfl
      · exact c0
      · exact ⟨_, c1⟩
      · exact ⟨_, c2⟩)
    have hx := h.1
    rw [Cont_none]
    simp (disch := omega) only [gX4_init_45, pf_4_4, Rd_some, Wr_some, Cont_some, Cont_none, iso_O, true_and, hg_s, hg_n, hput_hput, hx]
    refine h.goC (fun H h => ?_)
    have hx := h.1
    have hN := h.2.1
    -- fast 26
    simp (disch := omega) only [gX4_init_48, gX4_init_49, gX4_init_52, gX4_init_53, gX4_init_54, Rd_some, Wr_some, Cont_some, Cont_none, iso_O, true_and, hg_s, hg_n, hput_hput, hN]
    refine ni_fast (m := 36) (by show H.1 + 1 = 36; omega) (hn_at hN.symm) (by omega) (fun H' w c0 c1 c2 => ?_)
    have h := h.sub (m' := 38) w rfl (fun a a1 a2 => by
      have ha : a = 35 ∨ a = 36 ∨ a = 37 := by omega
      rcases ha with rfl | rfl | rfl
      · exact c0
      · exact ⟨_, c1⟩
      · exact ⟨_, c2⟩)
    have hx := h.1
    rw [Cont_none]
    simp (disch := omega) only [gX4_init_57, pf_4_5, Rd_some, Wr_some, Cont_some, Cont_none, iso_O, true_and, hg_s, hg_n, hput_hput, hx]
    refine h.goC (fun H h => ?_)
    have hx := h.1
    have hN := h.2.1
    -- fast 27
    simp (disch := omega) only [gX4_init_60, gX4_init_61, gX4_init_64, gX4_init_65, gX4_init_66, Rd_some, Wr_some, Cont_some, Cont_none, iso_O, true_and, hg_s, hg_n, hput_hput, hN]
    refine ni_fast (m := 39) (by show H.1 + 1 = 39; omega) (hn_at hN.symm) (by omega) (fun H' w c0 c1 c2 => ?_)
    have h := h.sub (m' := 41) w rfl (fun a a1 a2 => by
      have ha : a = 38 ∨ a = 39 ∨ a = 40 := by omega
      rcases ha with rfl | rfl | rfl
      · exact c0
      · exact ⟨_, c1⟩
      · exact ⟨_, c2⟩)
    have hx := h.1
    rw [Cont_none]
    simp (disch := omega) only [gX4_init_69, pf_4_6, Rd_some, Wr_some, Cont_some, Cont_none, iso_O, true_and, hg_s, hg_n, hput_hput, hx]
    refine h.goC (fun H h => ?_)
    have hx := h.1
    have hN := h.2.1
    -- the two inverses
    obtain ⟨g26, g27⟩ := hf h
    simp (disch := omega) only [gX4_init_72, gX4_init_73, gX4_init_74, gX4_init_75, gX4_init_78, gX4_init_81, Rd_some, Wr_some, Cont_some, Cont_none, iso_O, true_and, hg_s, hg_n, hput_hput, g26, sp_reduced g26 ⟨by decide, by decide⟩, sp_recip g26 ⟨by decide, by decide⟩, inv01]
    simp (disch := omega) only [gX4_init_84, pf_4_7, Rd_some, Wr_some, Cont_some, Cont_none, iso_O, true_and, hg_s, hg_n, hput_hput, hx]
    refine h.goC (fun H h => ?_)
    have hx := h.1
    have hN := h.2.1
    obtain ⟨g26, g27⟩ := hf h
    simp (disch := omega) only [gX4_init_87, gX4_init_88, gX4_init_89, gX4_init_90, gX4_init_93, gX4_init_96, Rd_some, Wr_some, Cont_some, Cont_none, iso_O, true_and, hg_s, hg_n, hput_hput, g27, sp_reduced g27 ⟨by decide, by decide⟩, sp_recip g27 ⟨by decide, by decide⟩, inv02]
    simp (disch := omega) only [gX4_init_99, pf_4_8, Rd_some, Wr_some, Cont_some, Cont_none, iso_O, true_and, hg_s, hg_n, hput_hput, hx]
    refine h.goC (fun H h => ?_)
    simp (disch := omega) only [gX4_init_102, Rd_some, Wr_some, Cont_some, Cont_none, iso_O, true_and, hg_s, hg_n, hput_hput]
    refine hq _ ⟨by rw [h.2.1, hm], by rw [h.2.2.1]; omega, fun a a1 a2 => h.2.2.2.1 a (by omega) a2⟩ (fun a a1 a2 => ?_)
    by_cases e : a = 28
    · subst e; exact h.1
    · exact h.2.2.2.2.1 a (by omega) a2
  exact key H ⟨hp, hm, rfl, fun a _ _ => rfl, fun a a1 a2 => by omega, by omega, by omega⟩
/-- the cells of x; that of the primes holds r -/
def CX (r : Int → Option Nat) (a : Nat) (c : AC) : Prop := if a = 3 then c = cR (.object (vCn 3)) 3 r else Sh S0 a c
theorem CX_n {r : Int → Option Nat} {a : Nat} {c : AC} (h : a ≠ 3) (hs : Sh S0 a c) : CX r a c := by unfold CX; rw [if_neg h]; exact hs
theorem cR_c {n : Int} {ty : FieldType} {f g : Int → Option Nat} (h : ∀ j, 0 ≤ j → f j = g j) : cR ty n f = cR ty n g := by
  unfold cR
  have : (fun j : Nat => f (j : Int)) = fun j : Nat => g (j : Int) := funext fun j => h j (by omega)
  rw [this]
theorem PX.go3 {B : HP} {m0 p ci m s y pc : Nat} {fs : List Value} {r r' : Int → Option Nat} {L : List (Option Value)} {st : List Value} (h : PX (CX r) B m0 p ci H fs m s) (hp : p ≠ 3 ∧ m0 ≤ 3) (hh : ∀ H1, PX (CX r') B m0 p ci H1 fs m s → Go y pc L st H1 Q) : Go y pc L st (hput H 3 (cR (.object (vCn 3)) 3 r')) Q := by
  obtain ⟨h1, h2, h3, h4, h5, h6, h7⟩ := h
  refine hh _ ⟨by rw [hg_n hp.1]; exact h1, h2, h3, fun a a1 a2 => by rw [hg_n (by omega)]; exact h4 a a1 a2, fun a a1 a2 => ?_, h6, h7⟩
  by_cases e : a = 3
  · subst e; rw [hg_s]; unfold CX; rw [if_pos rfl]
  · rw [hg_n e]
    have := h5 a a1 a2
    unfold CX at this ⊢
    rw [if_neg e] at this ⊢
    exact this
theorem PX.c3 {B : HP} {m0 p ci m s : Nat} {fs : List Value} {r : Int → Option Nat} (h : PX (CX r) B m0 p ci H fs m s) (hm : m0 ≤ 3 ∧ 3 < m) : hget H 3 = cR (.object (vCn 3)) 3 r := by
  have := h.2.2.2.2.1 3 hm.1 hm.2
  unfold CX at this
  rw [if_pos rfl] at this
  exact this
theorem PX.cs {B : HP} {m0 p ci m s : Nat} {fs : List Value} {r : Int → Option Nat} (h : PX (CX r) B m0 p ci H fs m s) (a : Nat) (hm : m0 ≤ a ∧ a < m ∧ a ≠ 3) : Sh S0 a (hget H a) := by
  have := h.2.2.2.2.1 a hm.1 hm.2.1
  unfold CX at this
  rw [if_neg hm.2.2] at this
  exact this
theorem x_init (hm : H.1 = 1) (hq : ∀ H', H'.1 = 41 → H'.2.1 ≤ H.2.1 + 3000 → hget H' 0 = hget H 0 → (∀ a, 1 ≤ a → a ≤ 40 → Sh S0 a (hget H' a)) → Q none H') : Go 69 0 [some (.ref 1)] [] (hnew H (cO 8 [.null, .null, .null, .null, .null, .null, .null, .null, .null, .null, .null, .int 0, .int 0]) 13) Q := by
  have h : PX (CX fun _ => none) (hnew H (cO 8 [.null, .null, .null, .null, .null, .null, .null, .null, .null, .null, .null, .int 0, .int 0]) 13) 2 1 8 (hnew H (cO 8 [.null, .null, .null, .null, .null, .null, .null, .null, .null, .null, .null, .int 0, .int 0]) 13) [.null, .null, .null, .null, .null, .null, .null, .null, .null, .null, .null, .int 0, .int 0] 2 (H.2.1 + 13) := ⟨hn_at hm.symm, by show H.1 + 1 = 2; omega, rfl, fun a _ _ => rfl, fun a a1 a2 => by omega, by omega, by omega⟩
  have hB0 : hget (hnew H (cO 8 [.null, .null, .null, .null, .null, .null, .null, .null, .null, .null, .null, .int 0, .int 0]) 13) 0 = hget H 0 := hn_n (by omega)
  generalize hnew H (cO 8 [.null, .null, .null, .null, .null, .null, .null, .null, .null, .null, .null, .int 0, .int 0]) 13 = B at h hB0 ⊢
  have key : ∀ H1, PX (CX fun _ => none) B 2 1 8 H1 [.null, .null, .null, .null, .null, .null, .null, .null, .null, .null, .null, .int 0, .int 0] 2 (H.2.1 + 13) → Go 69 0 [some (.ref 1)] [] H1 Q := by
    clear h
    intro H1 h
    have hx := h.1
    have hN := h.2.1
    simp (disch := omega) only [gX8_init_0, gX8_init_1, gX8_init_4, gX8_init_5, gX8_init_7, gX8_init_10, pf_8_0, Rd_some, Wr_some, Cont_some, Cont_none, iso_O, true_and, hg_s, hg_n, hput_hput, hx, hN, hn_n]
    refine h.goA (m' := 3) rfl (CX_n (by omega) rfl) (fun H h => ?_)
    have hx := h.1
    have hN := h.2.1
    simp (disch := omega) only [gX8_init_13, gX8_init_14, gX8_init_15, gX8_init_18, pf_8_1, Rd_some, Wr_some, Cont_some, Cont_none, iso_O, true_and, hg_s, hg_n, hput_hput, hx, hN, hn_n]
    refine h.goA (m' := 4) rfl (by unfold CX; rw [if_pos rfl]) (fun H h => ?_)
    have hx := h.1
    have hN := h.2.1
    -- polynomials
    simp (disch := omega) only [gX8_init_21, gX8_init_22, gX8_init_25, gX8_init_26, Rd_some, Wr_some, Cont_some, Cont_none, iso_O, true_and, hg_s, hg_n, hput_hput, hN]
    refine ni_poly (m := 5) (by show H.1 + 1 = 5; omega) (hn_at hN.symm) (by omega) (fun H' w c0 c1 c2 c3 => ?_)
    have h := h.sub (m' := 8) w rfl (fun a a1 a2 => by
      have ha : a = 4 ∨ a = 5 ∨ a = 6 ∨ a = 7 := by omega
      rcases ha with rfl | rfl | rfl | rfl
      · exact CX_n (by omega) c0
      · exact CX_n (by omega) ⟨_, c1⟩
      · exact CX_n (by omega) ⟨_, c2⟩
      · exact CX_n (by omega) ⟨_, c3⟩)
    have hx := h.1
    rw [Cont_none]
    simp (disch := omega) only [gX8_init_29, pf_8_3, Rd_some, Wr_some, Cont_some, Cont_none, iso_O, true_and, hg_s, hg_n, hput_hput, hx]
    refine h.goC (fun H h => ?_)
    have hx := h.1
    have hN := h.2.1
    -- doubles
    simp (disch := omega) only [gX8_init_32, gX8_init_33, gX8_init_36, gX8_init_37, Rd_some, Wr_some, Cont_some, Cont_none, iso_O, true_and, hg_s, hg_n, hput_hput, hN]
    refine ni_dbl (m := 9) (by show H.1 + 1 = 9; omega) (hn_at hN.symm) (by omega) (fun H' w c0 c1 c2 c3 c4 c5 => ?_)
    have h := h.sub (m' := 14) w rfl (fun a a1 a2 => by
      have ha : a = 8 ∨ a = 9 ∨ a = 10 ∨ a = 11 ∨ a = 12 ∨ a = 13 := by omega
      rcases ha with rfl | rfl | rfl | rfl | rfl | rfl
      · exact CX_n (by omega) c0
      · exact CX_n (by omega) c1
      · exact CX_n (by omega) ⟨_, c2⟩
      · exact CX_n (by omega) ⟨_, c3⟩
      · exact CX_n (by omega) ⟨_, c4⟩
      · exact CX_n (by omega) ⟨_, c5⟩)
    have hx := h.1
    rw [Cont_none]
    simp (disch := omega) only [gX8_init_40, pf_8_4, Rd_some, Wr_some, Cont_some, Cont_none, iso_O, true_and, hg_s, hg_n, hput_hput, hx]
    refine h.goC (fun H h => ?_)
    have hx := h.1
    have hN := h.2.1
    -- shelf 14
    simp (disch := omega) only [gX8_init_43, gX8_init_44, gX8_init_47, gX8_init_48, gX8_init_50, Rd_some, Wr_some, Cont_some, Cont_none, iso_O, true_and, hg_s, hg_n, hput_hput, hN]
    refine ni_shelf (m := 15) (by show H.1 + 1 = 15; omega) (hn_at hN.symm) (by omega) (by omega) (fun H' w c0 c1 => ?_)
    have h := h.sub (m' := 16) w rfl (fun a a1 a2 => by
      have ha : a = 14 ∨ a = 15 := by omega
      rcases ha with rfl | rfl
      · exact CX_n (by omega) c0
      · exact CX_n (by omega) ⟨_, c1, eqn_0⟩)
    have hx := h.1
    rw [Cont_none]
    simp (disch := omega) only [gX8_init_53, pf_8_5, Rd_some, Wr_some, Cont_some, Cont_none, iso_O, true_and, hg_s, hg_n, hput_hput, hx]
    refine h.goC (fun H h => ?_)
    have hx := h.1
    have hN := h.2.1
    -- shelf 16
    simp (disch := omega) only [gX8_init_56, gX8_init_57, gX8_init_60, gX8_init_61, gX8_init_63, Rd_some, Wr_some, Cont_some, Cont_none, iso_O, true_and, hg_s, hg_n, hput_hput, hN]
    refine ni_shelf (m := 17) (by show H.1 + 1 = 17; omega) (hn_at hN.symm) (by omega) (by omega) (fun H' w c0 c1 => ?_)
    have h := h.sub (m' := 18) w rfl (fun a a1 a2 => by
      have ha : a = 16 ∨ a = 17 := by omega
      rcases ha with rfl | rfl
      · exact CX_n (by omega) c0
      · exact CX_n (by omega) ⟨_, c1, eqn_0⟩)
    have hx := h.1
    rw [Cont_none]
    simp (disch := omega) only [gX8_init_66, pf_8_6, Rd_some, Wr_some, Cont_some, Cont_none, iso_O, true_and, hg_s, hg_n, hput_hput, hx]
    refine h.goC (fun H h => ?_)
    have hx := h.1
    have hN := h.2.1
    -- shelf 18
    simp (disch := omega) only [gX8_init_69, gX8_init_70, gX8_init_73, gX8_init_74, gX8_init_76, Rd_some, Wr_some, Cont_some, Cont_none, iso_O, true_and, hg_s, hg_n, hput_hput, hN]
    refine ni_shelf (m := 19) (by show H.1 + 1 = 19; omega) (hn_at hN.symm) (by omega) (by omega) (fun H' w c0 c1 => ?_)
    have h := h.sub (m' := 20) w rfl (fun a a1 a2 => by
      have ha : a = 18 ∨ a = 19 := by omega
      rcases ha with rfl | rfl
      · exact CX_n (by omega) c0
      · exact CX_n (by omega) ⟨_, c1, eqn_0⟩)
    have hx := h.1
    rw [Cont_none]
    simp (disch := omega) only [gX8_init_79, pf_8_7, Rd_some, Wr_some, Cont_some, Cont_none, iso_O, true_and, hg_s, hg_n, hput_hput, hx]
    refine h.goC (fun H h => ?_)
    have hx := h.1
    have hN := h.2.1
    -- shelf 20
    simp (disch := omega) only [gX8_init_82, gX8_init_83, gX8_init_86, gX8_init_87, gX8_init_89, Rd_some, Wr_some, Cont_some, Cont_none, iso_O, true_and, hg_s, hg_n, hput_hput, hN]
    refine ni_shelf (m := 21) (by show H.1 + 1 = 21; omega) (hn_at hN.symm) (by omega) (by omega) (fun H' w c0 c1 => ?_)
    have h := h.sub (m' := 22) w rfl (fun a a1 a2 => by
      have ha : a = 20 ∨ a = 21 := by omega
      rcases ha with rfl | rfl
      · exact CX_n (by omega) c0
      · exact CX_n (by omega) ⟨_, c1, eqn_0⟩)
    have hx := h.1
    rw [Cont_none]
    simp (disch := omega) only [gX8_init_92, pf_8_8, Rd_some, Wr_some, Cont_some, Cont_none, iso_O, true_and, hg_s, hg_n, hput_hput, hx]
    refine h.goC (fun H h => ?_)
    have hx := h.1
    have hN := h.2.1
    -- shelf 22
    simp (disch := omega) only [gX8_init_95, gX8_init_96, gX8_init_99, gX8_init_100, gX8_init_102, Rd_some, Wr_some, Cont_some, Cont_none, iso_O, true_and, hg_s, hg_n, hput_hput, hN]
    refine ni_shelf (m := 23) (by show H.1 + 1 = 23; omega) (hn_at hN.symm) (by omega) (by omega) (fun H' w c0 c1 => ?_)
    have h := h.sub (m' := 24) w rfl (fun a a1 a2 => by
      have ha : a = 22 ∨ a = 23 := by omega
      rcases ha with rfl | rfl
      · exact CX_n (by omega) c0
      · exact CX_n (by omega) ⟨_, c1, eqn_0⟩)
    have hx := h.1
    rw [Cont_none]
    simp (disch := omega) only [gX8_init_105, pf_8_9, Rd_some, Wr_some, Cont_some, Cont_none, iso_O, true_and, hg_s, hg_n, hput_hput, hx]
    refine h.goC (fun H h => ?_)
    have hx := h.1
    have hN := h.2.1
    -- digits, fields
    simp (disch := omega) only [gX8_init_108, gX8_init_109, gX8_init_111, gX8_init_113, pf_8_10, Rd_some, Wr_some, Cont_some, Cont_none, iso_O, true_and, hg_s, hg_n, hput_hput, hx, hN, hn_n]
    refine h.goA (m' := 25) rfl (CX_n (by omega) ⟨_, rfl⟩) (fun H h => ?_)
    have hx := h.1
    simp (disch := omega) only [gX8_init_116, gX8_init_117, gX8_init_119, pf_8_11, gX8_init_122, gX8_init_123, gX8_init_124, pf_8_12, Rd_some, Wr_some, Cont_some, Cont_none, iso_O, true_and, hg_s, hg_n, hput_hput, hx]
    refine h.goC (fun H h => ?_)
    have hx := h.1
    have hN := h.2.1
    -- prime 25
    simp (disch := omega) only [gX8_init_127, gX8_init_128, fl_8_1, gX8_init_131, gX8_init_132, gX8_init_135, gX8_init_136, gX8_init_139, Rd_some, Wr_some, Cont_some, Cont_none, iso_O, true_and, hg_s, hg_n, hput_hput, hx, hN, hn_n]
    rw [ni_prime (hn_at hN.symm) (by omega), Cont_none, hput_new hN]
    refine h.goN (m' := 26) rfl (CX_n (by omega) rfl) (fun H h => ?_)
    have hx := h.1
    have hN := h.2.1
    have h3 := h.c3 (by omega)
    have hc : hget H 25 = cO 3 [vl 998244353] := h.cs 25 (by omega)
    simp (disch := first | omega | decide) only [gX8_init_142, sR_p, Rd_some, Wr_some, Cont_some, Cont_none, iso_O, true_and, hg_s, hg_n, hput_hput, h3, hc, sR_p]
    refine h.go3 (by omega) (fun H h => ?_)
    have hx := h.1
    have hN := h.2.1
    -- prime 26
    simp (disch := omega) only [gX8_init_143, gX8_init_144, fl_8_1, gX8_init_147, gX8_init_148, gX8_init_151, gX8_init_152, gX8_init_155, Rd_some, Wr_some, Cont_some, Cont_none, iso_O, true_and, hg_s, hg_n, hput_hput, hx, hN, hn_n]
    rw [ni_prime (hn_at hN.symm) (by omega), Cont_none, hput_new hN]
    refine h.goN (m' := 27) rfl (CX_n (by omega) rfl) (fun H h => ?_)
    have hx := h.1
    have hN := h.2.1
    have h3 := h.c3 (by omega)
    have hc : hget H 26 = cO 3 [vl 1004535809] := h.cs 26 (by omega)
    simp (disch := first | omega | decide) only [gX8_init_158, sR_p, Rd_some, Wr_some, Cont_some, Cont_none, iso_O, true_and, hg_s, hg_n, hput_hput, h3, hc, sR_p]
    refine h.go3 (by omega) (fun H h => ?_)
    have hx := h.1
    have hN := h.2.1
    -- prime 27
    simp (disch := omega) only [gX8_init_159, gX8_init_160, fl_8_1, gX8_init_163, gX8_init_164, gX8_init_167, gX8_init_168, gX8_init_171, Rd_some, Wr_some, Cont_some, Cont_none, iso_O, true_and, hg_s, hg_n, hput_hput, hx, hN, hn_n]
    rw [ni_prime (hn_at hN.symm) (by omega), Cont_none, hput_new hN]
    refine h.goN (m' := 28) rfl (CX_n (by omega) rfl) (fun H h => ?_)
    have hx := h.1
    have hN := h.2.1
    have h3 := h.c3 (by omega)
    have hc : hget H 27 = cO 3 [vl 469762049] := h.cs 27 (by omega)
    simp (disch := first | omega | decide) only [gX8_init_174, sR_p, Rd_some, Wr_some, Cont_some, Cont_none, iso_O, true_and, hg_s, hg_n, hput_hput, h3, hc, sR_p]
    refine h.go3 (by omega) (fun H h => ?_)
    have hx := h.1
    have hN := h.2.1
    have h := h.cg (C' := CX pmf) (fun a c hc => by
      unfold CX at hc ⊢
      by_cases e : a = 3
      · rw [if_pos e] at hc ⊢
        rw [hc]
        refine cR_c (fun j j0 => ?_)
        unfold up pmf
        by_cases e2 : j = 2
        · subst e2; rfl
        · by_cases e1 : j = 1
          · subst e1; rfl
          · by_cases e0 : j = 0
            · subst e0; rfl
            · rw [if_neg e2, if_neg e1, if_neg e0, if_neg (by omega)]
      · rw [if_neg e] at hc ⊢; exact hc)
    have h3 := h.c3 (by omega)
    have r0 : va_rf (pmf 0) = .ref 25 := rfl
    have r1 : va_rf (pmf 1) = .ref 26 := rfl
    have r2 : va_rf (pmf 2) = .ref 27 := rfl
    simp (disch := omega) only [gX8_init_175, gX8_init_176, gX8_init_179, gX8_init_180, gX8_init_181, fl_8_1, gX8_init_184, gX8_init_185, aR_g, gX8_init_186, gX8_init_187, gX8_init_190, gX8_init_191, gX8_init_192, gX8_init_193, gX8_init_196, gX8_init_197, gX8_init_198, Rd_some, Wr_some, Cont_some, Cont_none, iso_O, true_and, hg_s, hg_n, hput_hput, hx, hN, hn_n, h3, r0, r1, r2]
    refine ni_prod (by show H.1 + 1 = 29; omega) (hn_at hN.symm) ?_ ?_ (fun H' w cc => ?_)
    · rw [hn_n (by omega)]; exact h.cs 26 (by omega)
    · rw [hn_n (by omega)]; exact h.cs 27 (by omega)
    have h := h.sub (m' := 41) w rfl (fun a a1 a2 => CX_n (by omega) (cc a a1 a2))
    have hx := h.1
    rw [Cont_none]
    simp (disch := omega) only [gX8_init_201, pf_8_2, Rd_some, Wr_some, Cont_some, Cont_none, iso_O, true_and, hg_s, hg_n, hput_hput, hx]
    refine h.goC (fun H h => ?_)
    simp (disch := omega) only [gX8_init_204, Rd_some, Wr_some, Cont_some, Cont_none, iso_O, true_and, hg_s, hg_n, hput_hput]
    refine hq _ h.2.1 (by rw [h.2.2.1]; omega) ((h.2.2.2.1 0 (by omega) (by omega)).trans hB0) (fun a a1 a2 => ?_)
    by_cases e1 : a = 1
    · subst e1; exact h.1
    · by_cases e3 : a = 3
      · subst e3; exact h.c3 (by omega)
      · exact h.cs a (by omega)
  exact key _ h
end CT2

/-! THE STATE, and what the heap holds of it: the objects of x at 1 .. 40, those of m at 41 .. 60, rows in pairs from 61 on -/
abbrev RD : Type := Int × Int × (Int → Int)
abbrev SS : Type := ((Int → Option Nat) × (Nat → RD)) × (Int × Int) × (Nat → Int × (Int → Int))
def wFt (S : SS) (v : Int) : SS := (S.1, (v, S.2.1.2), S.2.2)
def wPr (S : SS) (v : Int) : SS := (S.1, (S.2.1.1, v), S.2.2)
def wSh (S : SS) (k : Nat) (n : Int) (g : Int → Int) : SS := (S.1, S.2.1, fun j => if j = k then (n, g) else S.2.2 j)
def wPl (S : SS) (p : Int) (o : Option Nat) : SS := ((up S.1.1 p o, S.1.2), S.2)
def wRd (S : SS) (k : Nat) (d : RD) : SS := ((S.1.1, fun j => if j = k then d else S.1.2 j), S.2)
def PV (k : Int) : Int := if k = 0 then 998244353 else if k = 1 then 1004535809 else 469762049
abbrev cX (S : SS) : AC := cO 8 [.ref 2, .ref 3, .ref 28, .ref 4, .ref 8, .ref 14, .ref 16, .ref 18, .ref 20, .ref 22, .ref 24, vi S.2.1.2, vi S.2.1.1]
/-- the bits of 2 to the 1, 2, 4 .. 512 -/
def pw2 (j : Int) : UInt64 := if j < 10 then UInt64.ofNat ((1023 + 2 ^ j.toNat) * 4503599627370496) else 0
/-- where the primes are -/
def pmf (j : Int) : Option Nat := if j < 3 then some (25 + j.toNat) else none
theorem pmf_v {j : Int} (h : 0 ≤ j ∧ j ≤ 2) : pmf j = some (25 + j.toNat) := if_pos (by omega)
def eqn (g : Int → Int) (d : Int × (Int → Int)) : Prop := ∀ j, 0 ≤ j → j < d.1 → g j = d.2 j
def eqH (g : Int → Int) (d : Int × (Int → Int)) : Prop := ∀ j, 0 ≤ j → j < d.1 → g j = d.2 j / 18446744073709551616
def Sh (S : SS) (a : Nat) (c : AC) : Prop := match a with
  | 1 => c = cX S
  | 2 => c = cR (.object (vCn 5)) 12 S.1.1
  | 3 => c = cR (.object (vCn 3)) 3 pmf
  | 4 => c = cO 2 [.ref 5, .ref 6, .ref 7]
  | 5 => ∃ g, c = cL 64 g
  | 6 => ∃ g, c = cL 64 g
  | 7 => ∃ g, c = cL 65 g
  | 8 => c = cO 0 [.ref 9, .ref 10, .ref 11, .ref 12, .ref 13]
  | 9 => c = cD 10 pw2
  | 10 => ∃ g, c = cD 64 g
  | 11 => ∃ g, c = cD 64 g
  | 12 => ∃ g, c = cZ 64 g
  | 13 => ∃ g, c = cZ 64 g
  | 14 => c = cO 6 [.ref 15, vi (S.2.2 0).1]
  | 15 => ∃ g, c = cL 64 g ∧ eqn g (S.2.2 0)
  | 16 => c = cO 6 [.ref 17, vi (S.2.2 3).1]
  | 17 => ∃ g, c = cL 64 g ∧ eqn g (S.2.2 3)
  | 18 => c = cO 6 [.ref 19, vi (S.2.2 4).1]
  | 19 => ∃ g, c = cL 64 g ∧ eqn g (S.2.2 4)
  | 20 => c = cO 6 [.ref 21, vi (S.2.2 5).1]
  | 21 => ∃ g, c = cL 64 g ∧ eqn g (S.2.2 5)
  | 22 => c = cO 6 [.ref 23, vi (S.2.2 6).1]
  | 23 => ∃ g, c = cL 127 g ∧ eqn g (S.2.2 6)
  | 24 => ∃ g, c = cL 64 g
  | 25 => c = cO 3 [vl 998244353]
  | 26 => c = cO 3 [vl 1004535809]
  | 27 => c = cO 3 [vl 469762049]
  | 28 => c = cPr (S.2.2 2).1 669690699 354521948
  | 29 => ∃ g, c = cL 127 g ∧ eqH g (S.2.2 2)
  | 30 => ∃ g, c = cL 127 g ∧ eqn g (S.2.2 2)
  | 31 => ∃ u w : Int, c = cO 7 [vl u, vl w]
  | 32 => c = cO 1 [.ref 25, .ref 33, .ref 34]
  | 33 => ∃ g, c = cL 128 g
  | 34 => ∃ g, c = cL 128 g
  | 35 => c = cO 1 [.ref 26, .ref 36, .ref 37]
  | 36 => ∃ g, c = cL 128 g
  | 37 => ∃ g, c = cL 128 g
  | 38 => c = cO 1 [.ref 27, .ref 39, .ref 40]
  | 39 => ∃ g, c = cL 128 g
  | 40 => ∃ g, c = cL 128 g
  | _ => True
def live (S : SS) (k : Nat) : Prop := ∃ p : Int, 0 ≤ p ∧ p < 12 ∧ S.1.1 p = some k
def rok (d : RD) : Prop := (0 ≤ d.1 ∧ d.1 ≤ 4) ∧ (0 < d.2.1 ∧ d.2.1 ≤ 64) ∧ (∀ j, 0 ≤ j → j < d.2.1 → -9223372036854775808 ≤ d.2.2 j ∧ d.2.2 j ≤ 9223372036854775807) ∧ (d.1 ≤ 2 → sml d.2.2 d.2.1)
def Rw (H : HP) (k : Nat) (d : RD) : Prop := (60 < k ∧ k % 2 = 1 ∧ k + 1 < H.1) ∧ hget H k = cO 5 [vi d.1, .ref (k + 1)] ∧ hget H (k + 1) = cL d.2.1 d.2.2 ∧ rok d
def SI (S : SS) : Prop := ((S.2.1.2 = -9 ∧ (S.2.2 0).1 = 0) ∨ ((0 ≤ S.2.1.2 ∧ S.2.1.2 ≤ 2) ∧ (1 ≤ (S.2.2 0).1 ∧ (PV S.2.1.2 - 1) % (S.2.2 0).1 = 0) ∧ ∀ j, 0 ≤ j → j < (S.2.2 0).1 → 0 ≤ (S.2.2 0).2 j ∧ (S.2.2 0).2 j < PV S.2.1.2)) ∧ (0 ≤ (S.2.2 0).1 ∧ (S.2.2 0).1 ≤ 64) ∧ (0 ≤ (S.2.2 2).1 ∧ (S.2.2 2).1 ≤ 127) ∧ (0 ≤ (S.2.2 3).1 ∧ (S.2.2 3).1 ≤ 64) ∧ (0 ≤ (S.2.2 4).1 ∧ (S.2.2 4).1 ≤ 64) ∧ (0 ≤ (S.2.2 5).1 ∧ (S.2.2 5).1 ≤ 64) ∧ (0 ≤ (S.2.2 6).1 ∧ (S.2.2 6).1 ≤ 127) ∧ Vr (S.2.2 2).2 (S.2.2 2).1
def CI (H : HP) (S : SS) : Prop := (∀ a, a ≤ 40 → Sh S a (hget H a)) ∧ (∀ k, live S k → Rw H k (S.1.2 k)) ∧ SI S ∧ 60 < H.1 ∧ H.1 % 2 = 1
abbrev TT : Type := ((Int → Int) × (Int → Int)) × ((Int → Int) × (Int → Int))
abbrev cM (S : SS) : AC := cO 9 [vi S.2.1.1, .ref 42, .ref 43, .ref 44, .ref 45, vi (S.2.2 0).1, vi S.2.1.2, .ref 46, vi (S.2.2 2).1, .ref 47, .ref 48, vi (S.2.2 3).1, .ref 49, vi (S.2.2 4).1, .ref 50, vi (S.2.2 5).1, .ref 51, vi (S.2.2 6).1, .ref 52, .ref 53, .ref 54, .ref 55, .ref 56, .ref 57, .ref 58, .ref 59, .ref 60]
def Mh (S : SS) (T : TT) (a : Nat) (c : AC) : Prop := match a with
  | 41 => c = cM S
  | 42 => c = cJ 12 T.1.1
  | 43 => c = cJ 13 T.1.2
  | 44 => c = cJ 13 T.2.1
  | 45 => c = cL 832 T.2.2
  | 46 => ∃ g, c = cL 64 g ∧ eqn g (S.2.2 0)
  | 47 => ∃ g, c = cL 128 g ∧ eqH g (S.2.2 2)
  | 48 => ∃ g, c = cL 128 g ∧ eqn g (S.2.2 2)
  | 49 => ∃ g, c = cL 64 g ∧ eqn g (S.2.2 3)
  | 50 => ∃ g, c = cL 64 g ∧ eqn g (S.2.2 4)
  | 51 => ∃ g, c = cJ 64 g ∧ eqn g (S.2.2 5)
  | 52 => ∃ g, c = cL 128 g ∧ eqn g (S.2.2 6)
  | 53 => ∃ g, c = cL 64 g
  | 54 => ∃ g, c = cL 64 g
  | 55 => ∃ g, c = cJ 400 g
  | 56 => ∃ g, c = cL 9 g
  | 57 => ∃ g, c = cL 64 g
  | 58 => ∃ g, c = cL 64 g
  | 59 => ∃ g, c = cL 64 g
  | 60 => ∃ g, c = cL 65 g
  | _ => True
/-- the place p's row in the tables of m -/
def MP (S : SS) (T : TT) (p : Int) : Prop := (S.1.1 p = none → T.1.1 p = -9) ∧ ∀ k, S.1.1 p = some k → (0 ≤ T.1.1 p ∧ T.1.1 p ≤ 12) ∧ T.1.2 (T.1.1 p) = (S.1.2 k).1 ∧ T.2.1 (T.1.1 p) = (S.1.2 k).2.1 ∧ ∀ j, 0 ≤ j → j < (S.1.2 k).2.1 → T.2.2 (64 * T.1.1 p + j) = (S.1.2 k).2.2 j
def MR (S : SS) (T : TT) : Prop := (∀ p, 0 ≤ p → p < 12 → MP S T p) ∧ ∀ p q k l, 0 ≤ p → p < 12 → 0 ≤ q → q < 12 → S.1.1 p = some k → S.1.1 q = some l → (k = l ↔ T.1.1 p = T.1.1 q)
def MH (H : HP) (S : SS) (T : TT) : Prop := ∀ a, 41 ≤ a → a ≤ 60 → Mh S T a (hget H a)
def MJ (H : HP) (S : SS) : Prop := ∃ T, MH H S T ∧ MR S T ∧ SI S ∧ ∀ k, live S k → rok (S.1.2 k)
/-- what a call on x leaves alone, and what it may make -/
def FX (H H' : HP) : Prop := (H.1 ≤ H'.1 ∧ H'.1 ≤ H.1 + 2 ∧ H'.2.1 ≤ H.2.1 + 66) ∧ ∀ a, (a = 0 ∨ (41 ≤ a ∧ a ≤ 60)) → hget H' a = hget H a
theorem FX.put {H : HP} {a : Nat} {c : AC} (ha : 1 ≤ a ∧ (a ≤ 40 ∨ 60 < a)) : FX H (hput H a c) := ⟨⟨Nat.le_refl _, Nat.le_add_right _ _, Nat.le_add_right _ _⟩, fun b hb => hg_n (by omega)⟩
theorem FX.rf {H : HP} : FX H H := ⟨⟨Nat.le_refl _, Nat.le_add_right _ _, Nat.le_add_right _ _⟩, fun b hb => rfl⟩
theorem FX.fm {H H1 H2 : HP} {lo hi : Nat} (h : FX H H1) (f : Fm lo hi H1 H2) (hh : 1 ≤ lo ∧ (hi ≤ 40 ∨ 60 < lo)) : FX H H2 := ⟨by rw [f.1, f.2.1]; exact h.1, fun b hb => (f.2.2 b (by omega)).trans (h.2 b hb)⟩
theorem FX.same {H H1 H2 : HP} (h : FX H H1) (h1 : H2.1 = H1.1) (h2 : H2.2.1 = H1.2.1) (e : ∀ a, (a = 0 ∨ (41 ≤ a ∧ a ≤ 60)) → hget H2 a = hget H1 a) : FX H H2 := ⟨by rw [h1, h2]; exact h.1, fun b hb => (e b hb).trans (h.2 b hb)⟩
theorem MJ.fx {H H' : HP} {S : SS} (h : MJ H S) (f : FX H H') : MJ H' S := by
  obtain ⟨T, h1, h2⟩ := h
  exact ⟨T, fun a h3 h4 => by rw [f.2 a (Or.inr ⟨h3, h4⟩)]; exact h1 a h3 h4, h2⟩
theorem CI.fm {H H' : HP} {S : SS} (h : CI H S) (f : Fm 41 60 H H') : CI H' S := by
  obtain ⟨h1, h2, h3, h4, h5⟩ := h
  refine ⟨fun a ha => by rw [f.2.2 a (by omega)]; exact h1 a ha, fun k hk => ?_, h3, by rw [f.1]; exact h4, by rw [f.1]; exact h5⟩
  obtain ⟨a1, a2, a3, a4⟩ := h2 k hk
  exact ⟨by rw [f.1]; exact a1, by rw [f.2.2 k (by omega)]; exact a2, by rw [f.2.2 (k + 1) (by omega)]; exact a3, a4⟩
section CIS
variable {H H' : HP} {S S' : SS}
theorem CI.c (h : CI H S) (a : Nat) (ha : a ≤ 40) : Sh S a (hget H a) := h.1 a ha
theorem CI.x (h : CI H S) : hget H 1 = cX S := h.1 1 (by decide)
theorem CI.pl (h : CI H S) : hget H 2 = cR (.object (vCn 5)) 12 S.1.1 := h.1 2 (by decide)
theorem CI.pm (h : CI H S) : hget H 3 = cR (.object (vCn 3)) 3 pmf := h.1 3 (by decide)
theorem CI.rw' (h : CI H S) {p : Int} {k : Nat} (hp : 0 ≤ p ∧ p < 12) (hk : S.1.1 p = some k) : Rw H k (S.1.2 k) := h.2.1 k ⟨p, hp.1, hp.2, hk⟩
theorem Rw.RW {k : Nat} {d : RD} (h : Rw H k d) : RW H k (k + 1) d.1 d.2.1 d.2.2 := ⟨h.2.1, h.2.2.1, ⟨by have := h.1; omega, by have := h.1; omega, by omega⟩, h.2.2.2.2.1, h.2.2.2.2.2.1⟩
theorem CI.ps (h : CI H S) : PS H (S.2.2 2).1 669690699 354521948 (S.2.2 2).2 (S.2.2 2).1 := by
  obtain ⟨U, h1, h2⟩ := h.1 29 (by decide)
  obtain ⟨W, h3, h4⟩ := h.1 30 (by decide)
  obtain ⟨u, w, h5⟩ := h.1 31 (by decide)
  exact ⟨h.1 28 (by decide), ⟨U, W, h1, h3, fun j j0 j1 => ⟨h2 j j0 j1, h4 j j0 j1⟩⟩, u, w, h5⟩
theorem Sh_ft {v : Int} {a : Nat} {c : AC} (h : a ≠ 1) : Sh (wFt S v) a c ↔ Sh S a c := by
  unfold Sh
  split <;> first | exact absurd rfl h | exact Iff.rfl
theorem Sh_pr {v : Int} {a : Nat} {c : AC} (h : a ≠ 1) : Sh (wPr S v) a c ↔ Sh S a c := by
  unfold Sh
  split <;> first | exact absurd rfl h | exact Iff.rfl
theorem Sh_rd {k : Nat} {d : RD} {a : Nat} {c : AC} : Sh (wRd S k d) a c ↔ Sh S a c := by
  unfold Sh
  split <;> exact Iff.rfl
theorem Sh_pl {p : Int} {o : Option Nat} {a : Nat} {c : AC} (h : a ≠ 2) : Sh (wPl S p o) a c ↔ Sh S a c := by
  unfold Sh
  split <;> first | exact absurd rfl h | exact Iff.rfl
theorem Sh_0 {n : Int} {g : Int → Int} {a : Nat} {c : AC} (h : a ≠ 14 ∧ a ≠ 15) : Sh (wSh S 0 n g) a c ↔ Sh S a c := by
  unfold Sh
  split <;> first | exact absurd rfl h.1 | exact absurd rfl h.2 | exact Iff.rfl
theorem Sh_2 {n : Int} {g : Int → Int} {a : Nat} {c : AC} (h : a ≠ 28 ∧ a ≠ 29 ∧ a ≠ 30) : Sh (wSh S 2 n g) a c ↔ Sh S a c := by
  unfold Sh
  split <;> first | exact absurd rfl h.1 | exact absurd rfl h.2.1 | exact absurd rfl h.2.2 | exact Iff.rfl
theorem Sh_3 {n : Int} {g : Int → Int} {a : Nat} {c : AC} (h : a ≠ 16 ∧ a ≠ 17) : Sh (wSh S 3 n g) a c ↔ Sh S a c := by
  unfold Sh
  split <;> first | exact absurd rfl h.1 | exact absurd rfl h.2 | exact Iff.rfl
theorem Sh_4 {n : Int} {g : Int → Int} {a : Nat} {c : AC} (h : a ≠ 18 ∧ a ≠ 19) : Sh (wSh S 4 n g) a c ↔ Sh S a c := by
  unfold Sh
  split <;> first | exact absurd rfl h.1 | exact absurd rfl h.2 | exact Iff.rfl
theorem Sh_5 {n : Int} {g : Int → Int} {a : Nat} {c : AC} (h : a ≠ 20 ∧ a ≠ 21) : Sh (wSh S 5 n g) a c ↔ Sh S a c := by
  unfold Sh
  split <;> first | exact absurd rfl h.1 | exact absurd rfl h.2 | exact Iff.rfl
theorem Sh_6 {n : Int} {g : Int → Int} {a : Nat} {c : AC} (h : a ≠ 22 ∧ a ≠ 23) : Sh (wSh S 6 n g) a c ↔ Sh S a c := by
  unfold Sh
  split <;> first | exact absurd rfl h.1 | exact absurd rfl h.2 | exact Iff.rfl
/-- nothing but the cells 1 .. 40 has changed -/
theorem CI.upd (h : CI H S) (h1 : H'.1 = H.1) (e : ∀ a, 60 < a → hget H' a = hget H a) (hS : S'.1 = S.1) (hs : ∀ a, a ≤ 40 → Sh S' a (hget H' a)) (hi : SI S') : CI H' S' := by
  refine ⟨hs, fun k hk => ?_, hi, by rw [h1]; exact h.2.2.2.1, by rw [h1]; exact h.2.2.2.2⟩
  have hk' : live S k := by unfold live at hk ⊢; rw [hS] at hk; exact hk
  obtain ⟨a1, a2, a3, a4⟩ := h.2.1 k hk'
  rw [hS]
  exact ⟨by rw [h1]; exact a1, by rw [e k (by omega)]; exact a2, by rw [e (k + 1) (by omega)]; exact a3, a4⟩
/-- a cell that is only worked in, or a shelf beyond its count -/
theorem CI.put (h : CI H S) {a : Nat} {c : AC} (ha : a ≤ 40) (hc : Sh S a c) : CI (hput H a c) S := by
  refine h.upd rfl (fun b hb => hg_n (by omega)) rfl (fun b hb => ?_) h.2.2.1
  by_cases e : b = a
  · subst e; rw [hg_s]; exact hc
  · rw [hg_n e]; exact h.1 b hb
theorem CI.ft (h : CI H S) (v : Int) : CI (hput H 1 (cX (wFt S v))) (wFt S v) := by
  refine h.upd rfl (fun b hb => hg_n (by omega)) rfl (fun b hb => ?_) h.2.2.1
  by_cases e : b = 1
  · subst e; rw [hg_s]; rfl
  · rw [hg_n e]; exact (Sh_ft e).mpr (h.1 b hb)
theorem wFt_wFt {u v : Int} : wFt (wFt S u) v = wFt S v := rfl
theorem CI.cells (h : CI H S) {p : Int} {k : Nat} (hp : 0 ≤ p ∧ p < 12) (hk : S.1.1 p = some k) {g : Int → Int} (hr : rok ((S.1.2 k).1, (S.1.2 k).2.1, g)) : CI (hput H (k + 1) (cL (S.1.2 k).2.1 g)) (wRd S k ((S.1.2 k).1, (S.1.2 k).2.1, g)) := by
  have hw := h.rw' hp hk
  refine ⟨fun a ha => by rw [hg_n (by have := hw.1; omega)]; exact Sh_rd.mpr (h.1 a ha), fun l hl => ?_, h.2.2.1, h.2.2.2.1, h.2.2.2.2⟩
  have hl' := h.2.1 l hl
  show Rw _ l (if l = k then _ else S.1.2 l)
  by_cases e : l = k
  · subst e
    rw [if_pos rfl]
    exact ⟨hw.1, by rw [hg_n (by omega)]; exact hw.2.1, hg_s, hr⟩
  · rw [if_neg e]
    have o1 := hl'.1
    have o2 := hw.1
    exact ⟨o1, by rw [hg_n (by omega)]; exact hl'.2.1, by rw [hg_n (by omega)]; exact hl'.2.2.1, hl'.2.2.2⟩
/-- a place takes a new row -/
theorem CI.new (h : CI H S) {p : Int} {d : RD} (hp : 0 ≤ p ∧ p < 12) (h1 : H'.1 = H.1 + 2) (e : ∀ a, a < H.1 → a ≠ 2 → hget H' a = hget H a) (e2 : hget H' 2 = cR (.object (vCn 5)) 12 (up S.1.1 p (some H.1))) (e3 : hget H' H.1 = cO 5 [vi d.1, .ref (H.1 + 1)]) (e4 : hget H' (H.1 + 1) = cL d.2.1 d.2.2) (hd : rok d) : CI H' (wPl (wRd S H.1 d) p (some H.1)) := by
  have h60 := h.2.2.2.1
  have hodd := h.2.2.2.2
  refine ⟨fun a ha => ?_, fun l hl => ?_, h.2.2.1, by rw [h1]; omega, by rw [h1]; omega⟩
  · by_cases ea : a = 2
    · subst ea; rw [e2]; rfl
    · rw [e a (by omega) ea]; exact (Sh_pl ea).mpr (Sh_rd.mpr (h.1 a ha))
  · obtain ⟨q, q0, q1, q2⟩ := hl
    have q2 : up S.1.1 p (some H.1) q = some l := q2
    show Rw _ l (if l = H.1 then d else S.1.2 l)
    by_cases ep : q = p
    · rw [show up S.1.1 p (some H.1) q = some H.1 from if_pos ep] at q2
      cases q2
      rw [if_pos rfl]
      exact ⟨⟨h60, hodd, by rw [h1]; omega⟩, e3, e4, hd⟩
    · rw [show up S.1.1 p (some H.1) q = S.1.1 q from if_neg ep] at q2
      obtain ⟨o1, o2, o3, o4⟩ := h.2.1 l ⟨q, q0, q1, q2⟩
      rw [if_neg (by omega)]
      exact ⟨⟨o1.1, o1.2.1, by rw [h1]; omega⟩, by rw [e l (by omega) (by omega)]; exact o2, by rw [e (l + 1) (by omega) (by omega)]; exact o3, o4⟩
end CIS
theorem va_rf_s {k : Nat} : va_rf (some k) = .ref k := rfl
theorem va_rf_n : va_rf none = .null := rfl
theorem gX8_share_27N {L : List (Option Value)} {p : Nat} {a : Int} (hp : p ≠ 0) {st : List Value} {H : HP} {Q : Option Value → HP → Prop} : Go 71 27 L (.null :: vi a :: .ref p :: st) H Q ↔ Wr (sN' (hget H p) a) p 71 28 L st H Q := G_aastN fX8_share_27 hp

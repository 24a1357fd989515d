/-! RUNS OF THE SMALL MACHINE: goal first; numbers are whole numbers -/
def Go (y pc : Nat) (L : List (Option Value)) (st : List Value) (H : HP) (Q : Option Value → HP → Prop) : Prop := ∃ (n : Nat) (v : Option Value) (H' : HP), ex n y (pc, L, st) H = some (v, H') ∧ Q v H'
def Cont (y pc : Nat) (L : List (Option Value)) (st : List Value) (Q : Option Value → HP → Prop) : Option Value → HP → Prop := fun v H => Go y pc L (v.toList ++ st) H Q
theorem Cont_some {y pc : Nat} {L : List (Option Value)} {st : List Value} {Q : Option Value → HP → Prop} {v : Value} {H : HP} : Cont y pc L st Q (some v) H ↔ Go y pc L (v :: st) H Q := Iff.rfl
theorem Cont_none {y pc : Nat} {L : List (Option Value)} {st : List Value} {Q : Option Value → HP → Prop} {H : HP} : Cont y pc L st Q none H ↔ Go y pc L st H Q := Iff.rfl
theorem ex_mono1 : ∀ (n y : Nat) (F : Fr) (H : HP) (r : Option Value × HP), ex n y F H = some r → ex (n + 1) y F H = some r := by
  intro n
  induction n with
  | zero => intro y F H r h; cases h
  | succ n ih =>
    intro y F H r h
    rw [ex] at h ⊢
    split at h
    · cases h
    · rename_i F1 H1 hs
      exact ih _ _ _ _ h
    · rename_i v hs
      exact h
    · rename_i z as F1 hs
      split at h
      · rename_i hl
        rw [if_pos hl]
        split at h
        · cases h
        · rename_i v H1 hz
          rw [ih _ _ _ _ hz]
          exact ih _ _ _ _ h
      · cases h
theorem ex_mono {n k y : Nat} {F : Fr} {H : HP} {r : Option Value × HP} (h : ex n y F H = some r) (hk : n ≤ k) : ex k y F H = some r := by
  obtain ⟨d, rfl⟩ := Nat.exists_eq_add_of_le hk
  induction d with
  | zero => exact h
  | succ d ih => exact ex_mono1 _ _ _ _ _ (ih (Nat.le_add_right _ _))
section GO
variable {y z pc pc' : Nat} {L L' : List (Option Value)} {st st' as : List Value} {H H' : HP} {Q : Option Value → HP → Prop} {ax : Ax} {v : Option Value}
theorem Go_nx (h : stp y (pc, L, st) H = some (.inl ((pc', L', st'), H'))) : Go y pc L st H Q ↔ Go y pc' L' st' H' Q := by
  constructor
  · rintro ⟨n, v, H1, hn, hq⟩
    cases n with
    | zero => cases hn
    | succ n => rw [ex, h] at hn; exact ⟨n, v, H1, hn, hq⟩
  · rintro ⟨n, v, H1, hn, hq⟩
    exact ⟨n + 1, v, H1, by rw [ex, h]; exact hn, hq⟩
theorem Go_rt (h : stp y (pc, L, st) H = some (.inr (.inl v))) : Go y pc L st H Q ↔ Q v H := by
  constructor
  · rintro ⟨n, w, H1, hn, hq⟩
    cases n with
    | zero => cases hn
    | succ n => rw [ex, h] at hn; cases hn; exact hq
  · intro hq
    exact ⟨1, v, H, by rw [ex, h], hq⟩
theorem Go_cl (h : stp y (pc, L, st) H = some (.inr (.inr (z, as, (pc', L', st'))))) (hl : (argL as).length ≤ m_maxL z) : Go y pc L st H Q ↔ Go z 0 (entL (m_maxL z) as) [] H (Cont y pc' L' st' Q) := by
  constructor
  · rintro ⟨n, w, H1, hn, hq⟩
    cases n with
    | zero => cases hn
    | succ n =>
      rw [ex, h] at hn
      dsimp only at hn
      rw [if_pos hl] at hn
      split at hn
      · cases hn
      · rename_i v2 H2 hz
        exact ⟨n, v2, H2, hz, n, w, H1, hn, hq⟩
  · rintro ⟨n, v2, H2, hz, k, w, H1, hn, hq⟩
    refine ⟨max n k + 1, w, H1, ?_, hq⟩
    rw [ex, h]
    dsimp only
    rw [if_pos hl, ex_mono hz (Nat.le_max_left n k)]
    exact ex_mono hn (Nat.le_max_right n k)
theorem stp_ft {i : Instr} (h : ft y pc = some (i, ax)) : stp y (pc, L, st) H = stpI y i ax pc L st H := by
  unfold stp
  dsimp only
  rw [h]
end GO
theorem Go.mono {y pc : Nat} {L : List (Option Value)} {st : List Value} {H : HP} {Q Q' : Option Value → HP → Prop} (h : Go y pc L st H Q) (hq : ∀ v H', Q v H' → Q' v H') : Go y pc L st H Q' := by
  obtain ⟨n, v, H', h1, h2⟩ := h
  exact ⟨n, v, H', h1, hq v H' h2⟩
abbrev vi (x : Int) : Value := .int (Int32.ofInt x)
abbrev vl (x : Int) : Value := .long (Int64.ofInt x)
def cJ (n : Int) (g : Int → Int) : AC := .inl (.int, n.toNat, .inl fun j => Int32.ofInt (g j))
def cZ (n : Int) (g : Int → Int) : AC := .inl (.boolean, n.toNat, .inl fun j => Int32.ofInt (g j))
def cL (n : Int) (g : Int → Int) : AC := .inl (.long, n.toNat, .inr (.inl fun j => Int64.ofInt (g j)))
def cD (n : Int) (g : Int → UInt64) : AC := .inl (.double, n.toNat, .inr (.inr (.inr (.inl fun j => g j))))
def cR (t : FieldType) (n : Int) (g : Int → Option Nat) : AC := .inl (t, n.toNat, .inr (.inr (.inr (.inr fun j => g j))))
def cO (ci : Nat) (fs : List Value) : AC := .inr (ci, fs)
def up {α : Type} (g : Int → α) (i : Int) (x : α) : Int → α := fun j => if j = i then x else g j
def Rd (o : Option Value) (y pc : Nat) (L : List (Option Value)) (st : List Value) (H : HP) (Q : Option Value → HP → Prop) : Prop := match o with
  | some v => Go y pc L (v :: st) H Q
  | none => False
def Wr (o : Option AC) (a y pc : Nat) (L : List (Option Value)) (st : List Value) (H : HP) (Q : Option Value → HP → Prop) : Prop := match o with
  | some c => Go y pc L st (hput H a c) Q
  | none => False
theorem Rd_some {v : Value} {y pc : Nat} {L : List (Option Value)} {st : List Value} {H : HP} {Q : Option Value → HP → Prop} : Rd (some v) y pc L st H Q ↔ Go y pc L (v :: st) H Q := Iff.rfl
theorem Wr_some {c : AC} {a y pc : Nat} {L : List (Option Value)} {st : List Value} {H : HP} {Q : Option Value → HP → Prop} : Wr (some c) a y pc L st H Q ↔ Go y pc L st (hput H a c) Q := Iff.rfl
theorem hg_s {H : HP} {a : Nat} {c : AC} : hget (hput H a c) a = c := if_pos rfl
theorem hg_n {H : HP} {a b : Nat} {c : AC} (h : b ≠ a) : hget (hput H a c) b = hget H b := if_neg h
theorem hn_s {H : HP} {c : AC} {k : Nat} : hget (hnew H c k) H.1 = c := if_pos rfl
theorem hn_n {H : HP} {b k : Nat} {c : AC} (h : b ≠ H.1) : hget (hnew H c k) b = hget H b := if_neg h
theorem hp_1 {H : HP} {a : Nat} {c : AC} : (hput H a c).1 = H.1 := rfl
theorem hp_2 {H : HP} {a : Nat} {c : AC} : (hput H a c).2.1 = H.2.1 := rfl
theorem hn_1 {H : HP} {c : AC} {k : Nat} : (hnew H c k).1 = H.1 + 1 := rfl
theorem hn_2 {H : HP} {c : AC} {k : Nat} : (hnew H c k).2.1 = H.2.1 + k := rfl
theorem hput_hput {H : HP} {a : Nat} {c d : AC} : hput (hput H a c) a d = hput H a d := by
  unfold hput
  congr 2
  funext q
  dsimp only
  split <;> rfl
theorem hput_same {H : HP} {a : Nat} {c : AC} (h : hget H a = c) : hput H a c = H := by
  obtain ⟨n, k, f⟩ := H
  subst h
  unfold hput hget
  congr 2
  funext q
  dsimp only
  split
  · rename_i e; rw [e]
  · rfl
theorem hput_comm {H : HP} {a b : Nat} {c d : AC} (h : a ≠ b) : hput (hput H a c) b d = hput (hput H b d) a c := by
  unfold hput
  congr 2
  funext q
  dsimp only
  by_cases h1 : q = b
  · rw [if_pos h1, if_neg (by rw [h1]; exact fun e => h e.symm), if_pos h1]
  · rw [if_neg h1]
    by_cases h2 : q = a
    · rw [if_pos h2, if_pos h2]
    · rw [if_neg h2, if_neg h2, if_neg h1]
/- numbers -/
theorem i32 {x : Int} (h1 : -2147483648 ≤ x) (h2 : x ≤ 2147483647) : (Int32.ofInt x).toInt = x := Int32.toInt_ofInt_of_le h1 (by omega)
theorem i64 {x : Int} (h1 : -9223372036854775808 ≤ x) (h2 : x ≤ 9223372036854775807) : (Int64.ofInt x).toInt = x := Int64.toInt_ofInt_of_le h1 (by omega)
theorem i32_eq {a b : Int} (h1 : -2147483648 ≤ a) (h2 : a ≤ 2147483647) (h3 : -2147483648 ≤ b) (h4 : b ≤ 2147483647) : Int32.ofInt a = Int32.ofInt b ↔ a = b := by
  rw [← Int32.toInt_inj, i32 h1 h2, i32 h3 h4]
theorem i32_lt {a b : Int} (h1 : -2147483648 ≤ a) (h2 : a ≤ 2147483647) (h3 : -2147483648 ≤ b) (h4 : b ≤ 2147483647) : Int32.ofInt a < Int32.ofInt b ↔ a < b := by
  rw [Int32.lt_iff_toInt_lt, i32 h1 h2, i32 h3 h4]
theorem i32_le {a b : Int} (h1 : -2147483648 ≤ a) (h2 : a ≤ 2147483647) (h3 : -2147483648 ≤ b) (h4 : b ≤ 2147483647) : Int32.ofInt a ≤ Int32.ofInt b ↔ a ≤ b := by
  rw [Int32.le_iff_toInt_le, i32 h1 h2, i32 h3 h4]
theorem i64_eq {a b : Int} (h1 : -9223372036854775808 ≤ a) (h2 : a ≤ 9223372036854775807) (h3 : -9223372036854775808 ≤ b) (h4 : b ≤ 9223372036854775807) : Int64.ofInt a = Int64.ofInt b ↔ a = b := by
  rw [← Int64.toInt_inj, i64 h1 h2, i64 h3 h4]
theorem i64_lt {a b : Int} (h1 : -9223372036854775808 ≤ a) (h2 : a ≤ 9223372036854775807) (h3 : -9223372036854775808 ≤ b) (h4 : b ≤ 9223372036854775807) : Int64.ofInt a < Int64.ofInt b ↔ a < b := by
  rw [Int64.lt_iff_toInt_lt, i64 h1 h2, i64 h3 h4]
/-- what a comparison of two ints says, of whole numbers -/
def cmp (k : ClassFile.Cond) (a b : Int) : Prop := match k with
  | .eq => a = b
  | .ne => ¬ a = b
  | .lt => a < b
  | .ge => b ≤ a
  | .gt => b < a
  | .le => a ≤ b
theorem cI_cmp {k : ClassFile.Cond} {a b : Int} (h1 : -2147483648 ≤ a) (h2 : a ≤ 2147483647) (h3 : -2147483648 ≤ b) (h4 : b ≤ 2147483647) : cI k (Int32.ofInt a) (Int32.ofInt b) = true ↔ cmp k a b := by
  unfold cI cmp
  cases k <;> dsimp only <;> rw [decide_eq_true_eq]
  · exact i32_eq h1 h2 h3 h4
  · exact not_congr (i32_eq h1 h2 h3 h4)
  · exact i32_lt h1 h2 h3 h4
  · exact i32_le h3 h4 h1 h2
  · exact i32_lt h3 h4 h1 h2
  · exact i32_le h1 h2 h3 h4
theorem inb_i {i : Int} {n : Int} (h0 : 0 ≤ i) (h1 : i < n) (h2 : i ≤ 2147483647) : inb (Int32.ofInt i) n.toNat = true ∧ ((Int32.ofInt i).toNatClampNeg : Int) = i := by
  have e : (Int32.ofInt i).toInt = i := i32 (by omega) h2
  have e2 : (Int32.ofInt i).toNatClampNeg = i.toNat := by
    show (Int32.ofInt i).toInt.toNat = i.toNat
    rw [e]
  refine ⟨?_, by rw [e2]; omega⟩
  unfold inb
  rw [decide_eq_true_eq, e2]
  rintro (h | h)
  · rw [Int32.lt_iff_toInt_lt, e] at h
    have : i < 0 := h
    omega
  · omega

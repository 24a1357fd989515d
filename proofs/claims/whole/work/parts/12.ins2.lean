/-! RUNS OF THE SMALL MACHINE: variables, branches, the heap, calls -/
def aL' (c : AC) (i : Int) : Option Value := aGL c (Int32.ofInt i)
def aJ' (c : AC) (i : Int) : Option Value := aGI .int c (Int32.ofInt i)
def aZ' (c : AC) (i : Int) : Option Value := aGI .boolean c (Int32.ofInt i)
def aD' (c : AC) (i : Int) : Option Value := aGD c (Int32.ofInt i)
def aR' (c : AC) (i : Int) : Option Value := aGR c (Int32.ofInt i)
def sL' (c : AC) (i x : Int) : Option AC := aPL c (Int32.ofInt i) (Int64.ofInt x)
def sJ' (c : AC) (i x : Int) : Option AC := aPI .int c (Int32.ofInt i) (Int32.ofInt x)
def sZ' (c : AC) (i x : Int) : Option AC := aPI .boolean c (Int32.ofInt i) (vp_nar .boolean (Int32.ofInt x))
def sD' (c : AC) (i : Int) (x : UInt64) : Option AC := aPD c (Int32.ofInt i) x
def sN' (c : AC) (i : Int) : Option AC := aPN c (Int32.ofInt i)
def sR' (c : AC) (i : Int) (v : Nat) (o : AC) : Option AC := aPR c (Int32.ofInt i) v o
section ARR
variable {n i x : Int} {g : Int → Int} {f : Int → UInt64} {r : Int → Option Nat}
theorem upI {g : Int → Int} {m : Nat} {i x : Int} (e : (m : Int) = i) : upd (fun j : Nat => Int32.ofInt (g j)) m (Int32.ofInt x) = fun j : Nat => Int32.ofInt (up g i x j) := by
  funext j
  unfold upd up
  by_cases h : j = m
  · rw [if_pos h, if_pos (by omega)]
  · rw [if_neg h, if_neg (by omega)]
theorem aL_g (c : 0 ≤ i ∧ i < n ∧ i ≤ 2147483647) : aL' (cL n g) i = some (vl (g i)) := by
  obtain ⟨h1, h2⟩ := inb_i c.1 c.2.1 c.2.2
  show (if FieldType.long = .long ∧ inb (Int32.ofInt i) n.toNat = true then some (Value.long (Int64.ofInt (g ((Int32.ofInt i).toNatClampNeg : Int)))) else none) = _
  rw [if_pos ⟨rfl, h1⟩, h2]
theorem aJ_g (c : 0 ≤ i ∧ i < n ∧ i ≤ 2147483647) : aJ' (cJ n g) i = some (vi (g i)) := by
  obtain ⟨h1, h2⟩ := inb_i c.1 c.2.1 c.2.2
  show (if FieldType.int = .int ∧ inb (Int32.ofInt i) n.toNat = true then some (Value.int (Int32.ofInt (g ((Int32.ofInt i).toNatClampNeg : Int)))) else none) = _
  rw [if_pos ⟨rfl, h1⟩, h2]
theorem aZ_g (c : 0 ≤ i ∧ i < n ∧ i ≤ 2147483647) : aZ' (cZ n g) i = some (vi (g i)) := by
  obtain ⟨h1, h2⟩ := inb_i c.1 c.2.1 c.2.2
  show (if FieldType.boolean = .boolean ∧ inb (Int32.ofInt i) n.toNat = true then some (Value.int (Int32.ofInt (g ((Int32.ofInt i).toNatClampNeg : Int)))) else none) = _
  rw [if_pos ⟨rfl, h1⟩, h2]
theorem aD_g (c : 0 ≤ i ∧ i < n ∧ i ≤ 2147483647) : aD' (cD n f) i = some (.double (f i)) := by
  obtain ⟨h1, h2⟩ := inb_i c.1 c.2.1 c.2.2
  show (if FieldType.double = .double ∧ inb (Int32.ofInt i) n.toNat = true then some (Value.double (f ((Int32.ofInt i).toNatClampNeg : Int))) else none) = _
  rw [if_pos ⟨rfl, h1⟩, h2]
theorem aR_g {t : String} (c : 0 ≤ i ∧ i < n ∧ i ≤ 2147483647) : aR' (cR (.object t) n r) i = some (va_rf (r i)) := by
  obtain ⟨h1, h2⟩ := inb_i c.1 c.2.1 c.2.2
  show (if isO (.object t) = true ∧ inb (Int32.ofInt i) n.toNat = true then some (va_rf (r ((Int32.ofInt i).toNatClampNeg : Int))) else none) = _
  rw [if_pos ⟨rfl, h1⟩, h2]
theorem sL_p (c : 0 ≤ i ∧ i < n ∧ i ≤ 2147483647) : sL' (cL n g) i x = some (cL n (up g i x)) := by
  obtain ⟨h1, h2⟩ := inb_i c.1 c.2.1 c.2.2
  show (if FieldType.long = .long ∧ inb (Int32.ofInt i) n.toNat = true then some ((Sum.inl (FieldType.long, n.toNat, Sum.inr (Sum.inl (vp_updL (fun j : Nat => Int64.ofInt (g j)) (Int32.ofInt i).toNatClampNeg (Int64.ofInt x)))) : AC)) else none) = _
  rw [if_pos ⟨rfl, h1⟩]
  unfold cL
  congr 6
  funext j
  unfold vp_updL up
  by_cases h : j = (Int32.ofInt i).toNatClampNeg
  · rw [if_pos h, if_pos (by omega)]
  · rw [if_neg h, if_neg (by omega)]
theorem sJ_p (c : 0 ≤ i ∧ i < n ∧ i ≤ 2147483647) : sJ' (cJ n g) i x = some (cJ n (up g i x)) := by
  obtain ⟨h1, h2⟩ := inb_i c.1 c.2.1 c.2.2
  show (if FieldType.int = .int ∧ inb (Int32.ofInt i) n.toNat = true then some (Sum.inl (FieldType.int, n.toNat, Sum.inl (upd (fun j : Nat => Int32.ofInt (g j)) (Int32.ofInt i).toNatClampNeg (Int32.ofInt x)))) else none) = _
  rw [if_pos ⟨rfl, h1⟩, upI h2]
  rfl
theorem sZ_p (c : 0 ≤ i ∧ i < n ∧ i ≤ 2147483647) (d : x = 0 ∨ x = 1) : sZ' (cZ n g) i x = some (cZ n (up g i x)) := by
  obtain ⟨h1, h2⟩ := inb_i c.1 c.2.1 c.2.2
  have e : vp_nar .boolean (Int32.ofInt x) = Int32.ofInt x := by rcases d with rfl | rfl <;> decide
  unfold sZ'
  rw [e]
  show (if FieldType.boolean = .boolean ∧ inb (Int32.ofInt i) n.toNat = true then some (Sum.inl (FieldType.boolean, n.toNat, Sum.inl (upd (fun j : Nat => Int32.ofInt (g j)) (Int32.ofInt i).toNatClampNeg (Int32.ofInt x)))) else none) = _
  rw [if_pos ⟨rfl, h1⟩, upI h2]
  rfl
theorem sD_p {w : UInt64} (c : 0 ≤ i ∧ i < n ∧ i ≤ 2147483647) : sD' (cD n f) i w = some (cD n (up f i w)) := by
  obtain ⟨h1, h2⟩ := inb_i c.1 c.2.1 c.2.2
  show (if FieldType.double = .double ∧ inb (Int32.ofInt i) n.toNat = true then some ((Sum.inl (FieldType.double, n.toNat, Sum.inr (Sum.inr (Sum.inr (Sum.inl (vf_upd (fun j : Nat => f j) (Int32.ofInt i).toNatClampNeg w))))) : AC)) else none) = _
  rw [if_pos ⟨rfl, h1⟩]
  unfold cD
  congr 8
  funext j
  unfold vf_upd up
  by_cases h : j = (Int32.ofInt i).toNatClampNeg
  · rw [if_pos h, if_pos (by omega)]
  · rw [if_neg h, if_neg (by omega)]
theorem sN_p {t : String} (c : 0 ≤ i ∧ i < n ∧ i ≤ 2147483647) : sN' (cR (.object t) n r) i = some (cR (.object t) n (up r i none)) := by
  obtain ⟨h1, h2⟩ := inb_i c.1 c.2.1 c.2.2
  show (if isO (.object t) = true ∧ inb (Int32.ofInt i) n.toNat = true then some ((Sum.inl (FieldType.object t, n.toNat, Sum.inr (Sum.inr (Sum.inr (Sum.inr (va_up (fun j : Nat => r j) (Int32.ofInt i).toNatClampNeg none))))) : AC)) else none) = _
  rw [if_pos ⟨rfl, h1⟩]
  unfold cR
  congr 8
  funext j
  unfold va_up up
  by_cases h : j = (Int32.ofInt i).toNatClampNeg
  · rw [if_pos h, if_pos (by omega)]
  · rw [if_neg h, if_neg (by omega)]
theorem sR_p {ci v : Nat} {fs : List Value} (c : 0 ≤ i ∧ i < n ∧ i ≤ 2147483647) (hc : ci < 10) : sR' (cR (.object (vCn ci)) n r) i v (cO ci fs) = some (cR (.object (vCn ci)) n (up r i (some v))) := by
  obtain ⟨h1, h2⟩ := inb_i c.1 c.2.1 c.2.2
  show (if FieldType.object (vCn ci) = .object (vCn ci) ∧ ci < 10 ∧ inb (Int32.ofInt i) n.toNat = true then some ((Sum.inl (FieldType.object (vCn ci), n.toNat, Sum.inr (Sum.inr (Sum.inr (Sum.inr (va_up (fun j : Nat => r j) (Int32.ofInt i).toNatClampNeg (some v)))))) : AC)) else none) = _
  rw [if_pos ⟨rfl, hc, h1⟩]
  unfold cR
  congr 8
  funext j
  unfold va_up up
  by_cases h : j = (Int32.ofInt i).toNatClampNeg
  · rw [if_pos h, if_pos (by omega)]
  · rw [if_neg h, if_neg (by omega)]
end ARR
def aN' (c : AC) : Option Value := aLen c
theorem i32_toNat {n : Int} (c : 0 ≤ n ∧ n ≤ 2147483647) : Int32.ofNat n.toNat = Int32.ofInt n := by
  rw [← Int32.ofInt_eq_ofNat]
  congr 1
  omega
theorem aN_L {n : Int} {g : Int → Int} (c : 0 ≤ n ∧ n ≤ 2147483647) : aN' (cL n g) = some (vi n) := by show some (Value.int (Int32.ofNat n.toNat)) = _; rw [i32_toNat c]
theorem aN_J {n : Int} {g : Int → Int} (c : 0 ≤ n ∧ n ≤ 2147483647) : aN' (cJ n g) = some (vi n) := by show some (Value.int (Int32.ofNat n.toNat)) = _; rw [i32_toNat c]
section IN2
variable {y z pc tg : Nat} {L L' : List (Option Value)} {st : List Value} {H : HP} {Q : Option Value → HP → Prop} {ax : Ax} {a b i : Int} {p q n : Nat} {x w : UInt64} {k : Nat} {u : Int32} {o : Int64}
theorem rd_Rd {v : Option Value} (h : stp y (pc, L, st) H = rd v tg L' st H) {st' : List Value} (h2 : stp y (pc, L, st) H = rd v tg L st' H) : Go y pc L st H Q ↔ Rd v y tg L st' H Q := by
  cases v with
  | none =>
    constructor
    · rintro ⟨n, v, H1, hn, hq⟩
      cases n with
      | zero => cases hn
      | succ n => rw [ex, h2] at hn; cases hn
    · intro h; cases h
  | some v => exact Go_nx h2
theorem to_Rd {v : Option Value} {st' : List Value} (h2 : stp y (pc, L, st) H = rd v tg L st' H) : Go y pc L st H Q ↔ Rd v y tg L st' H Q := by
  cases v with
  | none =>
    constructor
    · rintro ⟨n, v, H1, hn, hq⟩
      cases n with
      | zero => cases hn
      | succ n => rw [ex, h2] at hn; cases hn
    · intro h; cases h
  | some v => exact Go_nx h2
theorem to_Wr {v : Option AC} {st' : List Value} (hp : p ≠ 0) (h2 : stp y (pc, L, st) H = wr H p v tg L st') : Go y pc L st H Q ↔ Wr v p y tg L st' H Q := by
  cases v with
  | none =>
    constructor
    · rintro ⟨n, v, H1, hn, hq⟩
      cases n with
      | zero => cases hn
      | succ n => rw [ex, h2] at hn; cases hn
    · intro h; cases h
  | some v => exact Go_nx (by rw [h2]; exact if_neg hp)
theorem G_iload (h : ft y pc = some (.iload k, ax)) (e : ld L k = some (.int u)) : Go y pc L st H Q ↔ Go y (pc + 2) L (.int u :: st) H Q := Go_nx (by rw [stp_ft h]; show rd (ldI L k) _ _ _ _ = _; unfold ldI; rw [e]; rfl)
theorem G_iload_n {j : Fin 4} (h : ft y pc = some (.iload_n j, ax)) (e : ld L j = some (.int u)) : Go y pc L st H Q ↔ Go y (pc + 1) L (.int u :: st) H Q := Go_nx (by rw [stp_ft h]; show rd (ldI L j) _ _ _ _ = _; unfold ldI; rw [e]; rfl)
theorem G_lload (h : ft y pc = some (.lload k, ax)) (e : ld L k = some (.long o)) : Go y pc L st H Q ↔ Go y (pc + 2) L (.long o :: st) H Q := Go_nx (by rw [stp_ft h]; show rd (ldJ L k) _ _ _ _ = _; unfold ldJ; rw [e]; rfl)
theorem G_lload_n {j : Fin 4} (h : ft y pc = some (.lload_n j, ax)) (e : ld L j = some (.long o)) : Go y pc L st H Q ↔ Go y (pc + 1) L (.long o :: st) H Q := Go_nx (by rw [stp_ft h]; show rd (ldJ L j) _ _ _ _ = _; unfold ldJ; rw [e]; rfl)
theorem G_dload (h : ft y pc = some (.dload k, ax)) (e : ld L k = some (.double x)) : Go y pc L st H Q ↔ Go y (pc + 2) L (.double x :: st) H Q := Go_nx (by rw [stp_ft h]; show rd (ldD L k) _ _ _ _ = _; unfold ldD; rw [e]; rfl)
theorem G_dload_n {j : Fin 4} (h : ft y pc = some (.dload_n j, ax)) (e : ld L j = some (.double x)) : Go y pc L st H Q ↔ Go y (pc + 1) L (.double x :: st) H Q := Go_nx (by rw [stp_ft h]; show rd (ldD L j) _ _ _ _ = _; unfold ldD; rw [e]; rfl)
theorem G_aload (h : ft y pc = some (.aload k, ax)) (e : ld L k = some (.ref p)) : Go y pc L st H Q ↔ Go y (pc + 2) L (.ref p :: st) H Q := Go_nx (by rw [stp_ft h]; show rd (ldA L k) _ _ _ _ = _; unfold ldA; rw [e]; rfl)
theorem G_aload_n {j : Fin 4} (h : ft y pc = some (.aload_n j, ax)) (e : ld L j = some (.ref p)) : Go y pc L st H Q ↔ Go y (pc + 1) L (.ref p :: st) H Q := Go_nx (by rw [stp_ft h]; show rd (ldA L j) _ _ _ _ = _; unfold ldA; rw [e]; rfl)
theorem G_aloadN (h : ft y pc = some (.aload k, ax)) (e : ld L k = some .null) : Go y pc L st H Q ↔ Go y (pc + 2) L (.null :: st) H Q := Go_nx (by rw [stp_ft h]; show rd (ldA L k) _ _ _ _ = _; unfold ldA; rw [e]; rfl)
theorem G_aload_nN {j : Fin 4} (h : ft y pc = some (.aload_n j, ax)) (e : ld L j = some .null) : Go y pc L st H Q ↔ Go y (pc + 1) L (.null :: st) H Q := Go_nx (by rw [stp_ft h]; show rd (ldA L j) _ _ _ _ = _; unfold ldA; rw [e]; rfl)
theorem G_istore (h : ft y pc = some (.istore k, ax)) (e : sto1 L k (.int u) = some L') : Go y pc L (.int u :: st) H Q ↔ Go y (pc + 2) L' st H Q := Go_nx (by rw [stp_ft h]; show sr (sto1 L k (.int u)) _ _ _ = _; rw [e]; rfl)
theorem G_istore_n {j : Fin 4} (h : ft y pc = some (.istore_n j, ax)) (e : sto1 L j (.int u) = some L') : Go y pc L (.int u :: st) H Q ↔ Go y (pc + 1) L' st H Q := Go_nx (by rw [stp_ft h]; show sr (sto1 L j (.int u)) _ _ _ = _; rw [e]; rfl)
theorem G_lstore (h : ft y pc = some (.lstore k, ax)) (e : sto2 L k (.long o) = some L') : Go y pc L (.long o :: st) H Q ↔ Go y (pc + 2) L' st H Q := Go_nx (by rw [stp_ft h]; show sr (sto2 L k (.long o)) _ _ _ = _; rw [e]; rfl)
theorem G_lstore_n {j : Fin 4} (h : ft y pc = some (.lstore_n j, ax)) (e : sto2 L j (.long o) = some L') : Go y pc L (.long o :: st) H Q ↔ Go y (pc + 1) L' st H Q := Go_nx (by rw [stp_ft h]; show sr (sto2 L j (.long o)) _ _ _ = _; rw [e]; rfl)
theorem G_dstore (h : ft y pc = some (.dstore k, ax)) (e : sto2 L k (.double x) = some L') : Go y pc L (.double x :: st) H Q ↔ Go y (pc + 2) L' st H Q := Go_nx (by rw [stp_ft h]; show sr (sto2 L k (.double x)) _ _ _ = _; rw [e]; rfl)
theorem G_dstore_n {j : Fin 4} (h : ft y pc = some (.dstore_n j, ax)) (e : sto2 L j (.double x) = some L') : Go y pc L (.double x :: st) H Q ↔ Go y (pc + 1) L' st H Q := Go_nx (by rw [stp_ft h]; show sr (sto2 L j (.double x)) _ _ _ = _; rw [e]; rfl)
theorem G_astore (h : ft y pc = some (.astore k, ax)) (e : sto1 L k (.ref p) = some L') : Go y pc L (.ref p :: st) H Q ↔ Go y (pc + 2) L' st H Q := Go_nx (by rw [stp_ft h]; show sr (sto1 L k (.ref p)) _ _ _ = _; rw [e]; rfl)
theorem G_astore_n {j : Fin 4} (h : ft y pc = some (.astore_n j, ax)) (e : sto1 L j (.ref p) = some L') : Go y pc L (.ref p :: st) H Q ↔ Go y (pc + 1) L' st H Q := Go_nx (by rw [stp_ft h]; show sr (sto1 L j (.ref p)) _ _ _ = _; rw [e]; rfl)
theorem G_astoreN (h : ft y pc = some (.astore k, ax)) (e : sto1 L k .null = some L') : Go y pc L (.null :: st) H Q ↔ Go y (pc + 2) L' st H Q := Go_nx (by rw [stp_ft h]; show sr (sto1 L k .null) _ _ _ = _; rw [e]; rfl)
theorem G_astore_nN {j : Fin 4} (h : ft y pc = some (.astore_n j, ax)) (e : sto1 L j .null = some L') : Go y pc L (.null :: st) H Q ↔ Go y (pc + 1) L' st H Q := Go_nx (by rw [stp_ft h]; show sr (sto1 L j .null) _ _ _ = _; rw [e]; rfl)
theorem G_iinc (h : ft y pc = some (.iinc k i, ax)) (e : ld L k = some (vi a)) (e2 : sto1 L k (vi (a + i)) = some L') : Go y pc L st H Q ↔ Go y (pc + 3) L' st H Q := Go_nx (by
  rw [stp_ft h]
  show (match ldI L k with
    | some (.int x) => sr (sto1 L k (.int (x + Int32.ofInt i))) (pc + 3) st H
    | _ => none) = _
  unfold ldI
  rw [e]
  show sr (sto1 L k (.int (Int32.ofInt a + Int32.ofInt i))) (pc + 3) st H = _
  rw [← Int32.ofInt_add, e2]
  rfl)
theorem G_goto (h : ft y pc = some (.goto i, ax)) (t : (pc : Int) + i = (tg : Int)) : Go y pc L st H Q ↔ Go y tg L st H Q := Go_nx (by
  rw [stp_ft h]
  show go pc i L st H = _
  unfold go
  rw [if_pos (by omega), t]
  rfl)
theorem br_T {c : Bool} (t : (pc : Int) + i = (tg : Int)) (hc : c = true) : br pc i c L st H = some (.inl ((tg, L, st), H)) := by
  unfold br
  rw [if_pos (by omega), if_pos hc, t]
  rfl
theorem br_F {c : Bool} (t : (pc : Int) + i = (tg : Int)) (hc : ¬ c = true) : br pc i c L st H = some (.inl ((pc + 3, L, st), H)) := by
  unfold br
  rw [if_pos (by omega), if_neg hc]
  rfl
theorem G_ifT {k : ClassFile.Cond} (h : ft y pc = some (.ifCond k i, ax)) (t : (pc : Int) + i = (tg : Int)) (c : (-2147483648 ≤ a ∧ a ≤ 2147483647) ∧ cmp k a 0) : Go y pc L (vi a :: st) H Q ↔ Go y tg L st H Q := Go_nx (by
  rw [stp_ft h]
  exact br_T t ((cI_cmp c.1.1 c.1.2 (by decide) (by decide)).mpr c.2))
theorem G_ifF {k : ClassFile.Cond} (h : ft y pc = some (.ifCond k i, ax)) (t : (pc : Int) + i = (tg : Int)) (c : (-2147483648 ≤ a ∧ a ≤ 2147483647) ∧ ¬ cmp k a 0) : Go y pc L (vi a :: st) H Q ↔ Go y (pc + 3) L st H Q := Go_nx (by
  rw [stp_ft h]
  exact br_F t (fun q => c.2 ((cI_cmp c.1.1 c.1.2 (by decide) (by decide)).mp q)))
theorem G_icT {k : ClassFile.Cond} (h : ft y pc = some (.if_icmp k i, ax)) (t : (pc : Int) + i = (tg : Int)) (c : (-2147483648 ≤ a ∧ a ≤ 2147483647 ∧ -2147483648 ≤ b ∧ b ≤ 2147483647) ∧ cmp k a b) : Go y pc L (vi b :: vi a :: st) H Q ↔ Go y tg L st H Q := Go_nx (by
  rw [stp_ft h]
  exact br_T t ((cI_cmp c.1.1 c.1.2.1 c.1.2.2.1 c.1.2.2.2).mpr c.2))
theorem G_icF {k : ClassFile.Cond} (h : ft y pc = some (.if_icmp k i, ax)) (t : (pc : Int) + i = (tg : Int)) (c : (-2147483648 ≤ a ∧ a ≤ 2147483647 ∧ -2147483648 ≤ b ∧ b ≤ 2147483647) ∧ ¬ cmp k a b) : Go y pc L (vi b :: vi a :: st) H Q ↔ Go y (pc + 3) L st H Q := Go_nx (by
  rw [stp_ft h]
  exact br_F t (fun q => c.2 ((cI_cmp c.1.1 c.1.2.1 c.1.2.2.1 c.1.2.2.2).mp q)))
theorem lc_i {a b : Int} (c : -9223372036854775808 ≤ a ∧ a ≤ 9223372036854775807 ∧ -9223372036854775808 ≤ b ∧ b ≤ 9223372036854775807) : lg_cmp (Int64.ofInt a) (Int64.ofInt b) = Int32.ofInt (if b < a then 1 else if a = b then 0 else -1) := by
  obtain ⟨h1, h2, h3, h4⟩ := c
  unfold lg_cmp
  by_cases h : b < a
  · rw [if_pos ((i64_lt h3 h4 h1 h2).mpr h), if_pos h]; rfl
  · rw [if_neg (fun q => h ((i64_lt h3 h4 h1 h2).mp q)), if_neg h]
    by_cases h5 : a = b
    · rw [if_pos ((i64_eq h1 h2 h3 h4).mpr h5), if_pos h5]; rfl
    · rw [if_neg (fun q => h5 ((i64_eq h1 h2 h3 h4).mp q)), if_neg h5]; rfl
theorem G_lc (h : ft y pc = some (.lcmp, ax)) (c : -9223372036854775808 ≤ a ∧ a ≤ 9223372036854775807 ∧ -9223372036854775808 ≤ b ∧ b ≤ 9223372036854775807) : Go y pc L (vl b :: vl a :: st) H Q ↔ Go y (pc + 1) L (vi (if b < a then 1 else if a = b then 0 else -1) :: st) H Q := Go_nx (by
  rw [stp_ft h]
  unfold vi
  rw [← lc_i c]
  rfl)
theorem G_lcT {k : ClassFile.Cond} {ax' : Ax} (h0 : ft y pc = some (.lcmp, ax')) (h : ft y (pc + 1) = some (.ifCond k i, ax)) (t : ((pc + 1 : Nat) : Int) + i = (tg : Int)) (c : (-9223372036854775808 ≤ a ∧ a ≤ 9223372036854775807 ∧ -9223372036854775808 ≤ b ∧ b ≤ 9223372036854775807) ∧ cmp k a b) : Go y pc L (vl b :: vl a :: st) H Q ↔ Go y tg L st H Q := by
  rw [G_lc h0 c.1]
  refine G_ifT h t ⟨by split <;> (try split) <;> omega, ?_⟩
  obtain ⟨-, c⟩ := c
  unfold cmp at c ⊢
  cases k <;> dsimp only at c ⊢ <;> split <;> (try split) <;> omega
theorem G_lcF {k : ClassFile.Cond} {ax' : Ax} (h0 : ft y pc = some (.lcmp, ax')) (h : ft y (pc + 1) = some (.ifCond k i, ax)) (t : ((pc + 1 : Nat) : Int) + i = (tg : Int)) (c : (-9223372036854775808 ≤ a ∧ a ≤ 9223372036854775807 ∧ -9223372036854775808 ≤ b ∧ b ≤ 9223372036854775807) ∧ ¬ cmp k a b) : Go y pc L (vl b :: vl a :: st) H Q ↔ Go y (pc + 4) L st H Q := by
  rw [G_lc h0 c.1]
  refine G_ifF h t ⟨by split <;> (try split) <;> omega, ?_⟩
  obtain ⟨-, c⟩ := c
  unfold cmp at c ⊢
  cases k <;> dsimp only at c ⊢ <;> split <;> (try split) <;> omega
theorem G_dcT {k : ClassFile.Cond} {op : CmpOp} {ax' : Ax} (h0 : ft y pc = some (.dcmp op, ax')) (h : ft y (pc + 1) = some (.ifCond k i, ax)) (t : ((pc + 1 : Nat) : Int) + i = (tg : Int)) (c : dck op k x w = true) : Go y pc L (.double w :: .double x :: st) H Q ↔ Go y tg L st H Q := by
  have e : stp y (pc, L, .double w :: .double x :: st) H = some (.inl ((pc + 1, L, .int (Op.cmpValue (FP.dcmp x w) op) :: st), H)) := by rw [stp_ft h0]; rfl
  rw [Go_nx e]
  exact Go_nx (by rw [stp_ft h]; exact br_T t c)
theorem G_dcF {k : ClassFile.Cond} {op : CmpOp} {ax' : Ax} (h0 : ft y pc = some (.dcmp op, ax')) (h : ft y (pc + 1) = some (.ifCond k i, ax)) (t : ((pc + 1 : Nat) : Int) + i = (tg : Int)) (c : dck op k x w = false) : Go y pc L (.double w :: .double x :: st) H Q ↔ Go y (pc + 4) L st H Q := by
  have e : stp y (pc, L, .double w :: .double x :: st) H = some (.inl ((pc + 1, L, .int (Op.cmpValue (FP.dcmp x w) op) :: st), H)) := by rw [stp_ft h0]; rfl
  rw [Go_nx e]
  exact Go_nx (by rw [stp_ft h]; exact br_F t (by unfold dck at c; rw [c]; decide))
theorem G_nullT (h : ft y pc = some (.ifnull i, ax)) (t : (pc : Int) + i = (tg : Int)) : Go y pc L (.null :: st) H Q ↔ Go y tg L st H Q := Go_nx (by rw [stp_ft h]; exact br_T t rfl)
theorem G_nullF (h : ft y pc = some (.ifnull i, ax)) (t : (pc : Int) + i = (tg : Int)) : Go y pc L (.ref p :: st) H Q ↔ Go y (pc + 3) L st H Q := Go_nx (by rw [stp_ft h]; exact br_F t (by decide))
theorem G_nnT (h : ft y pc = some (.ifnonnull i, ax)) (t : (pc : Int) + i = (tg : Int)) : Go y pc L (.ref p :: st) H Q ↔ Go y tg L st H Q := Go_nx (by rw [stp_ft h]; exact br_T t rfl)
theorem G_nnF (h : ft y pc = some (.ifnonnull i, ax)) (t : (pc : Int) + i = (tg : Int)) : Go y pc L (.null :: st) H Q ↔ Go y (pc + 3) L st H Q := Go_nx (by rw [stp_ft h]; exact br_F t (by decide))
theorem G_swO {d lo hi : Int} {offs : Array Int} (h : ft y pc = some (.tableswitch d lo hi offs, ax)) (t : (pc : Int) + d = (tg : Int)) (c : (-2147483648 ≤ a ∧ a ≤ 2147483647) ∧ (a < lo ∨ hi < a)) : Go y pc L (vi a :: st) H Q ↔ Go y tg L st H Q := Go_nx (by
  rw [stp_ft h]
  show sw pc d lo hi offs (Int32.ofInt a) L st H = _
  unfold sw go
  rw [i32 c.1.1 c.1.2, if_pos c.2, if_pos (by omega), t]
  rfl)
theorem G_swI {d lo hi j : Int} {offs : Array Int} (h : ft y pc = some (.tableswitch d lo hi offs, ax)) (e : offs[(j - lo).toNat]? = some i) (t : (pc : Int) + i = (tg : Int)) (r : (-2147483648 ≤ j ∧ j ≤ 2147483647) ∧ lo ≤ j ∧ j ≤ hi) (c : a = j) : Go y pc L (vi a :: st) H Q ↔ Go y tg L st H Q := Go_nx (by
  subst c
  rw [stp_ft h]
  show sw pc d lo hi offs (Int32.ofInt a) L st H = _
  unfold sw go
  rw [i32 r.1.1 r.1.2, if_neg (by omega), e]
  dsimp only
  rw [if_pos (by omega), t]
  rfl)
theorem G_getf {j ci : Nat} (h : ft y pc = some (.getfield j, ax)) (e : ax.1 = ci ∧ ax.2.1 = k) : Go y pc L (.ref p :: st) H Q ↔ Rd (gF' ci k (hget H p)) y (pc + 3) L st H Q := by
  obtain ⟨rfl, rfl⟩ := e
  exact to_Rd (by rw [stp_ft h]; rfl)
theorem G_putf {j ci : Nat} {v : Value} (h : ft y pc = some (.putfield j, ax)) (e : (ax.1 = ci ∧ ax.2.1 = k) ∧ fitV (vTy ci k) v = true ∧ ((vF ci k).2.2.2 = false ∨ (m_kd y = 2 ∧ (vF ci k).1 = m_own y))) (hp : p ≠ 0) : Go y pc L (v :: .ref p :: st) H Q ↔ Wr (pF' ci k (hget H p) v) p y (pc + 3) L st H Q := by
  obtain ⟨⟨rfl, rfl⟩, e2, e3⟩ := e
  refine to_Wr hp ?_
  rw [stp_ft h]
  show wr H p (pF (m_kd y) (m_own y) ax (hget H p) v) (pc + 3) L st = _
  congr 1
  cases hget H p with
  | inl q => rfl
  | inr q =>
    obtain ⟨c', fs⟩ := q
    show (if c' = ax.1 ∧ ax.2.1 < fs.length ∧ fitV (vTy ax.1 ax.2.1) v = true ∧ ((vF ax.1 ax.2.1).2.2.2 = false ∨ (m_kd y = 2 ∧ (vF ax.1 ax.2.1).1 = m_own y)) then some ((Sum.inr (c', fs.set ax.2.1 v)) : AC) else none) = if c' = ax.1 ∧ ax.2.1 < fs.length then some (Sum.inr (ax.1, fs.set ax.2.1 v)) else none
    by_cases hc : c' = ax.1 ∧ ax.2.1 < fs.length
    · rw [if_pos ⟨hc.1, hc.2, e2, e3⟩, if_pos hc, hc.1]
    · rw [if_neg (fun q => hc ⟨q.1, q.2.1⟩), if_neg hc]
theorem G_alen (h : ft y pc = some (.arraylength, ax)) : Go y pc L (.ref p :: st) H Q ↔ Rd (aN' (hget H p)) y (pc + 1) L st H Q := to_Rd (by rw [stp_ft h]; rfl)
theorem G_iald (h : ft y pc = some (.iaload, ax)) : Go y pc L (vi a :: .ref p :: st) H Q ↔ Rd (aJ' (hget H p) a) y (pc + 1) L st H Q := to_Rd (by rw [stp_ft h]; rfl)
theorem G_bald (h : ft y pc = some (.baload, ax)) : Go y pc L (vi a :: .ref p :: st) H Q ↔ Rd (aZ' (hget H p) a) y (pc + 1) L st H Q := to_Rd (by rw [stp_ft h]; rfl)
theorem G_lald (h : ft y pc = some (.laload, ax)) : Go y pc L (vi a :: .ref p :: st) H Q ↔ Rd (aL' (hget H p) a) y (pc + 1) L st H Q := to_Rd (by rw [stp_ft h]; rfl)
theorem G_dald (h : ft y pc = some (.daload, ax)) : Go y pc L (vi a :: .ref p :: st) H Q ↔ Rd (aD' (hget H p) a) y (pc + 1) L st H Q := to_Rd (by rw [stp_ft h]; rfl)
theorem G_aald (h : ft y pc = some (.aaload, ax)) : Go y pc L (vi a :: .ref p :: st) H Q ↔ Rd (aR' (hget H p) a) y (pc + 1) L st H Q := to_Rd (by rw [stp_ft h]; rfl)
theorem G_iast (h : ft y pc = some (.iastore, ax)) (hp : p ≠ 0) : Go y pc L (vi b :: vi a :: .ref p :: st) H Q ↔ Wr (sJ' (hget H p) a b) p y (pc + 1) L st H Q := to_Wr hp (by rw [stp_ft h]; rfl)
theorem G_bast (h : ft y pc = some (.bastore, ax)) (hp : p ≠ 0) : Go y pc L (vi b :: vi a :: .ref p :: st) H Q ↔ Wr (sZ' (hget H p) a b) p y (pc + 1) L st H Q := to_Wr hp (by rw [stp_ft h]; rfl)
theorem G_last (h : ft y pc = some (.lastore, ax)) (hp : p ≠ 0) : Go y pc L (vl b :: vi a :: .ref p :: st) H Q ↔ Wr (sL' (hget H p) a b) p y (pc + 1) L st H Q := to_Wr hp (by rw [stp_ft h]; rfl)
theorem G_dast (h : ft y pc = some (.dastore, ax)) (hp : p ≠ 0) : Go y pc L (.double x :: vi a :: .ref p :: st) H Q ↔ Wr (sD' (hget H p) a x) p y (pc + 1) L st H Q := to_Wr hp (by rw [stp_ft h]; rfl)
theorem G_aast (h : ft y pc = some (.aastore, ax)) (hp : p ≠ 0) : Go y pc L (.ref q :: vi a :: .ref p :: st) H Q ↔ Wr (sR' (hget H p) a q (hget H q)) p y (pc + 1) L st H Q := to_Wr hp (by rw [stp_ft h]; rfl)
theorem G_aastN (h : ft y pc = some (.aastore, ax)) (hp : p ≠ 0) : Go y pc L (.null :: vi a :: .ref p :: st) H Q ↔ Wr (sN' (hget H p) a) p y (pc + 1) L st H Q := to_Wr hp (by rw [stp_ft h]; rfl)
theorem G_new {j ci : Nat} {fs : List Value} (h : ft y pc = some (.new j, ax)) (e : (ax.1 = ci ∧ vN ci = n) ∧ dfl ci = fs) : Go y pc L st H Q ↔ Go y (pc + 3) L (.ref H.1 :: st) (hnew H (cO ci fs) n) Q := Go_nx (by
  obtain ⟨⟨rfl, rfl⟩, rfl⟩ := e
  rw [stp_ft h]
  rfl)
theorem clamp_i {a : Int} (c : 0 ≤ a ∧ a ≤ 1000000) : ¬ Int32.ofInt a < 0 ∧ (Int32.ofInt a).toNatClampNeg = a.toNat ∧ a.toNat ≤ 1000000 := by
  have e : (Int32.ofInt a).toInt = a := i32 (by omega) (by omega)
  refine ⟨?_, ?_, by omega⟩
  · rw [Int32.lt_iff_toInt_lt, e]
    show ¬ a < 0
    omega
  · show (Int32.ofInt a).toInt.toNat = a.toNat
    rw [e]
theorem G_newL (h : ft y pc = some (.newarray .long, ax)) (c : 0 ≤ a ∧ a ≤ 1000000) : Go y pc L (vi a :: st) H Q ↔ Go y (pc + 2) L (.ref H.1 :: st) (hnew H (cL a fun _ => 0) a.toNat) Q := Go_nx (by
  obtain ⟨h1, h2, h3⟩ := clamp_i c
  rw [stp_ft h]
  show (if ¬ Int32.ofInt a < 0 ∧ (Int32.ofInt a).toNatClampNeg ≤ 1000000 then nx (pc + 2) L (.ref H.1 :: st) (hnew H (.inl (.long, (Int32.ofInt a).toNatClampNeg, .inr (.inl fun _ => 0))) (Int32.ofInt a).toNatClampNeg) else none) = _
  rw [h2, if_pos ⟨h1, h3⟩]
  rfl)
theorem G_newJ (h : ft y pc = some (.newarray .int, ax)) (c : 0 ≤ a ∧ a ≤ 1000000) : Go y pc L (vi a :: st) H Q ↔ Go y (pc + 2) L (.ref H.1 :: st) (hnew H (cJ a fun _ => 0) a.toNat) Q := Go_nx (by
  obtain ⟨h1, h2, h3⟩ := clamp_i c
  rw [stp_ft h]
  show (if ¬ Int32.ofInt a < 0 ∧ (Int32.ofInt a).toNatClampNeg ≤ 1000000 then nx (pc + 2) L (.ref H.1 :: st) (hnew H (.inl (.int, (Int32.ofInt a).toNatClampNeg, .inl fun _ => 0)) (Int32.ofInt a).toNatClampNeg) else none) = _
  rw [h2, if_pos ⟨h1, h3⟩]
  rfl)
theorem G_newZ (h : ft y pc = some (.newarray .boolean, ax)) (c : 0 ≤ a ∧ a ≤ 1000000) : Go y pc L (vi a :: st) H Q ↔ Go y (pc + 2) L (.ref H.1 :: st) (hnew H (cZ a fun _ => 0) a.toNat) Q := Go_nx (by
  obtain ⟨h1, h2, h3⟩ := clamp_i c
  rw [stp_ft h]
  show (if ¬ Int32.ofInt a < 0 ∧ (Int32.ofInt a).toNatClampNeg ≤ 1000000 then nx (pc + 2) L (.ref H.1 :: st) (hnew H (.inl (.boolean, (Int32.ofInt a).toNatClampNeg, .inl fun _ => 0)) (Int32.ofInt a).toNatClampNeg) else none) = _
  rw [h2, if_pos ⟨h1, h3⟩]
  rfl)
theorem G_newD (h : ft y pc = some (.newarray .double, ax)) (c : 0 ≤ a ∧ a ≤ 1000000) : Go y pc L (vi a :: st) H Q ↔ Go y (pc + 2) L (.ref H.1 :: st) (hnew H (cD a fun _ => 0) a.toNat) Q := Go_nx (by
  obtain ⟨h1, h2, h3⟩ := clamp_i c
  rw [stp_ft h]
  show (if ¬ Int32.ofInt a < 0 ∧ (Int32.ofInt a).toNatClampNeg ≤ 1000000 then nx (pc + 2) L (.ref H.1 :: st) (hnew H (.inl (.double, (Int32.ofInt a).toNatClampNeg, .inr (.inr (.inr (.inl fun _ => 0))))) (Int32.ofInt a).toNatClampNeg) else none) = _
  rw [h2, if_pos ⟨h1, h3⟩]
  rfl)
theorem G_anew {j ci : Nat} (h : ft y pc = some (.anewarray j, ax)) (e : ax.1 = ci) (c : 0 ≤ a ∧ a ≤ 1000000) : Go y pc L (vi a :: st) H Q ↔ Go y (pc + 3) L (.ref H.1 :: st) (hnew H (cR (.object (vCn ci)) a fun _ => none) a.toNat) Q := Go_nx (by
  obtain ⟨h1, h2, h3⟩ := clamp_i c
  subst e
  rw [stp_ft h]
  show (if ¬ Int32.ofInt a < 0 ∧ (Int32.ofInt a).toNatClampNeg ≤ 1000000 then nx (pc + 3) L (.ref H.1 :: st) (hnew H (.inl (.object (vCn ax.1), (Int32.ofInt a).toNatClampNeg, .inr (.inr (.inr (.inr fun _ => none))))) (Int32.ofInt a).toNatClampNeg) else none) = _
  rw [h2, if_pos ⟨h1, h3⟩]
  rfl)
theorem G_iret (h : ft y pc = some (.ireturn, ax)) (e : m_ret y = some .int) : Go y pc L [.int u] H Q ↔ Q (some (.int u)) H := Go_rt (by
  rw [stp_ft h]
  show rt y [.int u] = _
  unfold rt
  dsimp only
  rw [e])
theorem G_zret (h : ft y pc = some (.ireturn, ax)) (e : m_ret y = some .boolean) (c : a = 0 ∨ a = 1) : Go y pc L [vi a] H Q ↔ Q (some (vi a)) H := Go_rt (by
  rw [stp_ft h]
  show rt y [.int (Int32.ofInt a)] = _
  unfold rt
  dsimp only
  rw [e]
  dsimp only
  rw [if_pos (by rcases c with rfl | rfl; exact Or.inl rfl; exact Or.inr rfl)])
theorem G_lret (h : ft y pc = some (.lreturn, ax)) (e : m_ret y = some .long) : Go y pc L [.long o] H Q ↔ Q (some (.long o)) H := Go_rt (by
  rw [stp_ft h]
  exact if_pos e)
theorem G_dret (h : ft y pc = some (.dreturn, ax)) (e : m_ret y = some .double) : Go y pc L [.double x] H Q ↔ Q (some (.double x)) H := Go_rt (by
  rw [stp_ft h]
  exact if_pos e)
theorem G_vret (h : ft y pc = some (.return_, ax)) (e : m_ret y = none) : Go y pc L [] H Q ↔ Q none H := Go_rt (by
  rw [stp_ft h]
  exact if_pos e)
theorem G_callS {j : Nat} {as : List Value} (h : ft y pc = some (.invokestatic j, ax)) (e : ax.1 = z ∧ z ≠ 1001 ∧ z ≠ 1002) (hn : m_np z = n) (hk : clOk y z 0 n (as ++ st) = true) (ha : as.length = n) (hl : (argL as.reverse).length ≤ m_maxL z) : Go y pc L (as ++ st) H Q ↔ Go z 0 (entL (m_maxL z) as.reverse) [] H (Cont y (pc + 3) L st Q) := by
  obtain ⟨rfl, e1, e2⟩ := e
  subst ha
  refine Go_cl ?_ hl
  rw [stp_ft h]
  show stpS y ax pc L (as ++ st) H = _
  unfold stpS
  rw [if_neg e1, if_neg e2, hn, if_pos hk]
  unfold clA
  rw [List.take_left, List.drop_left]
theorem G_callV {j : Nat} {as : List Value} {fs : List Value} {ci : Nat} (h : ft y pc = some (.invokevirtual j, ax)) (e : ax.1 = z) (hn : m_np z = n) (hk : clOk y z 1 (n + 1) (as ++ .ref p :: st) = true) (ha : as.length = n) (hl : (argL (.ref p :: as.reverse)).length ≤ m_maxL z) (hc : m_ci z = ci) (hg : hget H p = cO ci fs) : Go y pc L (as ++ .ref p :: st) H Q ↔ Go z 0 (entL (m_maxL z) (.ref p :: as.reverse)) [] H (Cont y (pc + 3) L st Q) := by
  subst e
  subst ha
  have e1 : as ++ Value.ref p :: st = (as ++ [Value.ref p]) ++ st := by simp
  have e2 : (as ++ [Value.ref p]).length = as.length + 1 := by simp
  have e3 : (as ++ [Value.ref p]).reverse = .ref p :: as.reverse := by simp
  rw [← e3] at hl ⊢
  refine Go_cl ?_ hl
  rw [stp_ft h]
  show stpV y ax pc L (as ++ .ref p :: st) H = _
  unfold stpV
  rw [hn]
  have hr : rcv ((as ++ .ref p :: st).take (as.length + 1)).reverse H (m_ci ax.1) = true := by
    rw [e1, ← e2, List.take_left, e3]
    unfold rcv
    dsimp only
    rw [hg, hc]
    exact decide_eq_true rfl
  rw [if_pos ⟨hk, hr⟩]
  unfold clA
  rw [e1, ← e2, List.take_left, List.drop_left]
theorem G_callI {j : Nat} {as : List Value} (h : ft y pc = some (.invokespecial j, ax)) (e : ax.1 = z ∧ z ≠ 1000) (hn : m_np z = n) (hk : clOk y z 2 (n + 1) (as ++ .ref p :: st) = true) (ha : as.length = n) (hl : (argL (.ref p :: as.reverse)).length ≤ m_maxL z) : Go y pc L (as ++ .ref p :: st) H Q ↔ Go z 0 (entL (m_maxL z) (.ref p :: as.reverse)) [] H (Cont y (pc + 3) L st Q) := by
  obtain ⟨rfl, e0⟩ := e
  subst ha
  have e1 : as ++ Value.ref p :: st = (as ++ [Value.ref p]) ++ st := by simp
  have e2 : (as ++ [Value.ref p]).length = as.length + 1 := by simp
  have e3 : (as ++ [Value.ref p]).reverse = .ref p :: as.reverse := by simp
  rw [← e3] at hl ⊢
  refine Go_cl ?_ hl
  rw [stp_ft h]
  show stpN y ax pc L (as ++ .ref p :: st) H = _
  unfold stpN
  rw [if_neg e0, hn]
  have hr : rcvI ((as ++ .ref p :: st).take (as.length + 1)).reverse = true := by
    rw [e1, ← e2, List.take_left, e3]
    rfl
  rw [if_pos ⟨hk, hr⟩]
  unfold clA
  rw [e1, ← e2, List.take_left, List.drop_left]
theorem G_obj {j : Nat} (h : ft y pc = some (.invokespecial j, ax)) (e : ax.1 = 1000) (c : 1 ≤ m_nf y ∧ wd st + 12 ≤ m_nl y) : Go y pc L (.ref p :: st) H Q ↔ Go y (pc + 3) L st H Q := Go_nx (by
  rw [stp_ft h]
  show stpN y ax pc L (.ref p :: st) H = _
  unfold stpN
  rw [if_pos e]
  exact if_pos c)
theorem G_l2dn {j : Nat} (h : ft y pc = some (.invokestatic j, ax)) (e : ax.1 = 1001) (c : 1 ≤ m_nf y ∧ wd st + 15 ≤ m_nl y) (d : vn_snl2d o = false) : Go y pc L (.long o :: st) H Q ↔ Go y (pc + 3) L (.double o.toUInt64 :: st) H Q := Go_nx (by
  rw [stp_ft h]
  show stpS y ax pc L (.long o :: st) H = _
  unfold stpS
  rw [if_pos e]
  exact if_pos ⟨d, c⟩)
theorem G_d2ln {j : Nat} (h : ft y pc = some (.invokestatic j, ax)) (e : ax.1 = 1002) (c : 1 ≤ m_nf y ∧ wd st + 15 ≤ m_nl y) : Go y pc L (.double x :: st) H Q ↔ Go y (pc + 3) L (.long x.toInt64 :: st) H Q := Go_nx (by
  rw [stp_ft h]
  show stpS y ax pc L (.double x :: st) H = _
  unfold stpS
  rw [if_neg (by rw [e]; decide), if_pos e]
  exact if_pos c)
end IN2

/-! RUNS OF THE SMALL MACHINE: an instruction, a row -/
def bAnd (a b : Int) : Int := (Int64.ofInt a &&& Int64.ofInt b).toInt
def bOr (a b : Int) : Int := (Int64.ofInt a ||| Int64.ofInt b).toInt
def bXor (a b : Int) : Int := (Int64.ofInt a ^^^ Int64.ofInt b).toInt
def bShl (a k : Int) : Int := (Int64.ofInt a <<< ((Int32.ofInt k).toInt64 &&& 63)).toInt
def bShr (a k : Int) : Int := (Int64.ofInt a >>> ((Int32.ofInt k).toInt64 &&& 63)).toInt
def bUsh (a k : Int) : Int := ((Int64.ofInt a).toUInt64 >>> ((Int32.ofInt k).toInt64.toUInt64 &&& Int64.toUInt64 63)).toInt64.toInt
def jAnd (a b : Int) : Int := (Int32.ofInt a &&& Int32.ofInt b).toInt
def jOr (a b : Int) : Int := (Int32.ofInt a ||| Int32.ofInt b).toInt
def jXor (a b : Int) : Int := (Int32.ofInt a ^^^ Int32.ofInt b).toInt
def jShl (a k : Int) : Int := (Int32.ofInt a <<< (Int32.ofInt k &&& 31)).toInt
def jShr (a k : Int) : Int := (Int32.ofInt a >>> (Int32.ofInt k &&& 31)).toInt
def jB (a : Int) : Int := ((Int32.ofInt a).toInt8.toInt32).toInt
def jS (a : Int) : Int := ((Int32.ofInt a).toInt16.toInt32).toInt
/-- a comparison of doubles, and the branch behind it -/
def dck (op : CmpOp) (k : ClassFile.Cond) (x y : UInt64) : Bool := cI k (Op.cmpValue (FP.dcmp x y) op) 0
def gF' (ci k : Nat) (c : AC) : Option Value := match c with
  | .inr (c', fs) => if c' = ci then fs[k]? else none
  | _ => none
def pF' (ci k : Nat) (c : AC) (v : Value) : Option AC := match c with
  | .inr (c', fs) => if c' = ci ∧ k < fs.length then some (.inr (ci, fs.set k v)) else none
  | _ => none
section INS
variable {y z pc tg : Nat} {L L' : List (Option Value)} {st : List Value} {H : HP} {Q : Option Value → HP → Prop} {ax : Ax} {a b : Int} {p q n : Nat} {x w : UInt64} {k : Nat}
theorem G_iconst {i : Int} (h : ft y pc = some (.iconst i, ax)) : Go y pc L st H Q ↔ Go y (pc + 1) L (vi i :: st) H Q := Go_nx (by rw [stp_ft h]; rfl)
theorem G_bipush {i : Int} (h : ft y pc = some (.bipush i, ax)) (e : (Int8.ofInt i).toInt32 = Int32.ofInt i) : Go y pc L st H Q ↔ Go y (pc + 2) L (vi i :: st) H Q := Go_nx (by rw [stp_ft h]; unfold vi; rw [← e]; rfl)
theorem G_sipush {i : Int} (h : ft y pc = some (.sipush i, ax)) (e : (Int16.ofInt i).toInt32 = Int32.ofInt i) : Go y pc L st H Q ↔ Go y (pc + 3) L (vi i :: st) H Q := Go_nx (by rw [stp_ft h]; unfold vi; rw [← e]; rfl)
theorem G_lconst {i : Fin 2} {j : Int} (h : ft y pc = some (.lconst i, ax)) (e : Int64.ofNat i = Int64.ofInt j) : Go y pc L st H Q ↔ Go y (pc + 1) L (vl j :: st) H Q := Go_nx (by rw [stp_ft h]; unfold vl; rw [← e]; rfl)
theorem G_dconst (h : ft y pc = some (.dconst 0, ax)) : Go y pc L st H Q ↔ Go y (pc + 1) L (.double FP.dconst0 :: st) H Q := Go_nx (by rw [stp_ft h]; rfl)
theorem G_ldcl {i : Nat} {j : Int} (h : ft y pc = some (.ldc2_w i, ax)) (e : ax.2.2.2 = vl j) : Go y pc L st H Q ↔ Go y (pc + 3) L (vl j :: st) H Q := Go_nx (by rw [stp_ft h, ← e]; rfl)
theorem G_ldcd {i : Nat} (h : ft y pc = some (.ldc2_w i, ax)) (e : ax.2.2.2 = .double x) : Go y pc L st H Q ↔ Go y (pc + 3) L (.double x :: st) H Q := Go_nx (by rw [stp_ft h, ← e]; rfl)
theorem G_iadd (h : ft y pc = some (.iadd, ax)) : Go y pc L (vi b :: vi a :: st) H Q ↔ Go y (pc + 1) L (vi (a + b) :: st) H Q := Go_nx (by rw [stp_ft h]; unfold vi; rw [Int32.ofInt_add]; rfl)
theorem G_isub (h : ft y pc = some (.isub, ax)) : Go y pc L (vi b :: vi a :: st) H Q ↔ Go y (pc + 1) L (vi (a - b) :: st) H Q := Go_nx (by rw [stp_ft h]; unfold vi; rw [Int32.ofInt_sub]; rfl)
theorem G_imul (h : ft y pc = some (.imul, ax)) : Go y pc L (vi b :: vi a :: st) H Q ↔ Go y (pc + 1) L (vi (a * b) :: st) H Q := Go_nx (by rw [stp_ft h]; unfold vi; rw [Int32.ofInt_mul]; rfl)
theorem G_ineg (h : ft y pc = some (.ineg, ax)) : Go y pc L (vi a :: st) H Q ↔ Go y (pc + 1) L (vi (-a) :: st) H Q := Go_nx (by rw [stp_ft h]; unfold vi; rw [Int32.ofInt_neg]; rfl)
theorem G_ladd (h : ft y pc = some (.ladd, ax)) : Go y pc L (vl b :: vl a :: st) H Q ↔ Go y (pc + 1) L (vl (a + b) :: st) H Q := Go_nx (by rw [stp_ft h]; unfold vl; rw [Int64.ofInt_add]; rfl)
theorem G_lsub (h : ft y pc = some (.lsub, ax)) : Go y pc L (vl b :: vl a :: st) H Q ↔ Go y (pc + 1) L (vl (a - b) :: st) H Q := Go_nx (by rw [stp_ft h]; unfold vl; rw [Int64.ofInt_sub]; rfl)
theorem G_lmul (h : ft y pc = some (.lmul, ax)) : Go y pc L (vl b :: vl a :: st) H Q ↔ Go y (pc + 1) L (vl (a * b) :: st) H Q := Go_nx (by rw [stp_ft h]; unfold vl; rw [Int64.ofInt_mul]; rfl)
theorem G_lneg (h : ft y pc = some (.lneg, ax)) : Go y pc L (vl a :: st) H Q ↔ Go y (pc + 1) L (vl (-a) :: st) H Q := Go_nx (by rw [stp_ft h]; unfold vl; rw [Int64.ofInt_neg]; rfl)
theorem G_iand (h : ft y pc = some (.iand, ax)) : Go y pc L (vi b :: vi a :: st) H Q ↔ Go y (pc + 1) L (vi (jAnd a b) :: st) H Q := Go_nx (by rw [stp_ft h]; unfold vi jAnd; rw [Int32.ofInt_toInt]; rfl)
theorem G_ior (h : ft y pc = some (.ior, ax)) : Go y pc L (vi b :: vi a :: st) H Q ↔ Go y (pc + 1) L (vi (jOr a b) :: st) H Q := Go_nx (by rw [stp_ft h]; unfold vi jOr; rw [Int32.ofInt_toInt]; rfl)
theorem G_ixor (h : ft y pc = some (.ixor, ax)) : Go y pc L (vi b :: vi a :: st) H Q ↔ Go y (pc + 1) L (vi (jXor a b) :: st) H Q := Go_nx (by rw [stp_ft h]; unfold vi jXor; rw [Int32.ofInt_toInt]; rfl)
theorem G_ishl (h : ft y pc = some (.ishl, ax)) : Go y pc L (vi b :: vi a :: st) H Q ↔ Go y (pc + 1) L (vi (jShl a b) :: st) H Q := Go_nx (by rw [stp_ft h]; unfold vi jShl; rw [Int32.ofInt_toInt]; rfl)
theorem G_ishr (h : ft y pc = some (.ishr, ax)) : Go y pc L (vi b :: vi a :: st) H Q ↔ Go y (pc + 1) L (vi (jShr a b) :: st) H Q := Go_nx (by rw [stp_ft h]; unfold vi jShr; rw [Int32.ofInt_toInt]; rfl)
theorem G_i2b (h : ft y pc = some (.i2b, ax)) : Go y pc L (vi a :: st) H Q ↔ Go y (pc + 1) L (vi (jB a) :: st) H Q := Go_nx (by rw [stp_ft h]; unfold vi jB; rw [Int32.ofInt_toInt]; rfl)
theorem G_i2s (h : ft y pc = some (.i2s, ax)) : Go y pc L (vi a :: st) H Q ↔ Go y (pc + 1) L (vi (jS a) :: st) H Q := Go_nx (by rw [stp_ft h]; unfold vi jS; rw [Int32.ofInt_toInt]; rfl)
theorem G_land (h : ft y pc = some (.land, ax)) : Go y pc L (vl b :: vl a :: st) H Q ↔ Go y (pc + 1) L (vl (bAnd a b) :: st) H Q := Go_nx (by rw [stp_ft h]; unfold vl bAnd; rw [Int64.ofInt_toInt]; rfl)
theorem G_lor (h : ft y pc = some (.lor, ax)) : Go y pc L (vl b :: vl a :: st) H Q ↔ Go y (pc + 1) L (vl (bOr a b) :: st) H Q := Go_nx (by rw [stp_ft h]; unfold vl bOr; rw [Int64.ofInt_toInt]; rfl)
theorem G_lxor (h : ft y pc = some (.lxor, ax)) : Go y pc L (vl b :: vl a :: st) H Q ↔ Go y (pc + 1) L (vl (bXor a b) :: st) H Q := Go_nx (by rw [stp_ft h]; unfold vl bXor; rw [Int64.ofInt_toInt]; rfl)
theorem G_lshl (h : ft y pc = some (.lshl, ax)) : Go y pc L (vi b :: vl a :: st) H Q ↔ Go y (pc + 1) L (vl (bShl a b) :: st) H Q := Go_nx (by rw [stp_ft h]; unfold vl bShl; rw [Int64.ofInt_toInt]; rfl)
theorem G_lshr (h : ft y pc = some (.lshr, ax)) : Go y pc L (vi b :: vl a :: st) H Q ↔ Go y (pc + 1) L (vl (bShr a b) :: st) H Q := Go_nx (by rw [stp_ft h]; unfold vl bShr; rw [Int64.ofInt_toInt]; rfl)
theorem G_lushr (h : ft y pc = some (.lushr, ax)) : Go y pc L (vi b :: vl a :: st) H Q ↔ Go y (pc + 1) L (vl (bUsh a b) :: st) H Q := Go_nx (by rw [stp_ft h]; unfold vl bUsh; rw [Int64.ofInt_toInt]; rfl)
theorem G_idiv (h : ft y pc = some (.idiv, ax)) (c : -2147483648 ≤ a ∧ a ≤ 2147483647 ∧ -2147483648 ≤ b ∧ b ≤ 2147483647 ∧ ¬ b = 0) : Go y pc L (vi b :: vi a :: st) H Q ↔ Go y (pc + 1) L (vi (a.tdiv b) :: st) H Q := Go_nx (by
  obtain ⟨h1, h2, h3, h4, h5⟩ := c
  have e0 : ¬ Int32.ofInt b = 0 := fun e => h5 ((i32_eq h3 h4 (by decide) (by decide)).mp e)
  rw [stp_ft h]
  unfold vi
  rw [Int32.ofInt_tdiv h1 h2 h3 h4]
  show (match ((if Int32.ofInt b = 0 then none else some (Value.int (Int32.ofInt a / Int32.ofInt b))).map (· :: st)) with
    | some st' => nx (pc + ilen .idiv) L st' H
    | none => none) = _
  rw [if_neg e0]
  rfl)
theorem G_irem (h : ft y pc = some (.irem, ax)) (c : -2147483648 ≤ a ∧ a ≤ 2147483647 ∧ -2147483648 ≤ b ∧ b ≤ 2147483647 ∧ ¬ b = 0) : Go y pc L (vi b :: vi a :: st) H Q ↔ Go y (pc + 1) L (vi (a.tmod b) :: st) H Q := Go_nx (by
  obtain ⟨h1, h2, h3, h4, h5⟩ := c
  have e0 : ¬ Int32.ofInt b = 0 := fun e => h5 ((i32_eq h3 h4 (by decide) (by decide)).mp e)
  rw [stp_ft h]
  unfold vi
  have e1 : Int32.ofInt (a.tmod b) = Int32.ofInt a - Int32.ofInt a / Int32.ofInt b * Int32.ofInt b := by
    rw [Int.tmod_def, Int32.ofInt_sub, Int.mul_comm, Int32.ofInt_mul, Int32.ofInt_tdiv h1 h2 h3 h4]
  rw [e1]
  show (match ((if Int32.ofInt b = 0 then none else some (Value.int (Int32.ofInt a - Int32.ofInt a / Int32.ofInt b * Int32.ofInt b))).map (· :: st)) with
    | some st' => nx (pc + ilen .irem) L st' H
    | none => none) = _
  rw [if_neg e0]
  rfl)
theorem G_ldiv (h : ft y pc = some (.ldiv, ax)) (c : -9223372036854775808 ≤ a ∧ a ≤ 9223372036854775807 ∧ -9223372036854775808 ≤ b ∧ b ≤ 9223372036854775807 ∧ ¬ b = 0) : Go y pc L (vl b :: vl a :: st) H Q ↔ Go y (pc + 1) L (vl (a.tdiv b) :: st) H Q := Go_nx (by
  obtain ⟨h1, h2, h3, h4, h5⟩ := c
  have e0 : ¬ Int64.ofInt b = 0 := fun e => h5 ((i64_eq h3 h4 (by decide) (by decide)).mp e)
  rw [stp_ft h]
  unfold vl
  rw [Int64.ofInt_tdiv h1 h2 h3 h4]
  show (match ((if Int64.ofInt b = 0 then none else some (Value.long (Int64.ofInt a / Int64.ofInt b))).map (· :: st)) with
    | some st' => nx (pc + ilen .ldiv) L st' H
    | none => none) = _
  rw [if_neg e0]
  rfl)
theorem G_lrem (h : ft y pc = some (.lrem, ax)) (c : -9223372036854775808 ≤ a ∧ a ≤ 9223372036854775807 ∧ -9223372036854775808 ≤ b ∧ b ≤ 9223372036854775807 ∧ ¬ b = 0) : Go y pc L (vl b :: vl a :: st) H Q ↔ Go y (pc + 1) L (vl (a.tmod b) :: st) H Q := Go_nx (by
  obtain ⟨h1, h2, h3, h4, h5⟩ := c
  have e0 : ¬ Int64.ofInt b = 0 := fun e => h5 ((i64_eq h3 h4 (by decide) (by decide)).mp e)
  rw [stp_ft h]
  unfold vl
  have e1 : Int64.ofInt (a.tmod b) = Int64.ofInt a - Int64.ofInt a / Int64.ofInt b * Int64.ofInt b := by
    rw [Int.tmod_def, Int64.ofInt_sub, Int.mul_comm, Int64.ofInt_mul, Int64.ofInt_tdiv h1 h2 h3 h4]
  rw [e1]
  show (match ((if Int64.ofInt b = 0 then none else some (Value.long (Int64.ofInt a - Int64.ofInt a / Int64.ofInt b * Int64.ofInt b))).map (· :: st)) with
    | some st' => nx (pc + ilen .lrem) L st' H
    | none => none) = _
  rw [if_neg e0]
  rfl)
theorem G_i2l (h : ft y pc = some (.i2l, ax)) (c : -2147483648 ≤ a ∧ a ≤ 2147483647) : Go y pc L (vi a :: st) H Q ↔ Go y (pc + 1) L (vl a :: st) H Q := Go_nx (by rw [stp_ft h]; unfold vl; rw [← Int32.toInt64_ofInt c.1 c.2]; rfl)
theorem G_l2i (h : ft y pc = some (.l2i, ax)) : Go y pc L (vl a :: st) H Q ↔ Go y (pc + 1) L (vi a :: st) H Q := Go_nx (by rw [stp_ft h]; unfold vi; rw [← Int64.toInt32_ofInt]; rfl)
theorem G_l2d (h : ft y pc = some (.l2d, ax)) : Go y pc L (vl a :: st) H Q ↔ Go y (pc + 1) L (.double (FP.l2d (Int64.ofInt a)) :: st) H Q := Go_nx (by rw [stp_ft h]; rfl)
theorem G_d2l (h : ft y pc = some (.d2l, ax)) : Go y pc L (.double x :: st) H Q ↔ Go y (pc + 1) L (vl (FP.d2l x).toInt :: st) H Q := Go_nx (by rw [stp_ft h]; unfold vl; rw [Int64.ofInt_toInt]; rfl)
theorem G_dneg (h : ft y pc = some (.dneg, ax)) : Go y pc L (.double x :: st) H Q ↔ Go y (pc + 1) L (.double (FP.dneg x) :: st) H Q := Go_nx (by rw [stp_ft h]; rfl)
theorem num_s {r : UInt64} (h : vf_n64 r) : num r = some (.double r) := if_pos h
theorem G_dadd (h : ft y pc = some (.dadd, ax)) (c : vf_n64 (FP.dadd x w)) : Go y pc L (.double w :: .double x :: st) H Q ↔ Go y (pc + 1) L (.double (FP.dadd x w) :: st) H Q := Go_nx (by
  rw [stp_ft h]
  show (match (num (FP.dadd x w)).map (· :: st) with
    | some st' => nx (pc + ilen .dadd) L st' H
    | none => none) = _
  rw [num_s c]
  rfl)
theorem G_dsub (h : ft y pc = some (.dsub, ax)) (c : vf_n64 (FP.dsub x w)) : Go y pc L (.double w :: .double x :: st) H Q ↔ Go y (pc + 1) L (.double (FP.dsub x w) :: st) H Q := Go_nx (by
  rw [stp_ft h]
  show (match (num (FP.dsub x w)).map (· :: st) with
    | some st' => nx (pc + ilen .dsub) L st' H
    | none => none) = _
  rw [num_s c]
  rfl)
theorem G_dmul (h : ft y pc = some (.dmul, ax)) (c : vf_n64 (FP.dmul x w)) : Go y pc L (.double w :: .double x :: st) H Q ↔ Go y (pc + 1) L (.double (FP.dmul x w) :: st) H Q := Go_nx (by
  rw [stp_ft h]
  show (match (num (FP.dmul x w)).map (· :: st) with
    | some st' => nx (pc + ilen .dmul) L st' H
    | none => none) = _
  rw [num_s c]
  rfl)
theorem G_ddiv (h : ft y pc = some (.ddiv, ax)) (c : vf_n64 (FP.ddiv x w)) : Go y pc L (.double w :: .double x :: st) H Q ↔ Go y (pc + 1) L (.double (FP.ddiv x w) :: st) H Q := Go_nx (by
  rw [stp_ft h]
  show (match (num (FP.ddiv x w)).map (· :: st) with
    | some st' => nx (pc + ilen .ddiv) L st' H
    | none => none) = _
  rw [num_s c]
  rfl)
theorem G_dup {v : Value} (h : ft y pc = some (.dup, ax)) (c : v.category = 1) : Go y pc L (v :: st) H Q ↔ Go y (pc + 1) L (v :: v :: st) H Q := Go_nx (by
  rw [stp_ft h]
  show (match (if v.category = 1 then some (v :: v :: st) else none) with
    | some st' => nx (pc + ilen .dup) L st' H
    | none => none) = _
  rw [if_pos c]
  rfl)
theorem G_dup2 {v w : Value} (h : ft y pc = some (.dup2, ax)) (c : v.category = 1 ∧ w.category = 1) : Go y pc L (v :: w :: st) H Q ↔ Go y (pc + 1) L (v :: w :: v :: w :: st) H Q := Go_nx (by
  rw [stp_ft h]
  show (match (if v.category = 1 ∧ w.category = 1 then some (v :: w :: v :: w :: st) else none) with
    | some st' => nx (pc + ilen .dup2) L st' H
    | none => none) = _
  rw [if_pos c]
  rfl)
theorem G_pop {v : Value} (h : ft y pc = some (.pop, ax)) (c : v.category = 1) : Go y pc L (v :: st) H Q ↔ Go y (pc + 1) L st H Q := Go_nx (by
  rw [stp_ft h]
  show (match (if v.category = 1 then some st else none) with
    | some st' => nx (pc + ilen .pop) L st' H
    | none => none) = _
  rw [if_pos c]
  rfl)
end INS

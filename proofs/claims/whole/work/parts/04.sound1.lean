/-! THE SMALL MACHINE IS TRUE TO THE MACHINE, 1: values, variables, what touches the stack alone -/
def eV (α : Nat → Nat) (v : Value) : Value := match v with
  | .ref a => .ref (α a)
  | v => v
theorem eV_cat (α : Nat → Nat) (v : Value) : (eV α v).category = v.category := by cases v <;> rfl
theorem eV_wd (α : Nat → Nat) (st : List Value) : ((st.map (eV α)).map fun v => v.category).sum = wd st := by
  unfold wd
  rw [List.map_map]
  congr 1
  exact List.map_congr_left fun v _ => eV_cat α v
def clV (n : Nat) (v : Value) : Prop := ∀ a, v = .ref a → a < n
theorem eV_same {α β : Nat → Nat} {n : Nat} (h : ∀ a, a < n → β a = α a) {v : Value} (hv : clV n v) : eV β v = eV α v := by
  cases v <;> first | rfl | skip
  rename_i a
  show Value.ref (β a) = Value.ref (α a)
  rw [h a (hv a rfl)]
theorem clV.mono {n k : Nat} (h : n ≤ k) {v : Value} (hv : clV n v) : clV k v := fun a e => Nat.lt_of_lt_of_le (hv a e) h
theorem map_same {α β : Nat → Nat} {n : Nat} (h : ∀ a, a < n → β a = α a) {st : List Value} (hv : ∀ v ∈ st, clV n v) : st.map (eV β) = st.map (eV α) := List.map_congr_left fun v q => eV_same h (hv v q)
theorem clI {n : Nat} (x : Int32) : clV n (.int x) := fun a h => by cases h
theorem clJ {n : Nat} (x : Int64) : clV n (.long x) := fun a h => by cases h
theorem clDd {n : Nat} (x : UInt64) : clV n (.double x) := fun a h => by cases h
theorem clNl {n : Nat} : clV n .null := fun a h => by cases h
theorem clc {n : Nat} {v : Value} {r : List Value} (hv : clV n v) (hr : ∀ w ∈ r, clV n w) : ∀ w ∈ v :: r, clV n w := fun w h => (List.mem_cons.mp h).elim (fun e => e ▸ hv) (hr w)
theorem clt {n : Nat} {v : Value} {r : List Value} (h : ∀ w ∈ v :: r, clV n w) : ∀ w ∈ r, clV n w := fun w q => h w (List.mem_cons_of_mem _ q)
theorem opII_inv {f : Int32 → Int32 → Option Value} {st st' : List Value} (h : opII f st = some st') : ∃ y x r v, st = .int y :: .int x :: r ∧ f x y = some v ∧ st' = v :: r := by
  unfold opII at h
  split at h
  · rename_i y x r
    cases hf : f x y with
    | none => rw [hf] at h; cases h
    | some v => rw [hf] at h; cases h; exact ⟨y, x, r, v, rfl, hf, rfl⟩
  · cases h
theorem opLL_inv {f : Int64 → Int64 → Option Value} {st st' : List Value} (h : opLL f st = some st') : ∃ y x r v, st = .long y :: .long x :: r ∧ f x y = some v ∧ st' = v :: r := by
  unfold opLL at h
  split at h
  · rename_i y x r
    cases hf : f x y with
    | none => rw [hf] at h; cases h
    | some v => rw [hf] at h; cases h; exact ⟨y, x, r, v, rfl, hf, rfl⟩
  · cases h
theorem opLI_inv {f : Int64 → Int32 → Option Value} {st st' : List Value} (h : opLI f st = some st') : ∃ y x r v, st = .int y :: .long x :: r ∧ f x y = some v ∧ st' = v :: r := by
  unfold opLI at h
  split at h
  · rename_i y x r
    cases hf : f x y with
    | none => rw [hf] at h; cases h
    | some v => rw [hf] at h; cases h; exact ⟨y, x, r, v, rfl, hf, rfl⟩
  · cases h
theorem opDD_inv {f : UInt64 → UInt64 → Option Value} {st st' : List Value} (h : opDD f st = some st') : ∃ y x r v, st = .double y :: .double x :: r ∧ f x y = some v ∧ st' = v :: r := by
  unfold opDD at h
  split at h
  · rename_i y x r
    cases hf : f x y with
    | none => rw [hf] at h; cases h
    | some v => rw [hf] at h; cases h; exact ⟨y, x, r, v, rfl, hf, rfl⟩
  · cases h
theorem opI_inv {f : Int32 → Option Value} {st st' : List Value} (h : opI f st = some st') : ∃ x r v, st = .int x :: r ∧ f x = some v ∧ st' = v :: r := by
  unfold opI at h
  split at h
  · rename_i x r
    cases hf : f x with
    | none => rw [hf] at h; cases h
    | some v => rw [hf] at h; cases h; exact ⟨x, r, v, rfl, hf, rfl⟩
  · cases h
theorem opL_inv {f : Int64 → Option Value} {st st' : List Value} (h : opL f st = some st') : ∃ x r v, st = .long x :: r ∧ f x = some v ∧ st' = v :: r := by
  unfold opL at h
  split at h
  · rename_i x r
    cases hf : f x with
    | none => rw [hf] at h; cases h
    | some v => rw [hf] at h; cases h; exact ⟨x, r, v, rfl, hf, rfl⟩
  · cases h
theorem opD_inv {f : UInt64 → Option Value} {st st' : List Value} (h : opD f st = some st') : ∃ x r v, st = .double x :: r ∧ f x = some v ∧ st' = v :: r := by
  unfold opD at h
  split at h
  · rename_i x r
    cases hf : f x with
    | none => rw [hf] at h; cases h
    | some v => rw [hf] at h; cases h; exact ⟨x, r, v, rfl, hf, rfl⟩
  · cases h
theorem num_inv {r : UInt64} {v : Value} (h : num r = some v) : vf_n64 r ∧ v = .double r := by
  unfold num at h
  split at h
  · rename_i q
    cases h
    exact ⟨q, rfl⟩
  · cases h
theorem dp1_inv {st st' : List Value} (h : dp1 st = some st') : ∃ v r, st = v :: r ∧ v.category = 1 ∧ st' = v :: v :: r := by
  unfold dp1 at h
  split at h
  · split at h
    · rename_i v r q; cases h; exact ⟨v, r, rfl, q, rfl⟩
    · cases h
  · cases h
theorem dp2_inv {st st' : List Value} (h : dp2 st = some st') : ∃ v w r, st = v :: w :: r ∧ v.category = 1 ∧ w.category = 1 ∧ st' = v :: w :: v :: w :: r := by
  unfold dp2 at h
  split at h
  · split at h
    · rename_i v w r q; cases h; exact ⟨v, w, r, rfl, q.1, q.2, rfl⟩
    · cases h
  · cases h
theorem pp1_inv {st st' : List Value} (h : pp1 st = some st') : ∃ v, st = v :: st' ∧ v.category = 1 := by
  unfold pp1 at h
  split at h
  · split at h
    · rename_i v r q; cases h; exact ⟨v, rfl, q⟩
    · cases h
  · cases h
section SMALL1
variable {p : Program} {l : Launch} {e : Env} {R : Room} {s : State} {m : MethodId} {args : Array Value} {below : List Frame} {meth : Method} {c : Code} {H : Heap} {locs : List Loc} {cells slots : Nat} {Q : State → Prop}
variable {cc : ByteArray} {pc : Nat} {ls : Array Slot}
set_option maxHeartbeats 4000000 in
theorem alu_W {i : Instr} {st st' : List Value} {α : Nat → Nat} (h : alu i st = some st') (hx : p.tables.exec = Jvm.exec) (hb : c.code = cc) (hd : decode cc pc = .ok (i, ilen i)) (k : W p l e R s m args below meth c H locs cells slots Q (F0 m (pc + ilen i) ls (st'.map (eV α)))) : W p l e R s m args below meth c H locs cells slots Q (F0 m pc ls (st.map (eV α))) := by
  unfold alu at h
  split at h
  · cases h; exact lv_iconst hx hb hd rfl k
  · cases h; exact lv_bipush hx hb hd rfl k
  · cases h; exact lv_sipush hx hb hd rfl k
  · cases h; exact lv_lconst hx hb hd rfl k
  · split at h
    · rename_i q; cases h; subst q; exact lv_dconst0 hx hb hd k
    · cases h
  · obtain ⟨y, x, r, v, rfl, hv, rfl⟩ := opII_inv h
    cases hv
    exact lv_iadd hx hb hd k
  · obtain ⟨y, x, r, v, rfl, hv, rfl⟩ := opII_inv h
    cases hv
    exact lv_isub hx hb hd k
  · obtain ⟨y, x, r, v, rfl, hv, rfl⟩ := opII_inv h
    cases hv
    exact lv_imul hx hb hd k
  · obtain ⟨y, x, r, v, rfl, hv, rfl⟩ := opII_inv h
    cases hv
    exact lv_iand hx hb hd k
  · obtain ⟨y, x, r, v, rfl, hv, rfl⟩ := opII_inv h
    cases hv
    exact lv_ior hx hb hd k
  · obtain ⟨y, x, r, v, rfl, hv, rfl⟩ := opII_inv h
    cases hv
    exact lv_ixor hx hb hd k
  · obtain ⟨y, x, r, v, rfl, hv, rfl⟩ := opII_inv h
    split at hv
    · cases hv
    · rename_i hz; cases hv; exact lv_idiv hx hb hd hz k
  · obtain ⟨y, x, r, v, rfl, hv, rfl⟩ := opII_inv h
    split at hv
    · cases hv
    · rename_i hz; cases hv; exact lv_irem hx hb hd hz k
  · obtain ⟨y, x, r, v, rfl, hv, rfl⟩ := opII_inv h
    cases hv
    exact lv_ishl hx hb hd k
  · obtain ⟨y, x, r, v, rfl, hv, rfl⟩ := opII_inv h
    cases hv
    exact lv_ishr hx hb hd k
  · obtain ⟨x, r, v, rfl, hv, rfl⟩ := opI_inv h
    cases hv
    exact lv_ineg hx hb hd k
  · obtain ⟨x, r, v, rfl, hv, rfl⟩ := opI_inv h
    cases hv
    exact lv_i2b hx hb hd rfl k
  · obtain ⟨x, r, v, rfl, hv, rfl⟩ := opI_inv h
    cases hv
    exact lv_i2s hx hb hd rfl k
  · obtain ⟨x, r, v, rfl, hv, rfl⟩ := opI_inv h
    cases hv
    exact lv_i2l hx hb hd rfl k
  · obtain ⟨y, x, r, v, rfl, hv, rfl⟩ := opLL_inv h
    cases hv
    exact lv_ladd hx hb hd k
  · obtain ⟨y, x, r, v, rfl, hv, rfl⟩ := opLL_inv h
    cases hv
    exact lv_lsub hx hb hd k
  · obtain ⟨y, x, r, v, rfl, hv, rfl⟩ := opLL_inv h
    cases hv
    exact lv_lmul hx hb hd k
  · obtain ⟨y, x, r, v, rfl, hv, rfl⟩ := opLL_inv h
    cases hv
    exact lv_land hx hb hd k
  · obtain ⟨y, x, r, v, rfl, hv, rfl⟩ := opLL_inv h
    cases hv
    exact lv_lor hx hb hd k
  · obtain ⟨y, x, r, v, rfl, hv, rfl⟩ := opLL_inv h
    cases hv
    exact lv_lxor hx hb hd k
  · obtain ⟨y, x, r, v, rfl, hv, rfl⟩ := opLL_inv h
    split at hv
    · cases hv
    · rename_i hz; cases hv; exact lv_ldiv hx hb hd hz k
  · obtain ⟨y, x, r, v, rfl, hv, rfl⟩ := opLL_inv h
    split at hv
    · cases hv
    · rename_i hz; cases hv; exact lv_lrem hx hb hd hz k
  · obtain ⟨y, x, r, v, rfl, hv, rfl⟩ := opLL_inv h
    cases hv
    exact W.lcmp hx hb hd k
  · obtain ⟨x, r, v, rfl, hv, rfl⟩ := opL_inv h
    cases hv
    exact lv_lneg hx hb hd k
  · obtain ⟨x, r, v, rfl, hv, rfl⟩ := opL_inv h
    cases hv
    exact lv_l2i hx hb hd rfl k
  · obtain ⟨x, r, v, rfl, hv, rfl⟩ := opL_inv h
    cases hv
    exact lv_l2d hx hb hd k
  · obtain ⟨y, x, r, v, rfl, hv, rfl⟩ := opLI_inv h
    cases hv
    exact lv_lshl hx hb hd rfl k
  · obtain ⟨y, x, r, v, rfl, hv, rfl⟩ := opLI_inv h
    cases hv
    exact lv_lshr hx hb hd rfl k
  · obtain ⟨y, x, r, v, rfl, hv, rfl⟩ := opLI_inv h
    cases hv
    exact lv_lushr hx hb hd rfl k
  · obtain ⟨y, x, r, v, rfl, hv, rfl⟩ := opDD_inv h
    obtain ⟨hn, rfl⟩ := num_inv hv
    exact lv_dadd hx hb hd hn k
  · obtain ⟨y, x, r, v, rfl, hv, rfl⟩ := opDD_inv h
    obtain ⟨hn, rfl⟩ := num_inv hv
    exact lv_dsub hx hb hd hn k
  · obtain ⟨y, x, r, v, rfl, hv, rfl⟩ := opDD_inv h
    obtain ⟨hn, rfl⟩ := num_inv hv
    exact lv_dmul hx hb hd hn k
  · obtain ⟨y, x, r, v, rfl, hv, rfl⟩ := opDD_inv h
    obtain ⟨hn, rfl⟩ := num_inv hv
    exact lv_ddiv hx hb hd hn k
  · obtain ⟨y, x, r, v, rfl, hv, rfl⟩ := opDD_inv h
    cases hv
    exact lv_dcmp hx hb hd k
  · obtain ⟨x, r, v, rfl, hv, rfl⟩ := opD_inv h
    cases hv
    exact lv_dneg hx hb hd k
  · obtain ⟨x, r, v, rfl, hv, rfl⟩ := opD_inv h
    cases hv
    exact lv_d2l hx hb hd k
  · obtain ⟨v, r, rfl, hv, rfl⟩ := dp1_inv h
    exact lv_dup hx hb hd (by rw [eV_cat]; exact hv) k
  · obtain ⟨v, w, r, rfl, hv, hw, rfl⟩ := dp2_inv h
    exact lv_dup2_11 hx hb hd (by rw [eV_cat]; exact hv) (by rw [eV_cat]; exact hw) k
  · obtain ⟨v, rfl, hv⟩ := pp1_inv h
    exact lv_pop hx hb hd (by rw [eV_cat]; exact hv) k
  · cases h
end SMALL1
set_option maxHeartbeats 4000000 in
theorem alu_cl {n : Nat} {i : Instr} {st st' : List Value} (h : alu i st = some st') (hc : ∀ v ∈ st, clV n v) : ∀ v ∈ st', clV n v := by
  unfold alu at h
  split at h
  · cases h; exact clc (fun a q => by cases q) hc
  · cases h; exact clc (fun a q => by cases q) hc
  · cases h; exact clc (fun a q => by cases q) hc
  · cases h; exact clc (fun a q => by cases q) hc
  · split at h
    · cases h; exact clc (clDd _) hc
    · cases h
  · obtain ⟨y, x, r, v, rfl, hv, rfl⟩ := opII_inv h
    cases hv
    exact clc (fun a q => by cases q) (clt (clt hc))
  · obtain ⟨y, x, r, v, rfl, hv, rfl⟩ := opII_inv h
    cases hv
    exact clc (fun a q => by cases q) (clt (clt hc))
  · obtain ⟨y, x, r, v, rfl, hv, rfl⟩ := opII_inv h
    cases hv
    exact clc (fun a q => by cases q) (clt (clt hc))
  · obtain ⟨y, x, r, v, rfl, hv, rfl⟩ := opII_inv h
    cases hv
    exact clc (fun a q => by cases q) (clt (clt hc))
  · obtain ⟨y, x, r, v, rfl, hv, rfl⟩ := opII_inv h
    cases hv
    exact clc (fun a q => by cases q) (clt (clt hc))
  · obtain ⟨y, x, r, v, rfl, hv, rfl⟩ := opII_inv h
    cases hv
    exact clc (fun a q => by cases q) (clt (clt hc))
  · obtain ⟨y, x, r, v, rfl, hv, rfl⟩ := opII_inv h
    split at hv
    · cases hv
    · cases hv; exact clc (fun a q => by cases q) (clt (clt hc))
  · obtain ⟨y, x, r, v, rfl, hv, rfl⟩ := opII_inv h
    split at hv
    · cases hv
    · cases hv; exact clc (fun a q => by cases q) (clt (clt hc))
  · obtain ⟨y, x, r, v, rfl, hv, rfl⟩ := opII_inv h
    cases hv
    exact clc (fun a q => by cases q) (clt (clt hc))
  · obtain ⟨y, x, r, v, rfl, hv, rfl⟩ := opII_inv h
    cases hv
    exact clc (fun a q => by cases q) (clt (clt hc))
  · obtain ⟨x, r, v, rfl, hv, rfl⟩ := opI_inv h
    cases hv
    exact clc (fun a q => by cases q) (clt hc)
  · obtain ⟨x, r, v, rfl, hv, rfl⟩ := opI_inv h
    cases hv
    exact clc (fun a q => by cases q) (clt hc)
  · obtain ⟨x, r, v, rfl, hv, rfl⟩ := opI_inv h
    cases hv
    exact clc (fun a q => by cases q) (clt hc)
  · obtain ⟨x, r, v, rfl, hv, rfl⟩ := opI_inv h
    cases hv
    exact clc (fun a q => by cases q) (clt hc)
  · obtain ⟨y, x, r, v, rfl, hv, rfl⟩ := opLL_inv h
    cases hv
    exact clc (fun a q => by cases q) (clt (clt hc))
  · obtain ⟨y, x, r, v, rfl, hv, rfl⟩ := opLL_inv h
    cases hv
    exact clc (fun a q => by cases q) (clt (clt hc))
  · obtain ⟨y, x, r, v, rfl, hv, rfl⟩ := opLL_inv h
    cases hv
    exact clc (fun a q => by cases q) (clt (clt hc))
  · obtain ⟨y, x, r, v, rfl, hv, rfl⟩ := opLL_inv h
    cases hv
    exact clc (fun a q => by cases q) (clt (clt hc))
  · obtain ⟨y, x, r, v, rfl, hv, rfl⟩ := opLL_inv h
    cases hv
    exact clc (fun a q => by cases q) (clt (clt hc))
  · obtain ⟨y, x, r, v, rfl, hv, rfl⟩ := opLL_inv h
    cases hv
    exact clc (fun a q => by cases q) (clt (clt hc))
  · obtain ⟨y, x, r, v, rfl, hv, rfl⟩ := opLL_inv h
    split at hv
    · cases hv
    · cases hv; exact clc (fun a q => by cases q) (clt (clt hc))
  · obtain ⟨y, x, r, v, rfl, hv, rfl⟩ := opLL_inv h
    split at hv
    · cases hv
    · cases hv; exact clc (fun a q => by cases q) (clt (clt hc))
  · obtain ⟨y, x, r, v, rfl, hv, rfl⟩ := opLL_inv h
    cases hv
    exact clc (fun a q => by cases q) (clt (clt hc))
  · obtain ⟨x, r, v, rfl, hv, rfl⟩ := opL_inv h
    cases hv
    exact clc (fun a q => by cases q) (clt hc)
  · obtain ⟨x, r, v, rfl, hv, rfl⟩ := opL_inv h
    cases hv
    exact clc (fun a q => by cases q) (clt hc)
  · obtain ⟨x, r, v, rfl, hv, rfl⟩ := opL_inv h
    cases hv
    exact clc (fun a q => by cases q) (clt hc)
  · obtain ⟨y, x, r, v, rfl, hv, rfl⟩ := opLI_inv h
    cases hv
    exact clc (fun a q => by cases q) (clt (clt hc))
  · obtain ⟨y, x, r, v, rfl, hv, rfl⟩ := opLI_inv h
    cases hv
    exact clc (fun a q => by cases q) (clt (clt hc))
  · obtain ⟨y, x, r, v, rfl, hv, rfl⟩ := opLI_inv h
    cases hv
    exact clc (fun a q => by cases q) (clt (clt hc))
  · obtain ⟨y, x, r, v, rfl, hv, rfl⟩ := opDD_inv h
    obtain ⟨hn, rfl⟩ := num_inv hv
    exact clc (clDd _) (clt (clt hc))
  · obtain ⟨y, x, r, v, rfl, hv, rfl⟩ := opDD_inv h
    obtain ⟨hn, rfl⟩ := num_inv hv
    exact clc (clDd _) (clt (clt hc))
  · obtain ⟨y, x, r, v, rfl, hv, rfl⟩ := opDD_inv h
    obtain ⟨hn, rfl⟩ := num_inv hv
    exact clc (clDd _) (clt (clt hc))
  · obtain ⟨y, x, r, v, rfl, hv, rfl⟩ := opDD_inv h
    obtain ⟨hn, rfl⟩ := num_inv hv
    exact clc (clDd _) (clt (clt hc))
  · obtain ⟨y, x, r, v, rfl, hv, rfl⟩ := opDD_inv h
    cases hv
    exact clc (fun a q => by cases q) (clt (clt hc))
  · obtain ⟨x, r, v, rfl, hv, rfl⟩ := opD_inv h
    cases hv
    exact clc (fun a q => by cases q) (clt hc)
  · obtain ⟨x, r, v, rfl, hv, rfl⟩ := opD_inv h
    cases hv
    exact clc (fun a q => by cases q) (clt hc)
  · obtain ⟨v, r, rfl, hv, rfl⟩ := dp1_inv h
    exact clc (hc v List.mem_cons_self) hc
  · obtain ⟨v, w, r, rfl, hv, hw, rfl⟩ := dp2_inv h
    exact clc (hc v List.mem_cons_self) (clc (clt hc w List.mem_cons_self) hc)
  · obtain ⟨v, rfl, hv⟩ := pp1_inv h
    exact clt hc
  · cases h
theorem ld_iff {L : List (Option Value)} {k : Nat} {v : Value} : ld L k = some v ↔ L[k]? = some (some v) ∧ (v.category = 2 → L[k + 1]? = some none) := by
  unfold ld
  constructor
  · intro h
    split at h
    · rename_i w hw
      split at h
      · rename_i hc
        split at h
        · rename_i hn; cases h; exact ⟨hw, fun _ => hn⟩
        · cases h
      · rename_i hc; cases h; exact ⟨hw, fun q => absurd q hc⟩
    · cases h
  · rintro ⟨h1, h2⟩
    rw [h1]
    dsimp only
    split
    · rename_i hc; rw [h2 hc]
    · rfl
def lvs (α : Nat → Nat) (L : List (Option Value)) : List (Nat × Value) := (List.range L.length).filterMap fun k => (ld L k).map fun v => (k, eV α v)
theorem mem_lvs {α : Nat → Nat} {L : List (Option Value)} {k : Nat} {w : Value} : (k, w) ∈ lvs α L ↔ ∃ v, ld L k = some v ∧ w = eV α v := by
  unfold lvs
  rw [List.mem_filterMap]
  constructor
  · rintro ⟨j, -, h⟩
    cases hl : ld L j with
    | none => rw [hl] at h; cases h
    | some v => rw [hl] at h; cases h; exact ⟨v, hl, rfl⟩
  · rintro ⟨v, h, rfl⟩
    refine ⟨k, ?_, by rw [h]; rfl⟩
    rw [List.mem_range]
    exact (List.getElem?_eq_some_iff.mp (ld_iff.mp h).1).1
def Lr (α : Nat → Nat) (L : List (Option Value)) (ls : Array Slot) : Prop := lv_has ls L.length (lvs α L)
theorem Lr.ge {α : Nat → Nat} {L : List (Option Value)} {ls : Array Slot} (h : Lr α L ls) {k : Nat} {v : Value} (hk : ld L k = some v) : ls[k]? = some (.val (eV α v)) := h.2.2 (k, eV α v) (mem_lvs.mpr ⟨v, hk, rfl⟩)
def clL (n : Nat) (L : List (Option Value)) : Prop := ∀ v, some v ∈ L → clV n v
theorem clL.ge {n : Nat} {L : List (Option Value)} (h : clL n L) {k : Nat} {v : Value} (hk : ld L k = some v) : clV n v := h v (List.mem_of_getElem? (ld_iff.mp hk).1)
theorem clL.mono {n k : Nat} (h : n ≤ k) {L : List (Option Value)} (hL : clL n L) : clL k L := fun v q => (hL v q).mono h
theorem Lr.same {α β : Nat → Nat} {n : Nat} (h : ∀ a, a < n → β a = α a) {L : List (Option Value)} (hL : clL n L) {ls : Array Slot} (hr : Lr α L ls) : Lr β L ls := by
  refine ⟨hr.1, hr.2.1, fun q hq => ?_⟩
  obtain ⟨k, w⟩ := q
  obtain ⟨v, hv, rfl⟩ := mem_lvs.mp hq
  rw [eV_same h (hL.ge hv)]
  exact hr.ge hv
theorem sto1_inv {L L' : List (Option Value)} {k : Nat} {v : Value} (h : sto1 L k v = some L') : k < L.length ∧ L' = L.set k (some v) := by
  unfold sto1 at h
  split at h
  · rename_i q; cases h; exact ⟨q, rfl⟩
  · cases h
theorem sto2_inv {L L' : List (Option Value)} {k : Nat} {v : Value} (h : sto2 L k v = some L') : k + 1 < L.length ∧ L' = (L.set k (some v)).set (k + 1) none := by
  unfold sto2 at h
  split at h
  · rename_i q; cases h; exact ⟨q, rfl⟩
  · cases h
theorem clL.set {n : Nat} {L : List (Option Value)} (h : clL n L) (k : Nat) {v : Value} (hv : clV n v) : clL n (L.set k (some v)) := fun w hw => by
  rcases List.mem_or_eq_of_mem_set hw with q | q
  · exact h w q
  · cases q; exact hv
theorem clL.setN {n : Nat} {L : List (Option Value)} (h : clL n L) (k : Nat) : clL n (L.set k none) := fun w hw => by
  rcases List.mem_or_eq_of_mem_set hw with q | q
  · exact h w q
  · cases q
theorem Lr.sto1 {α : Nat → Nat} {L L' : List (Option Value)} {ls' : Array Slot} {i : Nat} {v : Value} (hs : sto1 L i v = some L') (h' : lv_has ls' L.length ((i, eV α v) :: (lvs α L).filter (fun q => !(q.1 == i) && !(q.1 + 1 == i && q.2.category == 2)))) : Lr α L' ls' := by
  obtain ⟨hi, rfl⟩ := sto1_inv hs
  refine ⟨by rw [List.length_set]; exact h'.1, h'.2.1, fun q hq => ?_⟩
  obtain ⟨k, w⟩ := q
  obtain ⟨u, hu, rfl⟩ := mem_lvs.mp hq
  obtain ⟨h1, h2⟩ := ld_iff.mp hu
  refine h'.2.2 (k, eV α u) ?_
  rw [List.getElem?_set] at h1
  rw [List.getElem?_set] at h2
  by_cases hk : i = k
  · subst hk
    rw [if_pos rfl, if_pos hi] at h1
    cases h1
    exact List.mem_cons_self
  · rw [if_neg hk] at h1
    have h3 : u.category = 2 → i ≠ k + 1 ∧ L[k + 1]? = some none := fun hc => by
      have h4 := h2 hc
      split at h4
      · first | (cases h4; done) | (split at h4 <;> cases h4; done)
      · rename_i q; exact ⟨q, h4⟩
    refine List.mem_cons_of_mem _ (List.mem_filter.mpr ⟨mem_lvs.mpr ⟨u, ld_iff.mpr ⟨h1, fun hc => (h3 hc).2⟩, rfl⟩, ?_⟩)
    have e1 : (k == i) = false := by rw [beq_eq_false_iff_ne]; exact fun q => hk q.symm
    show (!(k == i) && !(k + 1 == i && (eV α u).category == 2)) = true
    rw [e1, eV_cat]
    cases hc : (u.category == 2) with
    | false => rw [Bool.and_false]; rfl
    | true =>
      have e2 : (k + 1 == i) = false := by rw [beq_eq_false_iff_ne]; exact fun q => (h3 (by simpa using hc)).1 q.symm
      rw [e2]; rfl
theorem Lr.sto2 {α : Nat → Nat} {L L' : List (Option Value)} {ls' : Array Slot} {i : Nat} {v : Value} (hs : sto2 L i v = some L') (h' : lv_has ls' L.length ((i, eV α v) :: (lvs α L).filter (fun q => !(q.1 == i) && (!(q.1 == i + 1) && !(q.1 + 1 == i && q.2.category == 2))))) : Lr α L' ls' := by
  obtain ⟨hi, rfl⟩ := sto2_inv hs
  refine ⟨by rw [List.length_set, List.length_set]; exact h'.1, h'.2.1, fun q hq => ?_⟩
  obtain ⟨k, w⟩ := q
  obtain ⟨u, hu, rfl⟩ := mem_lvs.mp hq
  obtain ⟨h1, h2⟩ := ld_iff.mp hu
  refine h'.2.2 (k, eV α u) ?_
  have hlen : (L.set i (some v)).length = L.length := List.length_set
  rw [List.getElem?_set] at h1
  by_cases hk2 : i + 1 = k
  · subst hk2
    rw [if_pos rfl, if_pos (by rw [hlen]; exact hi)] at h1
    cases h1
  · rw [if_neg hk2, List.getElem?_set] at h1
    by_cases hk : i = k
    · subst hk
      rw [if_pos rfl, if_pos (by omega)] at h1
      cases h1
      exact List.mem_cons_self
    · rw [if_neg hk] at h1
      have h3 : u.category = 2 → i ≠ k + 1 ∧ L[k + 1]? = some none := fun hc => by
        have h4 := h2 hc
        rw [List.getElem?_set, if_neg (by omega), List.getElem?_set] at h4
        split at h4
        · first | (cases h4; done) | (split at h4 <;> cases h4; done)
        · rename_i q; exact ⟨q, h4⟩
      refine List.mem_cons_of_mem _ (List.mem_filter.mpr ⟨mem_lvs.mpr ⟨u, ld_iff.mpr ⟨h1, fun hc => (h3 hc).2⟩, rfl⟩, ?_⟩)
      have e1 : (k == i) = false := by rw [beq_eq_false_iff_ne]; exact fun q => hk q.symm
      have e3 : (k == i + 1) = false := by rw [beq_eq_false_iff_ne]; exact fun q => hk2 q.symm
      show (!(k == i) && (!(k == i + 1) && !(k + 1 == i && (eV α u).category == 2))) = true
      rw [e1, e3, eV_cat]
      cases hc : (u.category == 2) with
      | false => rw [Bool.and_false]; rfl
      | true =>
        have e2 : (k + 1 == i) = false := by rw [beq_eq_false_iff_ne]; exact fun q => (h3 (by simpa using hc)).1 q.symm
        rw [e2]; rfl
theorem argL_len (α : Nat → Nat) (vs : List Value) : (lg_sl (vs.map (eV α))).length = (argL vs).length := by
  induction vs with
  | nil => rfl
  | cons v r ih =>
    show (lg_sl (eV α v :: r.map (eV α))).length = _
    unfold lg_sl at ih ⊢
    rw [List.flatMap_cons, List.length_append, ih]
    rw [argL, eV_cat]
    split <;> simp <;> omega
theorem ent_mem (α : Nat → Nat) (n : Nat) (vs : List Value) : ∀ (off k : Nat) (v : Value), ld (argL vs ++ List.replicate n none) k = some v → (off + k, eV α v) ∈ lv_args off (vs.map (eV α)) := by
  induction vs with
  | nil =>
    intro off k v h
    have h1 := (ld_iff.mp h).1
    have h2 := List.mem_of_getElem? h1
    simp [argL] at h2
  | cons w r ih =>
    intro off k v h
    show (off + k, eV α v) ∈ (off, eV α w) :: lv_args (if (eV α w).category = 2 then off + 2 else off + 1) (r.map (eV α))
    rw [eV_cat]
    rw [argL] at h
    by_cases hc : w.category = 2
    · rw [if_pos hc] at h ⊢
      obtain ⟨h1, h2⟩ := ld_iff.mp h
      match k, h1, h2 with
      | 0, h1, h2 =>
        have e : w = v := by simpa using h1
        subst e
        exact List.mem_cons_self
      | 1, h1, h2 => simp at h1
      | k + 2, h1, h2 =>
        have q := ih (off + 2) k v (ld_iff.mpr ⟨by simpa using h1, fun hv => by simpa using h2 hv⟩)
        rw [show off + (k + 2) = off + 2 + k by omega]
        exact List.mem_cons_of_mem _ q
    · rw [if_neg hc] at h ⊢
      obtain ⟨h1, h2⟩ := ld_iff.mp h
      match k, h1, h2 with
      | 0, h1, h2 =>
        have e : w = v := by simpa using h1
        subst e
        exact List.mem_cons_self
      | k + 1, h1, h2 =>
        have q := ih (off + 1) k v (ld_iff.mpr ⟨by simpa using h1, fun hv => by simpa using h2 hv⟩)
        rw [show off + (k + 1) = off + 1 + k by omega]
        exact List.mem_cons_of_mem _ q
theorem Lr.entry (α : Nat → Nat) (vs : List Value) {n : Nat} (h : (argL vs).length ≤ n) : Lr α (entL n vs) ((lg_sl (vs.map (eV α)) ++ List.replicate (n - (lg_sl (vs.map (eV α))).length) Slot.unset).toArray) := by
  have h0 := lv_entry (vs.map (eV α)) (n := n) (by rw [argL_len]; exact h)
  have hl : (entL n vs).length = n := by unfold entL; rw [List.length_append, List.length_replicate]; omega
  refine ⟨by rw [hl]; exact h0.1, h0.2.1, fun q hq => ?_⟩
  obtain ⟨k, w⟩ := q
  obtain ⟨v, hv, rfl⟩ := mem_lvs.mp hq
  have := ent_mem α _ vs 0 k v hv
  rw [Nat.zero_add] at this
  exact h0.2.2 _ this
theorem argL_mem {vs : List Value} {v : Value} (h : some v ∈ argL vs) : v ∈ vs := by
  induction vs with
  | nil => cases h
  | cons w r ih =>
    rw [argL] at h
    split at h
    · rcases List.mem_cons.mp h with q | q
      · cases q; exact List.mem_cons_self
      · rcases List.mem_cons.mp q with q | q
        · cases q
        · exact List.mem_cons_of_mem _ (ih q)
    · rcases List.mem_cons.mp h with q | q
      · cases q; exact List.mem_cons_self
      · exact List.mem_cons_of_mem _ (ih q)
theorem clL.entry {n k : Nat} {vs : List Value} (h : ∀ v ∈ vs, clV n v) : clL n (entL k vs) := fun v hv => by
  unfold entL at hv
  rcases List.mem_append.mp hv with q | q
  · exact h v (argL_mem q)
  · rw [List.mem_replicate] at q
    cases q.2

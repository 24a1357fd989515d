/-! THE SMALL MACHINE IS TRUE TO THE MACHINE, 3: a step -/
theorem lookup_mem {β : Type} {k : Nat} {v : β} : ∀ {l : List (Nat × β)}, l.lookup k = some v → (k, v) ∈ l := by
  intro l
  induction l with
  | nil => intro h; cases h
  | cons x r ih =>
    obtain ⟨a, w⟩ := x
    intro h
    rw [List.lookup_cons] at h
    split at h
    · rename_i q
      cases h
      have : k = a := by simpa using q
      subst this
      exact List.mem_cons_self
    · exact List.mem_cons_of_mem _ (ih h)
theorem code_out {y : Nat} (h : ¬ y < 191) : m_code y = [] := by
  unfold m_code
  have : MT[y]? = none := List.getElem?_eq_none (by show 191 ≤ y; omega)
  rw [this]
theorem ft_ok {y pc : Nat} {i : Instr} {ax : Ax} (h : ft y pc = some (i, ax)) : okD (m_bytes y) pc i = true ∧ okX y i ax = true := by
  unfold ft at h
  have h1 := lookup_mem h
  by_cases hy : y < 191
  · have h2 := List.all_eq_true.mp (okE_all y hy) _ h1
    unfold okE at h2
    rw [Bool.and_eq_true] at h2
    exact h2
  · rw [code_out hy] at h1
    cases h1
theorem okD_dec {cc : ByteArray} {pc : Nat} {i : Instr} (h : okD cc pc i = true) (hs : isSw i = false) : decode cc pc = .ok (i, ilen i) := by
  unfold okD at h
  split at h
  · rename_i q hq
    rw [hs, Bool.or_false, Bool.and_eq_true, decide_eq_true_eq, decide_eq_true_eq] at h
    obtain ⟨a, b⟩ := q
    obtain ⟨h1, h2⟩ := h
    dsimp only at h1 h2
    subst h1
    subst h2
    exact hq
  · cases h
theorem okD_sw {cc : ByteArray} {pc : Nat} {i : Instr} (h : okD cc pc i = true) : ∃ n, decode cc pc = .ok (i, n) := by
  unfold okD at h
  split at h
  · rename_i q hq
    rw [Bool.and_eq_true, decide_eq_true_eq] at h
    obtain ⟨a, b⟩ := q
    obtain ⟨rfl, -⟩ := h
    exact ⟨b, hq⟩
  · cases h
section INV
variable {pc pc' : Nat} {L L' : List (Option Value)} {st st' : List Value} {H H' : HP}
theorem nx_inv (h : nx pc L st H = some (.inl ((pc', L', st'), H'))) : pc' = pc ∧ L' = L ∧ st' = st ∧ H' = H := by
  unfold nx at h
  cases h
  exact ⟨rfl, rfl, rfl, rfl⟩
theorem rd_inv {v : Option Value} (h : rd v pc L st H = some (.inl ((pc', L', st'), H'))) : ∃ x, v = some x ∧ pc' = pc ∧ L' = L ∧ st' = x :: st ∧ H' = H := by
  unfold rd at h
  split at h
  · rename_i x
    exact ⟨x, rfl, nx_inv h⟩
  · cases h
theorem sr_inv {v : Option (List (Option Value))} (h : sr v pc st H = some (.inl ((pc', L', st'), H'))) : v = some L' ∧ pc' = pc ∧ st' = st ∧ H' = H := by
  unfold sr at h
  split at h
  · obtain ⟨h1, rfl, h3, h4⟩ := nx_inv h
    exact ⟨rfl, h1, h3, h4⟩
  · cases h
theorem wr_inv {a : Nat} {v : Option AC} (h : wr H a v pc L st = some (.inl ((pc', L', st'), H'))) : ∃ c, v = some c ∧ a ≠ 0 ∧ pc' = pc ∧ L' = L ∧ st' = st ∧ H' = hput H a c := by
  unfold wr at h
  split at h
  · rename_i c
    split at h
    · cases h
    · rename_i ha
      exact ⟨c, rfl, ha, nx_inv h⟩
  · cases h
theorem go_inv {off : Int} (h : go pc off L st H = some (.inl ((pc', L', st'), H'))) : (pc : Int) + off = (pc' : Int) ∧ L' = L ∧ st' = st ∧ H' = H := by
  unfold go at h
  split at h
  · rename_i h0
    obtain ⟨h1, h2⟩ := nx_inv h
    exact ⟨by rw [h1, Int.toNat_of_nonneg h0], h2⟩
  · cases h
theorem br_inv {off : Int} {t : Bool} (h : br pc off t L st H = some (.inl ((pc', L', st'), H'))) : ∃ tg : Nat, (pc : Int) + off = (tg : Int) ∧ pc' = (if t = true then tg else pc + 3) ∧ L' = L ∧ st' = st ∧ H' = H := by
  unfold br at h
  split at h
  · rename_i h0
    obtain ⟨h1, h2⟩ := nx_inv h
    exact ⟨_, (Int.toNat_of_nonneg h0).symm, h1, h2⟩
  · cases h
theorem ldI_inv {k : Nat} {v : Value} (h : ldI L k = some v) : ∃ x, v = .int x ∧ ld L k = some (.int x) := by
  unfold ldI at h
  split at h
  · rename_i x q; cases h; exact ⟨x, rfl, q⟩
  · cases h
theorem ldJ_inv {k : Nat} {v : Value} (h : ldJ L k = some v) : ∃ x, v = .long x ∧ ld L k = some (.long x) := by
  unfold ldJ at h
  split at h
  · rename_i x q; cases h; exact ⟨x, rfl, q⟩
  · cases h
theorem ldD_inv {k : Nat} {v : Value} (h : ldD L k = some v) : ∃ x, v = .double x ∧ ld L k = some (.double x) := by
  unfold ldD at h
  split at h
  · rename_i x q; cases h; exact ⟨x, rfl, q⟩
  · cases h
theorem ldA_inv {k : Nat} {v : Value} (h : ldA L k = some v) : (∃ x, v = .ref x ∧ ld L k = some (.ref x)) ∨ (v = .null ∧ ld L k = some .null) := by
  unfold ldA at h
  split at h
  · rename_i x q; cases h; exact Or.inl ⟨x, rfl, q⟩
  · rename_i q; cases h; exact Or.inr ⟨rfl, q⟩
  · cases h
theorem sto1_len {k : Nat} {v : Value} (h : sto1 L k v = some L') : L'.length = L.length := by
  obtain ⟨-, rfl⟩ := sto1_inv h
  exact List.length_set
theorem sto2_len {k : Nat} {v : Value} (h : sto2 L k v = some L') : L'.length = L.length := by
  obtain ⟨-, rfl⟩ := sto2_inv h
  rw [List.length_set, List.length_set]
theorem clL.st1 {n k : Nat} {v : Value} (hL : clL n L) (h : sto1 L k v = some L') (hv : clV n v) : clL n L' := by
  obtain ⟨-, rfl⟩ := sto1_inv h
  exact hL.set k hv
theorem clL.st2 {n k : Nat} {v : Value} (hL : clL n L) (h : sto2 L k v = some L') (hv : clV n v) : clL n L' := by
  obtain ⟨-, rfl⟩ := sto2_inv h
  exact (hL.set k hv).setN (k + 1)
theorem inb_in {i : Int32} {n : Nat} (h : inb i n = true) : vp_in i n := by
  unfold inb at h
  unfold vp_in
  exact of_decide_eq_true h
end INV
/-- the instructions that change the heap -/
def isH (i : Instr) : Bool := match i with
  | .putfield _ => true | .iastore => true | .bastore => true | .lastore => true | .dastore => true | .aastore => true
  | .newarray _ => true | .anewarray _ => true | .new _ => true
  | _ => false
section SMALL3
variable {p : Program} {l : Launch} {e : Env} {R : Room} {s : State} {m : MethodId} {args : Array Value} {below : List Frame} {meth : Method} {c : Code} {Hc : Heap} {locs : List Loc} {cells slots : Nat} {Q : State → Prop}
variable {cc : ByteArray} {ls : Array Slot} {rest : List Value}
variable {D : va_G} {A : Nat → Prop} {b Ls : Nat} {xs : Nat → Int32} {H H' : HP} {ws : va_W} {tys : List (ClassId × FieldType)} {y pc pc' : Nat} {i : Instr} {ax : Ax} {L L' : List (Option Value)} {st st' : List Value}
theorem if_W {k : ClassFile.Cond} {x : Int32} {off : Int} {tg : Nat} (hx : p.tables.exec = Jvm.exec) (hb : c.code = cc) (hd : decode cc pc = .ok (.ifCond k off, 3)) (ht : (pc : Int) + off = (tg : Int)) (kk : W p l e R s m args below meth c Hc locs cells slots Q (F0 m (if cI k x 0 = true then tg else pc + 3) ls rest)) : W p l e R s m args below meth c Hc locs cells slots Q (F0 m pc ls (.int x :: rest)) := by
  have kt : cI k x 0 = true → W p l e R s m args below meth c Hc locs cells slots Q (F0 m tg ls rest) := fun h => by rw [if_pos h] at kk; exact kk
  have kf : ¬ cI k x 0 = true → W p l e R s m args below meth c Hc locs cells slots Q (F0 m (pc + 3) ls rest) := fun h => by rw [if_neg h] at kk; exact kk
  cases k
  · exact lv_if_eq hx hb hd ht (fun h => kt (decide_eq_true h)) (fun h => kf (fun q => h (of_decide_eq_true q)))
  · exact lv_if_ne hx hb hd ht (fun h => kt (decide_eq_true h)) (fun h => kf (fun q => (of_decide_eq_true q) h))
  · exact lv_if_lt hx hb hd ht (fun h => kt (decide_eq_true h)) (fun h => kf (fun q => h (of_decide_eq_true q)))
  · exact lv_if_ge hx hb hd ht (fun h => kt (decide_eq_true h)) (fun h => kf (fun q => h (of_decide_eq_true q)))
  · exact lv_if_gt hx hb hd ht (fun h => kt (decide_eq_true h)) (fun h => kf (fun q => h (of_decide_eq_true q)))
  · exact lv_if_le hx hb hd ht (fun h => kt (decide_eq_true h)) (fun h => kf (fun q => h (of_decide_eq_true q)))
theorem icmp_W {k : ClassFile.Cond} {x y : Int32} {off : Int} {tg : Nat} (hx : p.tables.exec = Jvm.exec) (hb : c.code = cc) (hd : decode cc pc = .ok (.if_icmp k off, 3)) (ht : (pc : Int) + off = (tg : Int)) (kk : W p l e R s m args below meth c Hc locs cells slots Q (F0 m (if cI k x y = true then tg else pc + 3) ls rest)) : W p l e R s m args below meth c Hc locs cells slots Q (F0 m pc ls (.int y :: .int x :: rest)) := by
  have kt : cI k x y = true → W p l e R s m args below meth c Hc locs cells slots Q (F0 m tg ls rest) := fun h => by rw [if_pos h] at kk; exact kk
  have kf : ¬ cI k x y = true → W p l e R s m args below meth c Hc locs cells slots Q (F0 m (pc + 3) ls rest) := fun h => by rw [if_neg h] at kk; exact kk
  cases k
  · exact lv_icmp_eq hx hb hd ht (fun h => kt (decide_eq_true h)) (fun h => kf (fun q => h (of_decide_eq_true q)))
  · exact lv_icmp_ne hx hb hd ht (fun h => kt (decide_eq_true h)) (fun h => kf (fun q => (of_decide_eq_true q) h))
  · exact lv_icmp_lt hx hb hd ht (fun h => kt (decide_eq_true h)) (fun h => kf (fun q => h (of_decide_eq_true q)))
  · exact lv_icmp_ge hx hb hd ht (fun h => kt (decide_eq_true h)) (fun h => kf (fun q => h (of_decide_eq_true q)))
  · exact lv_icmp_gt hx hb hd ht (fun h => kt (decide_eq_true h)) (fun h => kf (fun q => h (of_decide_eq_true q)))
  · exact lv_icmp_le hx hb hd ht (fun h => kt (decide_eq_true h)) (fun h => kf (fun q => h (of_decide_eq_true q)))
set_option maxHeartbeats 8000000 in
/-- a step that leaves the heap -/
theorem step_pure (C : Cx y p R s m args meth c A b Ls xs) (hf : ft y pc = some (i, ax)) (hh : isH i = false) (hs : stpI y i ax pc L st H = some (.inl ((pc', L', st'), H')))
    (w : Wd D A b Ls xs H ws tys Hc s) (hcS : ∀ v ∈ st, clV H.1 v) (hcL : clL H.1 L) (hLr : Lr (adr b ws) L ls) (hLn : L.length = m_maxL y) (hS : va_S A s.heap Hc locs)
    (kk : ∀ ls', (∀ v ∈ st', clV H.1 v) → clL H.1 L' → Lr (adr b ws) L' ls' → L'.length = L.length → W p l e R s m args below meth c Hc locs cells slots Q (F0 m pc' ls' (st'.map (eV (adr b ws))))) :
    H' = H ∧ W p l e R s m args below meth c Hc locs cells slots Q (F0 m pc ls (st.map (eV (adr b ws)))) := by
  obtain ⟨hx, hb, hml, hown, hts, hNZ, hX, hbl, hbA, hA, hin, hRf, hRl⟩ := C
  obtain ⟨hD0, hX0⟩ := ft_ok hf
  have hsz : c.maxLocals = ls.size := by rw [hml, hLr.1, hLn]
  unfold stpI at hs
  split at hs
  · obtain ⟨x, hv, rfl, rfl, rfl, rfl⟩ := rd_inv hs
    obtain ⟨z, rfl, hl⟩ := ldI_inv hv
    exact ⟨rfl, lv_iload hx hb (okD_dec hD0 rfl) (hLr.ge hl) (kk ls (clc (clI z) hcS) hcL hLr rfl)⟩
  · obtain ⟨x, hv, rfl, rfl, rfl, rfl⟩ := rd_inv hs
    obtain ⟨z, rfl, hl⟩ := ldI_inv hv
    exact ⟨rfl, lv_iload_n hx hb (okD_dec hD0 rfl) rfl (hLr.ge hl) (kk ls (clc (clI z) hcS) hcL hLr rfl)⟩
  · obtain ⟨x, hv, rfl, rfl, rfl, rfl⟩ := rd_inv hs
    obtain ⟨z, rfl, hl⟩ := ldJ_inv hv
    exact ⟨rfl, lv_lload hx hb (okD_dec hD0 rfl) (hLr.ge hl) (kk ls (clc (clJ z) hcS) hcL hLr rfl)⟩
  · obtain ⟨x, hv, rfl, rfl, rfl, rfl⟩ := rd_inv hs
    obtain ⟨z, rfl, hl⟩ := ldJ_inv hv
    exact ⟨rfl, lv_lload_n hx hb (okD_dec hD0 rfl) rfl (hLr.ge hl) (kk ls (clc (clJ z) hcS) hcL hLr rfl)⟩
  · obtain ⟨x, hv, rfl, rfl, rfl, rfl⟩ := rd_inv hs
    obtain ⟨z, rfl, hl⟩ := ldD_inv hv
    exact ⟨rfl, lv_dload hx hb (okD_dec hD0 rfl) (hLr.ge hl) (kk ls (clc (clDd z) hcS) hcL hLr rfl)⟩
  · obtain ⟨x, hv, rfl, rfl, rfl, rfl⟩ := rd_inv hs
    obtain ⟨z, rfl, hl⟩ := ldD_inv hv
    exact ⟨rfl, lv_dload_n hx hb (okD_dec hD0 rfl) rfl (hLr.ge hl) (kk ls (clc (clDd z) hcS) hcL hLr rfl)⟩
  · obtain ⟨x, hv, rfl, rfl, rfl, rfl⟩ := rd_inv hs
    rcases ldA_inv hv with ⟨z, rfl, hl⟩ | ⟨rfl, hl⟩
    · exact ⟨rfl, lv_aload hx hb (okD_dec hD0 rfl) (hLr.ge hl) (kk ls (clc (hcL.ge hl) hcS) hcL hLr rfl)⟩
    · exact ⟨rfl, lv_aloadN hx hb (okD_dec hD0 rfl) (hLr.ge hl) (kk ls (clc clNl hcS) hcL hLr rfl)⟩
  · obtain ⟨x, hv, rfl, rfl, rfl, rfl⟩ := rd_inv hs
    rcases ldA_inv hv with ⟨z, rfl, hl⟩ | ⟨rfl, hl⟩
    · exact ⟨rfl, lv_aload_n hx hb (okD_dec hD0 rfl) rfl (hLr.ge hl) (kk ls (clc (hcL.ge hl) hcS) hcL hLr rfl)⟩
    · exact ⟨rfl, lv_aload_nN hx hb (okD_dec hD0 rfl) rfl (hLr.ge hl) (kk ls (clc clNl hcS) hcL hLr rfl)⟩
  · split at hs
    · obtain ⟨hv, rfl, rfl, rfl⟩ := sr_inv hs
      exact ⟨rfl, lv_istore hx hb (okD_dec hD0 rfl) hLr (sto1_inv hv).1 rfl (fun ls' h' => kk ls' (clt hcS) (hcL.st1 hv (clI _)) (Lr.sto1 hv h') (sto1_len hv))⟩
    · cases hs
  · split at hs
    · obtain ⟨hv, rfl, rfl, rfl⟩ := sr_inv hs
      exact ⟨rfl, lv_istore_n hx hb (okD_dec hD0 rfl) rfl hLr (sto1_inv hv).1 rfl (fun ls' h' => kk ls' (clt hcS) (hcL.st1 hv (clI _)) (Lr.sto1 hv h') (sto1_len hv))⟩
    · cases hs
  · split at hs
    · obtain ⟨hv, rfl, rfl, rfl⟩ := sr_inv hs
      exact ⟨rfl, lv_lstore hx hb (okD_dec hD0 rfl) hLr (sto2_inv hv).1 rfl (fun ls' h' => kk ls' (clt hcS) (hcL.st2 hv (clJ _)) (Lr.sto2 hv h') (sto2_len hv))⟩
    · cases hs
  · split at hs
    · obtain ⟨hv, rfl, rfl, rfl⟩ := sr_inv hs
      exact ⟨rfl, lv_lstore_n hx hb (okD_dec hD0 rfl) rfl hLr (sto2_inv hv).1 rfl (fun ls' h' => kk ls' (clt hcS) (hcL.st2 hv (clJ _)) (Lr.sto2 hv h') (sto2_len hv))⟩
    · cases hs
  · split at hs
    · obtain ⟨hv, rfl, rfl, rfl⟩ := sr_inv hs
      exact ⟨rfl, lv_dstore hx hb (okD_dec hD0 rfl) hLr (sto2_inv hv).1 rfl (fun ls' h' => kk ls' (clt hcS) (hcL.st2 hv (clDd _)) (Lr.sto2 hv h') (sto2_len hv))⟩
    · cases hs
  · split at hs
    · obtain ⟨hv, rfl, rfl, rfl⟩ := sr_inv hs
      exact ⟨rfl, lv_dstore_n hx hb (okD_dec hD0 rfl) rfl hLr (sto2_inv hv).1 rfl (fun ls' h' => kk ls' (clt hcS) (hcL.st2 hv (clDd _)) (Lr.sto2 hv h') (sto2_len hv))⟩
    · cases hs
  · split at hs
    · obtain ⟨hv, rfl, rfl, rfl⟩ := sr_inv hs
      exact ⟨rfl, lv_astore hx hb (okD_dec hD0 rfl) hLr (sto1_inv hv).1 rfl (fun ls' h' => kk ls' (clt hcS) (hcL.st1 hv (hcS _ List.mem_cons_self)) (Lr.sto1 hv h') (sto1_len hv))⟩
    · obtain ⟨hv, rfl, rfl, rfl⟩ := sr_inv hs
      exact ⟨rfl, lv_astoreN hx hb (okD_dec hD0 rfl) hLr (sto1_inv hv).1 rfl (fun ls' h' => kk ls' (clt hcS) (hcL.st1 hv clNl) (Lr.sto1 hv h') (sto1_len hv))⟩
    · cases hs
  · split at hs
    · obtain ⟨hv, rfl, rfl, rfl⟩ := sr_inv hs
      exact ⟨rfl, lv_astore_n hx hb (okD_dec hD0 rfl) rfl hLr (sto1_inv hv).1 rfl (fun ls' h' => kk ls' (clt hcS) (hcL.st1 hv (hcS _ List.mem_cons_self)) (Lr.sto1 hv h') (sto1_len hv))⟩
    · obtain ⟨hv, rfl, rfl, rfl⟩ := sr_inv hs
      exact ⟨rfl, lv_astore_nN hx hb (okD_dec hD0 rfl) rfl hLr (sto1_inv hv).1 rfl (fun ls' h' => kk ls' (clt hcS) (hcL.st1 hv clNl) (Lr.sto1 hv h') (sto1_len hv))⟩
    · cases hs
  · split at hs
    · rename_i x hl0
      obtain ⟨z, hz, hl⟩ := ldI_inv hl0
      cases hz
      obtain ⟨hv, rfl, rfl, rfl⟩ := sr_inv hs
      obtain ⟨j, hj⟩ := List.getElem?_of_mem (mem_lvs (α := adr b ws).mpr ⟨_, hl, rfl⟩)
      exact ⟨rfl, lv_iinc hx hb (okD_dec hD0 rfl) hLr hj rfl (sto1_inv hv).1 rfl (fun ls' h' => kk ls' hcS (hcL.st1 hv (clI _)) (Lr.sto1 hv h') (sto1_len hv))⟩
    · cases hs
  · obtain ⟨ht, rfl, rfl, rfl⟩ := go_inv hs
    exact ⟨rfl, lv_goto hx hb (okD_dec hD0 rfl) ht (kk ls hcS hcL hLr rfl)⟩
  · split at hs
    · obtain ⟨tg, ht, rfl, rfl, rfl, rfl⟩ := br_inv hs
      exact ⟨rfl, if_W hx hb (okD_dec hD0 rfl) ht (kk ls (clt hcS) hcL hLr rfl)⟩
    · cases hs
  · split at hs
    · obtain ⟨tg, ht, rfl, rfl, rfl, rfl⟩ := br_inv hs
      exact ⟨rfl, icmp_W hx hb (okD_dec hD0 rfl) ht (kk ls (clt (clt hcS)) hcL hLr rfl)⟩
    · cases hs
  · split at hs
    · obtain ⟨tg, ht, rfl, rfl, rfl, rfl⟩ := br_inv hs
      exact ⟨rfl, lv_ifnullN hx hb (okD_dec hD0 rfl) ht (kk ls (clt hcS) hcL hLr rfl)⟩
    · obtain ⟨tg, ht, rfl, rfl, rfl, rfl⟩ := br_inv hs
      exact ⟨rfl, lv_ifnull hx hb (okD_dec hD0 rfl) (kk ls (clt hcS) hcL hLr rfl)⟩
    · cases hs
  · split at hs
    · obtain ⟨tg, ht, rfl, rfl, rfl, rfl⟩ := br_inv hs
      exact ⟨rfl, lv_ifnonnullN hx hb (okD_dec hD0 rfl) (kk ls (clt hcS) hcL hLr rfl)⟩
    · obtain ⟨tg, ht, rfl, rfl, rfl, rfl⟩ := br_inv hs
      exact ⟨rfl, lv_ifnonnull hx hb (okD_dec hD0 rfl) ht (kk ls (clt hcS) hcL hLr rfl)⟩
    · cases hs
  · split at hs
    · unfold sw at hs
      obtain ⟨n, hd⟩ := okD_sw hD0
      split at hs
      · rename_i ho
        obtain ⟨ht, rfl, rfl, rfl⟩ := go_inv hs
        exact ⟨rfl, lv_tableOut hx hb hd ho ht (kk ls (clt hcS) hcL hLr rfl)⟩
      · rename_i ho
        split at hs
        · rename_i off hoff
          obtain ⟨ht, rfl, rfl, rfl⟩ := go_inv hs
          exact ⟨rfl, lv_tableIn hx hb hd (fun q => ho (Or.inl q)) (fun q => ho (Or.inr q)) hoff ht (kk ls (clt hcS) hcL hLr rfl)⟩
        · cases hs
    · cases hs
  · obtain ⟨rfl, rfl, rfl, rfl⟩ := nx_inv hs
    unfold okX at hX0
    dsimp only at hX0
    split at hX0
    · rename_i v hv
      have hk := kk ls
      rw [hv] at hk
      exact ⟨rfl, lv_ldc2 hx hb hown (hts _ (okW_in hX0)) (okD_dec hD0 rfl) (hk (clc (clJ v) hcS) hcL hLr rfl)⟩
    · rename_i v hv
      have hk := kk ls
      rw [hv] at hk
      exact ⟨rfl, lv_ldc2d hx hb hown (hts _ (okW_in hX0)) (okD_dec hD0 rfl) (hk (clc (clDd v) hcS) hcL hLr rfl)⟩
    · cases hX0
  · split at hs
    · rename_i a r
      obtain ⟨x, hv, rfl, rfl, rfl, rfl⟩ := rd_inv hs
      have ha : a < H'.1 := hcS _ List.mem_cons_self a rfl
      unfold gF at hv
      split at hv
      · rename_i ci fs hg
        split at hv
        · rename_i hci
          subst hci
          obtain ⟨k, rfl, hk⟩ := w.obj ha hg
          unfold okX okF at hX0
          dsimp only at hX0
          rw [Bool.and_eq_true, decide_eq_true_eq] at hX0
          obtain ⟨⟨h10, hkN⟩, hw0⟩ := hX0
          obtain ⟨T, hT, hvF, hin2, -⟩ := cls_at h10
          rw [hvF] at hw0
          have hcv : clV H'.1 x := by
            have h4 := w.2.2.2.1 _ ha
            rw [hg] at h4
            exact h4 x (List.mem_of_getElem? hv)
          exact ⟨rfl, va_get hx hb hts hin2 hown w.2.2.2.2.2.2 w.2.2.2.2.1 k hk hT ax.2.1 hkN (hts _ (okW_in hw0)) (fun _ h => h) (v := eV (adr b ws) x) (by rw [List.getElem?_map, hv]; rfl) (okD_dec hD0 rfl) (kk ls (clc hcv (clt hcS)) hcL hLr rfl)⟩
        · cases hv
      · cases hv
    · cases hs
  · cases hh
  · split at hs
    · rename_i a r
      obtain ⟨x, hv, rfl, rfl, rfl, rfl⟩ := rd_inv hs
      have ha : a < H'.1 := hcS _ List.mem_cons_self a rfl
      unfold aLen at hv
      split at hv
      · rename_i ty n pl hg
        cases hv
        by_cases h0 : a = 0
        · subst h0
          have hg2 := w.2.1
          rw [hg] at hg2
          cases hg2
          exact ⟨rfl, va_slen (b := b) hx hb hX hbl hbA hS (okD_dec hD0 rfl) (kk ls (clc (clI _) (clt hcS)) hcL hLr rfl)⟩
        · obtain ⟨k, cA, t0, rfl, hk, ht⟩ := w.arr ha h0 hg
          exact ⟨rfl, va_alen hx hb w.2.2.2.2.2.2 w.2.2.2.2.1 k t0 hk ht rfl (okD_dec hD0 rfl) (kk ls (clc (clI _) (clt hcS)) hcL hLr rfl)⟩
      · cases hv
    · cases hs
  · split at hs
    · rename_i j a r
      obtain ⟨x, hv, rfl, rfl, rfl, rfl⟩ := rd_inv hs
      have ha : a < H'.1 := clt hcS _ List.mem_cons_self a rfl
      unfold aGI at hv
      split at hv
      · rename_i ty n f hg
        split at hv
        · rename_i hq
          obtain ⟨rfl, hin3⟩ := hq
          cases hv
          by_cases h0 : a = 0
          · subst h0
            have hg2 := w.2.1
            rw [hg] at hg2
            cases hg2
            exact ⟨rfl, va_sld (b := b) hx hb hX hbl hbA hS (inb_in hin3) (okD_dec hD0 rfl) (kk ls (clc (clI _) (clt (clt hcS))) hcL hLr rfl)⟩
          · obtain ⟨k, cA, t0, rfl, hk, ht⟩ := w.arr ha h0 hg
            exact ⟨rfl, va_iald hx hb w.2.2.2.2.2.2 w.2.2.2.2.1 k t0 hk ht (inb_in hin3) (okD_dec hD0 rfl) (kk ls (clc (clI _) (clt (clt hcS))) hcL hLr rfl)⟩
        · cases hv
      · cases hv
    · cases hs
  · split at hs
    · rename_i j a r
      obtain ⟨x, hv, rfl, rfl, rfl, rfl⟩ := rd_inv hs
      have ha : a < H'.1 := clt hcS _ List.mem_cons_self a rfl
      unfold aGI at hv
      split at hv
      · rename_i ty n f hg
        split at hv
        · rename_i hq
          obtain ⟨rfl, hin3⟩ := hq
          cases hv
          have h0 : a ≠ 0 := by
            rintro rfl
            have hg2 := w.2.1
            rw [hg] at hg2
            cases hg2
          obtain ⟨k, cA, t0, rfl, hk, ht⟩ := w.arr ha h0 hg
          exact ⟨rfl, va_zald hx hb w.2.2.2.2.2.2 w.2.2.2.2.1 k t0 hk ht (inb_in hin3) (okD_dec hD0 rfl) (kk ls (clc (clI _) (clt (clt hcS))) hcL hLr rfl)⟩
        · cases hv
      · cases hv
    · cases hs
  · split at hs
    · rename_i j a r
      obtain ⟨x, hv, rfl, rfl, rfl, rfl⟩ := rd_inv hs
      have ha : a < H'.1 := clt hcS _ List.mem_cons_self a rfl
      unfold aGL at hv
      split at hv
      · rename_i ty n f hg
        split at hv
        · rename_i hq
          obtain ⟨rfl, hin3⟩ := hq
          cases hv
          have h0 : a ≠ 0 := by
            rintro rfl
            have hg2 := w.2.1
            rw [hg] at hg2
            cases hg2
          obtain ⟨k, cA, t0, rfl, hk, ht⟩ := w.arr ha h0 hg
          exact ⟨rfl, va_lald hx hb w.2.2.2.2.2.2 w.2.2.2.2.1 k t0 hk ht (inb_in hin3) (okD_dec hD0 rfl) (kk ls (clc (clJ _) (clt (clt hcS))) hcL hLr rfl)⟩
        · cases hv
      · cases hv
    · cases hs
  · split at hs
    · rename_i j a r
      obtain ⟨x, hv, rfl, rfl, rfl, rfl⟩ := rd_inv hs
      have ha : a < H'.1 := clt hcS _ List.mem_cons_self a rfl
      unfold aGD at hv
      split at hv
      · rename_i ty n f hg
        split at hv
        · rename_i hq
          obtain ⟨rfl, hin3⟩ := hq
          cases hv
          have h0 : a ≠ 0 := by
            rintro rfl
            have hg2 := w.2.1
            rw [hg] at hg2
            cases hg2
          obtain ⟨k, cA, t0, rfl, hk, ht⟩ := w.arr ha h0 hg
          exact ⟨rfl, va_dald hx hb w.2.2.2.2.2.2 w.2.2.2.2.1 k t0 hk ht (inb_in hin3) (okD_dec hD0 rfl) (kk ls (clc (clDd _) (clt (clt hcS))) hcL hLr rfl)⟩
        · cases hv
      · cases hv
    · cases hs
  · split at hs
    · rename_i j a r
      obtain ⟨x, hv, rfl, rfl, rfl, rfl⟩ := rd_inv hs
      have ha : a < H'.1 := clt hcS _ List.mem_cons_self a rfl
      unfold aGR at hv
      split at hv
      · rename_i ty n f hg
        split at hv
        · rename_i hq
          obtain ⟨hO, hin3⟩ := hq
          cases hv
          have h0 : a ≠ 0 := by
            rintro rfl
            have hg2 := w.2.1
            rw [hg] at hg2
            cases hg2
          have hcr : clV H'.1 (va_rf (f j.toNatClampNeg)) := by
            intro z hz
            have h4 := w.2.2.2.1 _ ha
            rw [hg] at h4
            cases hfj : f j.toNatClampNeg with
            | none => rw [hfj] at hz; cases hz
            | some u => rw [hfj] at hz; cases hz; exact h4 f rfl _ _ hfj
          obtain ⟨k, cA, t0, rfl, hk, ht⟩ := w.arr ha h0 hg
          cases ty <;> first | cases hO | skip
          have hk2 := kk ls (clc hcr (clt (clt hcS))) hcL hLr rfl
          have e1 : (va_rf (f j.toNatClampNeg) :: r).map (eV (adr b ws)) = va_rf ((f j.toNatClampNeg).map (adr b ws)) :: r.map (eV (adr b ws)) := by
            cases f j.toNatClampNeg <;> rfl
          rw [e1] at hk2
          exact ⟨rfl, va_aldq hx hb w.2.2.2.2.2.2 w.2.2.2.2.1 k t0 hk ht (inb_in hin3) (okD_dec hD0 rfl) hk2⟩
        · cases hv
      · cases hv
    · cases hs
  · cases hh
  · cases hh
  · cases hh
  · cases hh
  · cases hh
  · cases hh
  · cases hh
  · cases hh
  · unfold rt at hs
    split at hs
    · split at hs
      · cases hs
      · split at hs <;> cases hs
      · cases hs
    · cases hs
  · unfold rtL at hs
    split at hs
    · split at hs <;> cases hs
    · cases hs
  · unfold rtD at hs
    split at hs
    · split at hs <;> cases hs
    · cases hs
  · unfold rtV at hs
    split at hs
    · split at hs <;> cases hs
    · cases hs
  · unfold stpS at hs
    split at hs
    · rename_i h1
      unfold okX at hX0
      dsimp only at hX0
      rw [if_pos h1] at hX0
      split at hs
      · split at hs
        · rename_i hq
          obtain ⟨rfl, rfl, rfl, rfl⟩ := nx_inv hs
          exact ⟨rfl, vn_l2d hx hb hsz hown (hts _ (okW_in hX0)) (hts _ uNat.1.1) (hts _ uNat.1.2) (hts _ uNat.2.2) hq.1 (Nat.le_trans hq.2.1 hRf) (by rw [eV_wd]; exact Nat.le_trans hq.2.2 hRl) (okD_dec hD0 rfl) (kk ls (clc (clDd _) (clt hcS)) hcL hLr rfl)⟩
        · cases hs
      · cases hs
    · rename_i h1
      split at hs
      · rename_i h2
        unfold okX at hX0
        dsimp only at hX0
        rw [if_neg h1, if_pos h2] at hX0
        split at hs
        · split at hs
          · rename_i hq
            obtain ⟨rfl, rfl, rfl, rfl⟩ := nx_inv hs
            exact ⟨rfl, vn_d2l hx hb hsz hown (hts _ (okW_in hX0)) (hts _ uNat.2.1.1) (hts _ uNat.2.1.2) (hts _ uNat.2.2) (Nat.le_trans hq.1 hRf) (by rw [eV_wd]; exact Nat.le_trans hq.2 hRl) (okD_dec hD0 rfl) (kk ls (clc (clJ _) (clt hcS)) hcL hLr rfl)⟩
          · cases hs
        · cases hs
      · split at hs
        · unfold clA at hs; cases hs
        · cases hs
  · unfold stpV at hs
    split at hs
    · unfold clA at hs; cases hs
    · cases hs
  · unfold stpN at hs
    split at hs
    · rename_i h1
      unfold okX at hX0
      dsimp only at hX0
      rw [if_pos h1] at hX0
      split at hs
      · split at hs
        · rename_i hq
          obtain ⟨rfl, rfl, rfl, rfl⟩ := nx_inv hs
          exact ⟨rfl, W.objInit hx hb hown (hts _ (okW_in hX0)) (hts _ uObj.1) (hts _ uObj.2) rfl hsz.symm rfl (okD_dec hD0 rfl) (Nat.le_trans hq.1 hRf) (by show 2 * 0 + _ + 12 ≤ _; rw [eV_wd]; have := Nat.le_trans hq.2 hRl; omega) (kk ls (clt hcS) hcL hLr rfl)⟩
        · cases hs
      · cases hs
    · split at hs
      · unfold clA at hs; cases hs
      · cases hs
  · split at hs
    · rename_i st1 ha
      obtain ⟨rfl, rfl, rfl, rfl⟩ := nx_inv hs
      have hsw : isSw i = false := by
        cases i <;> first | rfl | (exfalso; simp [alu] at ha; done)
      exact ⟨rfl, alu_W ha hx hb (okD_dec hD0 hsw) (kk ls (alu_cl ha hcS) hcL hLr rfl)⟩
    · cases hs
end SMALL3

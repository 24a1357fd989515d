/-! THE SMALL MACHINE IS TRUE TO THE MACHINE, 5: calls, and a whole run -/
def retOf (i : Instr) (v : Option Value) (y : Nat) : Prop :=
  (i = .ireturn ∧ ∃ x, v = some (.int x) ∧ (m_ret y = some .int ∨ (m_ret y = some .boolean ∧ (x = 0 ∨ x = 1)))) ∨ (i = .lreturn ∧ ∃ x, v = some (.long x) ∧ m_ret y = some .long) ∨ (i = .dreturn ∧ ∃ x, v = some (.double x) ∧ m_ret y = some .double) ∨ (i = .return_ ∧ v = none ∧ m_ret y = none)
section SMALL5
variable {p : Program} {l : Launch} {e : Env} {R : Room} {s : State} {m : MethodId} {args : Array Value} {below : List Frame} {meth : Method} {c : Code} {Hc : Heap} {locs : List Loc} {cells slots : Nat} {Q : State → Prop}
variable {cc : ByteArray} {ls : Array Slot} {rest : List Value}
variable {D : va_G} {A : Nat → Prop} {b Ls : Nat} {xs : Nat → Int32} {H H' : HP} {ws : va_W} {tys : List (ClassId × FieldType)} {y z pc pc' : Nat} {i : Instr} {ax : Ax} {L L' : List (Option Value)} {st st' as : List Value} {v : Option Value} {F' : Fr}
theorem ret_inv (hs : stpI y i ax pc L st H = some (.inr (.inl v))) : retOf i v y ∧ st = v.toList := by
  unfold stpI at hs
  split at hs
  all_goals first
    | (exfalso; unfold rd at hs; split at hs <;> first | (unfold nx at hs; cases hs; done) | (cases hs; done))
    | (exfalso; unfold go nx at hs; split at hs <;> cases hs; done)
    | (exfalso; unfold nx at hs; cases hs; done)
    | (exfalso; split at hs <;> first | (unfold sr at hs; split at hs <;> first | (unfold nx at hs; cases hs; done) | (cases hs; done)) | (cases hs; done))
    | (exfalso; split at hs <;> first | (unfold br nx at hs; split at hs <;> cases hs; done) | (cases hs; done))
    | (exfalso; split at hs <;> first | (unfold rd at hs; split at hs <;> first | (unfold nx at hs; cases hs; done) | (cases hs; done)) | (cases hs; done))
    | (exfalso; split at hs <;> first | (unfold wr at hs; split at hs <;> first | (split at hs <;> first | (unfold nx at hs; cases hs; done) | (cases hs; done)) | (cases hs; done)) | (cases hs; done))
    | (exfalso; split at hs <;> first | (unfold sw go nx at hs; split at hs <;> first | (split at hs <;> cases hs; done) | (split at hs <;> first | (split at hs <;> cases hs; done) | (cases hs; done))) | (cases hs; done))
    | (exfalso; split at hs <;> first | (split at hs <;> first | (split at hs <;> first | (unfold nx at hs; cases hs; done) | (cases hs; done)) | (cases hs; done)) | (cases hs; done))
    | (exfalso; split at hs <;> first | (split at hs <;> first | (unfold nx at hs; cases hs; done) | (cases hs; done)) | (cases hs; done))
    | (exfalso; split at hs <;> first | (unfold nx at hs; cases hs; done) | (cases hs; done))
    | (exfalso; unfold stpS at hs; split at hs <;> first | (split at hs <;> first | (split at hs <;> first | (unfold nx at hs; cases hs; done) | (cases hs; done)) | (cases hs; done)) | (split at hs <;> first | (split at hs <;> first | (split at hs <;> first | (unfold nx at hs; cases hs; done) | (cases hs; done)) | (cases hs; done)) | (split at hs <;> first | (unfold clA at hs; cases hs; done) | (cases hs; done))))
    | (exfalso; unfold stpV at hs; split at hs <;> first | (unfold clA at hs; cases hs; done) | (cases hs; done))
    | (exfalso; unfold stpN at hs; split at hs <;> first | (split at hs <;> first | (split at hs <;> first | (unfold nx at hs; cases hs; done) | (cases hs; done)) | (cases hs; done)) | (split at hs <;> first | (unfold clA at hs; cases hs; done) | (cases hs; done)))
    | skip
  · unfold rt at hs
    split at hs
    · rename_i x
      split at hs
      · rename_i hr; cases hs; exact ⟨Or.inl ⟨rfl, x, rfl, Or.inl hr⟩, rfl⟩
      · rename_i hr
        split at hs
        · rename_i hq; cases hs; exact ⟨Or.inl ⟨rfl, x, rfl, Or.inr ⟨hr, hq⟩⟩, rfl⟩
        · cases hs
      · cases hs
    · cases hs
  · unfold rtL at hs
    split at hs
    · rename_i x
      split at hs
      · rename_i hr; cases hs; exact ⟨Or.inr (Or.inl ⟨rfl, x, rfl, hr⟩), rfl⟩
      · cases hs
    · cases hs
  · unfold rtD at hs
    split at hs
    · rename_i x
      split at hs
      · rename_i hr; cases hs; exact ⟨Or.inr (Or.inr (Or.inl ⟨rfl, x, rfl, hr⟩)), rfl⟩
      · cases hs
    · cases hs
  · unfold rtV at hs
    split at hs
    · split at hs
      · rename_i hr; cases hs; exact ⟨Or.inr (Or.inr (Or.inr ⟨rfl, rfl, hr⟩)), rfl⟩
      · cases hs
    · cases hs
/-- what a call step says -/
def callF (y z n pc : Nat) (as : List Value) (L : List (Option Value)) (st : List Value) (F' : Fr) : Prop := z < 190 ∧ F' = (pc + 3, L, st.drop n) ∧ as = (st.take n).reverse ∧ n ≤ st.length ∧ wd (st.drop n) ≤ 8 ∧ m_nf z + 1 ≤ m_nf y ∧ 8 + (m_maxL z + 11) + m_nl z ≤ m_nl y
theorem clOk_inv {kd n : Nat} (h : clOk y z kd n st = true) : m_kd z = kd ∧ callF y z n pc (st.take n).reverse L st (pc + 3, L, st.drop n) := by
  unfold clOk rmOk at h
  rw [Bool.and_eq_true, decide_eq_true_eq, decide_eq_true_eq] at h
  obtain ⟨⟨h1, h2, h3, h4⟩, h5, h6⟩ := h
  exact ⟨h2, h1, rfl, rfl, h3, h4, h5, h6⟩
theorem call_inv (hs : stpI y i ax pc L st H = some (.inr (.inr (z, as, F')))) :
    z = ax.1 ∧ ((∃ idx, i = .invokestatic idx ∧ m_kd z = 0 ∧ ax.1 ≠ 1001 ∧ ax.1 ≠ 1002 ∧ callF y z (m_np z) pc as L st F') ∨ (∃ idx, i = .invokevirtual idx ∧ m_kd z = 1 ∧ rcv as H (m_ci z) = true ∧ callF y z (m_np z + 1) pc as L st F') ∨ (∃ idx, i = .invokespecial idx ∧ m_kd z = 2 ∧ ax.1 ≠ 1000 ∧ rcvI as = true ∧ callF y z (m_np z + 1) pc as L st F')) := by
  unfold stpI at hs
  split at hs
  all_goals first
    | (exfalso; unfold rd at hs; split at hs <;> first | (unfold nx at hs; cases hs; done) | (cases hs; done))
    | (exfalso; unfold go nx at hs; split at hs <;> cases hs; done)
    | (exfalso; unfold nx at hs; cases hs; done)
    | (exfalso; split at hs <;> first | (unfold sr at hs; split at hs <;> first | (unfold nx at hs; cases hs; done) | (cases hs; done)) | (cases hs; done))
    | (exfalso; split at hs <;> first | (unfold br nx at hs; split at hs <;> cases hs; done) | (cases hs; done))
    | (exfalso; split at hs <;> first | (unfold rd at hs; split at hs <;> first | (unfold nx at hs; cases hs; done) | (cases hs; done)) | (cases hs; done))
    | (exfalso; split at hs <;> first | (unfold wr at hs; split at hs <;> first | (split at hs <;> first | (unfold nx at hs; cases hs; done) | (cases hs; done)) | (cases hs; done)) | (cases hs; done))
    | (exfalso; split at hs <;> first | (unfold sw go nx at hs; split at hs <;> first | (split at hs <;> cases hs; done) | (split at hs <;> first | (split at hs <;> cases hs; done) | (cases hs; done))) | (cases hs; done))
    | (exfalso; split at hs <;> first | (split at hs <;> first | (split at hs <;> first | (unfold nx at hs; cases hs; done) | (cases hs; done)) | (cases hs; done)) | (cases hs; done))
    | (exfalso; split at hs <;> first | (split at hs <;> first | (unfold nx at hs; cases hs; done) | (cases hs; done)) | (cases hs; done))
    | (exfalso; split at hs <;> first | (unfold nx at hs; cases hs; done) | (cases hs; done))
    | (exfalso; unfold rt at hs; split at hs <;> first | (split at hs <;> first | (cases hs; done) | (split at hs <;> cases hs; done)) | (cases hs; done))
    | (exfalso; unfold rtL at hs; split at hs <;> first | (split at hs <;> cases hs; done) | (cases hs; done))
    | (exfalso; unfold rtD at hs; split at hs <;> first | (split at hs <;> cases hs; done) | (cases hs; done))
    | (exfalso; unfold rtV at hs; split at hs <;> first | (split at hs <;> cases hs; done) | (cases hs; done))
    | skip
  · rename_i idx
    unfold stpS at hs
    split at hs
    · exfalso
      split at hs <;> first | (split at hs <;> first | (unfold nx at hs; cases hs; done) | (cases hs; done)) | (cases hs; done)
    · rename_i h1
      split at hs
      · exfalso
        split at hs <;> first | (split at hs <;> first | (unfold nx at hs; cases hs; done) | (cases hs; done)) | (cases hs; done)
      · rename_i h2
        split at hs
        · rename_i hq
          unfold clA at hs
          cases hs
          obtain ⟨k1, k2⟩ := clOk_inv (pc := pc) (L := L) hq
          exact ⟨rfl, Or.inl ⟨idx, rfl, k1, h1, h2, k2⟩⟩
        · cases hs
  · rename_i idx
    unfold stpV at hs
    split at hs
    · rename_i hq
      unfold clA at hs
      cases hs
      obtain ⟨k1, k2⟩ := clOk_inv (pc := pc) (L := L) hq.1
      exact ⟨rfl, Or.inr (Or.inl ⟨idx, rfl, k1, hq.2, k2⟩)⟩
    · cases hs
  · rename_i idx
    unfold stpN at hs
    split at hs
    · exfalso
      split at hs <;> first | (split at hs <;> first | (unfold nx at hs; cases hs; done) | (cases hs; done)) | (cases hs; done)
    · rename_i h1
      split at hs
      · rename_i hq
        unfold clA at hs
        cases hs
        obtain ⟨k1, k2⟩ := clOk_inv (pc := pc) (L := L) hq.1
        exact ⟨rfl, Or.inr (Or.inr ⟨idx, rfl, k1, h1, hq.2, k2⟩)⟩
      · cases hs
/-- a called method's start and end -/
def Pz (D : va_G) (A : Nat → Prop) (b Ls : Nat) (xs : Nat → Int32) (H : HP) (ws : va_W) (tys : List (ClassId × FieldType)) (as : List Value) : Array Value → State → Prop := fun a U =>
  a = (as.map (eV (adr b ws))).toArray ∧ Wd D A b Ls xs H ws tys U.heap U ∧ NZ U ∧ va_X b Ls xs U U.heap ∧ b < U.heap.size ∧ ∀ q, U.heap.size ≤ q → A q
def Qz (D : va_G) (A : Nat → Prop) (b Ls : Nat) (xs : Nat → Int32) (H : HP) (ws : va_W) (v : Option Value) (H1 : HP) : Array Value → State → Outcome → State → Prop := fun _ st oc t =>
  (∃ (ws' : va_W) (tys' : List (ClassId × FieldType)), oc = .returned (v.map (eV (adr b ws'))) ∧ Wd D A b Ls xs H1 ws' tys' t.heap t ∧ (∀ x, v = some x → clV H1.1 x) ∧ ∀ a, a < H.1 → adr b ws' a = adr b ws a) ∧ va_F A st t
abbrev WZ (z : Nat) : List Cond := Cond.code (m_name z) (m_bytes z) (m_maxL z) (m_ret z) :: WS
abbrev RZ (z mc ms : Nat) : Room := { frames := m_nf z, cells := mc, slots := ms, locals := m_nl z }
theorem Pz.blind : FrameBlind (Pz D A b Ls xs H ws tys as) := by
  intro a U g mk h
  obtain ⟨h1, h2, h3, h4, h5, h6⟩ := h
  exact ⟨h1, h2.moved (u := U) (U := U.calling g mk a) (Vm.Alike.refl U.vm), NZ.same (u := U) (U := U.calling g mk a) rfl h3, va_X.moved (u := U) (U := U.calling g mk a) (Vm.Alike.refl U.vm) h4, h5, h6⟩
/-- how a called method's contract is used -/
theorem call_go {mc ms : Nat} {H1 : HP} {st0 : List Value} {a : Array Value} (hr : va_Run p l e R s m args below meth c Hc locs cells slots mc ms (F0 m pc ls st0) rest (Qz D A b Ls xs H ws v H1 a) A) (hS : va_S A s.heap Hc locs)
    (kk : ∀ (Hc' : Heap) (locs' : List Loc) (ws' : va_W) (tys' : List (ClassId × FieldType)), Wd D A b Ls xs H1 ws' tys' Hc' s → (∀ x, v = some x → clV H1.1 x) → va_S A s.heap Hc' locs' → (∀ a, a < H.1 → adr b ws' a = adr b ws a) → W p l e R s m args below meth c Hc' locs' (cells + mc) (slots + ms) Q (F0 m (pc + 3) ls ((v.map (eV (adr b ws'))).toList ++ rest))) :
    W p l e R s m args below meth c Hc locs cells slots Q (F0 m pc ls st0) := by
  intro T hT X
  obtain ⟨v1, st₀, t, T', L1, h0, X', hL, e1, e2, ⟨⟨ws', tys', hv, hw, hcv, hsm⟩, hz, hk⟩, st⟩ := hr T hT X
  cases hv
  rw [h0] at hz hk
  obtain ⟨t2, a1, b1⟩ := kk T'.heap (locs ++ L1) ws' tys' (by rw [e1]; exact hw.moved (by rw [← e2]; exact X'.warmed.alike.symm)) hcv
    ⟨Nat.le_trans hS.1 (by rw [e1]; exact hz), fun q h1 h2 => by rw [e1, hk q (Nat.lt_of_lt_of_le h1 hS.1) h2]; exact hS.2.1 q h1 h2, fun q hq => by
      rcases List.mem_append.mp hq with h | h
      · exact hS.2.2 q h
      · exact hL q h⟩ hsm T' rfl X'
  exact ⟨t2, st t2 a1, b1⟩
end SMALL5

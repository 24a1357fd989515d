/-! THE SMALL MACHINE IS TRUE TO THE MACHINE, 2: the world -/
def NZ (U : State) : Prop := (∀ w ∈ NL, va_Nw w U) ∧ ∀ C ∈ AL, va_AO C U
theorem NZ.warm {s U : State} (hW : s.WarmedH U.vm) (h : NZ s) : NZ U := by
  refine ⟨fun w hw => ?_, fun C hC => va_AO.moved hW.alike (h.2 C hC)⟩
  have h1 := h.1 w hw
  unfold NL at hw
  simp only [List.mem_cons, List.not_mem_nil, or_false] at hw
  rcases hw with rfl | rfl | rfl
  · exact va_Nw.warmM hW h1
  · exact va_Nw.warmM hW h1
  · exact va_Nw.warmM hW h1
theorem NZ.same {u U : State} (h : u.vm = U.vm) (q : NZ u) : NZ U := by
  refine ⟨fun w hw => ?_, fun C hC => va_AO.moved (h ▸ Vm.Alike.refl u.vm) (q.2 C hC)⟩
  have h1 := q.1 w hw
  unfold NL at hw
  simp only [List.mem_cons, List.not_mem_nil, or_false] at hw
  rcases hw with rfl | rfl | rfl
  · exact va_Nw.same rfl h h1
  · exact va_Nw.same rfl h h1
  · exact va_Nw.same rfl h h1
def adr (b : Nat) (ws : va_W) (k : Nat) : Nat := match k with
  | 0 => b
  | k + 1 => (match ws[k]? with
    | some q => q.1
    | none => 0)
theorem adr_s {b : Nat} {ws : va_W} {k : Nat} {q : Nat × va_E} (h : ws[k]? = some q) : adr b ws (k + 1) = q.1 := by
  show (match ws[k]? with
    | some q => q.1
    | none => 0) = q.1
  rw [h]
theorem adr_app {b : Nat} {ws w2 : va_W} : ∀ a, a < ws.length + 1 → adr b (ws ++ w2) a = adr b ws a := by
  intro a ha
  cases a with
  | zero => rfl
  | succ k =>
    show (match (ws ++ w2)[k]? with
      | some q => q.1
      | none => 0) = _
    rw [List.getElem?_append_left (by omega)]
    rfl
theorem adr_set {b : Nat} {ws : va_W} {k a : Nat} {e0 e : va_E} (h : ws[k]? = some (a, e0)) : adr b (ws.set k (a, e)) = adr b ws := by
  funext j
  cases j with
  | zero => rfl
  | succ j =>
    show (match (ws.set k (a, e))[j]? with
      | some q => q.1
      | none => 0) = (match ws[j]? with
      | some q => q.1
      | none => 0)
    rw [List.getElem?_set]
    by_cases hk : k = j
    · subst hk
      rw [if_pos rfl, if_pos (List.getElem?_eq_some_iff.mp h).1, h]
    · rw [if_neg hk]
abbrev PL : Type := (Nat → Int32) ⊕ (Nat → Int64) ⊕ (Nat → UInt32) ⊕ (Nat → UInt64) ⊕ (Nat → Option Nat)
def eP (α : Nat → Nat) (x : PL) : PL := match x with
  | .inr (.inr (.inr (.inr f))) => .inr (.inr (.inr (.inr fun j => (f j).map α)))
  | x => x
def cel (α : Nat → Nat) (tys : List (ClassId × FieldType)) (c : AC) (e : va_E) : Prop := match c with
  | .inl q => ∃ (cA : ClassId) (t0 : Nat), e = .inl (cA, q.2.1, eP α q.2.2) ∧ tys[t0]? = some (cA, q.1)
  | .inr q => e = .inr (q.1, q.2.map (eV α))
def clP (n : Nat) (x : PL) : Prop := ∀ f, x = .inr (.inr (.inr (.inr f))) → ∀ j a, f j = some a → a < n
def clC (n : Nat) (c : AC) : Prop := match c with
  | .inl q => clP n q.2.2
  | .inr q => ∀ v ∈ q.2, clV n v
theorem clP.mono {n k : Nat} (h : n ≤ k) {x : PL} (hx : clP n x) : clP k x := fun f e j a q => Nat.lt_of_lt_of_le (hx f e j a q) h
theorem clC.mono {n k : Nat} (h : n ≤ k) {c : AC} (hc : clC n c) : clC k c := by
  cases c with
  | inl q => exact clP.mono h hc
  | inr q => exact fun v hv => (hc v hv).mono h
theorem eP_same {α β : Nat → Nat} {n : Nat} (h : ∀ a, a < n → β a = α a) {x : PL} (hx : clP n x) : eP β x = eP α x := by
  match x, hx with
  | .inl f, _ => rfl
  | .inr (.inl f), _ => rfl
  | .inr (.inr (.inl f)), _ => rfl
  | .inr (.inr (.inr (.inl f))), _ => rfl
  | .inr (.inr (.inr (.inr f))), hx =>
    show (Sum.inr (.inr (.inr (.inr fun j => (f j).map β))) : PL) = Sum.inr (.inr (.inr (.inr fun j => (f j).map α)))
    congr 4
    funext j
    cases hj : f j with
    | none => rfl
    | some a => show some (β a) = some (α a); rw [h a (hx f rfl j a hj)]
theorem cel.same {α β : Nat → Nat} {n : Nat} (h : ∀ a, a < n → β a = α a) {tys tys' : List (ClassId × FieldType)} (ht : ∀ (k : Nat) q, tys[k]? = some q → tys'[k]? = some q) {c : AC} (hc : clC n c) {e : va_E} (he : cel α tys c e) : cel β tys' c e := by
  cases c with
  | inl q =>
    obtain ⟨cA, t0, h1, h2⟩ := he
    exact ⟨cA, t0, by rw [eP_same h hc]; exact h1, ht _ _ h2⟩
  | inr q =>
    show e = .inr (q.1, q.2.map (eV β))
    rw [map_same h hc]
    exact he
/-- the small heap H stands in the machine's heap Hc, cell k + 1 at the place that ws has as its k-th; cell 0 is the script -/
def Wd (D : va_G) (A : Nat → Prop) (b Ls : Nat) (xs : Nat → Int32) (H : HP) (ws : va_W) (tys : List (ClassId × FieldType)) (Hc : Heap) (U : State) : Prop :=
  ws.length + 1 = H.1 ∧ hget H 0 = .inl (.int, Ls, .inl xs) ∧ (∀ (k : Nat) q, ws[k]? = some q → cel (adr b ws) tys (hget H (k + 1)) q.2) ∧ (∀ a, a < H.1 → clC H.1 (hget H a)) ∧ va_P D vCl ws Hc ∧ va_D A ws ∧ va_K D vCl tys U
section WDS
variable {D : va_G} {A : Nat → Prop} {b Ls : Nat} {xs : Nat → Int32} {H : HP} {ws : va_W} {tys : List (ClassId × FieldType)} {Hc : Heap} {U : State}
theorem Wd.pos (w : Wd D A b Ls xs H ws tys Hc U) {a : Nat} (ha : a < H.1) (h0 : a ≠ 0) : ∃ (k : Nat) (e : va_E), a = k + 1 ∧ ws[k]? = some (adr b ws a, e) ∧ cel (adr b ws) tys (hget H a) e := by
  obtain ⟨h1, -, h3, -⟩ := w
  cases a with
  | zero => exact absurd rfl h0
  | succ k =>
    have hk : k < ws.length := by omega
    have he : ws[k]? = some ws[k] := List.getElem?_eq_getElem hk
    have hc := h3 k _ he
    refine ⟨k, (ws[k]).2, rfl, ?_, hc⟩
    rw [he, adr_s he]
theorem Wd.ne0 (w : Wd D A b Ls xs H ws tys Hc U) {a ci : Nat} {fs : List Value} (hg : hget H a = .inr (ci, fs)) : a ≠ 0 := by
  rintro rfl
  rw [w.2.1] at hg
  cases hg
theorem Wd.obj (w : Wd D A b Ls xs H ws tys Hc U) {a ci : Nat} {fs : List Value} (ha : a < H.1) (hg : hget H a = .inr (ci, fs)) : ∃ (k : Nat), a = k + 1 ∧ ws[k]? = some (adr b ws a, .inr (ci, fs.map (eV (adr b ws)))) := by
  obtain ⟨k, e, h1, h2, h3⟩ := w.pos ha (w.ne0 hg)
  rw [hg] at h3
  have h3 : e = .inr (ci, fs.map (eV (adr b ws))) := h3
  exact ⟨k, h1, by rw [h2, h3]⟩
theorem Wd.arr (w : Wd D A b Ls xs H ws tys Hc U) {a n : Nat} {ty : FieldType} {x : PL} (ha : a < H.1) (h0 : a ≠ 0) (hg : hget H a = .inl (ty, n, x)) : ∃ (k : Nat) (cA : ClassId) (t0 : Nat), a = k + 1 ∧ ws[k]? = some (adr b ws a, .inl (cA, n, eP (adr b ws) x)) ∧ tys[t0]? = some (cA, ty) := by
  obtain ⟨k, e, h1, h2, h3⟩ := w.pos ha h0
  rw [hg] at h3
  obtain ⟨cA, t0, h4, h5⟩ := h3
  have h4 : e = .inl (cA, n, eP (adr b ws) x) := h4
  exact ⟨k, cA, t0, h1, by rw [h2, h4], h5⟩
theorem Wd.put (w : Wd D A b Ls xs H ws tys Hc U) {k : Nat} {e0 e : va_E} {c : AC} {Hc' : Heap} (hk : ws[k]? = some (adr b ws (k + 1), e0)) (hc : cel (adr b ws) tys c e) (hcl : clC H.1 c) (hP : va_P D vCl (ws.set k (adr b ws (k + 1), e)) Hc') (hD : va_D A (ws.set k (adr b ws (k + 1), e))) : Wd D A b Ls xs (hput H (k + 1) c) (ws.set k (adr b ws (k + 1), e)) tys Hc' U := by
  obtain ⟨h1, h2, h3, h4, -, -, h7⟩ := w
  refine ⟨by rw [List.length_set]; exact h1, ?_, fun j q hq => ?_, fun a ha => ?_, hP, hD, h7⟩
  · show (if 0 = k + 1 then c else H.2.2 0) = _
    rw [if_neg (by omega)]
    exact h2
  · rw [adr_set hk]
    show cel _ _ (if j + 1 = k + 1 then c else H.2.2 (j + 1)) _
    rw [List.getElem?_set] at hq
    by_cases hj : k = j
    · subst hj
      rw [if_pos rfl, if_pos (List.getElem?_eq_some_iff.mp hk).1] at hq
      cases hq
      rw [if_pos rfl]
      exact hc
    · rw [if_neg hj] at hq
      rw [if_neg (by omega)]
      exact h3 j q hq
  · show clC H.1 (if a = k + 1 then c else H.2.2 a)
    split
    · exact hcl
    · exact h4 a ha
theorem Wd.push (w : Wd D A b Ls xs H ws tys Hc U) {tys' : List (ClassId × FieldType)} (ht : ∀ (k : Nat) q, tys[k]? = some q → tys'[k]? = some q) {q e n : _} {c : AC} {Hc' : Heap} (hc : cel (adr b (ws ++ [(q, e)])) tys' c e) (hcl : clC (H.1 + 1) c) (hP : va_P D vCl (ws ++ [(q, e)]) Hc') (hD : va_D A (ws ++ [(q, e)])) (hK : va_K D vCl tys' U) : Wd D A b Ls xs (hnew H c n) (ws ++ [(q, e)]) tys' Hc' U := by
  obtain ⟨h1, h2, h3, h4, -, -, h7⟩ := w
  have hs : ∀ a, a < H.1 → adr b (ws ++ [(q, e)]) a = adr b ws a := fun a ha => adr_app a (by omega)
  refine ⟨by rw [List.length_append]; show ws.length + 1 + 1 = H.1 + 1; omega, ?_, fun j x hx => ?_, fun a ha => ?_, hP, hD, hK⟩
  · show (if 0 = H.1 then c else H.2.2 0) = _
    rw [if_neg (by omega)]
    exact h2
  · show cel _ _ (if j + 1 = H.1 then c else H.2.2 (j + 1)) _
    by_cases hj : j < ws.length
    · rw [List.getElem?_append_left hj] at hx
      rw [if_neg (by omega)]
      exact (h3 j x hx).same hs ht (h4 (j + 1) (by omega))
    · rw [List.getElem?_append_right (by omega)] at hx
      have hz : j - ws.length < 1 := (List.getElem?_eq_some_iff.mp hx).1
      rw [show j - ws.length = 0 by omega] at hx
      cases hx
      rw [if_pos (by omega)]
      exact hc
  · show clC (H.1 + 1) (if a = H.1 then c else H.2.2 a)
    split
    · exact hcl
    · rename_i hne
      have ha' : a < H.1 + 1 := ha
      exact (h4 a (by omega)).mono (by omega)
theorem Wd.moved {u : State} (hvm : u.vm.Alike U.vm) (w : Wd D A b Ls xs H ws tys Hc u) : Wd D A b Ls xs H ws tys Hc U := by
  obtain ⟨h1, h2, h3, h4, h5, h6, h7⟩ := w
  exact ⟨h1, h2, h3, h4, h5, h6, va_K.moved hvm h7⟩
end WDS
theorem fitV_ok {ty : FieldType} {v : Value} (h : fitV ty v = true) (α : Nat → Nat) : narrow ty (eV α v) = eV α v ∧ fits ty (eV α v) = true := by
  unfold fitV at h
  split at h <;> first | exact ⟨rfl, rfl⟩ | cases h
/-- a class of the tables -/
theorem cls_at {ci : Nat} (h : ci < 10) : ∃ (T : u_T), vCl[ci]? = some (vCn ci, T, vN ci) ∧ (∀ k, vF ci k = T k) ∧ (∀ w ∈ u_ws (vCn ci) T (vN ci), w ∈ WS) ∧ (Cond.instantiable (vCn ci) (vN ci) ∈ WS ∧ Cond.initialized (vCn ci) ∈ WS) ∧ (∀ k, k < vN ci → parseFieldDescriptor (T k).2.2.1 = some (vTy ci k)) ∧ (∀ a, a < vN ci → ∀ b, b < vN ci → a ≠ b → (T a).2.1 ≠ (T b).2.1) := by
  match ci, h with
  | 0, _ => exact ⟨TX0, rfl, fun _ => rfl, uW0, uI0, tyX0_ok, nmX0⟩
  | 1, _ => exact ⟨TX1, rfl, fun _ => rfl, uW1, uI1, tyX1_ok, nmX1⟩
  | 2, _ => exact ⟨TX2, rfl, fun _ => rfl, uW2, uI2, tyX2_ok, nmX2⟩
  | 3, _ => exact ⟨TX3, rfl, fun _ => rfl, uW3, uI3, tyX3_ok, nmX3⟩
  | 4, _ => exact ⟨TX4, rfl, fun _ => rfl, uW4, uI4, tyX4_ok, nmX4⟩
  | 5, _ => exact ⟨TX5, rfl, fun _ => rfl, uW5, uI5, tyX5_ok, nmX5⟩
  | 6, _ => exact ⟨TX6, rfl, fun _ => rfl, uW6, uI6, tyX6_ok, nmX6⟩
  | 7, _ => exact ⟨TX7, rfl, fun _ => rfl, uW7, uI7, tyX7_ok, nmX7⟩
  | 8, _ => exact ⟨TX8, rfl, fun _ => rfl, uW8, uI8, tyX8_ok, nmX8⟩
  | 9, _ => exact ⟨TX9, rfl, fun _ => rfl, uW9, uI9, tyX9_ok, nmX9⟩
/-- what a method's walk has at hand -/
def Cx (y : Nat) (p : Program) (R : Room) (s : State) (m : MethodId) (args : Array Value) (meth : Method) (c : Code) (A : Nat → Prop) (b Ls : Nat) (xs : Nat → Int32) : Prop :=
  p.tables.exec = Jvm.exec ∧ c.code = m_bytes y ∧ c.maxLocals = m_maxL y ∧ s.vm.findClass (m_own y) = some m.cls ∧ (∀ w ∈ WS, w.before args s = true) ∧ NZ s ∧ va_X b Ls xs s s.heap ∧ b < s.heap.size ∧ ¬ A b ∧ (∀ q, s.heap.size ≤ q → A q) ∧ (m_kd y = 2 → meth.name = "<init>") ∧ m_nf y ≤ R.frames ∧ m_nl y ≤ R.locals

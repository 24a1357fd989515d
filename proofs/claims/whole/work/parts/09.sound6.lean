/-! THE SMALL MACHINE IS TRUE TO THE MACHINE, 6: every run of it -/
theorem nx_mono {y pc pc' : Nat} {i : Instr} {ax : Ax} {L L' : List (Option Value)} {st st' : List Value} {H H' : HP} (hs : stpI y i ax pc L st H = some (.inl ((pc', L', st'), H'))) : (isH i = false → H' = H) ∧ H.1 ≤ H'.1 ∧ H.2.1 ≤ H'.2.1 := by
  have key : H' = H ∨ (isH i = true ∧ ((∃ a c, H' = hput H a c) ∨ ∃ c n, H' = hnew H c n)) := by
    unfold stpI at hs
    split at hs
    all_goals first
      | (obtain ⟨_, _, _, _, _, rfl⟩ := rd_inv hs; exact Or.inl rfl)
      | (obtain ⟨_, _, _, rfl⟩ := go_inv hs; exact Or.inl rfl)
      | (obtain ⟨_, _, _, rfl⟩ := nx_inv hs; exact Or.inl rfl)
      | (obtain ⟨_, _, _, rfl⟩ := nx_inv hs; exact Or.inr ⟨rfl, Or.inr ⟨_, _, rfl⟩⟩)
      | (split at hs <;> first | (obtain ⟨_, _, _, rfl⟩ := sr_inv hs; exact Or.inl rfl) | (cases hs; done))
      | (split at hs <;> first | (obtain ⟨_, _, _, _, _, rfl⟩ := br_inv hs; exact Or.inl rfl) | (cases hs; done))
      | (split at hs <;> first | (obtain ⟨_, _, _, _, _, rfl⟩ := rd_inv hs; exact Or.inl rfl) | (cases hs; done))
      | (split at hs <;> first | (obtain ⟨_, _, _, _, _, _, rfl⟩ := wr_inv hs; exact Or.inr ⟨rfl, Or.inl ⟨_, _, rfl⟩⟩) | (cases hs; done))
      | (split at hs <;> first | (obtain ⟨_, _, _, rfl⟩ := nx_inv hs; exact Or.inl rfl) | (cases hs; done))
      | (split at hs <;> first | (unfold sw at hs; split at hs <;> first | (obtain ⟨_, _, _, rfl⟩ := go_inv hs; exact Or.inl rfl) | (split at hs <;> first | (obtain ⟨_, _, _, rfl⟩ := go_inv hs; exact Or.inl rfl) | (cases hs; done))) | (cases hs; done))
      | (split at hs <;> first | (split at hs <;> first | (split at hs <;> first | (obtain ⟨_, _, _, rfl⟩ := nx_inv hs; exact Or.inr ⟨rfl, Or.inr ⟨_, _, rfl⟩⟩) | (cases hs; done)) | (cases hs; done)) | (cases hs; done))
      | (split at hs <;> first | (split at hs <;> first | (obtain ⟨_, _, _, rfl⟩ := nx_inv hs; exact Or.inr ⟨rfl, Or.inr ⟨_, _, rfl⟩⟩) | (cases hs; done)) | (cases hs; done))
      | (exfalso; unfold rt at hs; split at hs <;> first | (split at hs <;> first | (cases hs; done) | (split at hs <;> cases hs; done)) | (cases hs; done))
      | (exfalso; unfold rtL at hs; split at hs <;> first | (split at hs <;> cases hs; done) | (cases hs; done))
      | (exfalso; unfold rtD at hs; split at hs <;> first | (split at hs <;> cases hs; done) | (cases hs; done))
      | (exfalso; unfold rtV at hs; split at hs <;> first | (split at hs <;> cases hs; done) | (cases hs; done))
      | (unfold stpS at hs; split at hs <;> first | (split at hs <;> first | (split at hs <;> first | (obtain ⟨_, _, _, rfl⟩ := nx_inv hs; exact Or.inl rfl) | (cases hs; done)) | (cases hs; done)) | (split at hs <;> first | (split at hs <;> first | (split at hs <;> first | (obtain ⟨_, _, _, rfl⟩ := nx_inv hs; exact Or.inl rfl) | (cases hs; done)) | (cases hs; done)) | (split at hs <;> first | (unfold clA at hs; cases hs; done) | (cases hs; done))))
      | (unfold stpV at hs; split at hs <;> first | (unfold clA at hs; cases hs; done) | (cases hs; done))
      | (unfold stpN at hs; split at hs <;> first | (split at hs <;> first | (split at hs <;> first | (obtain ⟨_, _, _, rfl⟩ := nx_inv hs; exact Or.inl rfl) | (cases hs; done)) | (cases hs; done)) | (split at hs <;> first | (unfold clA at hs; cases hs; done) | (cases hs; done)))
  rcases key with rfl | ⟨h1, h2⟩
  · exact ⟨fun _ => rfl, Nat.le_refl _, Nat.le_refl _⟩
  · refine ⟨fun h => absurd (h1.symm.trans h) (by decide), ?_⟩
    rcases h2 with ⟨a, c, rfl⟩ | ⟨c, n, rfl⟩
    · exact ⟨Nat.le_refl _, Nat.le_refl _⟩
    · exact ⟨Nat.le_succ _, Nat.le_add_right _ _⟩
/-- a run of the small machine is a run of the machine -/
def Sd (y : Nat) (F : Fr) (H : HP) (v : Option Value) (H' : HP) : Prop := (H.1 ≤ H'.1 ∧ H.2.1 ≤ H'.2.1) ∧ ∀ (p : Program) (l : Launch) (e : Env) (R : Room) (s : State) (m : MethodId) (args : Array Value) (below : List Frame) (meth : Method) (c : Code) (Hc : Heap) (locs : List Loc) (cells slots : Nat) (Q : State → Prop) (ls : Array Slot) (D : va_G) (A : Nat → Prop) (b Ls : Nat) (xs : Nat → Int32) (ws : va_W) (tys : List (ClassId × FieldType)),
  Cx y p R s m args meth c A b Ls xs → Wd D A b Ls xs H ws tys Hc s → (∀ x ∈ F.2.2, clV H.1 x) → clL H.1 F.2.1 → Lr (adr b ws) F.2.1 ls → F.2.1.length = m_maxL y → va_S A s.heap Hc locs → cells + (H'.1 - H.1) ≤ R.cells → slots + (H'.2.1 - H.2.1) ≤ R.slots →
  (∀ (Hc' : Heap) (locs' : List Loc) (ws' : va_W) (tys' : List (ClassId × FieldType)) (pc : Nat) (ls' : Array Slot) (i : Instr), decode (m_bytes y) pc = .ok (i, 1) → retOf i v y → Wd D A b Ls xs H' ws' tys' Hc' s → (∀ x, v = some x → clV H'.1 x) → va_S A s.heap Hc' locs' → (∀ a, a < H.1 → adr b ws' a = adr b ws a) → W p l e R s m args below meth c Hc' locs' (cells + (H'.1 - H.1)) (slots + (H'.2.1 - H.2.1)) Q (F0 m pc ls' (v.toList.map (eV (adr b ws'))))) →
  W p l e R s m args below meth c Hc locs cells slots Q (F0 m F.1 ls (F.2.2.map (eV (adr b ws))))
theorem WS_good : ∀ w ∈ WS, w ∈ WS ∧ ((w.onTables && w.keeps) = true ∨ ∃ ty, w = .arrayClass ty) := fun w h => ⟨h, good_of_word (List.mem_filter.mp h).2⟩
theorem okM_words {z : Nat} (h : z < 190) : (Cond.code (m_name z) (m_bytes z) (m_maxL z) (m_ret z) ∈ WS ∧ Cond.initialized (m_name z).cls ∈ WS) ∧ ((m_name z).cls = m_own z ∧ plainFor (m_name z) = true ∧ (m_name z).cls ≠ "java/lang/invoke/MethodHandle" ∧ (m_name z).cls ≠ "java/lang/invoke/VarHandle" ∧ (parseMethodDescriptor (m_name z).desc).map (fun d => d.parameters.length) = some (m_np z)) ∧ (m_kd z = 0 → Cond.static (m_name z) ∈ WS) ∧ (m_kd z ≠ 0 → Cond.instanceMethod (m_name z) ∈ WS ∧ m_ci z < 10 ∧ vCn (m_ci z) = m_own z) ∧ (m_kd z = 1 → Cond.selects (m_own z) (m_name z) (m_name z) ∈ WS) ∧ (m_kd z = 2 → (m_name z).name = "<init>" ∧ m_ret z = none) := by
  have h0 := okM_all z h
  unfold okM at h0
  rw [Bool.and_eq_true, Bool.and_eq_true, Bool.and_eq_true, decide_eq_true_eq] at h0
  obtain ⟨⟨⟨h1, h2⟩, h3⟩, h4⟩ := h0
  refine ⟨⟨okW_in h1, okW_in h2⟩, h3, fun hk => ?_, fun hk => ?_, fun hk => ?_, fun hk => ?_⟩
  · rw [if_pos hk] at h4
    exact okW_in h4
  · rw [if_neg hk, Bool.and_eq_true, Bool.and_eq_true, decide_eq_true_eq] at h4
    exact ⟨okW_in h4.1.1, h4.1.2⟩
  · rw [if_neg (by omega), Bool.and_eq_true, if_pos hk] at h4
    exact okW_in h4.2
  · rw [if_neg (by omega), Bool.and_eq_true, if_neg (by omega), decide_eq_true_eq] at h4
    exact h4.2.2
theorem WZ_good {z : Nat} (h : z < 190) : GoodIn WS (WZ z) := fun w hw => by
  rcases List.mem_cons.mp hw with rfl | q
  · exact WS_good _ (okM_words h).1.1
  · exact WS_good w q
set_option maxHeartbeats 4000000 in
theorem met_of {l : Launch} {D : va_G} {A : Nat → Prop} {b Ls : Nat} {xs : Nat → Int32} {H H1 : HP} {ws : va_W} {tys : List (ClassId × FieldType)} {as : List Value} {v : Option Value} {z : Nat} (hz : z < 190) (hbA : ¬ A b) (hl : (argL as).length ≤ m_maxL z) (hcl : ∀ x ∈ as, clV H.1 x) (S : Sd z (0, entL (m_maxL z) as, []) H v H1) :
    Met l (m_name z) (WZ z) (RZ z (H1.1 - H.1) (H1.2.1 - H.2.1)) (Pz D A b Ls xs H ws tys as) (Qz D A b Ls xs H ws v H1) (H1.1 - H.1) (H1.2.1 - H.2.1) A := by
  obtain ⟨⟨k1, k2⟩, ⟨k3, k4, k5, k6, k7⟩, k8, k9, k10, k11⟩ := okM_words hz
  refine va_MetF (cc := m_bytes z) (maxL := m_maxL z) (ret := m_ret z) k4 rfl ?_
  intro p e s m args below meth c s₁ B hml hv
  obtain ⟨rfl, w, nz, hX, hbl, hA⟩ := hv
  have hts : ∀ w ∈ WS, w.before (as.map (eV (adr b ws))).toArray s = true := fun w hw => atoms_spec (ws := WZ z) B.pre w (List.mem_cons_of_mem _ hw)
  have hown : s.vm.findClass (m_own z) = some m.cls := by rw [← k3]; exact findClass_of_methodNamed B.named
  have hnm : meth.name = (m_name z).name := (name_of_methodNamed B.named B.method).1
  have hr := B.returns
  have hlocks := B.notSynchronized
  have hx := B.exec
  have hb := B.bytes
  rw [lg_entry_eq]
  refine S.2 p l e (RZ z (H1.1 - H.1) (H1.2.1 - H.2.1)) s m _ below meth c s.heap [] 0 0 _ _ D A b Ls xs ws tys ⟨hx, hb, hml, hown, hts, nz, hX, hbl, hbA, hA, fun hk => by rw [hnm]; exact (k11 hk).1, Nat.le_refl _, Nat.le_refl _⟩ w (fun x h => by cases h) (clL.entry hcl) (Lr.entry (adr b ws) as hl) (by show (entL _ _).length = _; unfold entL; rw [List.length_append, List.length_replicate]; omega) va_S.rf (by show 0 + _ ≤ _; rw [Nat.zero_add]; exact Nat.le_refl _) (by show 0 + _ ≤ _; rw [Nat.zero_add]; exact Nat.le_refl _) ?_
  intro Hc' locs' ws' tys' pc ls' i hd hret w' hcv hS' hsm
  rw [Nat.zero_add, Nat.zero_add]
  have post : ∀ t : State, t.heap = Hc' → s.WarmedH t.vm → Qz D A b Ls xs H ws v H1 (as.map (eV (adr b ws))).toArray s (.returned (v.map (eV (adr b ws')))) t := fun t ht hW => ⟨⟨ws', tys', rfl, by rw [ht]; exact w'.moved hW.alike, hcv, hsm⟩, hS'.F ht⟩
  rcases hret with ⟨rfl, x, rfl, hq⟩ | ⟨rfl, x, rfl, hq⟩ | ⟨rfl, x, rfl, hq⟩ | ⟨rfl, rfl, hq⟩
  · rcases hq with hq | ⟨hq, h01⟩
    · exact W.iret hx hb (hr.trans hq) post hS'.2.2 hd
    · exact W.zret hx hb (hr.trans hq) (by rcases h01 with rfl | rfl <;> decide) post hS'.2.2 hd
  · exact W.lret hx hb (hr.trans hq) post hS'.2.2 hd
  · exact W.dret hx hb (hr.trans hq) post hS'.2.2 hd
  · exact W.vret hx hb (hr.trans hq) post hS'.2.2 hd
theorem rcv_inv {as : List Value} {H : HP} {ci : Nat} (h : rcv as H ci = true) : ∃ a as' fs, as = .ref a :: as' ∧ hget H a = .inr (ci, fs) := by
  unfold rcv at h
  split at h
  · rename_i a as'
    split at h
    · rename_i k fs hg
      have : k = ci := of_decide_eq_true h
      subst this
      exact ⟨a, as', fs, rfl, hg⟩
    · cases h
  · cases h
theorem rcvI_inv {as : List Value} (h : rcvI as = true) : ∃ a as', as = .ref a :: as' := by
  unfold rcvI at h
  split at h
  · rename_i a as'; exact ⟨a, as', rfl⟩
  · cases h
section SMALL6
variable {p : Program} {l : Launch} {e : Env} {R : Room} {s : State} {m : MethodId} {args : Array Value} {below : List Frame} {meth : Method} {c : Code} {Hc : Heap} {locs : List Loc} {cells slots : Nat} {Q : State → Prop}
variable {cc : ByteArray} {ls : Array Slot} {rest : List Value}
variable {D : va_G} {A : Nat → Prop} {b Ls : Nat} {xs : Nat → Int32} {H H1 : HP} {ws : va_W} {tys : List (ClassId × FieldType)} {y z pc : Nat} {i : Instr} {ax : Ax} {L : List (Option Value)} {st as : List Value} {v : Option Value} {F' : Fr}
theorem Pz.at (hNZ : NZ s) (hX : va_X b Ls xs s s.heap) (hbl : b < s.heap.size) (hbA : ¬ A b) (hA : ∀ q, s.heap.size ≤ q → A q) (w : Wd D A b Ls xs H ws tys Hc s) (hS : va_S A s.heap Hc locs) (U : State) (hU : U.heap = Hc) (hW : s.WarmedH U.vm) : Pz D A b Ls xs H ws tys as (as.map (eV (adr b ws))).toArray U := by
  refine ⟨rfl, by rw [hU]; exact w.moved hW.alike, hNZ.warm hW, ?_, by rw [hU]; exact Nat.lt_of_lt_of_le hbl hS.1, fun q hq => hA q (Nat.le_trans hS.1 (by rw [← hU]; exact hq))⟩
  rw [hU]
  exact va_X.moved hW.alike (hX.kept (hS.2.1 b hbl hbA))
set_option maxHeartbeats 4000000 in
theorem call_W (C : Cx y p R s m args meth c A b Ls xs) (hf : ft y pc = some (i, ax)) (hs : stpI y i ax pc L st H = some (.inr (.inr (z, as, F'))))
    (w : Wd D A b Ls xs H ws tys Hc s) (hcS : ∀ x ∈ st, clV H.1 x) (hLr : Lr (adr b ws) L ls) (hLn : L.length = m_maxL y) (hS : va_S A s.heap Hc locs)
    (hM : Met l (m_name z) (WZ z) (RZ z (H1.1 - H.1) (H1.2.1 - H.2.1)) (Pz D A b Ls xs H ws tys as) (Qz D A b Ls xs H ws v H1) (H1.1 - H.1) (H1.2.1 - H.2.1) A)
    (hc : cells + (H1.1 - H.1) ≤ R.cells) (hsl : slots + (H1.2.1 - H.2.1) ≤ R.slots)
    (kk : ∀ (Hc' : Heap) (locs' : List Loc) (ws' : va_W) (tys' : List (ClassId × FieldType)), Wd D A b Ls xs H1 ws' tys' Hc' s → (∀ x, v = some x → clV H1.1 x) → va_S A s.heap Hc' locs' → (∀ a, a < H.1 → adr b ws' a = adr b ws a) → W p l e R s m args below meth c Hc' locs' (cells + (H1.1 - H.1)) (slots + (H1.2.1 - H.2.1)) Q (F0 m (pc + 3) ls ((v.map (eV (adr b ws'))).toList ++ F'.2.2.map (eV (adr b ws))))) :
    W p l e R s m args below meth c Hc locs cells slots Q (F0 m pc ls (st.map (eV (adr b ws)))) := by
  obtain ⟨hx, hb, hml, hown, hts, hNZ, hX, hbl, hbA, hA, hin, hRf, hRl⟩ := C
  obtain ⟨hD0, hX0⟩ := ft_ok hf
  have hsz : (F0 m pc ls (st.map (eV (adr b ws)))).locals.size = m_maxL y := by show ls.size = _; rw [hLr.1, hLn]
  have hpz := Pz.at (as := as) hNZ hX hbl hbA hA w hS
  obtain ⟨hzx, hcase⟩ := call_inv hs
  rcases hcase with ⟨idx, rfl, hkd, h1, h2, hz, rfl, rfl, hn, hwd, hfr, hlo⟩ | ⟨idx, rfl, hkd, hrc, hz, rfl, has, hn, hwd, hfr, hlo⟩ | ⟨idx, rfl, hkd, h1, hrc, hz, rfl, has, hn, hwd, hfr, hlo⟩
  · obtain ⟨⟨k1, k2⟩, ⟨k3, k4, k5, k6, k7⟩, k8, k9, k10, k11⟩ := okM_words hz
    have hstk : st.map (eV (adr b ws)) = (((st.take (m_np z)).reverse.map (eV (adr b ws))).reverse) ++ (st.drop (m_np z)).map (eV (adr b ws)) := by
      rw [← List.map_reverse, List.reverse_reverse, ← List.map_append, List.take_append_drop]
    have hln : ((st.take (m_np z)).reverse.map (eV (adr b ws))).length = m_np z := by
      rw [List.length_map, List.length_reverse, List.length_take]; omega
    have hw8 : 2 * (F0 m pc ls (st.map (eV (adr b ws)))).monitorRoom + (((st.drop (m_np z)).map (eV (adr b ws))).map fun v => v.category).sum ≤ 8 := by
      rw [eV_wd]; show 2 * 0 + _ ≤ 8; omega
    unfold okX at hX0
    dsimp only at hX0
    rw [if_neg h1, if_neg h2] at hX0
    unfold okL at hX0
    rw [← hzx] at hX0
    split at hX0
    · have hl := hNZ.1 _ (of_decide_eq_true hX0)
      exact call_go (va_runSN ⟨hx, hb, hml, hown, hts⟩ hM ⟨va_cnB (m_np z) hts (WZ_good hz) rfl rfl rfl hl (hts _ k2) ⟨k5, k6, k7⟩ ⟨Nat.le_trans hfr hRf, Nat.le_trans hlo hRl⟩, hts _ (k8 hkd), trivial⟩ ⟨Pz.blind, hpz⟩ rfl hln hsz hstk hw8 (okD_dec hD0 rfl) ⟨hc, hsl⟩) hS kk
    · exact call_go (va_runS ⟨hx, hb, hml, hown, hts⟩ hM ⟨callB_of (m_np z) hts (WZ_good hz) rfl rfl rfl (hts _ k2) (hts _ (okW_in hX0)) ⟨k5, k6, k7⟩ ⟨Nat.le_trans hfr hRf, Nat.le_trans hlo hRl⟩, hts _ (k8 hkd)⟩ ⟨Pz.blind, hpz⟩ rfl hln hsz hstk hw8 (okD_dec hD0 rfl) ⟨hc, hsl⟩) hS kk
  · obtain ⟨⟨k1, k2⟩, ⟨k3, k4, k5, k6, k7⟩, k8, k9, k10, k11⟩ := okM_words hz
    obtain ⟨a, as', fs, rfl, hg⟩ := rcv_inv hrc
    have htk : st.take (m_np z + 1) = as'.reverse ++ [.ref a] := by
      rw [← List.reverse_reverse (st.take (m_np z + 1)), ← has, List.reverse_cons]
    have hlt : (st.take (m_np z + 1)).length = m_np z + 1 := by rw [List.length_take]; omega
    have hln : (as'.map (eV (adr b ws))).length = m_np z := by
      rw [htk, List.length_append, List.length_reverse] at hlt
      rw [List.length_map]
      simp at hlt
      exact hlt
    have hstk : st.map (eV (adr b ws)) = (as'.map (eV (adr b ws))).reverse ++ .ref (adr b ws a) :: (st.drop (m_np z + 1)).map (eV (adr b ws)) := by
      conv => lhs; rw [← List.take_append_drop (m_np z + 1) st, htk]
      rw [List.map_append, List.map_append, List.map_reverse, List.append_assoc]
      rfl
    have hw8 : 2 * (F0 m pc ls (st.map (eV (adr b ws)))).monitorRoom + (((st.drop (m_np z + 1)).map (eV (adr b ws))).map fun v => v.category).sum ≤ 8 := by
      rw [eV_wd]; show 2 * 0 + _ ≤ 8; omega
    have ha : a < H.1 := hcS (.ref a) (List.mem_of_mem_take (i := m_np z + 1) (by rw [htk]; simp)) a rfl
    obtain ⟨k, -, hk⟩ := w.obj ha hg
    obtain ⟨k9a, k9b, k9c⟩ := k9 (by omega)
    obtain ⟨T, hT, -⟩ := cls_at k9b
    have hrec := va_recv w.2.2.2.2.2.2 w.2.2.2.2.1 hT hk
    have hrec : ∃ cell : Cell, Hc[adr b ws a]? = some cell ∧ cell.vm.isStatics = false ∧ s.vm.findClass (m_own z) = some cell.cls := by rw [← k9c]; exact hrec
    unfold okX at hX0
    dsimp only at hX0
    rw [← hzx] at hX0
    exact call_go (va_runV ⟨hx, hb, hml, hown, hts⟩ hM ⟨callB_of (m_np z) hts (WZ_good hz) rfl rfl rfl (hts _ k2) (hts _ (okW_in hX0)) ⟨k5, k6, k7⟩ ⟨Nat.le_trans hfr hRf, Nat.le_trans hlo hRl⟩, hts _ k9a, hts _ (k10 hkd)⟩ ⟨Pz.blind, hrec, hpz⟩ rfl hln hsz hstk hw8 (okD_dec hD0 rfl) ⟨hc, hsl⟩) hS kk
  · obtain ⟨⟨k1, k2⟩, ⟨k3, k4, k5, k6, k7⟩, k8, k9, k10, k11⟩ := okM_words hz
    obtain ⟨a, as', rfl⟩ := rcvI_inv hrc
    have htk : st.take (m_np z + 1) = as'.reverse ++ [.ref a] := by
      rw [← List.reverse_reverse (st.take (m_np z + 1)), ← has, List.reverse_cons]
    have hlt : (st.take (m_np z + 1)).length = m_np z + 1 := by rw [List.length_take]; omega
    have hln : (as'.map (eV (adr b ws))).length = m_np z := by
      rw [htk, List.length_append, List.length_reverse] at hlt
      rw [List.length_map]
      simp at hlt
      exact hlt
    have hstk : st.map (eV (adr b ws)) = (as'.map (eV (adr b ws))).reverse ++ .ref (adr b ws a) :: (st.drop (m_np z + 1)).map (eV (adr b ws)) := by
      conv => lhs; rw [← List.take_append_drop (m_np z + 1) st, htk]
      rw [List.map_append, List.map_append, List.map_reverse, List.append_assoc]
      rfl
    have hw8 : 2 * (F0 m pc ls (st.map (eV (adr b ws)))).monitorRoom + (((st.drop (m_np z + 1)).map (eV (adr b ws))).map fun v => v.category).sum ≤ 8 := by
      rw [eV_wd]; show 2 * 0 + _ ≤ 8; omega
    obtain ⟨k9a, k9b, k9c⟩ := k9 (by omega)
    obtain ⟨hin1, hret⟩ := k11 hkd
    have hwz : WZ z = Cond.code (m_name z) (m_bytes z) (m_maxL z) none :: WS := by
      show Cond.code _ _ _ (m_ret z) :: WS = _
      rw [hret]
    unfold okX at hX0
    dsimp only at hX0
    rw [if_neg h1] at hX0
    unfold okL at hX0
    rw [← hzx] at hX0
    split at hX0
    · have hl := hNZ.1 _ (of_decide_eq_true hX0)
      exact call_go (va_runIN ⟨hx, hb, hml, hown, hts⟩ hM ⟨va_cnB (m_np z) hts (WZ_good hz) hwz rfl rfl hl (hts _ k2) ⟨k5, k6, k7⟩ ⟨Nat.le_trans hfr hRf, Nat.le_trans hlo hRl⟩, hin1, hts _ k9a⟩ ⟨Pz.blind, hpz⟩ rfl hln hsz hstk hw8 (okD_dec hD0 rfl) ⟨hc, hsl⟩) hS kk
    · exact call_go (va_runI ⟨hx, hb, hml, hown, hts⟩ hM ⟨callB_of (m_np z) hts (WZ_good hz) hwz rfl rfl (hts _ k2) (hts _ (okW_in hX0)) ⟨k5, k6, k7⟩ ⟨Nat.le_trans hfr hRf, Nat.le_trans hlo hRl⟩, hin1, hts _ k9a⟩ ⟨Pz.blind, hpz⟩ rfl hln hsz hstk hw8 (okD_dec hD0 rfl) ⟨hc, hsl⟩) hS kk
end SMALL6
theorem as_cl {y z pc n : Nat} {H : HP} {as : List Value} {L : List (Option Value)} {st : List Value} {F' : Fr} (h : callF y z n pc as L st F') (hcS : ∀ x ∈ st, clV H.1 x) : ∀ x ∈ as, clV H.1 x := by
  obtain ⟨-, -, rfl, -⟩ := h
  intro x hx
  exact hcS x (List.mem_of_mem_take (List.mem_reverse.mp hx))
set_option maxHeartbeats 4000000 in
theorem sound : ∀ (fu y : Nat) (F : Fr) (H : HP) (v : Option Value) (H' : HP), ex fu y F H = some (v, H') → Sd y F H v H' := by
  intro fu
  induction fu with
  | zero => intro y F H v H' h; cases h
  | succ n ih =>
    intro y F H v H' h
    obtain ⟨pc, L, st⟩ := F
    rw [ex] at h
    split at h
    · cases h
    · rename_i F1 H1 hsq
      obtain ⟨pc1, L1, st1⟩ := F1
      unfold stp at hsq
      dsimp only at hsq
      split at hsq
      · rename_i q hft
        obtain ⟨i, ax⟩ := q
        dsimp only at hsq
        obtain ⟨hpH, hm1, hm2⟩ := nx_mono hsq
        obtain ⟨⟨g1, g2⟩, IH⟩ := ih y _ H1 v H' h
        refine ⟨⟨Nat.le_trans hm1 g1, Nat.le_trans hm2 g2⟩, ?_⟩
        intro p l e R s m args below meth c Hc locs cells slots Q ls D A b Ls xs ws tys C w hcS hcL hLr hLn hS hc hsl hend
        dsimp only at hcS hcL hLr hLn ⊢
        cases hi : isH i with
        | false =>
          have hH := hpH hi
          subst hH
          exact (step_pure C hft hi hsq w hcS hcL hLr hLn hS (fun ls' a1 a2 a3 a4 => IH p l e R s m args below meth c Hc locs cells slots Q ls' D A b Ls xs ws tys C w a1 a2 a3 (a4.trans hLn) hS hc hsl hend)).2
        | true =>
          refine step_heap C hft hi hsq w hcS hcL hLr hS (by omega) (by omega) (fun Hc' locs' ws' tys' w' a1 a2 a3 a4 hS' hsm => ?_)
          refine IH p l e R s m args below meth c Hc' locs' _ _ Q ls D A b Ls xs ws' tys' C w' a1 a2 a3 (by show L1.length = _; rw [a4]; exact hLn) hS' (by omega) (by omega) ?_
          intro Hc2 locs2 ws2 tys2 pc2 ls2 i2 b1 b2 b3 b4 b5 b6
          rw [show cells + (H1.1 - H.1) + (H'.1 - H1.1) = cells + (H'.1 - H.1) by omega, show slots + (H1.2.1 - H.2.1) + (H'.2.1 - H1.2.1) = slots + (H'.2.1 - H.2.1) by omega]
          exact hend Hc2 locs2 ws2 tys2 pc2 ls2 i2 b1 b2 b3 b4 b5 (fun a ha => (b6 a (Nat.lt_of_lt_of_le ha hm1)).trans (hsm a ha))
      · cases hsq
    · rename_i v1 hsq
      cases h
      unfold stp at hsq
      dsimp only at hsq
      split at hsq
      · rename_i q hft
        obtain ⟨i, ax⟩ := q
        dsimp only at hsq
        obtain ⟨hret, rfl⟩ := ret_inv hsq
        refine ⟨⟨Nat.le_refl _, Nat.le_refl _⟩, ?_⟩
        intro p l e R s m args below meth c Hc locs cells slots Q ls D A b Ls xs ws tys C w hcS hcL hLr hLn hS hc hsl hend
        have hd : decode (m_bytes y) pc = .ok (i, 1) := by
          have hD0 := (ft_ok hft).1
          rcases hret with ⟨rfl, -⟩ | ⟨rfl, -⟩ | ⟨rfl, -⟩ | ⟨rfl, -⟩ <;> exact okD_dec hD0 rfl
        have k2 := hend Hc locs ws tys pc ls i hd hret w (fun x hx => hcS x (by rw [hx]; exact List.mem_singleton.mpr rfl)) hS (fun _ _ => rfl)
        rw [Nat.sub_self, Nat.sub_self, Nat.add_zero, Nat.add_zero] at k2
        exact k2
      · cases hsq
    · rename_i z as F1 hsq
      unfold stp at hsq
      dsimp only at hsq
      split at hsq
      · rename_i q hft
        obtain ⟨i, ax⟩ := q
        dsimp only at hsq
        split at h
        · rename_i hlen
          split at h
          · cases h
          · rename_i v1 H1 hz
            obtain ⟨⟨m1, m2⟩, IZ⟩ := ih z _ H v1 H1 hz
            obtain ⟨⟨g1, g2⟩, IH⟩ := ih y _ H1 v H' h
            have m1 : H.1 ≤ H1.1 := m1
            have m2 : H.2.1 ≤ H1.2.1 := m2
            refine ⟨⟨Nat.le_trans m1 g1, Nat.le_trans m2 g2⟩, ?_⟩
            intro p l e R s m args below meth c Hc locs cells slots Q ls D A b Ls xs ws tys C w hcS hcL hLr hLn hS hc hsl hend
            have hcs : z < 190 ∧ F1.1 = pc + 3 ∧ F1.2.1 = L ∧ (∀ x ∈ as, clV H.1 x) ∧ (∀ x ∈ F1.2.2, clV H.1 x) := by
              obtain ⟨-, hcase⟩ := call_inv hsq
              rcases hcase with ⟨idx, -, -, -, -, hcf⟩ | ⟨idx, -, -, -, hcf⟩ | ⟨idx, -, -, -, -, hcf⟩ <;>
              · have q1 := as_cl hcf hcS
                obtain ⟨q2, rfl, -⟩ := hcf
                exact ⟨q2, rfl, rfl, q1, fun x hx => hcS x (List.mem_of_mem_drop hx)⟩
            obtain ⟨hz190, e1, e2, hcas, hcr⟩ := hcs
            have hbA : ¬ A b := C.2.2.2.2.2.2.2.2.1
            refine call_W C hft hsq w hcS hLr hLn hS (met_of hz190 hbA hlen hcas ⟨⟨m1, m2⟩, IZ⟩) (by omega) (by omega) (fun Hc' locs' ws' tys' w' hcv hS' hsm => ?_)
            have k2 := IH p l e R s m args below meth c Hc' locs' (cells + (H1.1 - H.1)) (slots + (H1.2.1 - H.2.1)) Q ls D A b Ls xs ws' tys' C w' (fun x hx => by
              rcases List.mem_append.mp hx with q | q
              · cases v1 with
                | none => cases q
                | some u => rw [List.mem_singleton.mp q]; exact hcv u rfl
              · exact (hcr x q).mono m1) (by show clL _ F1.2.1; rw [e2]; exact hcL.mono m1) (by show Lr _ F1.2.1 _; rw [e2]; exact hLr.same hsm hcL) (by show F1.2.1.length = _; rw [e2]; exact hLn) hS' (by omega) (by omega) (fun Hc2 locs2 ws2 tys2 pc2 ls2 i2 b1 b2 b3 b4 b5 b6 => by
                rw [show cells + (H1.1 - H.1) + (H'.1 - H1.1) = cells + (H'.1 - H.1) by omega, show slots + (H1.2.1 - H.2.1) + (H'.2.1 - H1.2.1) = slots + (H'.2.1 - H.2.1) by omega]
                exact hend Hc2 locs2 ws2 tys2 pc2 ls2 i2 b1 b2 b3 b4 b5 (fun a ha => (b6 a (Nat.lt_of_lt_of_le ha m1)).trans (hsm a ha)))
            dsimp only at k2
            rw [e1] at k2
            have e3 : (v1.toList ++ F1.2.2).map (eV (adr b ws')) = (v1.map (eV (adr b ws'))).toList ++ F1.2.2.map (eV (adr b ws)) := by
              rw [List.map_append, map_same hsm hcr]
              cases v1 <;> rfl
            rw [e3] at k2
            exact k2
        · cases h
      · cases hsq

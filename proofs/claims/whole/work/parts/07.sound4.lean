/-! THE SMALL MACHINE IS TRUE TO THE MACHINE, 4: a step that changes the heap -/
theorem adr_new {b : Nat} {ws : va_W} {q : Nat} {e : va_E} : adr b (ws ++ [(q, e)]) (ws.length + 1) = q := by
  show (match (ws ++ [(q, e)])[ws.length]? with
    | some q => q.1
    | none => 0) = q
  rw [List.getElem?_append_right (Nat.le_refl _), Nat.sub_self]
  rfl
theorem dfl_V {ci : Nat} (α : Nat → Nat) : ∀ j, j < vN ci → defaultValue (vTy ci j) = vp_V ((dfl ci).map (eV α)) j := by
  intro j hj
  unfold vp_V dfl
  rw [List.getD_eq_getElem?_getD, List.getElem?_map, List.getElem?_map, List.getElem?_range hj]
  show _ = eV α (defaultValue (vTy ci j))
  cases vTy ci j <;> rfl
theorem dfl_cl {ci n : Nat} : ∀ v ∈ dfl ci, clV n v := by
  intro v hv
  unfold dfl at hv
  obtain ⟨k, -, rfl⟩ := List.mem_map.mp hv
  intro a h
  cases hk : vTy ci k <;> rw [hk] at h <;> cases h
section SMALL4
variable {p : Program} {l : Launch} {e : Env} {R : Room} {s : State} {m : MethodId} {args : Array Value} {below : List Frame} {meth : Method} {c : Code} {Hc : Heap} {locs : List Loc} {cells slots : Nat} {Q : State → Prop}
variable {cc : ByteArray} {ls : Array Slot} {rest : List Value}
variable {D : va_G} {A : Nat → Prop} {b Ls : Nat} {xs : Nat → Int32} {H H' : HP} {ws : va_W} {tys : List (ClassId × FieldType)} {y pc pc' : Nat} {i : Instr} {ax : Ax} {L L' : List (Option Value)} {st st' : List Value}
theorem tys_app {t2 : List (ClassId × FieldType)} : ∀ (k : Nat) q, tys[k]? = some q → (tys ++ t2)[k]? = some q := fun k q h => by
  rw [List.getElem?_append_left (List.getElem?_eq_some_iff.mp h).1]
  exact h
theorem tys_last {q : ClassId × FieldType} : (tys ++ [q])[tys.length]? = some q := by
  rw [List.getElem?_append_right (Nat.le_refl _), Nat.sub_self]
  rfl
set_option maxHeartbeats 8000000 in
theorem step_heap (C : Cx y p R s m args meth c A b Ls xs) (hf : ft y pc = some (i, ax)) (hh : isH i = true) (hs : stpI y i ax pc L st H = some (.inl ((pc', L', st'), H')))
    (w : Wd D A b Ls xs H ws tys Hc s) (hcS : ∀ v ∈ st, clV H.1 v) (hcL : clL H.1 L) (hLr : Lr (adr b ws) L ls) (hS : va_S A s.heap Hc locs) (hcell : cells + (H'.1 - H.1) ≤ R.cells) (hslot : slots + (H'.2.1 - H.2.1) ≤ R.slots)
    (kk : ∀ (Hc' : Heap) (locs' : List Loc) (ws' : va_W) (tys' : List (ClassId × FieldType)), Wd D A b Ls xs H' ws' tys' Hc' s → (∀ v ∈ st', clV H'.1 v) → clL H'.1 L' → Lr (adr b ws') L' ls → L' = L → va_S A s.heap Hc' locs' → (∀ a, a < H.1 → adr b ws' a = adr b ws a) → W p l e R s m args below meth c Hc' locs' (cells + (H'.1 - H.1)) (slots + (H'.2.1 - H.2.1)) Q (F0 m pc' ls (st'.map (eV (adr b ws'))))) :
    W p l e R s m args below meth c Hc locs cells slots Q (F0 m pc ls (st.map (eV (adr b ws)))) := by
  obtain ⟨hx, hb, hml, hown, hts, hNZ, hX, hbl, hbA, hA, hin, hRf, hRl⟩ := C
  obtain ⟨hD0, hX0⟩ := ft_ok hf
  have hP := w.2.2.2.2.1
  have hD := w.2.2.2.2.2.1
  have hK := w.2.2.2.2.2.2
  have hlen := w.1
  /- behind a store: the same places -/
  have fin : ∀ {k : Nat} {e0 e1 : va_E} {c1 : AC} {Hc' : Heap} {locs' : List Loc}, ws[k]? = some (adr b ws (k + 1), e0) → H' = hput H (k + 1) c1 → L' = L → (∀ v ∈ st', clV H.1 v) → cel (adr b ws) tys c1 e1 → clC H.1 c1 → va_P D vCl (ws.set k (adr b ws (k + 1), e1)) Hc' → va_D A (ws.set k (adr b ws (k + 1), e1)) → va_S A s.heap Hc' locs' → W p l e R s m args below meth c Hc' locs' cells slots Q (F0 m pc' ls (st'.map (eV (adr b ws)))) := by
    intro k e0 e1 c1 Hc' locs' hk hH hL hcs hce hcl hP' hD' hS'
    subst hH
    subst hL
    have k2 := kk Hc' locs' _ tys (w.put hk hce hcl hP' hD') hcs hcL (by rw [adr_set hk]; exact hLr) rfl hS' (fun a _ => by rw [adr_set hk])
    rw [adr_set hk] at k2
    have e1 : cells + ((hput H (k + 1) c1).1 - H.1) = cells := by show cells + (H.1 - H.1) = cells; omega
    have e2 : slots + ((hput H (k + 1) c1).2.1 - H.2.1) = slots := by show slots + (H.2.1 - H.2.1) = slots; omega
    rw [e1, e2] at k2
    exact k2
  /- behind a making: a place more -/
  have finN : ∀ {q n : Nat} {e1 : va_E} {c1 : AC} {tys' : List (ClassId × FieldType)} {Hc' : Heap} {r : List Value}, H' = hnew H c1 n → L' = L → st' = .ref H.1 :: r → (∀ v ∈ r, clV H.1 v) → (∀ (k : Nat) x, tys[k]? = some x → tys'[k]? = some x) → cel (adr b (ws ++ [(q, e1)])) tys' c1 e1 → clC (H.1 + 1) c1 → va_P D vCl (ws ++ [(q, e1)]) Hc' → va_D A (ws ++ [(q, e1)]) → va_K D vCl tys' s → va_S A s.heap Hc' locs → W p l e R s m args below meth c Hc' locs (cells + 1) (slots + n) Q (F0 m pc' ls (.ref q :: r.map (eV (adr b ws)))) := by
    intro q n e1 c1 tys' Hc' r hH hL hst hr ht hce hcl hP' hD' hK' hS'
    subst hH
    subst hL
    subst hst
    have hsm : ∀ a, a < H.1 → adr b (ws ++ [(q, e1)]) a = adr b ws a := fun a ha => adr_app a (by omega)
    have k2 := kk Hc' locs _ tys' (w.push ht hce hcl hP' hD' hK') (clc (fun a ha => by cases ha; show H.1 < H.1 + 1; omega) (fun v hv => (hr v hv).mono (Nat.le_succ _))) (hcL.mono (Nat.le_succ _)) (hLr.same hsm hcL) rfl hS' hsm
    have e1 : cells + ((hnew H c1 n).1 - H.1) = cells + 1 := by show cells + (H.1 + 1 - H.1) = cells + 1; omega
    have e2 : slots + ((hnew H c1 n).2.1 - H.2.1) = slots + n := by show slots + (H.2.1 + n - H.2.1) = slots + n; omega
    rw [e1, e2] at k2
    have e3 : (Value.ref H.1 :: r).map (eV (adr b (ws ++ [(q, ‹va_E›)]))) = .ref q :: r.map (eV (adr b ws)) := by
      rw [List.map_cons, map_same hsm hr]
      show Value.ref (adr b _ H.1) :: _ = _
      rw [← hlen, adr_new]
    rw [e3] at k2
    exact k2
  unfold stpI at hs
  split at hs <;> first | (cases hh; done) | skip
  · split at hs
    · rename_i v a r
      obtain ⟨c1, hv, h0, rfl, rfl, rfl, rfl⟩ := wr_inv hs
      have ha : a < H.1 := clt hcS _ List.mem_cons_self a rfl
      unfold pF at hv
      split at hv
      · rename_i ci fs hg
        split at hv
        · rename_i hq
          obtain ⟨rfl, hlf, hfit, hfin⟩ := hq
          cases hv
          obtain ⟨k, rfl, hk⟩ := w.obj ha hg
          unfold okX okF at hX0
          dsimp only at hX0
          rw [Bool.and_eq_true, decide_eq_true_eq] at hX0
          obtain ⟨⟨h10, hkN⟩, hw0⟩ := hX0
          obtain ⟨T, hT, hvF, hin2, -, hty, hnm⟩ := cls_at h10
          rw [hvF] at hw0 hfin
          have hcf : ∀ x ∈ fs, clV H.1 x := by
            have h4 := w.2.2.2.1 _ ha
            rw [hg] at h4
            exact h4
          have hcl1 : clC H.1 (.inr (ax.1, fs.set ax.2.1 v)) := fun x hx1 => by
            rcases List.mem_or_eq_of_mem_set hx1 with q | q
            · exact hcf x q
            · rw [q]; exact hcS v List.mem_cons_self
          have hce : cel (adr b ws) tys (.inr (ax.1, fs.set ax.2.1 v)) (.inr (ax.1, (fs.map (eV (adr b ws))).set ax.2.1 (eV (adr b ws) v))) := by
            show _ = _
            rw [List.map_set]
          obtain ⟨hnar, hfits⟩ := fitV_ok hfit (adr b ws)
          by_cases hfl : (T ax.2.1).2.2.2 = false
          · exact va_put hx hb hts hin2 (vTy ax.1) hty hnm hown hK hP hD hS k hk hT ax.2.1 hkN (hts _ (okW_in hw0)) (fun _ h => h) hfl (hty _ hkN) hnar hfits (by rw [List.length_map]; exact hlf) (okD_dec hD0 rfl) (fun H1 l1 hP1 hD1 hS1 => fin hk rfl rfl (clt (clt hcS)) hce hcl1 hP1 hD1 hS1)
          · rcases hfin with hq | ⟨hkd, hdc⟩
            · exact absurd hq hfl
            · exact va_putF hx hb hts hin2 (vTy ax.1) hty hnm hown hK hP hD hS k hk hT ax.2.1 hkN (hts _ (okW_in hw0)) (fun _ h => h) (by simpa using hfl) (hin hkd) hdc (hty _ hkN) hnar hfits (by rw [List.length_map]; exact hlf) (okD_dec hD0 rfl) (fun H1 l1 hP1 hD1 hS1 => fin hk rfl rfl (clt (clt hcS)) hce hcl1 hP1 hD1 hS1)
        · cases hv
      · cases hv
    · cases hs
  · split at hs
    · rename_i x j a r
      obtain ⟨c1, hv, h0, rfl, rfl, rfl, rfl⟩ := wr_inv hs
      have ha : a < H.1 := clt (clt hcS) _ List.mem_cons_self a rfl
      unfold aPI at hv
      split at hv
      · rename_i ty n f hg
        split at hv
        · rename_i hq
          obtain ⟨rfl, hin3⟩ := hq
          cases hv
          obtain ⟨k, cA, t0, rfl, hk, ht⟩ := w.arr ha h0 hg
          exact va_iast hx hb hK hP hD hS k t0 hk ht (inb_in hin3) (okD_dec hD0 rfl) (fun H1 l1 hP1 hD1 hS1 => fin hk rfl rfl (clt (clt (clt hcS))) ⟨cA, t0, rfl, ht⟩ (fun f1 h1 => by cases h1) hP1 hD1 hS1)
        · cases hv
      · cases hv
    · cases hs
  · split at hs
    · rename_i x j a r
      obtain ⟨c1, hv, h0, rfl, rfl, rfl, rfl⟩ := wr_inv hs
      have ha : a < H.1 := clt (clt hcS) _ List.mem_cons_self a rfl
      unfold aPI at hv
      split at hv
      · rename_i ty n f hg
        split at hv
        · rename_i hq
          obtain ⟨rfl, hin3⟩ := hq
          cases hv
          obtain ⟨k, cA, t0, rfl, hk, ht⟩ := w.arr ha h0 hg
          exact va_zast hx hb hK hP hD hS k t0 hk ht (inb_in hin3) (okD_dec hD0 rfl) (fun H1 l1 hP1 hD1 hS1 => fin hk rfl rfl (clt (clt (clt hcS))) ⟨cA, t0, rfl, ht⟩ (fun f1 h1 => by cases h1) hP1 hD1 hS1)
        · cases hv
      · cases hv
    · cases hs
  · split at hs
    · rename_i x j a r
      obtain ⟨c1, hv, h0, rfl, rfl, rfl, rfl⟩ := wr_inv hs
      have ha : a < H.1 := clt (clt hcS) _ List.mem_cons_self a rfl
      unfold aPL at hv
      split at hv
      · rename_i ty n f hg
        split at hv
        · rename_i hq
          obtain ⟨rfl, hin3⟩ := hq
          cases hv
          obtain ⟨k, cA, t0, rfl, hk, ht⟩ := w.arr ha h0 hg
          exact va_last hx hb hK hP hD hS k t0 hk ht (inb_in hin3) (okD_dec hD0 rfl) (fun H1 l1 hP1 hD1 hS1 => fin hk rfl rfl (clt (clt (clt hcS))) ⟨cA, t0, rfl, ht⟩ (fun f1 h1 => by cases h1) hP1 hD1 hS1)
        · cases hv
      · cases hv
    · cases hs
  · split at hs
    · rename_i x j a r
      obtain ⟨c1, hv, h0, rfl, rfl, rfl, rfl⟩ := wr_inv hs
      have ha : a < H.1 := clt (clt hcS) _ List.mem_cons_self a rfl
      unfold aPD at hv
      split at hv
      · rename_i ty n f hg
        split at hv
        · rename_i hq
          obtain ⟨rfl, hin3⟩ := hq
          cases hv
          obtain ⟨k, cA, t0, rfl, hk, ht⟩ := w.arr ha h0 hg
          exact va_dast hx hb hK hP hD hS k t0 hk ht (inb_in hin3) (okD_dec hD0 rfl) (fun H1 l1 hP1 hD1 hS1 => fin hk rfl rfl (clt (clt (clt hcS))) ⟨cA, t0, rfl, ht⟩ (fun f1 h1 => by cases h1) hP1 hD1 hS1)
        · cases hv
      · cases hv
    · cases hs
  · split at hs
    · rename_i v j a r
      obtain ⟨c1, hv, h0, rfl, rfl, rfl, rfl⟩ := wr_inv hs
      have ha : a < H.1 := clt (clt hcS) _ List.mem_cons_self a rfl
      have hvl : v < H.1 := hcS _ List.mem_cons_self v rfl
      unfold aPR at hv
      split at hv
      · rename_i ty n f ci fs hg hg2
        split at hv
        · rename_i hq
          obtain ⟨rfl, h10, hin3⟩ := hq
          cases hv
          obtain ⟨k, cA, t0, rfl, hk, ht⟩ := w.arr ha h0 hg
          obtain ⟨kv, rfl, hkv⟩ := w.obj hvl hg2
          obtain ⟨T, hT, -⟩ := cls_at h10
          have hcf := w.2.2.2.1 _ ha
          rw [hg] at hcf
          exact va_astq hx hb hK hP hD hS k t0 kv ci hk ht hkv hT (inb_in hin3) (okD_dec hD0 rfl) (fun H1 l1 hP1 hD1 hS1 => fin hk rfl rfl (clt (clt (clt hcS))) ⟨cA, t0, by
            show (Sum.inl (cA, n, Sum.inr (.inr (.inr (.inr _)))) : va_E) = Sum.inl (cA, n, Sum.inr (.inr (.inr (.inr fun z => (va_up f j.toNatClampNeg (some (kv + 1)) z).map (adr b ws)))))
            congr 7
            funext z
            unfold va_up
            split <;> rfl, ht⟩ (fun f1 h1 z u hz => by
              cases h1
              unfold va_up at hz
              split at hz
              · cases hz; exact hvl
              · exact hcf f rfl z u hz) hP1 hD1 hS1)
        · cases hv
      · cases hv
    · rename_i j a r
      obtain ⟨c1, hv, h0, rfl, rfl, rfl, rfl⟩ := wr_inv hs
      have ha : a < H.1 := clt (clt hcS) _ List.mem_cons_self a rfl
      unfold aPN at hv
      split at hv
      · rename_i ty n f hg
        split at hv
        · rename_i hq
          obtain ⟨hO, hin3⟩ := hq
          cases hv
          obtain ⟨C, rfl⟩ : ∃ C, ty = .object C := by cases ty <;> first | exact ⟨_, rfl⟩ | cases hO
          obtain ⟨k, cA, t0, rfl, hk, ht⟩ := w.arr ha h0 hg
          have hcf := w.2.2.2.1 _ ha
          rw [hg] at hcf
          exact va_astqN hx hb hK hP hD hS k t0 hk ht (inb_in hin3) (okD_dec hD0 rfl) (fun H1 l1 hP1 hD1 hS1 => fin hk rfl rfl (clt (clt (clt hcS))) ⟨cA, t0, by
            show (Sum.inl (cA, n, Sum.inr (.inr (.inr (.inr _)))) : va_E) = Sum.inl (cA, n, Sum.inr (.inr (.inr (.inr fun z => (va_up f j.toNatClampNeg none z).map (adr b ws)))))
            congr 7
            funext z
            unfold va_up
            split <;> rfl, ht⟩ (fun f1 h1 z u hz => by
              cases h1
              unfold va_up at hz
              split at hz
              · cases hz
              · exact hcf f rfl z u hz) hP1 hD1 hS1)
        · cases hv
      · cases hv
    · cases hs
  · split at hs
    · rename_i n r
      split at hs
      · rename_i c1 hc1
        split at hs
        · rename_i hq
          obtain ⟨rfl, rfl, rfl, rfl⟩ := nx_inv hs
          have e1 : (hnew H c1 n.toNatClampNeg).1 = H.1 + 1 := rfl
          have e2 : (hnew H c1 n.toNatClampNeg).2.1 = H.2.1 + n.toNatClampNeg := rfl
          have g1 : cells + 1 ≤ R.cells := by omega
          have g2 : slots + n.toNatClampNeg ≤ R.slots := by omega
          unfold newC at hc1
          split at hc1
          · cases hc1
            exact va_newa (atype := .boolean) hx hb (hts _ uA_boolean) rfl hK hP hD hS hA (a0 := (n.toNatClampNeg, .inl fun _ => 0)) (fun _ => rfl) hq.1 rfl (by show _ * 1 ≤ _; omega) g1 g2 (okD_dec hD0 rfl) (fun q cA H1 hK1 hP1 hD1 hS1 => finN rfl rfl rfl (clt hcS) tys_app ⟨cA, _, rfl, tys_last⟩ (fun f1 h1 => by cases h1) hP1 hD1 hK1 hS1)
          · cases hc1
            exact va_newa (atype := .int) hx hb (hts _ uA_int) rfl hK hP hD hS hA (a0 := (n.toNatClampNeg, .inl fun _ => 0)) (fun _ => rfl) hq.1 rfl (by show _ * 4 ≤ _; omega) g1 g2 (okD_dec hD0 rfl) (fun q cA H1 hK1 hP1 hD1 hS1 => finN rfl rfl rfl (clt hcS) tys_app ⟨cA, _, rfl, tys_last⟩ (fun f1 h1 => by cases h1) hP1 hD1 hK1 hS1)
          · cases hc1
            exact va_newa (atype := .long) hx hb (hts _ uA_long) rfl hK hP hD hS hA (a0 := (n.toNatClampNeg, .inr (.inl fun _ => 0))) (fun _ => rfl) hq.1 rfl (by show _ * 8 ≤ _; omega) g1 g2 (okD_dec hD0 rfl) (fun q cA H1 hK1 hP1 hD1 hS1 => finN rfl rfl rfl (clt hcS) tys_app ⟨cA, _, rfl, tys_last⟩ (fun f1 h1 => by cases h1) hP1 hD1 hK1 hS1)
          · cases hc1
            exact va_newa (atype := .double) hx hb (hts _ uA_double) rfl hK hP hD hS hA (a0 := (n.toNatClampNeg, .inr (.inr (.inr (.inl fun _ => 0))))) (fun _ => rfl) hq.1 rfl (by show _ * 8 ≤ _; omega) g1 g2 (okD_dec hD0 rfl) (fun q cA H1 hK1 hP1 hD1 hS1 => finN rfl rfl rfl (clt hcS) tys_app ⟨cA, _, rfl, tys_last⟩ (fun f1 h1 => by cases h1) hP1 hD1 hK1 hS1)
          · cases hc1
        · cases hs
      · cases hs
    · cases hs
  · split at hs
    · rename_i n r
      split at hs
      · rename_i hq
        obtain ⟨rfl, rfl, rfl, rfl⟩ := nx_inv hs
        unfold okX at hX0
        dsimp only at hX0
        rw [Bool.and_eq_true, decide_eq_true_eq] at hX0
        obtain ⟨⟨h10, hAL⟩, hw0⟩ := hX0
        have g1 : cells + 1 ≤ R.cells := by
          have : cells + (H.1 + 1 - H.1) ≤ R.cells := hcell
          omega
        have g2 : slots + n.toNatClampNeg ≤ R.slots := by
          have : slots + (H.2.1 + n.toNatClampNeg - H.2.1) ≤ R.slots := hslot
          omega
        exact va_newq hx hb hown (hts _ (okW_in hw0)) (hNZ.2 _ hAL) hK hP hD hS hA hq.1 rfl (by omega) g1 g2 (okD_dec hD0 rfl) (fun q cA H1 hK1 hP1 hD1 hS1 => finN rfl rfl rfl (clt hcS) tys_app ⟨cA, _, rfl, tys_last⟩ (fun f1 h1 z u hz => by cases h1; cases hz) hP1 hD1 hK1 hS1)
      · cases hs
    · cases hs
  · obtain ⟨rfl, rfl, rfl, rfl⟩ := nx_inv hs
    unfold okX at hX0
    dsimp only at hX0
    rw [Bool.and_eq_true, decide_eq_true_eq] at hX0
    obtain ⟨h10, hw0⟩ := hX0
    obtain ⟨T, hT, hvF, hin2, ⟨hi1, hi2⟩, hty, hnm⟩ := cls_at h10
    have g1 : cells + 1 ≤ R.cells := by
      have : cells + (H.1 + 1 - H.1) ≤ R.cells := hcell
      omega
    have g2 : slots + vN ax.1 ≤ R.slots := by
      have : slots + (H.2.1 + vN ax.1 - H.2.1) ≤ R.slots := hslot
      omega
    refine va_new (fs := (dfl ax.1).map (eV (adr b ws))) hx hb hts hin2 (vTy ax.1) hty hown (hts _ (okW_in hw0)) (hts _ hi1) (hts _ hi2) hK hP hD hS hA hT (dfl_V (adr b ws)) g1 g2 (okD_dec hD0 rfl) (fun q H1 hP1 hD1 hS1 => finN rfl rfl rfl hcS (fun _ _ h => h) ?_ dfl_cl hP1 hD1 hK hS1)
    exact congrArg (fun t => (Sum.inr (ax.1, t) : va_E)) (map_same (n := 0) (fun a h => absurd h (Nat.not_lt_zero a)) dfl_cl)
  · exfalso
    split at hs
    · rename_i st1 ha
      cases i <;> first | (cases hh; done) | (simp [alu] at ha; done)
    · cases hs
end SMALL4

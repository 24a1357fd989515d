/-! FastProduct: joinHalves, spread, run -/
section FAST
variable {H : HP} {Q : Option Value → HP → Prop} {t F p rr oo : Nat} {P : Int}
/-- numbers over P -/
def mo (P : Int) (c : Int → Int) (N : Int) : Prop := ∀ j, 0 ≤ j → j < N → 0 ≤ c j ∧ c j < P
theorem jg_mo {P w h s i N : Int} {c : Int → Int} (hP : 0 < P) (hc : mo P c N) : mo P (jg P w h c s i) N := by
  intro j j0 j1
  unfold jg
  split
  · unfold stg
    split <;> exact em hP _
  · exact hc j j0 j1
theorem lp_join (hf : hget H F = cO 1 [.ref p, .ref rr, .ref oo]) (hp : hget H p = cO 3 [vl P]) (hP : 1 < P ∧ P < 1073741824) (ht : t ≠ 0 ∧ F ≠ t ∧ p ≠ t) {N s h w : Int} {c : Int → Int} (hc : mo P c N) (hh : 0 < h ∧ h ≤ 64) (hs : 0 ≤ s ∧ s + 2 * h ≤ N ∧ N ≤ 128) (hs2 : s % (2 * h) = 0) (hw : 0 ≤ w ∧ w < P) : ∀ (d : Nat) (i : Int) (l6 l7 l8 l9 : Option Value), i + d = s + h → s ≤ i → (Go 15 6 [some (.ref F), some (.ref t), some (vi s), some (vi h), some (vl w), none, some (vl (w ^ (i - s).toNat % P)), none, some (vi i), l6, l7, l8, l9] [] (hput H t (cL 128 (jg P w h c s i))) Q ↔ Q none (hput H t (cL 128 (jg P w h c s (s + h))))) := by
  have hf' : ∀ d, hget (hput H t d) F = cO 1 [.ref p, .ref rr, .ref oo] := fun d => by rw [hg_n ht.2.1]; exact hf
  have hp' : ∀ d, hget (hput H t d) p = cO 3 [vl P] := fun d => by rw [hg_n ht.2.2]; exact hp
  intro d
  induction d with
  | zero =>
    intro i l6 l7 l8 l9 hd hi
    rw [show i = s + h by omega]
    rw [gX1_joinHalves_6]
    simp (disch := omega) only [gX1_joinHalves_8, gX1_joinHalves_9, gX1_joinHalves_10, gX1_joinHalves_11T, gX1_joinHalves_11F, gX1_joinHalves_88, Rd_some, Wr_some, Cont_some, Cont_none, iso_O, true_and, hg_s, hg_n, hput_hput]
  | succ d ih =>
    intro i l6 l7 l8 l9 hd hi
    have m1 := hc i (by omega) (by omega)
    have m2 := hc (i + h) (by omega) (by omega)
    have e1 : jg P w h c s i i = c i := if_neg (by omega)
    have e2 : jg P w h c s i (i + h) = c (i + h) := if_neg (by omega)
    have m3 := em (P := P) (by omega) (w ^ (i - s).toNat)
    have m4 := em (P := P) (by omega) (c (i + h) * (w ^ (i - s).toNat % P))
    have m5 := em (P := P) (by omega) (w ^ (i - s).toNat % P * w)
    have e3 : w ^ (i - s).toNat % P * w % P = w ^ (i + 1 - s).toNat % P := by
      rw [show (i + 1 - s).toNat = (i - s).toNat + 1 by omega, Int.pow_succ, Int.mul_emod, Int.emod_emod, ← Int.mul_emod]
    rw [gX1_joinHalves_6]
    simp (disch := omega) only [gX1_joinHalves_8, gX1_joinHalves_9, gX1_joinHalves_10, gX1_joinHalves_11T, gX1_joinHalves_11F, gX1_joinHalves_14, gX1_joinHalves_15, gX1_joinHalves_17, aL_g, gX1_joinHalves_18, gX1_joinHalves_20, gX1_joinHalves_21, fl_1_0, gX1_joinHalves_24, gX1_joinHalves_25, gX1_joinHalves_27, gX1_joinHalves_28, gX1_joinHalves_29, gX1_joinHalves_30, gX1_joinHalves_32, gX1_joinHalves_35, gX1_joinHalves_37, gX1_joinHalves_38, gX1_joinHalves_40, gX1_joinHalves_41, gX1_joinHalves_44, gX1_joinHalves_46, gX1_joinHalves_48, gX1_joinHalves_51, sL_p, gX1_joinHalves_52, gX1_joinHalves_53, gX1_joinHalves_55, gX1_joinHalves_56, gX1_joinHalves_57, gX1_joinHalves_58, gX1_joinHalves_61, gX1_joinHalves_63, gX1_joinHalves_65, gX1_joinHalves_68, gX1_joinHalves_69, gX1_joinHalves_70, gX1_joinHalves_73, gX1_joinHalves_75, gX1_joinHalves_77, gX1_joinHalves_80, gX1_joinHalves_82, gX1_joinHalves_85, Rd_some, Wr_some, Cont_some, Cont_none, iso_O, true_and, hg_s, hg_n, hput_hput, hf', hp', sp_product (hp' _) hP, sp_sum (hp' _) hP, sp_diff (hp' _) hP, e1, e2, e3]
    rw [jg_up hh.1 hs.1 hs2 (by omega) ?_ ?_]
    · exact ih (i + 1) _ _ _ _ (by omega) (by omega)
    · exact cg.ad cg.rf (cg.tr cg.md (cg.ml cg.rf cg.md))
    · exact cg.sb cg.rf (cg.tr cg.md (cg.ml cg.rf cg.md))
theorem sp_join (hf : hget H F = cO 1 [.ref p, .ref rr, .ref oo]) (hp : hget H p = cO 3 [vl P]) (hP : 1 < P ∧ P < 1073741824) (ht : t ≠ 0 ∧ F ≠ t ∧ p ≠ t) {N s h w : Int} {c : Int → Int} (hc : mo P c N) (hh : 0 < h ∧ h ≤ 64) (hs : 0 ≤ s ∧ s + 2 * h ≤ N ∧ N ≤ 128) (hs2 : s % (2 * h) = 0) (hw : 0 ≤ w ∧ w < P) : Go 15 0 [some (.ref F), some (.ref t), some (vi s), some (vi h), some (vl w), none, none, none, none, none, none, none, none] [] (hput H t (cL 128 (jg P w h c s s))) Q ↔ Q none (hput H t (cL 128 (jg P w h c (s + 2 * h) (s + 2 * h)))) := by
  simp only [gX1_joinHalves_0, gX1_joinHalves_1, gX1_joinHalves_3, gX1_joinHalves_4, Rd_some, Wr_some, Cont_some, Cont_none, iso_O, true_and, hg_s, hg_n, hput_hput]
  have e := lp_join (Q := Q) hf hp hP ht hc hh hs hs2 hw h.toNat s none none none none (by omega) (Int.le_refl s)
  rw [show (s - s).toNat = 0 by omega, Int.pow_zero, Int.emod_eq_of_lt (show (0 : Int) ≤ 1 by decide) hP.1] at e
  rw [e, jg_next hh.1 hs.1]
theorem lp_sp2 (hf : hget H F = cO 1 [.ref p, .ref rr, .ref oo]) (hp : hget H p = cO 3 [vl P]) (hP : 1 < P ∧ P < 1073741824) (ht : t ≠ 0 ∧ F ≠ t ∧ p ≠ t) {e q : Nat} (he : e < 8) (hqe : q < e) {w w0 : Int} {c : Int → Int} (hc : mo P c ((2 ^ e : Nat) : Int)) (hw : 0 ≤ w ∧ w < P) : ∀ (d k : Nat), k + d = 2 ^ (e - q - 1) → (Go 14 34 [some (.ref F), some (.ref t), some (vi ((2 ^ e : Nat) : Int)), some (vl w0), none, some (vi ((2 ^ q : Nat) : Int)), some (vl w), none, some (vi ((k * 2 ^ (q + 1) : Nat) : Int))] [] (hput H t (cL 128 (jg P w ((2 ^ q : Nat) : Int) c ((k * 2 ^ (q + 1) : Nat) : Int) ((k * 2 ^ (q + 1) : Nat) : Int)))) Q ↔ Go 14 63 [some (.ref F), some (.ref t), some (vi ((2 ^ e : Nat) : Int)), some (vl w0), none, some (vi ((2 ^ q : Nat) : Int)), some (vl w), none, some (vi ((2 ^ e : Nat) : Int))] [] (hput H t (cL 128 (jg P w ((2 ^ q : Nat) : Int) c ((2 ^ e : Nat) : Int) ((2 ^ e : Nat) : Int)))) Q) := by
  have hf' : ∀ d, hget (hput H t d) F = cO 1 [.ref p, .ref rr, .ref oo] := fun d => by rw [hg_n ht.2.1]; exact hf
  have h2e : 2 ^ e ≤ 128 := Nat.pow_le_pow_right (n := 2) (by decide) (show e ≤ 7 by omega)
  have h2q : 2 ^ q ≤ 64 := Nat.pow_le_pow_right (n := 2) (by decide) (show q ≤ 6 by omega)
  have h2q0 : 0 < 2 ^ q := Nat.pow_pos (by decide)
  have e1 : 2 ^ (q + 1) = 2 * 2 ^ q := by rw [Nat.pow_succ, Nat.mul_comm]
  have e2 : 2 ^ (e - q - 1) * 2 ^ (q + 1) = 2 ^ e := by rw [← Nat.pow_add]; congr 1; omega
  intro d
  induction d with
  | zero =>
    intro k hk
    rw [show k = 2 ^ (e - q - 1) by omega, e2]
    rw [gX1_spread_34]
    simp (disch := omega) only [gX1_spread_36, gX1_spread_37T, gX1_spread_37F, Rd_some, Wr_some, Cont_some, Cont_none, iso_O, true_and, hg_s, hg_n, hput_hput]
  | succ d ih =>
    intro k hk
    have e3 : (k + 1) * 2 ^ (q + 1) = k * 2 ^ (q + 1) + 2 * 2 ^ q := by rw [Nat.add_mul, Nat.one_mul, e1]
    have e4 : (k + 1) * 2 ^ (q + 1) ≤ 2 ^ e := by rw [← e2]; exact Nat.mul_le_mul_right _ (by omega)
    have e5 : ((k * 2 ^ (q + 1) : Nat) : Int) % (2 * ((2 ^ q : Nat) : Int)) = 0 := by
      rw [show (2 * ((2 ^ q : Nat) : Int)) = ((2 ^ (q + 1) : Nat) : Int) by rw [e1]; omega, ← Int.natCast_emod, Nat.mul_mod_left]; rfl
    rw [gX1_spread_34]
    have hj := fun Q => sp_join (Q := Q) hf hp hP ht (s := ((k * 2 ^ (q + 1) : Nat) : Int)) (h := ((2 ^ q : Nat) : Int)) hc (by omega) (by omega) e5 hw
    simp (disch := omega) only [gX1_spread_36, gX1_spread_37T, gX1_spread_37F, gX1_spread_40, gX1_spread_41, gX1_spread_42, gX1_spread_44, gX1_spread_46, gX1_spread_48, gX1_spread_51, gX1_spread_53, gX1_spread_54, gX1_spread_56, gX1_spread_57, gX1_spread_58, gX1_spread_60, Rd_some, Wr_some, Cont_some, Cont_none, iso_O, true_and, hg_s, hg_n, hput_hput, hf', hj]
    rw [show ((k * 2 ^ (q + 1) : Nat) : Int) + 2 * ((2 ^ q : Nat) : Int) = (((k + 1) * 2 ^ (q + 1) : Nat) : Int) by rw [e3]; omega]
    exact ih (k + 1) (by omega)
theorem Blk.cg {w : Int} {e q : Nat} {a c c' : Int → Int} (h : Blk P w e a q c) (hc : ∀ j : Nat, j < 2 ^ e → c' j = c j) (hq : q ≤ e) : Blk P w e a q c' := by
  intro b t hb ht
  rw [hc _ ?_]
  · exact h b t hb ht
  · have e1 : (b + 1) * 2 ^ q ≤ 2 ^ (e - q) * 2 ^ q := Nat.mul_le_mul_right _ (by omega)
    rw [← Nat.pow_add, show e - q + q = e by omega, Nat.add_mul, Nat.one_mul] at e1
    omega
theorem lp_sp1 (hf : hget H F = cO 1 [.ref p, .ref rr, .ref oo]) (hp : hget H p = cO 3 [vl P]) (hP : 1 < P ∧ P < 1073741824) (ht : t ≠ 0 ∧ F ≠ t ∧ p ≠ t) {e : Nat} (he : e < 8) {w0 : Int} {a : Int → Int} (hw0 : 0 ≤ w0 ∧ w0 < P) (hw : e ≠ 0 → cg P (w0 ^ 2 ^ (e - 1)) (-1)) (hq : ∀ g : Int → Int, (∀ i : Nat, i < 2 ^ e → g i = df w0 a (2 ^ e) i % P) → Q none (hput H t (cL 128 g))) : ∀ (d q : Nat) (c : Int → Int) (l6 l7 l8 : Option Value), q + d = e → mo P c ((2 ^ e : Nat) : Int) → Blk P w0 e a q c → Go 14 8 [some (.ref F), some (.ref t), some (vi ((2 ^ e : Nat) : Int)), some (vl w0), none, some (vi ((2 ^ q : Nat) : Int)), l6, l7, l8] [] (hput H t (cL 128 c)) Q := by
  have hf' : ∀ d, hget (hput H t d) F = cO 1 [.ref p, .ref rr, .ref oo] := fun d => by rw [hg_n ht.2.1]; exact hf
  have hp' : ∀ d, hget (hput H t d) p = cO 3 [vl P] := fun d => by rw [hg_n ht.2.2]; exact hp
  have h2e : 2 ^ e ≤ 128 := Nat.pow_le_pow_right (n := 2) (by decide) (show e ≤ 7 by omega)
  have h2e0 : 0 < 2 ^ e := Nat.pow_pos (by decide)
  intro d
  induction d with
  | zero =>
    intro q c l6 l7 l8 hd hm hB
    have eq : q = e := by omega
    subst eq
    rw [gX1_spread_8]
    simp (disch := omega) only [gX1_spread_10, gX1_spread_11T, gX1_spread_11F, gX1_spread_72, Rd_some, Wr_some, Cont_some, Cont_none, iso_O, true_and, hg_s, hg_n, hput_hput]
    refine hq c (fun i hi => ?_)
    have := hB 0 i (Nat.pow_pos (by decide)) hi
    rw [Nat.zero_mul, Nat.zero_add, rv_0 q he, Nat.sub_self, Nat.pow_zero, Int.pow_one] at this
    rw [this]
    congr 1
    unfold df
    refine sm_cN fun s hs => ?_
    dsimp only
    rw [Int.toNat_natCast, Nat.mul_one, Nat.zero_add]
  | succ d ih =>
    intro q c l6 l7 l8 hd hm hB
    have hqe : q < e := by omega
    have h2q : 2 ^ q ≤ 64 := Nat.pow_le_pow_right (n := 2) (by decide) (show q ≤ 6 by omega)
    have h2q0 : 0 < 2 ^ q := Nat.pow_pos (by decide)
    have e1 : 2 ^ (q + 1) = 2 * 2 ^ q := by rw [Nat.pow_succ, Nat.mul_comm]
    have e2 : 2 ^ (e - q - 1) * 2 ^ (q + 1) = 2 ^ e := by rw [← Nat.pow_add]; congr 1; omega
    have hlt : 2 ^ q < 2 ^ e := Nat.pow_lt_pow_right (by decide) hqe
    have e3 : (((2 ^ e : Nat) : Int)).tdiv (2 * ((2 ^ q : Nat) : Int)) = ((2 ^ (e - q - 1) : Nat) : Int) := by
      rw [Int.tdiv_eq_ediv_of_nonneg (by omega), ← e2, e1]
      rw [show ((2 ^ (e - q - 1) * (2 * 2 ^ q) : Nat) : Int) = ((2 ^ (e - q - 1) : Nat) : Int) * (2 * ((2 ^ q : Nat) : Int)) by rw [Int.natCast_mul, Int.natCast_mul]; rfl, Int.mul_ediv_cancel _ (by omega)]
    have h2d : 2 ^ (e - q - 1) ≤ 128 := Nat.le_trans (Nat.pow_le_pow_right (n := 2) (by decide) (show e - q - 1 ≤ 7 by omega)) (by decide)
    have h2d0 : 0 < 2 ^ (e - q - 1) := Nat.pow_pos (by decide)
    have hst := em (P := P) (by omega) (w0 ^ 2 ^ (e - q - 1))
    have e4 : jg P (w0 ^ 2 ^ (e - q - 1) % P) ((2 ^ q : Nat) : Int) c ((0 * 2 ^ (q + 1) : Nat) : Int) ((0 * 2 ^ (q + 1) : Nat) : Int) = c := by
      funext j
      rw [Nat.zero_mul]
      exact if_neg (by omega)
    rw [gX1_spread_8]
    simp (disch := omega) only [gX1_spread_10, gX1_spread_11T, gX1_spread_11F, gX1_spread_14, gX1_spread_15, fl_1_0, gX1_spread_18, gX1_spread_19, gX1_spread_20, gX1_spread_21, gX1_spread_23, gX1_spread_24, gX1_spread_25, gX1_spread_26, gX1_spread_29, gX1_spread_31, gX1_spread_32, Rd_some, Wr_some, Cont_some, Cont_none, iso_O, true_and, hg_s, hg_n, hput_hput, hf', hp', e3, sp_raised (hp' _) hP]
    rw [Int.toNat_natCast]
    have k2 := lp_sp2 (H := H) (Q := Q) (w0 := w0) hf hp hP ht he hqe hm hst (2 ^ (e - q - 1)) 0 (by omega)
    rw [e4, Nat.zero_mul] at k2
    refine k2.mpr ?_
    simp (disch := omega) only [gX1_spread_63, gX1_spread_65, gX1_spread_66, gX1_spread_67, gX1_spread_69, Rd_some, Wr_some, Cont_some, Cont_none, iso_O, true_and, hg_s, hg_n, hput_hput]
    rw [show ((2 ^ q : Nat) : Int) * 2 = ((2 ^ (q + 1) : Nat) : Int) by rw [e1]; omega]
    refine ih (q + 1) _ _ _ _ (by omega) (jg_mo (by omega) hm) ?_
    refine Blk.cg (Blk.stage hqe (hw (by omega)) hB) (fun j hj => ?_) (by omega)
    exact if_pos (Or.inl ⟨by omega, by omega⟩)
theorem sp_spread (hf : hget H F = cO 1 [.ref p, .ref rr, .ref oo]) (hp : hget H p = cO 3 [vl P]) (hP : 1 < P ∧ P < 1073741824) (ht : t ≠ 0 ∧ F ≠ t ∧ p ≠ t) {e : Nat} (he : e < 8) {w0 : Int} {a : Int → Int} (ha : hget H t = cL 128 a) (hm : mo P a ((2 ^ e : Nat) : Int)) (hw0 : 0 ≤ w0 ∧ w0 < P) (hw : e ≠ 0 → cg P (w0 ^ 2 ^ (e - 1)) (-1)) (hq : ∀ g : Int → Int, (∀ i : Nat, i < 2 ^ e → g i = df w0 a (2 ^ e) i % P) → Q none (hput H t (cL 128 g))) : Go 14 0 [some (.ref F), some (.ref t), some (vi ((2 ^ e : Nat) : Int)), some (vl w0), none, none, none, none, none] [] H Q := by
  simp (disch := omega) only [gX1_spread_0, gX1_spread_1, gX1_spread_2, Rd_some, Wr_some, Cont_some, Cont_none, iso_O, true_and, hg_s, hg_n, hput_hput]
  refine sp_swap he ht.1 ha (fun g hg => ?_)
  have hs : ∀ i : Nat, i < 2 ^ e → g i = a (rv e i : Nat) % P := fun i hi => by
    have h1 := (rv_rv e he i (by have : 2 ^ e ≤ 128 := Nat.pow_le_pow_right (n := 2) (by decide) (show e ≤ 7 by omega); omega) hi).2
    have h2 := hm (rv e i : Nat) (by omega) (by omega)
    rw [hg i hi, Int.emod_eq_of_lt h2.1 h2.2]
  simp (disch := omega) only [gX1_spread_5, gX1_spread_6, Rd_some, Wr_some, Cont_some, Cont_none, iso_O, true_and, hg_s, hg_n, hput_hput]
  have := lp_sp1 (H := H) (Q := Q) hf hp hP ht he hw0 hw hq e 0 g none none none (by omega) (fun j j0 j1 => by
    have := hs j.toNat (by omega)
    rw [show ((j.toNat : Nat) : Int) = j by omega] at this
    rw [this]
    exact em (by omega) _) (Blk.start hs)
  exact this
end FAST

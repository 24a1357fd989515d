/-! match, on both sides (begun by program: wip/gen/match.py) -/
/-- the first i signs fit at k -/
def fitb (x y : Int → Int) (wild k : Int) : Nat → Bool
  | 0 => true
  | i + 1 => fitb x y wild k i && decide (y i = x (k + i) ∨ y i = wild ∨ x (k + i) = wild)
theorem fitb_F {x y : Int → Int} {wild k : Int} {i n : Nat} (h : fitb x y wild k i = false) (hn : i ≤ n) : fitb x y wild k n = false := by
  induction n with
  | zero => rw [show i = 0 by omega] at h; exact h
  | succ n ih =>
    by_cases e : i = n + 1
    · rw [← e]; exact h
    · rw [fitb, ih (by omega)]; rfl
/-- the places below k where the pattern fits -/
def fl (x y : Int → Int) (ny : Nat) (wild : Int) : Nat → Int × (Int → Int)
  | 0 => (0, fun _ => 0)
  | k + 1 => if fitb x y wild k ny = true then ((fl x y ny wild k).1 + 1, up (fl x y ny wild k).2 (fl x y ny wild k).1 k) else fl x y ny wild k
theorem fl_r {x y : Int → Int} {ny : Nat} {wild : Int} (k : Nat) : 0 ≤ (fl x y ny wild k).1 ∧ (fl x y ny wild k).1 ≤ k := by
  induction k with
  | zero => exact ⟨Int.le_refl 0, Int.le_refl 0⟩
  | succ k ih =>
    rw [fl]
    split
    · dsimp only; omega
    · omega
def o_match (S : SS) (a b w : Int) : Value × SS := if (0 ≤ a ∧ a < 12) ∧ 0 ≤ b ∧ b < 12 then o_two S a b 3 (fun k l => (vi (fl (S.1.2 k).2.2 (S.1.2 l).2.2 (S.1.2 l).2.1.toNat w ((S.1.2 k).2.1 - (S.1.2 l).2.1 + 1).toNat).1, wSh (wFt S 0) 5 (fl (S.1.2 k).2.2 (S.1.2 l).2.2 (S.1.2 l).2.1.toNat w ((S.1.2 k).2.1 - (S.1.2 l).2.1 + 1).toNat).1 (fl (S.1.2 k).2.2 (S.1.2 l).2.2 (S.1.2 l).2.1.toNat w ((S.1.2 k).2.1 - (S.1.2 l).2.1 + 1).toNat).2)) else (vi (-1), wFt S 0)
section MAT
variable {H : HP} {S : SS} {T : TT} {Q : Option Value → HP → Prop} {a b w n : Int} {d e : RD}
theorem lp_fit {rx cx ry cy : Nat} {lx nx ly ny : Int} {x y : Int → Int} {k : Int} (Rx : RW H rx cx lx nx x) (Ry : RW H ry cy ly ny y) (hk : 0 ≤ k ∧ k + ny ≤ nx) (hw : -9223372036854775808 ≤ w ∧ w ≤ 9223372036854775807) : ∀ (f i : Nat) (l6 l7 l8 l9 : Option Value), (i : Int) + f = ny → fitb x y w k i = true → (Go 113 3 [some (.ref rx), some (.ref ry), some (vi k), some (vl w), none, some (vi (i : Int)), l6, l7, l8, l9] [] H Q ↔ Q (some (vi (if fitb x y w k ny.toNat = true then 1 else 0))) H) := by
  have n1 := Rx.2.2.2.1
  have n2 := Ry.2.2.2.1
  intro f
  induction f with
  | zero =>
    intro i l6 l7 l8 l9 hi hf
    rw [show ny.toNat = i by omega, if_pos hf]
    rw [gX8_isFit_3]
    simp (disch := omega) only [gX8_isFit_5, gX8_isFit_6, gX8_isFit_9T, gX8_isFit_9F, gX8_isFit_73, gX8_isFit_74, Rd_some, Wr_some, Cont_some, Cont_none, iso_O, true_and, hg_s, hg_n, hput_hput, Ry.1, sp_size Ry.1 Ry.2.1 Ry.sz]
  | succ f ih =>
    intro i l6 l7 l8 l9 hi hf
    have m1 := Ry.2.2.2.2 (i : Int) (by omega) (by omega)
    have m2 := Rx.2.2.2.2 (k + i) (by omega) (by omega)
    have next : (y i = x (k + i) ∨ y i = w ∨ x (k + i) = w) → ∀ l6 l7 l8 l9, (Go 113 3 [some (.ref rx), some (.ref ry), some (vi k), some (vl w), none, some (vi ((i : Int) + 1)), l6, l7, l8, l9] [] H Q ↔ Q (some (vi (if fitb x y w k ny.toNat = true then 1 else 0))) H) := fun h l6 l7 l8 l9 => ih (i + 1) l6 l7 l8 l9 (by omega) (by rw [fitb, hf, decide_eq_true h]; rfl)
    rw [gX8_isFit_3]
    by_cases c1 : y i = x (k + i)
    · simp (disch := omega) only [gX8_isFit_5, gX8_isFit_6, gX8_isFit_9T, gX8_isFit_9F, gX8_isFit_12, gX8_isFit_13, gX8_isFit_15, gX8_isFit_16, gX8_isFit_17, gX8_isFit_20T, gX8_isFit_20F, gX8_isFit_23, gX8_isFit_24, fl_5_1, gX8_isFit_27, gX8_isFit_29, aL_g, gX8_isFit_30, gX8_isFit_32, gX8_isFit_33, gX8_isFit_36, gX8_isFit_37, gX8_isFit_39, gX8_isFit_40, gX8_isFit_41, gX8_isFit_43, gX8_isFit_45, gX8_isFit_47T, gX8_isFit_47F, gX8_isFit_48T, gX8_isFit_48F, gX8_isFit_51, gX8_isFit_53, gX8_isFit_54T, gX8_isFit_54F, gX8_isFit_55T, gX8_isFit_55F, gX8_isFit_58, gX8_isFit_60, gX8_isFit_61T, gX8_isFit_61F, gX8_isFit_62T, gX8_isFit_62F, gX8_isFit_65, gX8_isFit_66, gX8_isFit_67, gX8_isFit_70, Rd_some, Wr_some, Cont_some, Cont_none, iso_O, true_and, hg_s, hg_n, hput_hput, Rx.1, Rx.2.1, Ry.1, Ry.2.1, sp_size Rx.1 Rx.2.1 Rx.sz, sp_size Ry.1 Ry.2.1 Ry.sz]
      exact next (Or.inl c1) _ _ _ _
    · by_cases c2 : y i = w
      · simp (disch := omega) only [gX8_isFit_5, gX8_isFit_6, gX8_isFit_9T, gX8_isFit_9F, gX8_isFit_12, gX8_isFit_13, gX8_isFit_15, gX8_isFit_16, gX8_isFit_17, gX8_isFit_20T, gX8_isFit_20F, gX8_isFit_23, gX8_isFit_24, fl_5_1, gX8_isFit_27, gX8_isFit_29, aL_g, gX8_isFit_30, gX8_isFit_32, gX8_isFit_33, gX8_isFit_36, gX8_isFit_37, gX8_isFit_39, gX8_isFit_40, gX8_isFit_41, gX8_isFit_43, gX8_isFit_45, gX8_isFit_47T, gX8_isFit_47F, gX8_isFit_48T, gX8_isFit_48F, gX8_isFit_51, gX8_isFit_53, gX8_isFit_54T, gX8_isFit_54F, gX8_isFit_55T, gX8_isFit_55F, gX8_isFit_58, gX8_isFit_60, gX8_isFit_61T, gX8_isFit_61F, gX8_isFit_62T, gX8_isFit_62F, gX8_isFit_65, gX8_isFit_66, gX8_isFit_67, gX8_isFit_70, Rd_some, Wr_some, Cont_some, Cont_none, iso_O, true_and, hg_s, hg_n, hput_hput, Rx.1, Rx.2.1, Ry.1, Ry.2.1, sp_size Rx.1 Rx.2.1 Rx.sz, sp_size Ry.1 Ry.2.1 Ry.sz]
        exact next (Or.inr (Or.inl c2)) _ _ _ _
      · by_cases c3 : x (k + i) = w
        · simp (disch := omega) only [gX8_isFit_5, gX8_isFit_6, gX8_isFit_9T, gX8_isFit_9F, gX8_isFit_12, gX8_isFit_13, gX8_isFit_15, gX8_isFit_16, gX8_isFit_17, gX8_isFit_20T, gX8_isFit_20F, gX8_isFit_23, gX8_isFit_24, fl_5_1, gX8_isFit_27, gX8_isFit_29, aL_g, gX8_isFit_30, gX8_isFit_32, gX8_isFit_33, gX8_isFit_36, gX8_isFit_37, gX8_isFit_39, gX8_isFit_40, gX8_isFit_41, gX8_isFit_43, gX8_isFit_45, gX8_isFit_47T, gX8_isFit_47F, gX8_isFit_48T, gX8_isFit_48F, gX8_isFit_51, gX8_isFit_53, gX8_isFit_54T, gX8_isFit_54F, gX8_isFit_55T, gX8_isFit_55F, gX8_isFit_58, gX8_isFit_60, gX8_isFit_61T, gX8_isFit_61F, gX8_isFit_62T, gX8_isFit_62F, gX8_isFit_65, gX8_isFit_66, gX8_isFit_67, gX8_isFit_70, Rd_some, Wr_some, Cont_some, Cont_none, iso_O, true_and, hg_s, hg_n, hput_hput, Rx.1, Rx.2.1, Ry.1, Ry.2.1, sp_size Rx.1 Rx.2.1 Rx.sz, sp_size Ry.1 Ry.2.1 Ry.sz]
          exact next (Or.inr (Or.inr c3)) _ _ _ _
        · have hF : fitb x y w k ny.toNat = false := fitb_F (i := i + 1) (by rw [fitb, hf, decide_eq_false (by rintro (q | q | q); exact c1 q; exact c2 q; exact c3 q)]; rfl) (by omega)
          rw [hF, if_neg (by decide)]
          simp (disch := omega) only [gX8_isFit_5, gX8_isFit_6, gX8_isFit_9T, gX8_isFit_9F, gX8_isFit_12, gX8_isFit_13, gX8_isFit_15, gX8_isFit_16, gX8_isFit_17, gX8_isFit_20T, gX8_isFit_20F, gX8_isFit_23, gX8_isFit_24, fl_5_1, gX8_isFit_27, gX8_isFit_29, aL_g, gX8_isFit_30, gX8_isFit_32, gX8_isFit_33, gX8_isFit_36, gX8_isFit_37, gX8_isFit_39, gX8_isFit_40, gX8_isFit_41, gX8_isFit_43, gX8_isFit_45, gX8_isFit_47T, gX8_isFit_47F, gX8_isFit_48T, gX8_isFit_48F, gX8_isFit_51, gX8_isFit_53, gX8_isFit_54T, gX8_isFit_54F, gX8_isFit_55T, gX8_isFit_55F, gX8_isFit_58, gX8_isFit_60, gX8_isFit_61T, gX8_isFit_61F, gX8_isFit_62T, gX8_isFit_62F, gX8_isFit_65, gX8_isFit_66, gX8_isFit_67, gX8_isFit_70, Rd_some, Wr_some, Cont_some, Cont_none, iso_O, true_and, hg_s, hg_n, hput_hput, Rx.1, Rx.2.1, Ry.1, Ry.2.1, sp_size Rx.1 Rx.2.1 Rx.sz, sp_size Ry.1 Ry.2.1 Ry.sz]
theorem sp_fit {rx cx ry cy : Nat} {lx nx ly ny : Int} {x y : Int → Int} {k : Int} (Rx : RW H rx cx lx nx x) (Ry : RW H ry cy ly ny y) (hk : 0 ≤ k ∧ k + ny ≤ nx) (hw : -9223372036854775808 ≤ w ∧ w ≤ 9223372036854775807) : Go 113 0 [some (.ref rx), some (.ref ry), some (vi k), some (vl w), none, none, none, none, none, none] [] H Q ↔ Q (some (vi (if fitb x y w k ny.toNat = true then 1 else 0))) H := by
  have n2 := Ry.2.2.2.1
  simp only [gX8_isFit_0, gX8_isFit_1, Rd_some, Wr_some, Cont_some, Cont_none, iso_O, true_and, hg_s, hg_n, hput_hput]
  exact lp_fit Rx Ry hk hw ny.toNat 0 _ _ _ _ (by omega) rfl
def HF (H : HP) (c : Int) (g : Int → Int) : HP := hput (hput H 20 (cO 6 [.ref 21, vi c])) 21 (cL 64 g)
theorem HF_0 {c : Int} {g : Int → Int} : hget (HF H c g) 20 = cO 6 [.ref 21, vi c] := by unfold HF; rw [hg_n (by omega), hg_s]
theorem HF_1 {c : Int} {g : Int → Int} : hget (HF H c g) 21 = cL 64 g := hg_s
theorem HF_q {c : Int} {g : Int → Int} {q : Nat} (h : q ≠ 20 ∧ q ≠ 21) : hget (HF H c g) q = hget H q := by unfold HF; rw [hg_n h.2, hg_n h.1]
theorem HF_p0 {c c' : Int} {g : Int → Int} : hput (HF H c g) 20 (cO 6 [.ref 21, vi c']) = HF H c' g := by unfold HF; rw [hput_comm (by omega), hput_hput]
theorem HF_p1 {c : Int} {g g' : Int → Int} : hput (HF H c g) 21 (cL 64 g') = HF H c g' := by unfold HF; rw [hput_hput]
theorem lp_mat (hx : hget H 1 = cX S) {rx cx ry cy : Nat} {lx nx ly ny : Int} {x y : Int → Int} (Rx : RW H rx cx lx nx x) (Ry : RW H ry cy ly ny y) (hw : -9223372036854775808 ≤ w ∧ w ≤ 9223372036854775807) {l1 l2 : Option Value} (hq : ∀ g, eqn g (fl x y ny.toNat w (nx - ny + 1).toNat) → Q (some (vi (fl x y ny.toNat w (nx - ny + 1).toNat).1)) (HF H (fl x y ny.toNat w (nx - ny + 1).toNat).1 g)) : ∀ (f k : Nat) (g : Int → Int), k + f = (nx - ny + 1).toNat → eqn g (fl x y ny.toNat w k) → Go 99 88 [some (.ref 1), l1, l2, some (vl w), none, some (.ref rx), some (.ref ry), some (vi (k : Int))] [] (HF H (fl x y ny.toNat w k).1 g) Q := by
  have n1 := Rx.2.2.2.1
  have n2 := Ry.2.2.2.1
  have q1 := Rx.2.2.1
  have q2 := Ry.2.2.1
  have hx' : ∀ c g, hget (HF H c g) 1 = cX S := fun c g => by rw [HF_q (by omega)]; exact hx
  have Rx' : ∀ c g, RW (HF H c g) rx cx lx nx x := fun c g => ⟨by rw [HF_q (by omega)]; exact Rx.1, by rw [HF_q (by omega)]; exact Rx.2.1, Rx.2.2⟩
  have Ry' : ∀ c g, RW (HF H c g) ry cy ly ny y := fun c g => ⟨by rw [HF_q (by omega)]; exact Ry.1, by rw [HF_q (by omega)]; exact Ry.2.1, Ry.2.2⟩
  intro f
  induction f with
  | zero =>
    intro k g hk hg
    have hkk : (k : Int) = max (nx - ny + 1) 0 := by omega
    rw [gX8_match_88]
    simp (disch := omega) only [gX8_match_90, gX8_match_90N, gX8_match_92, gX8_match_95, gX8_match_96, gX8_match_96N, gX8_match_98, gX8_match_101T, gX8_match_101F, gX8_match_154, gX8_match_155, fl_8_8, gX8_match_158, fl_6_1, gX8_match_161, Rd_some, Wr_some, Cont_some, Cont_none, iso_O, true_and, hg_s, hg_n, hput_hput, (Rx' _ _).1, (Ry' _ _).1, sp_size (Rx' _ _).1 (Rx' _ _).2.1 Rx.sz, sp_size (Ry' _ _).1 (Ry' _ _).2.1 Ry.sz, hx', HF_0]
    rw [show k = (nx - ny + 1).toNat by omega] at hg ⊢
    exact hq g hg
  | succ f ih =>
    intro k g hk hg
    have hr := fl_r (x := x) (y := y) (ny := ny.toNat) (wild := w) k
    have hf := fun Q c g => sp_fit (Q := Q) (k := (k : Int)) (Rx' c g) (Ry' c g) (by omega) hw
    rw [gX8_match_88]
    by_cases hb : fitb x y w k ny.toNat = true
    · simp (disch := omega) only [gX8_match_90, gX8_match_90N, gX8_match_92, gX8_match_95, gX8_match_96, gX8_match_96N, gX8_match_98, gX8_match_101T, gX8_match_101F, gX8_match_104, gX8_match_104N, gX8_match_106, gX8_match_106N, gX8_match_108, gX8_match_110, gX8_match_111, gX8_match_114T, gX8_match_114F, gX8_match_117, gX8_match_118, fl_8_8, gX8_match_121, fl_6_0, gX8_match_124, gX8_match_125, gX8_match_128, fl_6_1, gX8_match_131, gX8_match_133, gX8_match_134, sL_p, gX8_match_135, gX8_match_136, gX8_match_139, gX8_match_140, gX8_match_143, gX8_match_144, gX8_match_145, pf_6_1, gX8_match_148, gX8_match_151, Rd_some, Wr_some, Cont_some, Cont_none, iso_O, true_and, hg_s, hg_n, hput_hput, (Rx' _ _).1, (Ry' _ _).1, sp_size (Rx' _ _).1 (Rx' _ _).2.1 Rx.sz, sp_size (Ry' _ _).1 (Ry' _ _).2.1 Ry.sz, hx', HF_0, HF_1, HF_p0, HF_p1, hf, if_pos hb]
      have e1 : (fl x y ny.toNat w (k + 1)).1 = (fl x y ny.toNat w k).1 + 1 := by rw [fl, if_pos hb]
      have e2 : (fl x y ny.toNat w (k + 1)).2 = up (fl x y ny.toNat w k).2 (fl x y ny.toNat w k).1 k := by rw [fl, if_pos hb]
      rw [← e1]
      refine ih (k + 1) _ (by omega) (fun j j0 j1 => ?_)
      rw [e1] at j1
      rw [e2]
      unfold up
      by_cases e : j = (fl x y ny.toNat w k).1
      · rw [if_pos e, if_pos e]
      · rw [if_neg e, if_neg e]; exact hg j j0 (by omega)
    · have e1 : fl x y ny.toNat w (k + 1) = fl x y ny.toNat w k := by rw [fl, if_neg hb]
      simp (disch := omega) only [gX8_match_90, gX8_match_90N, gX8_match_92, gX8_match_95, gX8_match_96, gX8_match_96N, gX8_match_98, gX8_match_101T, gX8_match_101F, gX8_match_104, gX8_match_104N, gX8_match_106, gX8_match_106N, gX8_match_108, gX8_match_110, gX8_match_111, gX8_match_114T, gX8_match_114F, gX8_match_117, gX8_match_118, fl_8_8, gX8_match_121, fl_6_0, gX8_match_124, gX8_match_125, gX8_match_128, fl_6_1, gX8_match_131, gX8_match_133, gX8_match_134, sL_p, gX8_match_135, gX8_match_136, gX8_match_139, gX8_match_140, gX8_match_143, gX8_match_144, gX8_match_145, pf_6_1, gX8_match_148, gX8_match_151, Rd_some, Wr_some, Cont_some, Cont_none, iso_O, true_and, hg_s, hg_n, hput_hput, (Rx' _ _).1, (Ry' _ _).1, sp_size (Rx' _ _).1 (Rx' _ _).2.1 Rx.sz, sp_size (Ry' _ _).1 (Ry' _ _).2.1 Ry.sz, hf, if_neg hb]
      rw [← e1]
      exact ih (k + 1) g (by omega) (by rw [e1]; exact hg)
theorem CI.sh5 {H' : HP} {V : Int → Int} (h : CI H S) (h1 : H'.1 = H.1) (e : ∀ q, q ≠ 20 → q ≠ 21 → hget H' q = hget H q) (hd : hget H' 20 = cO 6 [.ref 21, vi n]) {g : Int → Int} (hg : hget H' 21 = cL 64 g) (hv : eqn g (n, V)) (hn : 0 ≤ n ∧ n ≤ 64) : CI H' (wSh S 5 n V) := by
  refine h.upd h1 (fun q hq => e q (by omega) (by omega)) rfl (fun q hq => ?_) ?_
  · by_cases e1 : q = 20
    · subst e1; exact hd
    · by_cases e2 : q = 21
      · subst e2; exact ⟨g, hg, hv⟩
      · rw [e q e1 e2]; exact (Sh_5 ⟨e1, e2⟩).mpr (h.1 q hq)
  · obtain ⟨s1, s2, s3, s4, s5, s6, s7, s8⟩ := h.2.2.1
    exact ⟨s1, s2, s3, s4, s5, hn, s7, s8⟩

theorem cx_match (hc : CI H S) (c : (-2147483648 ≤ a ∧ a ≤ 2147483647) ∧ (-2147483648 ≤ b ∧ b ≤ 2147483647) ∧ (-9223372036854775808 ≤ w ∧ w ≤ 9223372036854775807)) (hq : CG H Q (o_match S a b w)) : Go 99 0 [some (.ref 1), some (vi a), some (vi b), some (vl w), none, none, none, none] [] H Q := by
  have hx := hc.x
  have h2 := hc.pl
  unfold o_match CG at hq
  by_cases ha : 0 ≤ a ∧ a < 12
  · by_cases hb : 0 ≤ b ∧ b < 12
    · rw [if_pos ⟨ha, hb⟩] at hq
      have hc1 := hc.ft 0
      unfold o_two at hq
      cases hoa : S.1.1 a with
      | none =>
        cases hob : S.1.1 b with
        | none =>
          rw [hoa, hob] at hq
          dsimp only at hq
          simp (disch := omega) only [gX8_match_0, gX8_match_1, gX8_match_2, pf_8_12, gX8_match_5, gX8_match_6, gX8_match_9T, gX8_match_9F, gX8_match_12, gX8_match_13, gX8_match_16T, gX8_match_16F, gX8_match_19, gX8_match_20, gX8_match_21, gX8_match_22, fl_8_0, gX8_match_25, gX8_match_26, aR_g, gX8_match_27, gX8_match_27N, gX8_match_29, gX8_match_30, gX8_match_33, gX8_match_34, gX8_match_35, gX8_match_35N, gX8_match_37, gX8_match_37N, gX8_match_39T, gX8_match_39F, gX8_match_42, gX8_match_42N, gX8_match_44T, gX8_match_44F, gX8_match_47, gX8_match_48, gX8_match_49, gX8_match_52, gX8_match_53, gX8_match_53N, gX8_match_55, fl_5_0, gX8_match_58, gX8_match_59T, gX8_match_59F, gX8_match_62, gX8_match_62N, gX8_match_64, gX8_match_67, gX8_match_68T, gX8_match_68F, gX8_match_71, gX8_match_72, gX8_match_73, gX8_match_76, gX8_match_77, gX8_match_78, fl_8_8, gX8_match_81, gX8_match_82, pf_6_1, gX8_match_85, gX8_match_86, gX8_match_88, gX8_match_90, gX8_match_90N, gX8_match_92, gX8_match_95, gX8_match_96, gX8_match_96N, gX8_match_98, gX8_match_101T, gX8_match_101F, gX8_match_104, gX8_match_104N, gX8_match_106, gX8_match_106N, gX8_match_108, gX8_match_110, gX8_match_111, gX8_match_114T, gX8_match_114F, gX8_match_117, gX8_match_118, gX8_match_121, fl_6_0, gX8_match_124, gX8_match_125, gX8_match_128, fl_6_1, gX8_match_131, gX8_match_133, gX8_match_134, sL_p, gX8_match_135, gX8_match_136, gX8_match_139, gX8_match_140, gX8_match_143, gX8_match_144, gX8_match_145, gX8_match_148, gX8_match_151, gX8_match_154, gX8_match_155, gX8_match_158, gX8_match_161, Rd_some, Wr_some, Cont_some, Cont_none, iso_O, true_and, hg_s, hg_n, hput_hput, gX8_faulted_0, gX8_faulted_1, gX8_faulted_2, pf_8_12, gX8_faulted_5, gX8_faulted_7, gX8_faulted_8, gX8_faulted_9, Rd_some, Wr_some, Cont_some, Cont_none, iso_O, true_and, hg_s, hg_n, hput_hput, hx, h2, sp_plT, aR_g, hoa, hob, va_rf_n]
          exact hq _ (hc.ft 1) (FX.put (by decide))
        | some l =>
          rw [hoa, hob] at hq
          dsimp only at hq
          simp (disch := omega) only [gX8_match_0, gX8_match_1, gX8_match_2, pf_8_12, gX8_match_5, gX8_match_6, gX8_match_9T, gX8_match_9F, gX8_match_12, gX8_match_13, gX8_match_16T, gX8_match_16F, gX8_match_19, gX8_match_20, gX8_match_21, gX8_match_22, fl_8_0, gX8_match_25, gX8_match_26, aR_g, gX8_match_27, gX8_match_27N, gX8_match_29, gX8_match_30, gX8_match_33, gX8_match_34, gX8_match_35, gX8_match_35N, gX8_match_37, gX8_match_37N, gX8_match_39T, gX8_match_39F, gX8_match_42, gX8_match_42N, gX8_match_44T, gX8_match_44F, gX8_match_47, gX8_match_48, gX8_match_49, gX8_match_52, gX8_match_53, gX8_match_53N, gX8_match_55, fl_5_0, gX8_match_58, gX8_match_59T, gX8_match_59F, gX8_match_62, gX8_match_62N, gX8_match_64, gX8_match_67, gX8_match_68T, gX8_match_68F, gX8_match_71, gX8_match_72, gX8_match_73, gX8_match_76, gX8_match_77, gX8_match_78, fl_8_8, gX8_match_81, gX8_match_82, pf_6_1, gX8_match_85, gX8_match_86, gX8_match_88, gX8_match_90, gX8_match_90N, gX8_match_92, gX8_match_95, gX8_match_96, gX8_match_96N, gX8_match_98, gX8_match_101T, gX8_match_101F, gX8_match_104, gX8_match_104N, gX8_match_106, gX8_match_106N, gX8_match_108, gX8_match_110, gX8_match_111, gX8_match_114T, gX8_match_114F, gX8_match_117, gX8_match_118, gX8_match_121, fl_6_0, gX8_match_124, gX8_match_125, gX8_match_128, fl_6_1, gX8_match_131, gX8_match_133, gX8_match_134, sL_p, gX8_match_135, gX8_match_136, gX8_match_139, gX8_match_140, gX8_match_143, gX8_match_144, gX8_match_145, gX8_match_148, gX8_match_151, gX8_match_154, gX8_match_155, gX8_match_158, gX8_match_161, Rd_some, Wr_some, Cont_some, Cont_none, iso_O, true_and, hg_s, hg_n, hput_hput, gX8_faulted_0, gX8_faulted_1, gX8_faulted_2, pf_8_12, gX8_faulted_5, gX8_faulted_7, gX8_faulted_8, gX8_faulted_9, Rd_some, Wr_some, Cont_some, Cont_none, iso_O, true_and, hg_s, hg_n, hput_hput, hx, h2, sp_plT, aR_g, hoa, hob, va_rf_n, va_rf_s]
          exact hq _ (hc.ft 1) (FX.put (by decide))
      | some k =>
        cases hob : S.1.1 b with
        | none =>
          rw [hoa, hob] at hq
          dsimp only at hq
          simp (disch := omega) only [gX8_match_0, gX8_match_1, gX8_match_2, pf_8_12, gX8_match_5, gX8_match_6, gX8_match_9T, gX8_match_9F, gX8_match_12, gX8_match_13, gX8_match_16T, gX8_match_16F, gX8_match_19, gX8_match_20, gX8_match_21, gX8_match_22, fl_8_0, gX8_match_25, gX8_match_26, aR_g, gX8_match_27, gX8_match_27N, gX8_match_29, gX8_match_30, gX8_match_33, gX8_match_34, gX8_match_35, gX8_match_35N, gX8_match_37, gX8_match_37N, gX8_match_39T, gX8_match_39F, gX8_match_42, gX8_match_42N, gX8_match_44T, gX8_match_44F, gX8_match_47, gX8_match_48, gX8_match_49, gX8_match_52, gX8_match_53, gX8_match_53N, gX8_match_55, fl_5_0, gX8_match_58, gX8_match_59T, gX8_match_59F, gX8_match_62, gX8_match_62N, gX8_match_64, gX8_match_67, gX8_match_68T, gX8_match_68F, gX8_match_71, gX8_match_72, gX8_match_73, gX8_match_76, gX8_match_77, gX8_match_78, fl_8_8, gX8_match_81, gX8_match_82, pf_6_1, gX8_match_85, gX8_match_86, gX8_match_88, gX8_match_90, gX8_match_90N, gX8_match_92, gX8_match_95, gX8_match_96, gX8_match_96N, gX8_match_98, gX8_match_101T, gX8_match_101F, gX8_match_104, gX8_match_104N, gX8_match_106, gX8_match_106N, gX8_match_108, gX8_match_110, gX8_match_111, gX8_match_114T, gX8_match_114F, gX8_match_117, gX8_match_118, gX8_match_121, fl_6_0, gX8_match_124, gX8_match_125, gX8_match_128, fl_6_1, gX8_match_131, gX8_match_133, gX8_match_134, sL_p, gX8_match_135, gX8_match_136, gX8_match_139, gX8_match_140, gX8_match_143, gX8_match_144, gX8_match_145, gX8_match_148, gX8_match_151, gX8_match_154, gX8_match_155, gX8_match_158, gX8_match_161, Rd_some, Wr_some, Cont_some, Cont_none, iso_O, true_and, hg_s, hg_n, hput_hput, gX8_faulted_0, gX8_faulted_1, gX8_faulted_2, pf_8_12, gX8_faulted_5, gX8_faulted_7, gX8_faulted_8, gX8_faulted_9, Rd_some, Wr_some, Cont_some, Cont_none, iso_O, true_and, hg_s, hg_n, hput_hput, hx, h2, sp_plT, aR_g, hoa, hob, va_rf_n, va_rf_s]
          exact hq _ (hc.ft 1) (FX.put (by decide))
        | some l =>
          rw [hoa, hob] at hq
          dsimp only at hq
          have ra : Rw (hput H 1 (cX (wFt S 0))) k (S.1.2 k) := hc1.rw' (S := wFt S 0) ha hoa
          have rb : Rw (hput H 1 (cX (wFt S 0))) l (S.1.2 l) := hc1.rw' (S := wFt S 0) hb hob
          have la := ra.2.2.2.1
          have lb := rb.2.2.2.1
          have f1 : FX H (hput H 1 (cX (wFt S 0))) := FX.put (by decide)
          simp (disch := omega) only [gX8_match_0, gX8_match_1, gX8_match_2, pf_8_12, gX8_match_5, gX8_match_6, gX8_match_9T, gX8_match_9F, gX8_match_12, gX8_match_13, gX8_match_16T, gX8_match_16F, gX8_match_19, gX8_match_20, gX8_match_21, gX8_match_22, fl_8_0, gX8_match_25, gX8_match_26, aR_g, gX8_match_27, gX8_match_27N, gX8_match_29, gX8_match_30, gX8_match_33, gX8_match_34, gX8_match_35, gX8_match_35N, Rd_some, Wr_some, Cont_some, Cont_none, iso_O, true_and, hg_s, hg_n, hput_hput, hx, h2, sp_plT, aR_g, hoa, hob, va_rf_s]
          change Go _ _ _ _ (hput H 1 (cX (wFt S 0))) _
          by_cases hl : (S.1.2 k).1 ≤ 3 ∧ (S.1.2 l).1 ≤ 3
          · rw [if_pos hl] at hq
            generalize hput H 1 (cX (wFt S 0)) = H1 at hc1 ra rb f1
            simp (disch := omega) only [gX8_match_37, gX8_match_37N, gX8_match_39T, gX8_match_39F, gX8_match_42, gX8_match_42N, gX8_match_44T, gX8_match_44F, gX8_match_47, gX8_match_48, gX8_match_49, gX8_match_52, gX8_match_53, gX8_match_53N, gX8_match_55, fl_5_0, gX8_match_58, gX8_match_59T, gX8_match_59F, gX8_match_62, gX8_match_62N, gX8_match_64, gX8_match_67, gX8_match_68T, gX8_match_68F, gX8_match_71, gX8_match_72, gX8_match_73, gX8_match_76, Rd_some, Wr_some, Cont_some, Cont_none, iso_O, true_and, hg_s, hg_n, hput_hput, ra.2.1, rb.2.1]
            have hA := ra.RW
            have hB := rb.RW
            have nA := hA.2.2.2.1
            have nB := hB.2.2.2.1
            obtain ⟨g0, g1, -⟩ := hc1.c 21 (by decide)
            have h20 : hget H1 20 = cO 6 [.ref 21, vi ((wFt S 0).2.2 5).1] := hc1.c 20 (by decide)
            simp (disch := omega) only [gX8_match_77, gX8_match_78, fl_8_8, gX8_match_81, gX8_match_82, pf_6_1, gX8_match_85, gX8_match_86, Rd_some, Wr_some, Cont_some, Cont_none, iso_O, true_and, hg_s, hg_n, hput_hput, hc1.x, h20]
            have eH : hput H1 20 (cO 6 [.ref 21, vi 0]) = HF H1 0 g0 := by
              unfold HF
              exact (hput_same (by rw [hg_n (by omega)]; exact g1)).symm
            change Go _ _ _ _ (hput H1 20 (cO 6 [.ref 21, vi 0])) _
            rw [eH]
            have hr := fl_r (x := (S.1.2 k).2.2) (y := (S.1.2 l).2.2) (ny := (S.1.2 l).2.1.toNat) (wild := w) ((S.1.2 k).2.1 - (S.1.2 l).2.1 + 1).toNat
            refine lp_mat (S := wFt S 0) hc1.x hA hB c.2.2 (fun g hg => ?_) ((S.1.2 k).2.1 - (S.1.2 l).2.1 + 1).toNat 0 g0 (by omega) (fun j j0 j1 => by have j1 : j < 0 := j1; omega)
            exact hq _ (hc1.sh5 rfl (fun q q1 q2 => HF_q ⟨q1, q2⟩) HF_0 HF_1 hg (by omega)) (f1.same rfl rfl (fun q hq => HF_q (by omega)))
          · rw [if_neg hl] at hq
            by_cases hl2 : (S.1.2 k).1 ≤ 3 <;> simp (disch := omega) only [gX8_match_37, gX8_match_37N, gX8_match_39T, gX8_match_39F, gX8_match_42, gX8_match_42N, gX8_match_44T, gX8_match_44F, gX8_match_47, gX8_match_48, gX8_match_49, gX8_match_52, gX8_match_53, gX8_match_53N, gX8_match_55, fl_5_0, gX8_match_58, gX8_match_59T, gX8_match_59F, gX8_match_62, gX8_match_62N, gX8_match_64, gX8_match_67, gX8_match_68T, gX8_match_68F, gX8_match_71, gX8_match_72, gX8_match_73, gX8_match_76, Rd_some, Wr_some, Cont_some, Cont_none, iso_O, true_and, hg_s, hg_n, hput_hput, gX8_faulted_0, gX8_faulted_1, gX8_faulted_2, pf_8_12, gX8_faulted_5, gX8_faulted_7, gX8_faulted_8, gX8_faulted_9, Rd_some, Wr_some, Cont_some, Cont_none, iso_O, true_and, hg_s, hg_n, hput_hput, ra.2.1, rb.2.1] <;> exact hq _ (hc.ft 2) (FX.put (by decide))
    · rw [if_neg (fun t => hb t.2)] at hq
      simp (disch := omega) only [gX8_match_0, gX8_match_1, gX8_match_2, pf_8_12, gX8_match_5, gX8_match_6, gX8_match_9T, gX8_match_9F, gX8_match_12, gX8_match_13, gX8_match_16T, gX8_match_16F, gX8_match_19, gX8_match_20, gX8_match_21, gX8_match_22, fl_8_0, gX8_match_25, gX8_match_26, aR_g, gX8_match_27, gX8_match_27N, gX8_match_29, gX8_match_30, gX8_match_33, gX8_match_34, gX8_match_35, gX8_match_35N, gX8_match_37, gX8_match_37N, gX8_match_39T, gX8_match_39F, gX8_match_42, gX8_match_42N, gX8_match_44T, gX8_match_44F, gX8_match_47, gX8_match_48, gX8_match_49, gX8_match_52, gX8_match_53, gX8_match_53N, gX8_match_55, fl_5_0, gX8_match_58, gX8_match_59T, gX8_match_59F, gX8_match_62, gX8_match_62N, gX8_match_64, gX8_match_67, gX8_match_68T, gX8_match_68F, gX8_match_71, gX8_match_72, gX8_match_73, gX8_match_76, gX8_match_77, gX8_match_78, fl_8_8, gX8_match_81, gX8_match_82, pf_6_1, gX8_match_85, gX8_match_86, gX8_match_88, gX8_match_90, gX8_match_90N, gX8_match_92, gX8_match_95, gX8_match_96, gX8_match_96N, gX8_match_98, gX8_match_101T, gX8_match_101F, gX8_match_104, gX8_match_104N, gX8_match_106, gX8_match_106N, gX8_match_108, gX8_match_110, gX8_match_111, gX8_match_114T, gX8_match_114F, gX8_match_117, gX8_match_118, gX8_match_121, fl_6_0, gX8_match_124, gX8_match_125, gX8_match_128, fl_6_1, gX8_match_131, gX8_match_133, gX8_match_134, sL_p, gX8_match_135, gX8_match_136, gX8_match_139, gX8_match_140, gX8_match_143, gX8_match_144, gX8_match_145, gX8_match_148, gX8_match_151, gX8_match_154, gX8_match_155, gX8_match_158, gX8_match_161, Rd_some, Wr_some, Cont_some, Cont_none, iso_O, true_and, hg_s, hg_n, hput_hput, hx, sp_plT, sp_plF]
      exact hq _ (hc.ft 0) (FX.put (by decide))
  · rw [if_neg (fun t => ha t.1)] at hq
    simp (disch := omega) only [gX8_match_0, gX8_match_1, gX8_match_2, pf_8_12, gX8_match_5, gX8_match_6, gX8_match_9T, gX8_match_9F, gX8_match_12, gX8_match_13, gX8_match_16T, gX8_match_16F, gX8_match_19, gX8_match_20, gX8_match_21, gX8_match_22, fl_8_0, gX8_match_25, gX8_match_26, aR_g, gX8_match_27, gX8_match_27N, gX8_match_29, gX8_match_30, gX8_match_33, gX8_match_34, gX8_match_35, gX8_match_35N, gX8_match_37, gX8_match_37N, gX8_match_39T, gX8_match_39F, gX8_match_42, gX8_match_42N, gX8_match_44T, gX8_match_44F, gX8_match_47, gX8_match_48, gX8_match_49, gX8_match_52, gX8_match_53, gX8_match_53N, gX8_match_55, fl_5_0, gX8_match_58, gX8_match_59T, gX8_match_59F, gX8_match_62, gX8_match_62N, gX8_match_64, gX8_match_67, gX8_match_68T, gX8_match_68F, gX8_match_71, gX8_match_72, gX8_match_73, gX8_match_76, gX8_match_77, gX8_match_78, fl_8_8, gX8_match_81, gX8_match_82, pf_6_1, gX8_match_85, gX8_match_86, gX8_match_88, gX8_match_90, gX8_match_90N, gX8_match_92, gX8_match_95, gX8_match_96, gX8_match_96N, gX8_match_98, gX8_match_101T, gX8_match_101F, gX8_match_104, gX8_match_104N, gX8_match_106, gX8_match_106N, gX8_match_108, gX8_match_110, gX8_match_111, gX8_match_114T, gX8_match_114F, gX8_match_117, gX8_match_118, gX8_match_121, fl_6_0, gX8_match_124, gX8_match_125, gX8_match_128, fl_6_1, gX8_match_131, gX8_match_133, gX8_match_134, sL_p, gX8_match_135, gX8_match_136, gX8_match_139, gX8_match_140, gX8_match_143, gX8_match_144, gX8_match_145, gX8_match_148, gX8_match_151, gX8_match_154, gX8_match_155, gX8_match_158, gX8_match_161, Rd_some, Wr_some, Cont_some, Cont_none, iso_O, true_and, hg_s, hg_n, hput_hput, hx, sp_plT, sp_plF]
    exact hq _ (hc.ft 0) (FX.put (by decide))

theorem MJ.sh5 {H1 H' : HP} {S1 : SS} {V : Int → Int} (h1 : MH H1 S1 T) (h2 : MR S1 T) (h3 : SI S1) (h4 : ∀ k, live S1 k → rok (S1.1.2 k)) (e : ∀ q, 41 ≤ q → q ≤ 60 → q ≠ 41 → q ≠ 51 → hget H' q = hget H1 q) (e1 : hget H' 41 = cM (wSh S1 5 n V)) {g : Int → Int} (hg : hget H' 51 = cJ 64 g) (hv : eqn g (n, V)) (hn : 0 ≤ n ∧ n ≤ 64) : MJ H' (wSh S1 5 n V) := by
  refine ⟨T, fun q q1 q2 => ?_, h2, ?_, h4⟩
  · by_cases b1 : q = 41
    · subst b1; exact e1
    · by_cases b2 : q = 51
      · subst b2; exact ⟨g, hg, hv⟩
      · rw [e q q1 q2 b1 b2]
        have := h1 q q1 q2
        unfold Mh at this ⊢
        split at this <;> first | exact absurd rfl b1 | exact absurd rfl b2 | exact this
  · obtain ⟨s1, s2, s3, s4, s5, s6, s7, s8⟩ := h3
    exact ⟨s1, s2, s3, s4, s5, hn, s7, s8⟩
theorem lp_mfit {k : Int} (hA : VR H S a d) (hB : VR H S b e) (hk : 0 ≤ k ∧ k + e.2.1 ≤ d.2.1) (rA : ∀ j, 0 ≤ j → j < d.2.1 → -9223372036854775808 ≤ d.2.2 j ∧ d.2.2 j ≤ 9223372036854775807) (rB : ∀ j, 0 ≤ j → j < e.2.1 → -9223372036854775808 ≤ e.2.2 j ∧ e.2.2 j ≤ 9223372036854775807) (hw : -9223372036854775808 ≤ w ∧ w ≤ 9223372036854775807) {l5 : Option Value} (hq : ∀ l8 l9 l10 l11 l12, Go 173 138 [some (.ref 41), some (vi a), some (vi b), some (vl w), none, l5, some (vi k), some (vi (if fitb d.2.2 e.2.2 w k e.2.1.toNat = true then 1 else 0)), l8, l9, l10, l11, l12] [] H Q) : ∀ (f i : Nat) (l9 l10 l11 l12 : Option Value), (i : Int) + f = e.2.1 → (Go 173 67 [some (.ref 41), some (vi a), some (vi b), some (vl w), none, l5, some (vi k), some (vi (if fitb d.2.2 e.2.2 w k i = true then 1 else 0)), some (vi (i : Int)), l9, l10, l11, l12] [] H Q) := by
  have nA := hA.2.1
  have nB := hB.2.1
  intro f
  induction f with
  | zero =>
    intro i l9 l10 l11 l12 hi
    rw [gX9_match_67]
    simp (disch := omega) only [gX9_match_69, gX9_match_70, gX9_match_71, gX9_match_74T, gX9_match_74F, Rd_some, Wr_some, Cont_some, Cont_none, iso_O, true_and, hg_s, hg_n, hput_hput, hB.1, vr_cnt hB]
    have := hq (some (vi (i : Int))) l9 l10 l11 l12
    rw [show e.2.1.toNat = i by omega] at this
    exact this
  | succ f ih =>
    intro i l9 l10 l11 l12 hi
    cases hb : fitb d.2.2 e.2.2 w k i with
    | false =>
      rw [if_neg (by decide), gX9_match_67]
      simp (disch := omega) only [gX9_match_69, gX9_match_70, gX9_match_71, gX9_match_74T, gX9_match_74F, gX9_match_77, gX9_match_79T, gX9_match_79F, Rd_some, Wr_some, Cont_some, Cont_none, iso_O, true_and, hg_s, hg_n, hput_hput, hB.1, vr_cnt hB]
      have := hq (some (vi (i : Int))) l9 l10 l11 l12
      rw [fitb_F (n := e.2.1.toNat) hb (by omega), if_neg (by decide)] at this
      exact this
    | true =>
      have m1 := rB (i : Int) (by omega) (by omega)
      have m2 := rA (k + i) (by omega) (by omega)
      rw [if_pos rfl, gX9_match_67]
      have T1 : (e.2.2 i = d.2.2 (k + i) ∨ e.2.2 i = w ∨ d.2.2 (k + i) = w) → fitb d.2.2 e.2.2 w k (i + 1) = true := fun h => by rw [fitb, hb, decide_eq_true h]; rfl
      by_cases c2 : e.2.2 i = w
      · have ih' := fun l9 l10 l11 l12 => ih (i + 1) l9 l10 l11 l12 (by omega)
        rw [T1 (Or.inr (Or.inl c2)), if_pos rfl] at ih'
        simp (disch := omega) only [gX9_match_69, gX9_match_70, gX9_match_71, gX9_match_74T, gX9_match_74F, gX9_match_77, gX9_match_79T, gX9_match_79F, gX9_match_82, gX9_match_83, gX9_match_84, gX9_match_86, gX9_match_89, gX9_match_91, gX9_match_92, gX9_match_93, gX9_match_95, gX9_match_97, gX9_match_98, gX9_match_101, gX9_match_103, gX9_match_105, gX9_match_106T, gX9_match_106F, gX9_match_107T, gX9_match_107F, gX9_match_110, gX9_match_112, gX9_match_113T, gX9_match_113F, gX9_match_114T, gX9_match_114F, gX9_match_117, gX9_match_119, gX9_match_121T, gX9_match_121F, gX9_match_122T, gX9_match_122F, gX9_match_125, gX9_match_126, gX9_match_129, gX9_match_130, gX9_match_132, gX9_match_135, Rd_some, Wr_some, Cont_some, Cont_none, iso_O, true_and, hg_s, hg_n, hput_hput, hA.1, vr_cnt hB, vr_ent hA, vr_ent hB]
        exact ih' _ _ _ _
      · by_cases c3 : d.2.2 (k + i) = w
        · have ih' := fun l9 l10 l11 l12 => ih (i + 1) l9 l10 l11 l12 (by omega)
          rw [T1 (Or.inr (Or.inr c3)), if_pos rfl] at ih'
          simp (disch := omega) only [gX9_match_69, gX9_match_70, gX9_match_71, gX9_match_74T, gX9_match_74F, gX9_match_77, gX9_match_79T, gX9_match_79F, gX9_match_82, gX9_match_83, gX9_match_84, gX9_match_86, gX9_match_89, gX9_match_91, gX9_match_92, gX9_match_93, gX9_match_95, gX9_match_97, gX9_match_98, gX9_match_101, gX9_match_103, gX9_match_105, gX9_match_106T, gX9_match_106F, gX9_match_107T, gX9_match_107F, gX9_match_110, gX9_match_112, gX9_match_113T, gX9_match_113F, gX9_match_114T, gX9_match_114F, gX9_match_117, gX9_match_119, gX9_match_121T, gX9_match_121F, gX9_match_122T, gX9_match_122F, gX9_match_125, gX9_match_126, gX9_match_129, gX9_match_130, gX9_match_132, gX9_match_135, Rd_some, Wr_some, Cont_some, Cont_none, iso_O, true_and, hg_s, hg_n, hput_hput, hA.1, vr_cnt hB, vr_ent hA, vr_ent hB]
          exact ih' _ _ _ _
        · by_cases c1 : e.2.2 i = d.2.2 (k + i)
          · have ih' := fun l9 l10 l11 l12 => ih (i + 1) l9 l10 l11 l12 (by omega)
            rw [T1 (Or.inl c1), if_pos rfl] at ih'
            simp (disch := omega) only [gX9_match_69, gX9_match_70, gX9_match_71, gX9_match_74T, gX9_match_74F, gX9_match_77, gX9_match_79T, gX9_match_79F, gX9_match_82, gX9_match_83, gX9_match_84, gX9_match_86, gX9_match_89, gX9_match_91, gX9_match_92, gX9_match_93, gX9_match_95, gX9_match_97, gX9_match_98, gX9_match_101, gX9_match_103, gX9_match_105, gX9_match_106T, gX9_match_106F, gX9_match_107T, gX9_match_107F, gX9_match_110, gX9_match_112, gX9_match_113T, gX9_match_113F, gX9_match_114T, gX9_match_114F, gX9_match_117, gX9_match_119, gX9_match_121T, gX9_match_121F, gX9_match_122T, gX9_match_122F, gX9_match_125, gX9_match_126, gX9_match_129, gX9_match_130, gX9_match_132, gX9_match_135, Rd_some, Wr_some, Cont_some, Cont_none, iso_O, true_and, hg_s, hg_n, hput_hput, hA.1, vr_cnt hB, vr_ent hA, vr_ent hB]
            exact ih' _ _ _ _
          · have hF : fitb d.2.2 e.2.2 w k (i + 1) = false := by rw [fitb, hb, decide_eq_false (by rintro (q | q | q); exact c1 q; exact c2 q; exact c3 q)]; rfl
            have ih' := fun l9 l10 l11 l12 => ih (i + 1) l9 l10 l11 l12 (by omega)
            rw [hF, if_neg (by decide)] at ih'
            simp (disch := omega) only [gX9_match_69, gX9_match_70, gX9_match_71, gX9_match_74T, gX9_match_74F, gX9_match_77, gX9_match_79T, gX9_match_79F, gX9_match_82, gX9_match_83, gX9_match_84, gX9_match_86, gX9_match_89, gX9_match_91, gX9_match_92, gX9_match_93, gX9_match_95, gX9_match_97, gX9_match_98, gX9_match_101, gX9_match_103, gX9_match_105, gX9_match_106T, gX9_match_106F, gX9_match_107T, gX9_match_107F, gX9_match_110, gX9_match_112, gX9_match_113T, gX9_match_113F, gX9_match_114T, gX9_match_114F, gX9_match_117, gX9_match_119, gX9_match_121T, gX9_match_121F, gX9_match_122T, gX9_match_122F, gX9_match_125, gX9_match_126, gX9_match_129, gX9_match_130, gX9_match_132, gX9_match_135, Rd_some, Wr_some, Cont_some, Cont_none, iso_O, true_and, hg_s, hg_n, hput_hput, hA.1, vr_cnt hB, vr_ent hA, vr_ent hB]
            exact ih' _ _ _ _
theorem lp_mmat {H1 : HP} {x y : Int → Int} (hA : ∀ c V g, VR (hput (hput H1 41 (cM (wSh S 5 c V))) 51 (cJ 64 g)) (wSh S 5 c V) a d) (hB : ∀ c V g, VR (hput (hput H1 41 (cM (wSh S 5 c V))) 51 (cJ 64 g)) (wSh S 5 c V) b e) (rA : ∀ j, 0 ≤ j → j < d.2.1 → -9223372036854775808 ≤ d.2.2 j ∧ d.2.2 j ≤ 9223372036854775807) (rB : ∀ j, 0 ≤ j → j < e.2.1 → -9223372036854775808 ≤ e.2.2 j ∧ e.2.2 j ≤ 9223372036854775807) (hw : -9223372036854775808 ≤ w ∧ w ≤ 9223372036854775807) {l5 : Option Value} (hx : x = d.2.2) (hy : y = e.2.2) (hq : ∀ g, eqn g (fl x y e.2.1.toNat w (d.2.1 - e.2.1 + 1).toNat) → Q (some (vi (fl x y e.2.1.toNat w (d.2.1 - e.2.1 + 1).toNat).1)) (hput (hput H1 41 (cM (wSh S 5 (fl x y e.2.1.toNat w (d.2.1 - e.2.1 + 1).toNat).1 (fl x y e.2.1.toNat w (d.2.1 - e.2.1 + 1).toNat).2))) 51 (cJ 64 g))) : ∀ (f k : Nat) (g : Int → Int) (l7 l8 l9 l10 l11 l12 : Option Value), k + f = (d.2.1 - e.2.1 + 1).toNat → eqn g (fl x y e.2.1.toNat w k) → Go 173 45 [some (.ref 41), some (vi a), some (vi b), some (vl w), none, l5, some (vi (k : Int)), l7, l8, l9, l10, l11, l12] [] (hput (hput H1 41 (cM (wSh S 5 (fl x y e.2.1.toNat w k).1 (fl x y e.2.1.toNat w k).2))) 51 (cJ 64 g)) Q := by
  have nA := (hA 0 x x).2.1
  have nB := (hB 0 x x).2.1
  subst hx hy
  intro f
  induction f with
  | zero =>
    intro k g l7 l8 l9 l10 l11 l12 hk hg
    have vA := hA (fl d.2.2 e.2.2 e.2.1.toNat w k).1 (fl d.2.2 e.2.2 e.2.1.toNat w k).2 g
    have vB := hB (fl d.2.2 e.2.2 e.2.1.toNat w k).1 (fl d.2.2 e.2.2 e.2.1.toNat w k).2 g
    have ek : k = (d.2.1 - e.2.1 + 1).toNat := by omega
    rw [gX9_match_45]
    simp (disch := omega) only [gX9_match_47, gX9_match_48, gX9_match_49, gX9_match_52, gX9_match_53, gX9_match_54, gX9_match_55, gX9_match_58T, gX9_match_58F, Rd_some, Wr_some, Cont_some, Cont_none, iso_O, true_and, hg_s, hg_n, hput_hput, vA.1, vr_cnt vA, vr_cnt vB]
    simp (disch := omega) only [gX9_match_170, gX9_match_171, fl_9_15, gX9_match_174, Rd_some, Wr_some, Cont_some, Cont_none, iso_O, true_and, hg_s, hg_n, hput_hput, vA.1]
    rw [ek] at hg ⊢
    exact hq g hg
  | succ f ih =>
    intro k g l7 l8 l9 l10 l11 l12 hk hg
    have hr := fl_r (x := d.2.2) (y := e.2.2) (ny := e.2.1.toNat) (wild := w) k
    have vA := hA (fl d.2.2 e.2.2 e.2.1.toNat w k).1 (fl d.2.2 e.2.2 e.2.1.toNat w k).2 g
    have vB := hB (fl d.2.2 e.2.2 e.2.1.toNat w k).1 (fl d.2.2 e.2.2 e.2.1.toNat w k).2 g
    rw [gX9_match_45]
    simp (disch := omega) only [gX9_match_47, gX9_match_48, gX9_match_49, gX9_match_52, gX9_match_53, gX9_match_54, gX9_match_55, gX9_match_58T, gX9_match_58F, gX9_match_61, gX9_match_62, gX9_match_64, gX9_match_65, Rd_some, Wr_some, Cont_some, Cont_none, iso_O, true_and, hg_s, hg_n, hput_hput, vA.1, vr_cnt vA, vr_cnt vB]
    refine lp_mfit vA vB (k := (k : Int)) (by omega) rA rB hw (fun l8 l9 l10 l11 l12 => ?_) e.2.1.toNat 0 _ _ _ _ (by omega)
    by_cases hb : fitb d.2.2 e.2.2 w k e.2.1.toNat = true
    · have e1 : (fl d.2.2 e.2.2 e.2.1.toNat w (k + 1)).1 = (fl d.2.2 e.2.2 e.2.1.toNat w k).1 + 1 := by rw [fl, if_pos hb]
      have e2 : (fl d.2.2 e.2.2 e.2.1.toNat w (k + 1)).2 = up (fl d.2.2 e.2.2 e.2.1.toNat w k).2 (fl d.2.2 e.2.2 e.2.1.toNat w k).1 k := by rw [fl, if_pos hb]
      rw [if_pos hb]
      have hcom : ∀ c c' d', hput (hput (hput H1 41 c) 51 d') 41 c' = hput (hput H1 41 c') 51 d' := fun c c' d' => by rw [hput_comm (by omega), hput_hput]
      have h51 : ∀ c d', hget (hput (hput H1 41 c) 51 d') 41 = c := fun c d' => by rw [hg_n (by omega), hg_s]
      have w5 : ∀ (c : Int) (V : Int → Int), ((wSh S 5 c V).2.2 5).1 = c := fun _ _ => rfl
      simp (disch := omega) only [gX9_match_138, gX9_match_140T, gX9_match_140F, gX9_match_143, gX9_match_144, fl_9_16, gX9_match_147, gX9_match_148, fl_9_15, gX9_match_151, gX9_match_153, sJ_p, gX9_match_154, gX9_match_155, gX9_match_156, gX9_match_159, gX9_match_160, gX9_match_161, pf_9_15, gX9_match_164, gX9_match_167, Rd_some, Wr_some, Cont_some, Cont_none, iso_O, true_and, hg_s, hg_n, hput_hput, h51, hcom, w5]
      have := ih (k + 1) (up g (fl d.2.2 e.2.2 e.2.1.toNat w k).1 k) (some (vi 1)) l8 l9 l10 l11 l12 (by omega) (fun j j0 j1 => by
        rw [e1] at j1
        rw [e2]
        unfold up
        by_cases e : j = (fl d.2.2 e.2.2 e.2.1.toNat w k).1
        · rw [if_pos e, if_pos e]
        · rw [if_neg e, if_neg e]; exact hg j j0 (by omega))
      rw [e1] at this
      exact this
    · have e1 : fl d.2.2 e.2.2 e.2.1.toNat w (k + 1) = fl d.2.2 e.2.2 e.2.1.toNat w k := by rw [fl, if_neg hb]
      rw [if_neg hb]
      simp (disch := omega) only [gX9_match_138, gX9_match_140T, gX9_match_140F, gX9_match_143, gX9_match_144, fl_9_16, gX9_match_147, gX9_match_148, fl_9_15, gX9_match_151, gX9_match_153, sJ_p, gX9_match_154, gX9_match_155, gX9_match_156, gX9_match_159, gX9_match_160, gX9_match_161, pf_9_15, gX9_match_164, gX9_match_167, Rd_some, Wr_some, Cont_some, Cont_none, iso_O, true_and, hg_s, hg_n, hput_hput]
      have := ih (k + 1) g (some (vi 0)) l8 l9 l10 l11 l12 (by omega) (by rw [e1]; exact hg)
      rw [e1] at this
      exact this

theorem mx_match (hm : MJ H S) (c : (-2147483648 ≤ a ∧ a ≤ 2147483647) ∧ (-2147483648 ≤ b ∧ b ≤ 2147483647) ∧ (-9223372036854775808 ≤ w ∧ w ≤ 9223372036854775807)) (hq : MG H Q (o_match S a b w)) : Go 173 0 [some (.ref 41), some (vi a), some (vi b), some (vl w), none, none, none, none, none, none, none, none, none] [] H Q := by
  obtain ⟨T, h1, h2, h3, h4⟩ := hm
  have hx := h1.v.1
  unfold o_match MG at hq
  by_cases ha : 0 ≤ a ∧ a < 12
  · by_cases hb : 0 ≤ b ∧ b < 12
    · rw [if_pos ⟨ha, hb⟩] at hq
      have m1 := h1.ft 0
      unfold o_two at hq
      simp (disch := omega) only [gX9_match_0, gX9_match_1, gX9_match_2, pf_9_0, gX9_match_5, gX9_match_6, gX9_match_9T, gX9_match_9F, gX9_match_12, gX9_match_13, gX9_match_16T, gX9_match_16F, gX9_match_19, gX9_match_20, gX9_match_21, gX9_match_22, gX9_match_23, gX9_match_24, Rd_some, Wr_some, Cont_some, Cont_none, iso_O, true_and, hg_s, hg_n, hput_hput, hx, sp_mplT]
      change Go _ _ _ _ (hput H 41 (cM (wFt S 0))) _
      cases hoa : S.1.1 a with
      | none =>
        cases hob : S.1.1 b with
        | none =>
          rw [hoa, hob] at hq
          dsimp only at hq
          rw [sp_a2N (S := wFt S 0) m1 h2 ha hb (Or.inl hoa)]
          simp (disch := omega) only [gX9_match_27, gX9_match_29, gX9_match_31T, gX9_match_31F, gX9_match_34, gX9_match_36, Rd_some, Wr_some, Cont_some, Cont_none, iso_O, true_and, hg_s, hg_n, hput_hput]
          exact hq _ (MJ.ft h1 h2 h3 h4 1) (Fm.rf.put (by omega))
        | some l =>
          rw [hoa, hob] at hq
          dsimp only at hq
          rw [sp_a2N (S := wFt S 0) m1 h2 ha hb (Or.inl hoa)]
          simp (disch := omega) only [gX9_match_27, gX9_match_29, gX9_match_31T, gX9_match_31F, gX9_match_34, gX9_match_36, Rd_some, Wr_some, Cont_some, Cont_none, iso_O, true_and, hg_s, hg_n, hput_hput]
          exact hq _ (MJ.ft h1 h2 h3 h4 1) (Fm.rf.put (by omega))
      | some k =>
        cases hob : S.1.1 b with
        | none =>
          rw [hoa, hob] at hq
          dsimp only at hq
          rw [sp_a2N (S := wFt S 0) m1 h2 ha hb (Or.inr hob)]
          simp (disch := omega) only [gX9_match_27, gX9_match_29, gX9_match_31T, gX9_match_31F, gX9_match_34, gX9_match_36, Rd_some, Wr_some, Cont_some, Cont_none, iso_O, true_and, hg_s, hg_n, hput_hput]
          exact hq _ (MJ.ft h1 h2 h3 h4 1) (Fm.rf.put (by omega))
        | some l =>
          rw [hoa, hob] at hq
          dsimp only at hq
          have ka := h4 k ⟨a, ha.1, ha.2, hoa⟩
          have kb := h4 l ⟨b, hb.1, hb.2, hob⟩
          have la := ka.1
          have lb := kb.1
          by_cases hl : (S.1.2 k).1 ≤ 3 ∧ (S.1.2 l).1 ≤ 3
          · rw [if_pos hl] at hq
            rw [sp_a2O (S := wFt S 0) m1 h2 ha hb hoa hob la lb hl]
            have va : VR (hput H 41 (cM (wFt S 0))) (wFt S 0) a (S.1.2 k) := m1.vr (S := wFt S 0) h2 h4 ha hoa
            have vb : VR (hput H 41 (cM (wFt S 0))) (wFt S 0) b (S.1.2 l) := m1.vr (S := wFt S 0) h2 h4 hb hob
            have f1 : Fm 41 60 H (hput H 41 (cM (wFt S 0))) := Fm.rf.put (by omega)
            generalize hput H 41 (cM (wFt S 0)) = H1 at m1 va vb f1
            simp (disch := omega) only [gX9_match_27, gX9_match_29, gX9_match_31T, gX9_match_31F, gX9_match_34, gX9_match_36, Rd_some, Wr_some, Cont_some, Cont_none, iso_O, true_and, hg_s, hg_n, hput_hput]
            have nA := ka.2.1
            have nB := kb.2.1
            obtain ⟨g0, g1, -⟩ := m1 51 (by decide) (by decide)
            simp (disch := omega) only [gX9_match_37, gX9_match_38, gX9_match_39, pf_9_15, gX9_match_42, gX9_match_43, Rd_some, Wr_some, Cont_some, Cont_none, iso_O, true_and, hg_s, hg_n, hput_hput, va.1]
            have hr := fl_r (x := (S.1.2 k).2.2) (y := (S.1.2 l).2.2) (ny := (S.1.2 l).2.1.toNat) (wild := w) ((S.1.2 k).2.1 - (S.1.2 l).2.1 + 1).toNat
            have wA : ∀ c V g, VR (hput (hput H1 41 (cM (wSh (wFt S 0) 5 c V))) 51 (cJ 64 g)) (wSh (wFt S 0) 5 c V) a (S.1.2 k) := fun c V g => m1.vr2 (S := wFt S 0) h2 h4 ha hoa (by rw [hg_n (by omega), hg_s]) (fun q q1 q2 => by rw [hg_n (by omega), hg_n (by omega)])
            have wB : ∀ c V g, VR (hput (hput H1 41 (cM (wSh (wFt S 0) 5 c V))) 51 (cJ 64 g)) (wSh (wFt S 0) 5 c V) b (S.1.2 l) := fun c V g => m1.vr2 (S := wFt S 0) h2 h4 hb hob (by rw [hg_n (by omega), hg_s]) (fun q q1 q2 => by rw [hg_n (by omega), hg_n (by omega)])
            have key := lp_mmat (Q := Q) (S := wFt S 0) (H1 := H1) (l5 := some (vi 0)) wA wB ka.2.2.1 kb.2.2.1 c.2.2 rfl rfl (fun g hg => hq _ (MJ.sh5 (S1 := wFt S 0) m1 h2 h3 h4 (fun q q1 q2 y1 y2 => by rw [hg_n y2, hg_n y1]) (by rw [hg_n (by omega), hg_s]) hg_s hg (by omega)) ((f1.put (by omega)).put (by omega))) ((S.1.2 k).2.1 - (S.1.2 l).2.1 + 1).toNat 0 g0 none none none none none none (by omega) (fun j j0 j1 => by have j1 : j < 0 := j1; omega)
            have eH : hput (hput H1 41 (cM (wSh (wFt S 0) 5 0 (fun _ => 0)))) 51 (cJ 64 g0) = hput H1 41 (cM (wSh (wFt S 0) 5 0 (fun _ => 0))) := hput_same (by rw [hg_n (by omega)]; exact g1)
            change Go _ _ _ _ (hput (hput H1 41 (cM (wSh (wFt S 0) 5 0 (fun _ => 0)))) 51 (cJ 64 g0)) _ at key
            rw [eH] at key
            exact key
          · rw [if_neg hl] at hq
            rw [sp_a2C (S := wFt S 0) m1 h2 ha hb hoa hob la lb hl]
            simp (disch := omega) only [gX9_match_27, gX9_match_29, gX9_match_31T, gX9_match_31F, gX9_match_34, gX9_match_36, Rd_some, Wr_some, Cont_some, Cont_none, iso_O, true_and, hg_s, hg_n, hput_hput]
            exact hq _ (MJ.ft h1 h2 h3 h4 2) (Fm.rf.put (by omega))
    · rw [if_neg (fun t => hb t.2)] at hq
      simp (disch := omega) only [gX9_match_0, gX9_match_1, gX9_match_2, pf_9_0, gX9_match_5, gX9_match_6, gX9_match_9T, gX9_match_9F, gX9_match_12, gX9_match_13, gX9_match_16T, gX9_match_16F, gX9_match_19, gX9_match_20, gX9_match_21, gX9_match_22, gX9_match_23, gX9_match_24, gX9_match_27, gX9_match_29, gX9_match_31T, gX9_match_31F, gX9_match_34, gX9_match_36, gX9_match_37, gX9_match_38, gX9_match_39, pf_9_15, gX9_match_42, gX9_match_43, gX9_match_45, gX9_match_47, gX9_match_48, gX9_match_49, gX9_match_52, gX9_match_53, gX9_match_54, gX9_match_55, gX9_match_58T, gX9_match_58F, gX9_match_61, gX9_match_62, gX9_match_64, gX9_match_65, gX9_match_67, gX9_match_69, gX9_match_70, gX9_match_71, gX9_match_74T, gX9_match_74F, gX9_match_77, gX9_match_79T, gX9_match_79F, gX9_match_82, gX9_match_83, gX9_match_84, gX9_match_86, gX9_match_89, gX9_match_91, gX9_match_92, gX9_match_93, gX9_match_95, gX9_match_97, gX9_match_98, gX9_match_101, gX9_match_103, gX9_match_105, gX9_match_106T, gX9_match_106F, gX9_match_107T, gX9_match_107F, gX9_match_110, gX9_match_112, gX9_match_113T, gX9_match_113F, gX9_match_114T, gX9_match_114F, gX9_match_117, gX9_match_119, gX9_match_121T, gX9_match_121F, gX9_match_122T, gX9_match_122F, gX9_match_125, gX9_match_126, gX9_match_129, gX9_match_130, gX9_match_132, gX9_match_135, gX9_match_138, gX9_match_140T, gX9_match_140F, gX9_match_143, gX9_match_144, fl_9_16, gX9_match_147, gX9_match_148, fl_9_15, gX9_match_151, gX9_match_153, sJ_p, gX9_match_154, gX9_match_155, gX9_match_156, gX9_match_159, gX9_match_160, gX9_match_161, gX9_match_164, gX9_match_167, gX9_match_170, gX9_match_171, gX9_match_174, Rd_some, Wr_some, Cont_some, Cont_none, iso_O, true_and, hg_s, hg_n, hput_hput, hx, sp_mplT, sp_mplF]
      exact hq _ (MJ.ft h1 h2 h3 h4 0) (Fm.rf.put (by omega))
  · rw [if_neg (fun t => ha t.1)] at hq
    simp (disch := omega) only [gX9_match_0, gX9_match_1, gX9_match_2, pf_9_0, gX9_match_5, gX9_match_6, gX9_match_9T, gX9_match_9F, gX9_match_12, gX9_match_13, gX9_match_16T, gX9_match_16F, gX9_match_19, gX9_match_20, gX9_match_21, gX9_match_22, gX9_match_23, gX9_match_24, gX9_match_27, gX9_match_29, gX9_match_31T, gX9_match_31F, gX9_match_34, gX9_match_36, gX9_match_37, gX9_match_38, gX9_match_39, pf_9_15, gX9_match_42, gX9_match_43, gX9_match_45, gX9_match_47, gX9_match_48, gX9_match_49, gX9_match_52, gX9_match_53, gX9_match_54, gX9_match_55, gX9_match_58T, gX9_match_58F, gX9_match_61, gX9_match_62, gX9_match_64, gX9_match_65, gX9_match_67, gX9_match_69, gX9_match_70, gX9_match_71, gX9_match_74T, gX9_match_74F, gX9_match_77, gX9_match_79T, gX9_match_79F, gX9_match_82, gX9_match_83, gX9_match_84, gX9_match_86, gX9_match_89, gX9_match_91, gX9_match_92, gX9_match_93, gX9_match_95, gX9_match_97, gX9_match_98, gX9_match_101, gX9_match_103, gX9_match_105, gX9_match_106T, gX9_match_106F, gX9_match_107T, gX9_match_107F, gX9_match_110, gX9_match_112, gX9_match_113T, gX9_match_113F, gX9_match_114T, gX9_match_114F, gX9_match_117, gX9_match_119, gX9_match_121T, gX9_match_121F, gX9_match_122T, gX9_match_122F, gX9_match_125, gX9_match_126, gX9_match_129, gX9_match_130, gX9_match_132, gX9_match_135, gX9_match_138, gX9_match_140T, gX9_match_140F, gX9_match_143, gX9_match_144, fl_9_16, gX9_match_147, gX9_match_148, fl_9_15, gX9_match_151, gX9_match_153, sJ_p, gX9_match_154, gX9_match_155, gX9_match_156, gX9_match_159, gX9_match_160, gX9_match_161, gX9_match_164, gX9_match_167, gX9_match_170, gX9_match_171, gX9_match_174, Rd_some, Wr_some, Cont_some, Cont_none, iso_O, true_and, hg_s, hg_n, hput_hput, hx, sp_mplT, sp_mplF]
    exact hq _ (MJ.ft h1 h2 h3 h4 0) (Fm.rf.put (by omega))

end MAT

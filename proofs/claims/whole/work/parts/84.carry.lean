/-! x: carry -/
def ngb (V : Int → Int) : Nat → Bool
  | 0 => false
  | k + 1 => ngb V k || decide (V k < 0)
theorem ngb_ng {V : Int → Int} {k : Nat} : ngb V k = true ↔ ng V k := by
  induction k with
  | zero => exact ⟨fun h => (by cases h), fun ⟨j, q⟩ => (by omega)⟩
  | succ k ih =>
    rw [ngb, Bool.or_eq_true, ih, decide_eq_true_eq]
    constructor
    · rintro (⟨j, j0, j1, j2⟩ | h)
      · exact ⟨j, j0, by omega, j2⟩
      · exact ⟨k, by omega, by omega, h⟩
    · rintro ⟨j, j0, j1, j2⟩
      by_cases e : j = k
      · rw [e] at j2; exact Or.inr j2
      · exact Or.inl ⟨j, j0, by omega, j2⟩
/-- the last digit's place -/
def lastD (S : SS) (m : Int) : Int := ld' (S.2.2 2).2 (S.2.2 2).1 m ((S.2.2 2).1 + 128).toNat
def dgs (S : SS) (m : Int) (j : Int) : Int := dt (S.2.2 2).2 (S.2.2 2).1 m j.toNat
def o_carry (S : SS) (a m : Int) (k : Nat) : Value × SS := if 0 ≤ a ∧ a < 12 then (if 2 ≤ m ∧ m ≤ 10000 then (if (S.2.2 2).1 = 0 ∨ ngb (S.2.2 2).2 (S.2.2 2).1.toNat = true then (vi (-3), S) else (if lastD S m < 64 then (vi (lastD S m + 1), wPl (wRd S k (2, lastD S m + 1, mix (dgs S m) (fun _ => 0) (lastD S m + 1))) a (some k)) else (vi (-4), S))) else (vi (-2), S)) else (vi (-1), S)
theorem ld_r (V : Int → Int) (n m : Int) (k : Nat) : 0 ≤ ld' V n m k ∧ ld' V n m k ≤ k := by
  induction k with
  | zero => exact ⟨Int.le_refl 0, Int.le_refl 0⟩
  | succ k ih => rw [ld']; split <;> omega
theorem dgs_r {S : SS} {m : Int} (hm : 2 ≤ m) (j : Int) : 0 ≤ dgs S m j ∧ dgs S m j < m := em (by omega) _
theorem rok_dg {S : SS} {m : Int} (hm : 2 ≤ m ∧ m ≤ 10000) (hl : lastD S m < 64) : rok (2, lastD S m + 1, mix (dgs S m) (fun _ => 0) (lastD S m + 1)) := by
  have h0 := ld_r (S.2.2 2).2 (S.2.2 2).1 m ((S.2.2 2).1 + 128).toNat
  have h1 : 0 ≤ lastD S m := h0.1
  have key : ∀ j, -2147483648 ≤ mix (dgs S m) (fun _ => 0) (lastD S m + 1) j ∧ mix (dgs S m) (fun _ => 0) (lastD S m + 1) j ≤ 2147483647 := fun j => by
    have := dgs_r (S := S) hm.1 j
    unfold mix
    split <;> (try dsimp only) <;> omega
  refine ⟨⟨by show (0 : Int) ≤ 2; decide, by show (2 : Int) ≤ 4; decide⟩, ⟨by show 0 < lastD S m + 1; omega, by show lastD S m + 1 ≤ 64; omega⟩, fun j _ _ => ?_, fun _ j _ _ => key j⟩
  have := key j
  show _ ≤ mix (dgs S m) (fun _ => 0) (lastD S m + 1) j ∧ mix (dgs S m) (fun _ => 0) (lastD S m + 1) j ≤ _
  omega
section CAR
variable {H : HP} {S : SS} {Q : Option Value → HP → Prop} {a m n : Int}
theorem lp_cpy {rx cx : Nat} {lx : Int} {D f : Int → Int} (hx : hget H 1 = cX S) (hr : hget H rx = cO 5 [vi lx, .ref cx]) (h24 : hget H 24 = cL 64 D) (hrc : 60 < rx ∧ 60 < cx ∧ rx ≠ cx) (hn : 0 < n ∧ n ≤ 64) {l1 l2 : Option Value} : ∀ (e : Nat) (i : Int), i + e = n → 0 ≤ i → (Go 89 84 [some (.ref 1), l1, l2, some (vi n), some (.ref rx), some (vi i)] [] (hput H cx (cL n (mix D f i))) Q ↔ Go 89 111 [some (.ref 1), l1, l2, some (vi n), some (.ref rx), some (vi n)] [] (hput H cx (cL n (mix D f n))) Q) := by
  have hx' : ∀ c, hget (hput H cx c) 1 = cX S := fun c => by rw [hg_n (by omega)]; exact hx
  have hr' : ∀ c, hget (hput H cx c) rx = cO 5 [vi lx, .ref cx] := fun c => by rw [hg_n (by omega)]; exact hr
  have hd' : ∀ c, hget (hput H cx c) 24 = cL 64 D := fun c => by rw [hg_n (by omega)]; exact h24
  intro e
  induction e with
  | zero =>
    intro i hi h0
    rw [show i = n by omega, gX8_carry_84]
    simp (disch := omega) only [gX8_carry_86, gX8_carry_87T, gX8_carry_87F, Rd_some, Wr_some, Cont_some, Cont_none, iso_O, true_and, hg_s, hg_n, hput_hput]
  | succ e ih =>
    intro i hi h0
    rw [gX8_carry_84]
    simp (disch := omega) only [gX8_carry_86, gX8_carry_87T, gX8_carry_87F, gX8_carry_90, gX8_carry_90N, gX8_carry_92, fl_5_1, gX8_carry_95, gX8_carry_97, gX8_carry_98, fl_8_10, gX8_carry_101, gX8_carry_103, aL_g, gX8_carry_104, sL_p, gX8_carry_105, gX8_carry_108, Rd_some, Wr_some, Cont_some, Cont_none, iso_O, true_and, hg_s, hg_n, hput_hput, hx', hr', hd']
    rw [mix_up h0 rfl]
    exact ih (i + 1) (by omega) (by omega)
theorem cx_carry (hc : CI H S) (c : (-2147483648 ≤ a ∧ a ≤ 2147483647) ∧ (-2147483648 ≤ m ∧ m ≤ 2147483647)) (hq : CG H Q (o_carry S a m H.1)) : Go 89 0 [some (.ref 1), some (vi a), some (vi m), none, none, none] [] H Q := by
  have hx := hc.x
  have hsi := hc.2.2.1
  have hn0 := hsi.2.2.1
  have hVr := hsi.2.2.2.2.2.2.2
  have hps := hc.ps
  unfold o_carry CG at hq
  by_cases ha : 0 ≤ a ∧ a < 12
  · rw [if_pos ha] at hq
    by_cases hm : 2 ≤ m ∧ m ≤ 10000
    · rw [if_pos hm] at hq
      by_cases hz : (S.2.2 2).1 = 0
      · rw [if_pos (Or.inl hz)] at hq
        simp (disch := omega) only [gX8_carry_0, gX8_carry_1, gX8_carry_4T, gX8_carry_4F, gX8_carry_7, gX8_carry_8, gX8_carry_9, gX8_carry_10, gX8_carry_11T, gX8_carry_11F, gX8_carry_14, gX8_carry_15, gX8_carry_18T, gX8_carry_18F, gX8_carry_21, gX8_carry_23, gX8_carry_24, gX8_carry_25, fl_8_2, gX8_carry_28, fl_4_2, gX8_carry_31T, gX8_carry_31F, gX8_carry_34, gX8_carry_35, gX8_carry_38, gX8_carry_41T, gX8_carry_41F, gX8_carry_44, gX8_carry_46, Rd_some, Wr_some, Cont_some, Cont_none, iso_O, true_and, hg_s, hg_n, hput_hput, hx, hps.1, sp_plT]
        exact hq _ hc FX.rf
      · obtain ⟨bT, bF⟩ := sp_below (Q := Cont 89 41 [some (.ref 1), some (vi a), some (vi m), none, none, none] [] Q) hps hn0 hVr
        by_cases hb : ngb (S.2.2 2).2 (S.2.2 2).1.toNat = true
        · rw [if_pos (Or.inr hb)] at hq
          have hb' := ngb_ng.mp hb
          rw [show (((S.2.2 2).1.toNat : Nat) : Int) = (S.2.2 2).1 by omega] at hb'
          simp (disch := omega) only [gX8_carry_0, gX8_carry_1, gX8_carry_4T, gX8_carry_4F, gX8_carry_7, gX8_carry_8, gX8_carry_9, gX8_carry_10, gX8_carry_11T, gX8_carry_11F, gX8_carry_14, gX8_carry_15, gX8_carry_18T, gX8_carry_18F, gX8_carry_21, gX8_carry_23, gX8_carry_24, gX8_carry_25, fl_8_2, gX8_carry_28, fl_4_2, gX8_carry_31T, gX8_carry_31F, gX8_carry_34, gX8_carry_35, gX8_carry_38, Rd_some, Wr_some, Cont_some, Cont_none, iso_O, true_and, hg_s, hg_n, hput_hput, hx, hps.1, sp_plT]
          rw [bT hb']
          simp (disch := omega) only [gX8_carry_41T, gX8_carry_41F, gX8_carry_44, gX8_carry_46, Rd_some, Wr_some, Cont_some, Cont_none, iso_O, true_and, hg_s, hg_n, hput_hput]
          exact hq _ hc FX.rf
        · rw [if_neg (fun t => t.elim hz hb)] at hq
          have hb' : ¬ ng (S.2.2 2).2 (S.2.2 2).1 := fun t => hb (ngb_ng.mpr (by rw [show (((S.2.2 2).1.toNat : Nat) : Int) = (S.2.2 2).1 by omega]; exact t))
          simp (disch := omega) only [gX8_carry_0, gX8_carry_1, gX8_carry_4T, gX8_carry_4F, gX8_carry_7, gX8_carry_8, gX8_carry_9, gX8_carry_10, gX8_carry_11T, gX8_carry_11F, gX8_carry_14, gX8_carry_15, gX8_carry_18T, gX8_carry_18F, gX8_carry_21, gX8_carry_23, gX8_carry_24, gX8_carry_25, fl_8_2, gX8_carry_28, fl_4_2, gX8_carry_31T, gX8_carry_31F, gX8_carry_34, gX8_carry_35, gX8_carry_38, Rd_some, Wr_some, Cont_some, Cont_none, iso_O, true_and, hg_s, hg_n, hput_hput, hx, hps.1, sp_plT]
          rw [bF hb']
          simp (disch := omega) only [gX8_carry_41T, gX8_carry_41F, gX8_carry_44, gX8_carry_46, gX8_carry_47, gX8_carry_48, fl_8_2, gX8_carry_51, gX8_carry_52, fl_8_10, gX8_carry_55, gX8_carry_56, Rd_some, Wr_some, Cont_some, Cont_none, iso_O, true_and, hg_s, hg_n, hput_hput, hx, hps.1]
          obtain ⟨D0, h24⟩ := hc.c 24 (by decide)
          refine sp_digits hm hn0 hVr hb' hps h24 (fun H1 f1 p1 e1 d1 => ?_)
          obtain ⟨D, hD, vD⟩ := d1
          have hc1 : CI H1 S := by
            obtain ⟨q1, ⟨U, W, q2, q3, q4⟩, q5⟩ := p1
            refine hc.upd f1.1 (fun x hx => f1.2.2 x (by omega)) rfl (fun x hx => ?_) hsi
            by_cases x24 : x < 24
            · rw [f1.2.2 x (by omega)]; exact hc.1 x hx
            · by_cases x31 : 31 < x
              · rw [f1.2.2 x (by omega)]; exact hc.1 x hx
              · have : x = 24 ∨ (24 < x ∧ x < 28) ∨ x = 28 ∨ x = 29 ∨ x = 30 ∨ x = 31 := by omega
                rcases this with rfl | h | rfl | rfl | rfl | rfl
                · exact ⟨D, hD⟩
                · rw [e1 x h.1 (by omega) h.2]; exact hc.1 x hx
                · exact q1
                · exact ⟨U, q2, fun j j0 j1 => (q4 j j0 j1).1⟩
                · exact ⟨W, q3, fun j j0 j1 => (q4 j j0 j1).2⟩
                · exact q5
          have fx1 : FX H H1 := FX.rf.fm f1 (by omega)
          have s0 := f1.1
          have s0' := f1.2.1
          have hl0 := (ld_r (S.2.2 2).2 (S.2.2 2).1 m ((S.2.2 2).1 + 128).toNat).1
          change Cont _ _ _ _ _ (some (vi (if lastD S m < 64 then lastD S m + 1 else 0))) _
          have hl0 : 0 ≤ lastD S m := hl0
          have h60 := hc1.2.2.2.1
          by_cases hl : lastD S m < 64
          · rw [if_pos hl] at hq ⊢
            have hrk := rok_dg hm hl
            generalize hN : lastD S m + 1 = N at *
            simp (disch := omega) only [gX8_carry_59, gX8_carry_60, gX8_carry_61, gX8_carry_64T, gX8_carry_64F, gX8_carry_67, gX8_carry_69, gX8_carry_70, gX8_carry_73, gX8_carry_74, gX8_carry_75, Rd_some, Wr_some, Cont_some, Cont_none, iso_O, true_and, hg_s, hg_n, hput_hput, sp_cnT]
            rw [gX8_carry_76, sp_rowInit (H := hnew H1 (cO 5 [.int 0, .null]) 2) hn_s (by omega) (by show H1.1 < H1.1 + 1; omega) (by omega)]
            generalize hH2 : hput (hnew (hnew H1 (cO 5 [.int 0, .null]) 2) (cL N fun _ => 0) N.toNat) H1.1 (cO 5 [vi 2, .ref (hnew H1 (cO 5 [.int 0, .null]) 2).1]) = H2
            have k0 : ∀ q, q < H1.1 → hget H2 q = hget H1 q := fun q hq => by rw [← hH2, hg_n (by omega), hn_n (by show q ≠ H1.1 + 1; omega), hn_n (by omega)]
            have k1 : hget H2 H1.1 = cO 5 [vi 2, .ref (H1.1 + 1)] := by rw [← hH2, hg_s]; rfl
            have k2 : hget H2 (H1.1 + 1) = cL N fun _ => 0 := by rw [← hH2, hg_n (by omega)]; exact hn_s
            have s1 : H2.1 = H1.1 + 2 := by rw [← hH2]; rfl
            have s2 : H2.2.1 = H1.2.1 + 2 + N.toNat := by rw [← hH2]; rfl
            simp (disch := omega) only [gX8_carry_79, gX8_carry_79N, gX8_carry_81, gX8_carry_82, Rd_some, Wr_some, Cont_some, Cont_none, iso_O, true_and, hg_s, hg_n, hput_hput]
            have eH : H2 = hput H2 (H1.1 + 1) (cL N (mix D (fun _ => 0) 0)) := by rw [mix_0]; exact (hput_same k2).symm
            rw [eH, lp_cpy (S := S) (by rw [k0 1 (by omega)]; exact hc1.x) k1 (by rw [k0 24 (by omega)]; exact hD) (by omega) (by omega) N.toNat 0 (by omega) (by omega)]
            have eD : mix D (fun _ => 0) N = mix (dgs S m) (fun _ => 0) N := by
              funext j
              unfold mix
              split
              · have := vD j.toNat (by omega) (by omega)
                rw [show ((j.toNat : Nat) : Int) = j by omega] at this
                exact this
              · rfl
            rw [eD]
            have y1 : ∀ c, hget (hput H2 (H1.1 + 1) c) 1 = cX S := fun c => by rw [hg_n (by omega), k0 1 (by omega)]; exact hc1.x
            have y2 : ∀ c, hget (hput H2 (H1.1 + 1) c) 2 = cR (.object (vCn 5)) 12 S.1.1 := fun c => by rw [hg_n (by omega), k0 2 (by omega)]; exact hc1.pl
            have yH : ∀ c, hget (hput H2 (H1.1 + 1) c) H1.1 = cO 5 [vi 2, .ref (H1.1 + 1)] := fun c => by rw [hg_n (by omega)]; exact k1
            simp (disch := first | omega | decide) only [gX8_carry_111, gX8_carry_112, fl_8_0, gX8_carry_115, gX8_carry_116, gX8_carry_116N, gX8_carry_118, sR_p, gX8_carry_119, gX8_carry_120, Rd_some, Wr_some, Cont_some, Cont_none, iso_O, true_and, hg_s, hg_n, hput_hput, y1, y2, yH, sR_p]
            refine hq _ ?_ ⟨⟨?_, ?_, ?_⟩, fun q hq => ?_⟩
            · rw [← s0]
              exact hc1.new (d := (2, N, mix (dgs S m) (fun _ => 0) N)) ha s1 (fun q q1 q2 => by rw [hg_n q2, hg_n (by omega)]; exact k0 q q1) hg_s (by rw [hg_n (by omega)]; exact yH _) (by rw [hg_n (by omega), hg_s]) hrk
            · show H.1 ≤ H2.1; omega
            · show H2.1 ≤ H.1 + 2; omega
            · show H2.2.1 ≤ H.2.1 + 66; omega
            · rw [hg_n (by omega), hg_n (by omega), k0 q (by omega)]; exact fx1.2 q hq
          · rw [if_neg hl] at hq ⊢
            simp (disch := omega) only [gX8_carry_59, gX8_carry_60, gX8_carry_61, gX8_carry_64T, gX8_carry_64F, gX8_carry_67, gX8_carry_69, Rd_some, Wr_some, Cont_some, Cont_none, iso_O, true_and, hg_s, hg_n, hput_hput, sp_cnF]
            exact hq _ hc1 fx1
    · rw [if_neg hm] at hq
      by_cases h2 : m < 2 <;> simp (disch := omega) only [gX8_carry_0, gX8_carry_1, gX8_carry_4T, gX8_carry_4F, gX8_carry_7, gX8_carry_8, gX8_carry_9, gX8_carry_10, gX8_carry_11T, gX8_carry_11F, gX8_carry_14, gX8_carry_15, gX8_carry_18T, gX8_carry_18F, gX8_carry_21, gX8_carry_23, Rd_some, Wr_some, Cont_some, Cont_none, iso_O, true_and, hg_s, hg_n, hput_hput, sp_plT] <;> exact hq _ hc FX.rf
  · rw [if_neg ha] at hq
    simp (disch := omega) only [gX8_carry_0, gX8_carry_1, gX8_carry_4T, gX8_carry_4F, gX8_carry_7, gX8_carry_8, gX8_carry_9, gX8_carry_10, gX8_carry_11T, gX8_carry_11F, gX8_carry_14, gX8_carry_15, gX8_carry_18T, gX8_carry_18F, gX8_carry_21, gX8_carry_23, gX8_carry_24, gX8_carry_25, fl_8_2, gX8_carry_28, fl_4_2, gX8_carry_31T, gX8_carry_31F, gX8_carry_34, gX8_carry_35, gX8_carry_38, gX8_carry_41T, gX8_carry_41F, gX8_carry_44, gX8_carry_46, gX8_carry_47, gX8_carry_48, gX8_carry_51, gX8_carry_52, fl_8_10, gX8_carry_55, gX8_carry_56, gX8_carry_59, gX8_carry_60, gX8_carry_61, gX8_carry_64T, gX8_carry_64F, gX8_carry_67, gX8_carry_69, gX8_carry_70, gX8_carry_73, gX8_carry_74, gX8_carry_75, gX8_carry_76, gX8_carry_79, gX8_carry_79N, gX8_carry_81, gX8_carry_82, gX8_carry_84, gX8_carry_86, gX8_carry_87T, gX8_carry_87F, gX8_carry_90, gX8_carry_90N, gX8_carry_92, fl_5_1, gX8_carry_95, gX8_carry_97, gX8_carry_98, gX8_carry_101, gX8_carry_103, aL_g, gX8_carry_104, sL_p, gX8_carry_105, gX8_carry_108, gX8_carry_111, gX8_carry_112, fl_8_0, gX8_carry_115, gX8_carry_116, gX8_carry_116N, gX8_carry_118, sR_p, gX8_carry_119, gX8_carry_120, Rd_some, Wr_some, Cont_some, Cont_none, iso_O, true_and, hg_s, hg_n, hput_hput, sp_plF]
    exact hq _ hc FX.rf
end CAR

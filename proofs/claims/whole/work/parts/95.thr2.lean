/-! Polynomials: through -/
section TH2
variable {H : HP} {Q : Option Value → HP → Prop} {p : Nat} {P : Int}
def HT (H : HP) (s G : Int → Int) : HP := hput (hput H 6 (cL 64 s)) 17 (cL 64 G)
theorem HT_6 {s G : Int → Int} : hget (HT H s G) 6 = cL 64 s := by unfold HT; rw [hg_n (by omega), hg_s]
theorem HT_17 {s G : Int → Int} : hget (HT H s G) 17 = cL 64 G := hg_s
theorem HT_q {s G : Int → Int} {q : Nat} (h : q ≠ 6 ∧ q ≠ 17) : hget (HT H s G) q = hget H q := by unfold HT; rw [hg_n h.2, hg_n h.1]
theorem HT_p6 {s G s' : Int → Int} : hput (HT H s G) 6 (cL 64 s') = HT H s' G := by unfold HT; rw [hput_comm (by omega), hput_hput]
theorem HT_p17 {s G G' : Int → Int} : hput (HT H s G) 17 (cL 64 G') = HT H s G' := by unfold HT; rw [hput_hput]
theorem bs_evn {a : Int → Int} {i n : Nat} (h : i < n) : sm (fun k => bs a i n k * a i ^ k.toNat) n = und a i n := by
  rw [← bs_ev a i n, sm, bs_0 (k := (n : Int)) (Or.inr ⟨h, Int.le_refl _⟩), Int.zero_mul, Int.add_zero]
theorem lp_th1 (hp : hget H p = cO 3 [vl P]) (hP : 1 < P ∧ P < 1073741824) (hpp : 24 < p ∧ p < 28) (h4 : hget H 4 = cO 2 [.ref 5, .ref 6, .ref 7]) {ry cy : Nat} {ly n : Int} {y : Int → Int} (Ry : RW H ry cy ly n y) {u : Int} (h16 : hget H 16 = cO 6 [.ref 17, vi u]) {f w a : Int → Int} (h5 : hget H 5 = cL 64 f) (h7 : hget H 7 = cL 65 w) (hf : ∀ j, 0 ≤ j → j < n → f j = a j ∧ 0 ≤ a j ∧ a j < P) (hw : ∀ j, 0 ≤ j → j ≤ n → w j = ww a n.toNat j % P) {l1 : Option Value} (hq : ∀ s G, (∀ j, 0 ≤ j → j < n → G j = itv P a y n.toNat j n.toNat % P) → Q none (HT H s G)) : ∀ (e i : Nat) (s G : Int → Int) (l7 l8 l9 l10 l11 : Option Value), (i : Int) + e = n → (∀ j, 0 ≤ j → j < n → G j = itv P a y n.toNat j i % P) → Go 25 51 [some (.ref 4), l1, some (.ref ry), some (.ref p), some (.ref 16), some (vi n), some (vi (i : Int)), l7, l8, l9, l10, l11] [] (HT H s G) Q := by
  have n2 := Ry.2.2.2.1
  have q2 := Ry.2.2.1
  have hp' : ∀ s G, hget (HT H s G) p = cO 3 [vl P] := fun s G => by rw [HT_q (by omega)]; exact hp
  have h4' : ∀ s G, hget (HT H s G) 4 = cO 2 [.ref 5, .ref 6, .ref 7] := fun s G => by rw [HT_q (by omega)]; exact h4
  have h5' : ∀ s G, hget (HT H s G) 5 = cL 64 f := fun s G => by rw [HT_q (by omega)]; exact h5
  have h7' : ∀ s G, hget (HT H s G) 7 = cL 65 w := fun s G => by rw [HT_q (by omega)]; exact h7
  have h16' : ∀ s G, hget (HT H s G) 16 = cO 6 [.ref 17, vi u] := fun s G => by rw [HT_q (by omega)]; exact h16
  have Ry' : ∀ s G, RW (HT H s G) ry cy ly n y := fun s G => ⟨by rw [HT_q (by omega)]; exact Ry.1, by rw [HT_q (by omega)]; exact Ry.2.1, Ry.2.2⟩
  intro e
  induction e with
  | zero =>
    intro i s G l7 l8 l9 l10 l11 hi hG
    rw [gX2_through_51]
    simp (disch := omega) only [gX2_through_53, gX2_through_55T, gX2_through_55F, gX2_through_169, Rd_some, Wr_some, Cont_some, Cont_none, iso_O, true_and, hg_s, hg_n, hput_hput]
    exact hq s G (fun j j0 j1 => by rw [hG j j0 j1, show n.toNat = i by omega])
  | succ e ih =>
    intro i s G l7 l8 l9 l10 l11 hi hG
    obtain ⟨f1, f2⟩ := hf i (by omega) (by omega)
    have my := Ry.2.2.2.2 (i : Int) (by omega) (by omega)
    rw [gX2_through_51]
    simp (disch := omega) only [gX2_through_53, gX2_through_55T, gX2_through_55F, gX2_through_58, gX2_through_59, gX2_through_60, fl_2_0, gX2_through_63, gX2_through_65, aL_g, gX2_through_66, gX2_through_68, gX2_through_69, Rd_some, Wr_some, Cont_some, Cont_none, iso_O, true_and, hg_s, hg_n, hput_hput, h4', h5', f1]
    refine sp_lo (hp' _ _) hP hpp (h4' _ _) (h7' _ _) HT_6 (n := n) (i := i) (by omega) (by omega) hw f2 (fun c hc => ?_)
    rw [HT_p6]
    have mc : mo P c n := fun j j0 j1 => by rw [hc j j0 j1]; exact em (by omega) _
    have hv := fun Q => sp_value2 (Q := Q) (hp' c G) hP (HT_6 (H := H) (s := c) (G := G)) (m := n) (by omega) mc f2
    have ev : sm (fun k => c k * a i ^ k.toNat) n.toNat % P = und a i n.toNat % P := by
      rw [← bs_evn (a := a) (i := i) (n := n.toNat) (by omega)]
      exact cg.sm fun k hk => (show cg P (c k) (bs a i n.toNat k) by rw [hc k (by omega) (by omega)]; exact cg.md).ml cg.rf
    have mu := em (P := P) (by omega) (und a i n.toNat)
    have msc := em (P := P) (by omega) ((und a i n.toNat % P) ^ (P - 2).toNat)
    have mr := em (P := P) (by omega) (y i)
    have mf := em (P := P) (by omega) (y i % P * ((und a i n.toNat % P) ^ (P - 2).toNat % P))
    simp (disch := omega) only [gX2_through_72, gX2_through_73, gX2_through_74, gX2_through_75, fl_2_1, gX2_through_78, gX2_through_80, gX2_through_81, fl_2_0, gX2_through_84, gX2_through_86, aL_g, gX2_through_87, gX2_through_90, gX2_through_93, gX2_through_95, gX2_through_96, gX2_through_97, gX2_through_98, fl_5_1, gX2_through_101, gX2_through_103, gX2_through_104, gX2_through_107, gX2_through_109, gX2_through_112, gX2_through_114, gX2_through_115, Rd_some, Wr_some, Cont_some, Cont_none, iso_O, true_and, hg_s, hg_n, hput_hput, hp', h4', h5', f1, hv, ev, sp_recip (hp' _ _) hP, (Ry' _ _).1, (Ry' _ _).2.1, sp_reduced (hp' _ _) hP my, sp_product (hp' _ _) hP]
    have eH : HT H c G = hput (HT H c G) 17 (cL 64 (mix (fun j => (G j + y i % P * ((und a i n.toNat % P) ^ (P - 2).toNat % P) % P * c j) % P) G 0)) := by rw [mix_0]; exact (hput_same HT_17).symm
    have mG : mo P G n := fun j j0 j1 => by rw [hG j j0 j1]; exact em (by omega) _
    rw [eH, lp_th2 (hp' _ _) hP hpp (h4' _ _) (by omega) HT_6 (h16' _ _) mc mG mf n.toNat 0 (by omega) (by omega), HT_p17]
    simp (disch := omega) only [gX2_through_163, gX2_through_166, Rd_some, Wr_some, Cont_some, Cont_none, iso_O, true_and, hg_s, hg_n, hput_hput]
    refine ih (i + 1) _ _ _ _ _ _ _ (by omega) (fun j j0 j1 => ?_)
    rw [mix_in ⟨j0, j1⟩]
    unfold itv
    rw [sm]
    refine cg.ad (by rw [hG j j0 j1]; exact cg.md) ?_
    unfold itf
    rw [Int.toNat_natCast, hc j j0 j1]
    exact cg.rf.ml cg.md
theorem sp_thr (hp : hget H p = cO 3 [vl P]) (hP : 1 < P ∧ P < 1073741824) (hpp : 24 < p ∧ p < 28) (h4 : hget H 4 = cO 2 [.ref 5, .ref 6, .ref 7]) {rx cx ry cy : Nat} {lx ly n : Int} {x y : Int → Int} (Rx : RW H rx cx lx n x) (Ry : RW H ry cy ly n y) (h16 : hget H 16 = cO 6 [.ref 17, vi n]) {f5 f6 f7 g : Int → Int} (h5 : hget H 5 = cL 64 f5) (h6 : hget H 6 = cL 64 f6) (h7 : hget H 7 = cL 65 f7) (h17 : hget H 17 = cL 64 g) (hq : ∀ H', H'.1 = H.1 → H'.2.1 = H.2.1 → (∀ q, q ≠ 5 → q ≠ 6 → q ≠ 7 → q ≠ 17 → hget H' q = hget H q) → (∃ f, hget H' 5 = cL 64 f) → (∃ f, hget H' 6 = cL 64 f) → (∃ f, hget H' 7 = cL 65 f) → (∃ G, hget H' 17 = cL 64 G ∧ ∀ j, 0 ≤ j → j < n → G j = itv P (Xz P x n) y n.toNat j n.toNat % P) → Q none H') : Go 25 0 [some (.ref 4), some (.ref rx), some (.ref ry), some (.ref p), some (.ref 16), none, none, none, none, none, none, none] [] H Q := by
  have n1 := Rx.2.2.2.1
  have q1 := Rx.2.2.1
  have q2 := Ry.2.2.1
  have ld := fun Q => sp_load (Q := Q) hp hP Rx.1 Rx.2.1 Rx.2.2.2.2 h5 (by omega) (by omega)
  simp (disch := omega) only [gX2_through_0, gX2_through_2, fl_6_1, gX2_through_5, gX2_through_7, gX2_through_8, gX2_through_9, gX2_through_10, fl_2_0, gX2_through_13, Rd_some, Wr_some, Cont_some, Cont_none, iso_O, true_and, hg_s, hg_n, hput_hput, h16, h4, hp, ld]
  generalize hF : mix (fun j => x j % P) f5 n = F
  have vF : ∀ j, 0 ≤ j → j < n → F j = Xz P x n j ∧ 0 ≤ Xz P x n j ∧ Xz P x n j < P := fun j j0 j1 => ⟨by rw [← hF, mix_in ⟨j0, j1⟩]; exact (if_pos j1).symm, Xz_r (by omega) _ _ _⟩
  have x4 : hget (hput H 5 (cL 64 F)) 4 = cO 2 [.ref 5, .ref 6, .ref 7] := by rw [hg_n (by omega)]; exact h4
  have xp : hget (hput H 5 (cL 64 F)) p = cO 3 [vl P] := by rw [hg_n (by omega)]; exact hp
  simp (disch := omega) only [gX2_through_16, gX2_through_17, gX2_through_19, gX2_through_20, Rd_some, Wr_some, Cont_some, Cont_none, iso_O, true_and, hg_s, hg_n, hput_hput, x4]
  refine sp_fw xp hP hpp x4 hg_s (g := f7) (by rw [hg_n (by omega)]; exact h7) (by omega) vF (fun w hw => ?_)
  simp (disch := omega) only [gX2_through_23, gX2_through_24, Rd_some, Wr_some, Cont_some, Cont_none, iso_O, true_and, hg_s, hg_n, hput_hput]
  have y16 : hget (hput (hput H 5 (cL 64 F)) 7 (cL 65 w)) 16 = cO 6 [.ref 17, vi n] := by rw [hg_n (by omega), hg_n (by omega)]; exact h16
  have eH : hput (hput H 5 (cL 64 F)) 7 (cL 65 w) = hput (hput (hput H 5 (cL 64 F)) 7 (cL 65 w)) 17 (cL 64 (mix (fun _ => 0) g 0)) := by
    rw [mix_0]
    exact (hput_same (by rw [hg_n (by omega), hg_n (by omega)]; exact h17)).symm
  rw [eH, lp_th0 y16 (by omega) n.toNat 0 (by omega) (by omega)]
  simp (disch := omega) only [gX2_through_48, gX2_through_49, Rd_some, Wr_some, Cont_some, Cont_none, iso_O, true_and, hg_s, hg_n, hput_hput]
  have eT : hput (hput (hput H 5 (cL 64 F)) 7 (cL 65 w)) 17 (cL 64 (mix (fun _ => 0) g n)) = HT (hput (hput H 5 (cL 64 F)) 7 (cL 65 w)) f6 (mix (fun _ => 0) g n) := by
    unfold HT
    have e6 : hput (hput (hput H 5 (cL 64 F)) 7 (cL 65 w)) 6 (cL 64 f6) = hput (hput H 5 (cL 64 F)) 7 (cL 65 w) := hput_same (by rw [hg_n (by omega), hg_n (by omega)]; exact h6)
    rw [e6]
  rw [eT]
  refine lp_th1 (by rw [hg_n (by omega)]; exact xp) hP hpp (by rw [hg_n (by omega)]; exact x4) ⟨by rw [hg_n (by omega), hg_n (by omega)]; exact Ry.1, by rw [hg_n (by omega), hg_n (by omega)]; exact Ry.2.1, Ry.2.2⟩ y16 (f := F) (w := w) (by rw [hg_n (by omega), hg_s]) hg_s vF hw (fun s G hG => ?_) n.toNat 0 _ _ _ _ _ _ _ (by omega) (fun j j0 j1 => by rw [mix_in ⟨j0, j1⟩]; exact (Int.zero_emod P).symm)
  exact hq _ rfl rfl (fun q a1 a2 a3 a4 => by rw [HT_q ⟨a2, a4⟩, hg_n a3, hg_n a1]) ⟨F, by rw [HT_q (by omega), hg_n (by omega), hg_s]⟩ ⟨s, HT_6⟩ ⟨w, by rw [HT_q (by omega), hg_s]⟩ ⟨G, HT_17, hG⟩
end TH2

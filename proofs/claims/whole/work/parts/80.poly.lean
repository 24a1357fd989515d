/-! Polynomials: transforms -/
section POL
variable {H : HP} {Q : Option Value → HP → Prop} {p : Nat} {P : Int}
theorem lp_valueAt2 (hp : hget H p = cO 3 [vl P]) (hP : 1 < P ∧ P < 1073741824) {a : Nat} {n m : Int} {g : Int → Int} (ha : hget H a = cL n g) (hn : m ≤ n ∧ n ≤ 1000000) (hg : mo P g m) {x : Int} (hx : 0 ≤ x ∧ x < P) : ∀ (k : Nat) (i v : Int) (l2 : Option Value), i = (k : Int) - 1 → (k : Int) ≤ m → 0 ≤ v ∧ v < P → (Go 38 13 [some (.ref p), some (.ref a), l2, some (vl x), none, some (vl v), none, some (vi i)] [] H Q ↔ Q (some (vl (hz P g x k v))) H) := by
  intro k
  induction k with
  | zero =>
    intro i v l2 hi hk hv
    simp (disch := omega) only [gX3_valueAt_13, gX3_valueAt_15T, gX3_valueAt_15F, gX3_valueAt_41, gX3_valueAt_43, Rd_some, Wr_some, Cont_some, Cont_none, iso_O, true_and, hg_s, hg_n, hput_hput]
    rfl
  | succ k ih =>
    intro i v l2 hi hk hv
    have h1 := em (P := P) (by omega) (v * x)
    have h2 := hg i (by omega) (by omega)
    have h3 := em (P := P) (by omega) (v * x % P + g i)
    rw [gX3_valueAt_13]
    simp (disch := omega) only [gX3_valueAt_15T, gX3_valueAt_15F, gX3_valueAt_18, gX3_valueAt_19, gX3_valueAt_20, gX3_valueAt_22, gX3_valueAt_23, gX3_valueAt_26, gX3_valueAt_27, gX3_valueAt_29, aL_g, gX3_valueAt_30, gX3_valueAt_33, gX3_valueAt_35, gX3_valueAt_38, Rd_some, Wr_some, Cont_some, Cont_none, iso_O, true_and, hg_s, hg_n, hput_hput, hp, ha, sp_product hp hP, sp_sum hp hP]
    rw [ih (i + -1) _ _ (by omega) (by omega) h3]
    rw [show i = (k : Int) by omega]
    rfl
theorem hz_v {g : Int → Int} {x : Int} (hP : 0 < P) : ∀ (k : Nat) (v : Int), 0 ≤ v ∧ v < P → hz P g x k v = (sm (fun i => g i * x ^ i.toNat) k + v * x ^ k) % P := by
  intro k
  induction k with
  | zero =>
    intro v hv
    rw [hz, sm, Int.zero_add, Int.pow_zero, Int.mul_one, Int.emod_eq_of_lt hv.1 hv.2]
  | succ k ih =>
    intro v hv
    rw [hz, ih _ (em hP _), sm]
    have h1 : cg P ((v * x % P + g k) % P * x ^ k) ((v * x + g k) * x ^ k) := (cg.md.tr (cg.md.ad cg.rf)).ml cg.rf
    refine (cg.rf.ad h1).trans ?_
    rw [Int.toNat_natCast, Int.pow_succ]
    congr 1
    rw [Int.add_mul, show v * (x ^ k * x) = v * x * x ^ k by ac_rfl]
    omega
theorem sp_value2 (hp : hget H p = cO 3 [vl P]) (hP : 1 < P ∧ P < 1073741824) {a : Nat} {n m : Int} {g : Int → Int} (ha : hget H a = cL n g) (hn : (0 ≤ m ∧ m ≤ n) ∧ n ≤ 1000000) (hg : mo P g m) {x : Int} (c : 0 ≤ x ∧ x < P) : Go 38 0 [some (.ref p), some (.ref a), some (vi m), some (vl x), none, none, none, none] [] H Q ↔ Q (some (vl (sm (fun i => g i * x ^ i.toNat) m.toNat % P))) H := by
  simp (disch := omega) only [gX3_valueAt_0, gX3_valueAt_1, gX3_valueAt_3, gX3_valueAt_4, gX3_valueAt_5, aN_L, aN_J, gX3_valueAt_6, gX3_valueAt_9, gX3_valueAt_10, gX3_valueAt_11, Rd_some, Wr_some, Cont_some, Cont_none, iso_O, true_and, hg_s, hg_n, hput_hput, ha, sp_minI]
  rw [Int.min_eq_left hn.1.2, lp_valueAt2 hp hP ha ⟨hn.1.2, hn.2⟩ hg c m.toNat (m - 1) 0 _ (by omega) (by omega) (by omega), hz_v (by omega) _ _ (by omega), Int.zero_mul, Int.add_zero]
/-- the transform's value out of Horner's -/
theorem ev_df {w : Int} {f x : Int → Int} {n j : Nat} (hf : ∀ i : Nat, i < n → cg P (f i) (x i)) : sm (fun i => f i * (w ^ j % P) ^ i.toNat) n % P = df w x n j % P := by
  unfold df
  refine cg.sm fun i hi => (hf i hi).ml ?_
  rw [Int.toNat_natCast, Nat.mul_comm, Int.pow_mul]
  exact cg.md.pw i
theorem pw_next {w : Int} (k : Nat) : w ^ k % P * w % P = w ^ (k + 1) % P := by
  rw [Int.pow_succ, Int.mul_emod, Int.emod_emod, ← Int.mul_emod]
theorem lp_tt (hp : hget H p = cO 3 [vl P]) (hP : 1 < P ∧ P < 1073741824) (hpp : 24 < p ∧ p < 28) (h4 : hget H 4 = cO 2 [.ref 5, .ref 6, .ref 7]) {rx cx : Nat} {lx n : Int} {x : Int → Int} (Rx : RW H rx cx lx n x) (h14 : hget H 14 = cO 6 [.ref 15, vi n]) {f g : Int → Int} (h5 : hget H 5 = cL 64 f) (hf : mo P f n) (hfx : ∀ i : Nat, (i : Int) < n → cg P (f i) (x i)) (hg : mo P g n) {w : Int} (hw : 0 ≤ w ∧ w < P) : ∀ (e k : Nat), (k : Int) + e = n → (Go 18 25 [some (.ref 4), some (.ref rx), some (.ref p), some (.ref 14), some (vl w), none, some (vl (w ^ k % P)), none, some (vi (k : Int))] [] (hput H 15 (cL 64 (mix (fun j => g j * (df w x n.toNat j.toNat % P) % P) g k))) Q ↔ Q none (hput H 15 (cL 64 (mix (fun j => g j * (df w x n.toNat j.toNat % P) % P) g n)))) := by
  have n1 := Rx.2.2.2.1
  have q1 := Rx.2.2.1
  have hp' : ∀ c, hget (hput H 15 c) p = cO 3 [vl P] := fun c => by rw [hg_n (by omega)]; exact hp
  have h4' : ∀ c, hget (hput H 15 c) 4 = cO 2 [.ref 5, .ref 6, .ref 7] := fun c => by rw [hg_n (by omega)]; exact h4
  have h5' : ∀ c, hget (hput H 15 c) 5 = cL 64 f := fun c => by rw [hg_n (by omega)]; exact h5
  have h14' : ∀ c, hget (hput H 15 c) 14 = cO 6 [.ref 15, vi n] := fun c => by rw [hg_n (by omega)]; exact h14
  have Rx' : ∀ c, RW (hput H 15 c) rx cx lx n x := fun c => Rx.fm (Fm.rf.put (lo := 15) (hi := 15) (by omega)) (by omega)
  intro e
  induction e with
  | zero =>
    intro k hk
    rw [show (k : Int) = n by omega, gX2_timesTransform_25]
    simp (disch := omega) only [gX2_timesTransform_27, gX2_timesTransform_28, gX2_timesTransform_31T, gX2_timesTransform_31F, gX2_timesTransform_91, Rd_some, Wr_some, Cont_some, Cont_none, iso_O, true_and, hg_s, hg_n, hput_hput, (Rx' _).1, sp_size (Rx' _).1 (Rx' _).2.1 Rx.sz]
  | succ e ih =>
    intro k hk
    have m1 := em (P := P) (by omega) (w ^ k)
    have m2 := hg (k : Int) (by omega) (by omega)
    have e2 : mix (fun j => g j * (df w x n.toNat j.toNat % P) % P) g k k = g k := mix_out (by omega)
    have m3 := em (P := P) (by omega) (sm (fun i => f i * (w ^ k % P) ^ i.toNat) n.toNat)
    have e3 : sm (fun i => f i * (w ^ k % P) ^ i.toNat) n.toNat % P = df w x n.toNat k % P := ev_df (fun i hi => hfx i (by omega))
    have hv := fun Q c => sp_value2 (Q := Q) (hp' c) hP (h5' c) (m := n) (by omega) hf m1
    rw [gX2_timesTransform_25]
    simp (disch := omega) only [gX2_timesTransform_27, gX2_timesTransform_28, gX2_timesTransform_31T, gX2_timesTransform_31F, gX2_timesTransform_34, gX2_timesTransform_36, gX2_timesTransform_37, fl_6_1, gX2_timesTransform_40T, gX2_timesTransform_40F, gX2_timesTransform_43, gX2_timesTransform_44, fl_6_0, gX2_timesTransform_47, gX2_timesTransform_49, gX2_timesTransform_50, gX2_timesTransform_51, gX2_timesTransform_54, gX2_timesTransform_56, aL_g, gX2_timesTransform_57, gX2_timesTransform_58, gX2_timesTransform_59, fl_2_0, gX2_timesTransform_62, gX2_timesTransform_63, gX2_timesTransform_66, gX2_timesTransform_68, gX2_timesTransform_71, gX2_timesTransform_74, sL_p, gX2_timesTransform_75, gX2_timesTransform_76, gX2_timesTransform_78, gX2_timesTransform_80, gX2_timesTransform_83, gX2_timesTransform_85, gX2_timesTransform_88, Rd_some, Wr_some, Cont_some, Cont_none, iso_O, true_and, hg_s, hg_n, hput_hput, (Rx' _).1, sp_size (Rx' _).1 (Rx' _).2.1 Rx.sz, h14', hp', h4', hv, sp_product (hp' _) hP, e2, pw_next]
    rw [e3, mix_up (by omega) (by rw [Int.toNat_natCast])]
    exact ih (k + 1) (by omega)
theorem sp_tt (hp : hget H p = cO 3 [vl P]) (hP : 1 < P ∧ P < 1073741824) (hpp : 24 < p ∧ p < 28) (h4 : hget H 4 = cO 2 [.ref 5, .ref 6, .ref 7]) {rx cx : Nat} {lx n : Int} {x : Int → Int} (Rx : RW H rx cx lx n x) (h14 : hget H 14 = cO 6 [.ref 15, vi n]) {f g : Int → Int} (h5 : hget H 5 = cL 64 f) (h15 : hget H 15 = cL 64 g) (hg : mo P g n) (hq : ∀ F G, (∀ j, 0 ≤ j → j < n → G j = g j * (df (3 ^ ((P - 1) / n).toNat % P) x n.toNat j.toNat % P) % P) → Q none (hput (hput H 5 (cL 64 F)) 15 (cL 64 G))) : Go 18 0 [some (.ref 4), some (.ref rx), some (.ref p), some (.ref 14), none, none, none, none, none] [] H Q := by
  have n1 := Rx.2.2.2.1
  have q1 := Rx.2.2.1
  have ld := fun Q => sp_load (Q := Q) hp hP Rx.1 Rx.2.1 Rx.2.2.2.2 h5 (by omega) (by omega)
  simp (disch := omega) only [gX2_timesTransform_0, gX2_timesTransform_1, gX2_timesTransform_2, gX2_timesTransform_3, fl_2_0, gX2_timesTransform_6, Rd_some, Wr_some, Cont_some, Cont_none, iso_O, true_and, hg_s, hg_n, hput_hput, h4, hp, ld]
  generalize hF : mix (fun j => x j % P) f n = F
  have vF : ∀ j, 0 ≤ j → j < n → F j = x j % P := fun j j0 j1 => by rw [← hF]; exact mix_in ⟨j0, j1⟩
  have hp' : ∀ c, hget (hput H 5 c) p = cO 3 [vl P] := fun c => by rw [hg_n (by omega)]; exact hp
  have Rx' : ∀ c, RW (hput H 5 c) rx cx lx n x := fun c => Rx.fm (Fm.rf.put (lo := 5) (hi := 5) (by omega)) (by omega)
  simp (disch := omega) only [gX2_timesTransform_9, gX2_timesTransform_10, gX2_timesTransform_11, gX2_timesTransform_14, gX2_timesTransform_17, gX2_timesTransform_19, gX2_timesTransform_20, gX2_timesTransform_22, gX2_timesTransform_23, Rd_some, Wr_some, Cont_some, Cont_none, iso_O, true_and, hg_s, hg_n, hput_hput, hp', (Rx' _).1, sp_size (Rx' _).1 (Rx' _).2.1 Rx.sz, sp_rootFor (hp' _) hP]
  have mw := em (P := P) (by omega) (3 ^ ((P - 1) / n).toNat)
  generalize 3 ^ ((P - 1) / n).toNat % P = w at *
  have eH : hput H 5 (cL 64 F) = hput (hput H 5 (cL 64 F)) 15 (cL 64 (mix (fun j => g j * (df w x n.toNat j.toNat % P) % P) g ((0 : Nat) : Int))) := by
    rw [show ((0 : Nat) : Int) = 0 from rfl, mix_0]
    exact (hput_same (by rw [hg_n (by omega)]; exact h15)).symm
  have key := lp_tt (H := hput H 5 (cL 64 F)) (Q := Q) (hp' _) hP hpp (by rw [hg_n (by omega)]; exact h4) (Rx' _) (by rw [hg_n (by omega)]; exact h14) hg_s (fun j j0 j1 => by rw [vF j j0 j1]; exact em (by omega) _) (fun i hi => by rw [vF i (by omega) hi]; exact cg.md) hg mw n.toNat 0 (by omega)
  rw [← eH, Int.pow_zero, Int.emod_eq_of_lt (show (0 : Int) ≤ 1 by decide) hP.1] at key
  refine key.mpr (hq F _ (fun j j0 j1 => ?_))
  rw [mix_in ⟨j0, j1⟩]
theorem lp_tb (hp : hget H p = cO 3 [vl P]) (hP : 1 < P ∧ P < 1073741824) (hpp : 24 < p ∧ p < 28) {rx cx : Nat} {lx n : Int} (hr : hget H rx = cO 5 [vi lx, .ref cx]) (hrc : 60 < rx ∧ 60 < cx ∧ rx ≠ cx) (hn : 0 < n ∧ n ≤ 64) (h14 : hget H 14 = cO 6 [.ref 15, vi n]) {g f : Int → Int} (h15 : hget H 15 = cL 64 g) (hg : mo P g n) {v s : Int} (hv : 0 ≤ v ∧ v < P) (hs : 0 ≤ s ∧ s < P) : ∀ (e k : Nat), (k : Int) + e = n → (Go 19 31 [some (.ref 4), some (.ref 14), some (.ref p), some (.ref rx), some (vl v), none, some (vl s), none, some (vl (v ^ k % P)), none, some (vi (k : Int))] [] (hput H cx (cL n (mix (fun j => s * (df v g n.toNat j.toNat % P) % P) f k))) Q ↔ Q none (hput H cx (cL n (mix (fun j => s * (df v g n.toNat j.toNat % P) % P) f n)))) := by
  have hp' : ∀ c, hget (hput H cx c) p = cO 3 [vl P] := fun c => by rw [hg_n (by omega)]; exact hp
  have hr' : ∀ c, hget (hput H cx c) rx = cO 5 [vi lx, .ref cx] := fun c => by rw [hg_n (by omega)]; exact hr
  have h14' : ∀ c, hget (hput H cx c) 14 = cO 6 [.ref 15, vi n] := fun c => by rw [hg_n (by omega)]; exact h14
  have h15' : ∀ c, hget (hput H cx c) 15 = cL 64 g := fun c => by rw [hg_n (by omega)]; exact h15
  have sz := fun Q (F : Int → Int) => sp_size (Q := Q) (hr' (cL n F)) hg_s (by omega)
  intro e
  induction e with
  | zero =>
    intro k hk
    rw [show (k : Int) = n by omega, gX2_transformBack_31]
    simp (disch := omega) only [gX2_transformBack_33, gX2_transformBack_34, gX2_transformBack_37T, gX2_transformBack_37F, gX2_transformBack_83, Rd_some, Wr_some, Cont_some, Cont_none, iso_O, true_and, hg_s, hg_n, hput_hput, hr', sz]
  | succ e ih =>
    intro k hk
    have m1 := em (P := P) (by omega) (v ^ k)
    have m3 := em (P := P) (by omega) (sm (fun i => g i * (v ^ k % P) ^ i.toNat) n.toNat)
    have e3 : sm (fun i => g i * (v ^ k % P) ^ i.toNat) n.toNat % P = df v g n.toNat k % P := ev_df (fun i hi => cg.rf)
    have hvl := fun Q c => sp_value2 (Q := Q) (hp' c) hP (h15' c) (m := n) (by omega) hg m1
    rw [gX2_transformBack_31]
    simp (disch := omega) only [gX2_transformBack_33, gX2_transformBack_34, gX2_transformBack_37T, gX2_transformBack_37F, gX2_transformBack_40, gX2_transformBack_41, fl_5_1, gX2_transformBack_44, gX2_transformBack_46, gX2_transformBack_47, gX2_transformBack_49, gX2_transformBack_50, gX2_transformBack_51, fl_6_0, gX2_transformBack_54, gX2_transformBack_55, fl_6_1, gX2_transformBack_58, gX2_transformBack_60, gX2_transformBack_63, gX2_transformBack_66, sL_p, gX2_transformBack_67, gX2_transformBack_68, gX2_transformBack_70, gX2_transformBack_72, gX2_transformBack_75, gX2_transformBack_77, gX2_transformBack_80, Rd_some, Wr_some, Cont_some, Cont_none, iso_O, true_and, hg_s, hg_n, hput_hput, hr', sz, h14', hp', hvl, sp_product (hp' _) hP, pw_next]
    rw [e3, mix_up (by omega) (by rw [Int.toNat_natCast])]
    exact ih (k + 1) (by omega)
theorem sp_tb (hp : hget H p = cO 3 [vl P]) (hP : 1 < P ∧ P < 1073741824) (hpp : 24 < p ∧ p < 28) {rx cx : Nat} {lx n : Int} {f : Int → Int} (hr : hget H rx = cO 5 [vi lx, .ref cx]) (hc : hget H cx = cL n f) (hrc : 60 < rx ∧ 60 < cx ∧ rx ≠ cx) (hn : 0 < n ∧ n ≤ 64) (h14 : hget H 14 = cO 6 [.ref 15, vi n]) {g : Int → Int} (h15 : hget H 15 = cL 64 g) (hg : mo P g n) : Go 19 0 [some (.ref 4), some (.ref 14), some (.ref p), some (.ref rx), none, none, none, none, none, none, none] [] H Q ↔ Q none (hput H cx (cL n (mix (fun j => (n ^ (P - 2).toNat % P) * (df ((3 ^ ((P - 1) / n).toNat % P) ^ (P - 2).toNat % P) g n.toNat j.toNat % P) % P) f n))) := by
  have mw := em (P := P) (by omega) (3 ^ ((P - 1) / n).toNat)
  have mv := em (P := P) (by omega) ((3 ^ ((P - 1) / n).toNat % P) ^ (P - 2).toNat)
  have ms := em (P := P) (by omega) (n ^ (P - 2).toNat)
  have eH : H = hput H cx (cL n (mix (fun j => (n ^ (P - 2).toNat % P) * (df ((3 ^ ((P - 1) / n).toNat % P) ^ (P - 2).toNat % P) g n.toNat j.toNat % P) % P) f ((0 : Nat) : Int))) := by
    rw [show ((0 : Nat) : Int) = 0 from rfl, mix_0]
    exact (hput_same hc).symm
  simp (disch := omega) only [gX2_transformBack_0, gX2_transformBack_1, gX2_transformBack_2, gX2_transformBack_3, gX2_transformBack_6, gX2_transformBack_9, gX2_transformBack_12, gX2_transformBack_14, gX2_transformBack_15, gX2_transformBack_16, gX2_transformBack_19, gX2_transformBack_20, gX2_transformBack_23, gX2_transformBack_25, gX2_transformBack_26, gX2_transformBack_28, gX2_transformBack_29, Rd_some, Wr_some, Cont_some, Cont_none, iso_O, true_and, hg_s, hg_n, hput_hput, hr, hp, sp_size hr hc (show 0 ≤ n ∧ n ≤ 1000000 by omega), sp_rootFor hp hP, sp_recip hp hP]
  have key := lp_tb (Q := Q) hp hP hpp hr hrc hn h14 (f := f) h15 hg mv ms n.toNat 0 (by omega)
  rw [← eH, Int.pow_zero, Int.emod_eq_of_lt (show (0 : Int) ≤ 1 by decide) hP.1] at key
  exact key
end POL

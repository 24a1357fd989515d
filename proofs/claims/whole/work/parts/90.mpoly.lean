/-! m: over a prime (begun by program: wip/gen/mpoly.py) -/
section MPO
variable {H : HP} {S : SS} {T : TT} {Q : Option Value → HP → Prop} {p a b u n : Int} {d e : RD}
theorem sp_a1N (h : MH H S T) (hr : MR S T) (ha : 0 ≤ a ∧ a < 12) (hn : S.1.1 a = none) : Go 163 0 [some (.ref 41), some (vi a)] [] H Q ↔ Q (some (vi (-10 - 1))) (hput H 41 (cM (wFt S 1))) := by
  have e1 := hr.no ha hn
  simp (disch := omega) only [gX9_againstOne_0, gX9_againstOne_1, fl_9_1, gX9_againstOne_4, gX9_againstOne_5, aJ_g, gX9_againstOne_6, gX9_againstOne_8T, gX9_againstOne_8F, gX9_againstOne_11, gX9_againstOne_12, gX9_againstOne_13, gX9_againstOne_16, gX9_againstOne_17, gX9_againstOne_18, gX9_againstOne_19, gX9_againstOne_22, gX9_againstOne_23T, gX9_againstOne_23F, gX9_againstOne_26, gX9_againstOne_27, gX9_againstOne_28, gX9_againstOne_31, gX9_againstOne_34, gX9_againstOne_35, Rd_some, Wr_some, Cont_some, Cont_none, iso_O, true_and, hg_s, hg_n, hput_hput, gX9_fails_0, gX9_fails_1, gX9_fails_2, pf_9_0, gX9_fails_5, gX9_fails_7, gX9_fails_8, gX9_fails_9, Rd_some, Wr_some, Cont_some, Cont_none, iso_O, true_and, hg_s, hg_n, hput_hput, h.v.1, h.v.2.1]
  exact Iff.rfl
theorem sp_a1O (h : MH H S T) (hr : MR S T) (ha : 0 ≤ a ∧ a < 12) {k : Nat} (hoa : S.1.1 a = some k) (la : 0 ≤ (S.1.2 k).1 ∧ (S.1.2 k).1 ≤ 4) (hl : (S.1.2 k).1 ≤ 3) : Go 163 0 [some (.ref 41), some (vi a)] [] H Q ↔ Q (some (vi 0)) H := by
  obtain ⟨a1, a2, -, -⟩ := hr.ro ha hoa
  simp (disch := omega) only [gX9_againstOne_0, gX9_againstOne_1, fl_9_1, gX9_againstOne_4, gX9_againstOne_5, aJ_g, gX9_againstOne_6, gX9_againstOne_8T, gX9_againstOne_8F, gX9_againstOne_11, gX9_againstOne_12, gX9_againstOne_13, gX9_againstOne_16, gX9_againstOne_17, gX9_againstOne_18, gX9_againstOne_19, gX9_againstOne_22, gX9_againstOne_23T, gX9_againstOne_23F, gX9_againstOne_26, gX9_againstOne_27, gX9_againstOne_28, gX9_againstOne_31, gX9_againstOne_34, gX9_againstOne_35, Rd_some, Wr_some, Cont_some, Cont_none, iso_O, true_and, hg_s, hg_n, hput_hput, h.v.1, h.v.2.1, sp_lan h.v, a2]
theorem sp_a1C (h : MH H S T) (hr : MR S T) (ha : 0 ≤ a ∧ a < 12) {k : Nat} (hoa : S.1.1 a = some k) (la : 0 ≤ (S.1.2 k).1 ∧ (S.1.2 k).1 ≤ 4) (hl : ¬ (S.1.2 k).1 ≤ 3) : Go 163 0 [some (.ref 41), some (vi a)] [] H Q ↔ Q (some (vi (-10 - 2))) (hput H 41 (cM (wFt S 2))) := by
  obtain ⟨a1, a2, -, -⟩ := hr.ro ha hoa
  simp (disch := omega) only [gX9_againstOne_0, gX9_againstOne_1, fl_9_1, gX9_againstOne_4, gX9_againstOne_5, aJ_g, gX9_againstOne_6, gX9_againstOne_8T, gX9_againstOne_8F, gX9_againstOne_11, gX9_againstOne_12, gX9_againstOne_13, gX9_againstOne_16, gX9_againstOne_17, gX9_againstOne_18, gX9_againstOne_19, gX9_againstOne_22, gX9_againstOne_23T, gX9_againstOne_23F, gX9_againstOne_26, gX9_againstOne_27, gX9_againstOne_28, gX9_againstOne_31, gX9_againstOne_34, gX9_againstOne_35, Rd_some, Wr_some, Cont_some, Cont_none, iso_O, true_and, hg_s, hg_n, hput_hput, gX9_fails_0, gX9_fails_1, gX9_fails_2, pf_9_0, gX9_fails_5, gX9_fails_7, gX9_fails_8, gX9_fails_9, Rd_some, Wr_some, Cont_some, Cont_none, iso_O, true_and, hg_s, hg_n, hput_hput, h.v.1, h.v.2.1, sp_lan h.v, a2]
  exact Iff.rfl
theorem lp_take {A : Nat} {P : Int} (hA : A ≠ 0) (hP : 1 < P ∧ P < 1073741824) (hv : ∀ c, VR (hput H A c) S p d) (rd : ∀ j, 0 ≤ j → j < d.2.1 → -9223372036854775808 ≤ d.2.2 j ∧ d.2.2 j ≤ 9223372036854775807) {f : Int → Int} : ∀ (e : Nat) (i : Int), i + e = 64 → 0 ≤ i → (Go 162 3 [some (.ref 41), some (.ref A), some (vi p), some (vl P), none, some (vi i)] [] (hput H A (cL 64 (mix (Xz P d.2.2 d.2.1) f i))) Q ↔ Q none (hput H A (cL 64 (mix (Xz P d.2.2 d.2.1) f 64)))) := by
  have nn := (hv (cL 64 f)).2.1
  intro e
  induction e with
  | zero =>
    intro i hi h0
    rw [show i = 64 by omega, gX9_take_3]
    simp (disch := omega) only [gX9_take_5, gX9_take_7T, gX9_take_7F, gX9_take_45, Rd_some, Wr_some, Cont_some, Cont_none, iso_O, true_and, hg_s, hg_n, hput_hput]
  | succ e ih =>
    intro i hi h0
    rw [gX9_take_3]
    by_cases hin : i < d.2.1
    · have m0 := rd i h0 hin
      simp (disch := omega) only [gX9_take_5, gX9_take_7T, gX9_take_7F, gX9_take_10, gX9_take_11, gX9_take_13, gX9_take_15, gX9_take_16, gX9_take_17, gX9_take_20T, gX9_take_20F, gX9_take_23, gX9_take_24, gX9_take_25, gX9_take_27, gX9_take_30, gX9_take_31, gX9_take_34, gX9_take_37, gX9_take_38, sL_p, gX9_take_39, gX9_take_42, Rd_some, Wr_some, Cont_some, Cont_none, iso_O, true_and, hg_s, hg_n, hput_hput, (hv _).1, vr_cnt (hv _), vr_ent (hv _), sp_res hP m0]
      rw [mix_up h0 (show d.2.2 i % P = Xz P d.2.2 d.2.1 i from (if_pos hin).symm)]
      exact ih (i + 1) (by omega) (by omega)
    · simp (disch := omega) only [gX9_take_5, gX9_take_7T, gX9_take_7F, gX9_take_10, gX9_take_11, gX9_take_13, gX9_take_15, gX9_take_16, gX9_take_17, gX9_take_20T, gX9_take_20F, gX9_take_23, gX9_take_24, gX9_take_25, gX9_take_27, gX9_take_30, gX9_take_31, gX9_take_34, gX9_take_37, gX9_take_38, sL_p, gX9_take_39, gX9_take_42, Rd_some, Wr_some, Cont_some, Cont_none, iso_O, true_and, hg_s, hg_n, hput_hput, (hv _).1, vr_cnt (hv _)]
      rw [mix_up h0 (show 0 = Xz P d.2.2 d.2.1 i from (if_neg hin).symm)]
      exact ih (i + 1) (by omega) (by omega)
theorem sp_take {A : Nat} {P : Int} (hA : A ≠ 0) (hP : 1 < P ∧ P < 1073741824) (hv : ∀ c, VR (hput H A c) S p d) (rd : ∀ j, 0 ≤ j → j < d.2.1 → -9223372036854775808 ≤ d.2.2 j ∧ d.2.2 j ≤ 9223372036854775807) {f : Int → Int} (hf : hget H A = cL 64 f) : Go 162 0 [some (.ref 41), some (.ref A), some (vi p), some (vl P), none, none] [] H Q ↔ Q none (hput H A (cL 64 (mix (Xz P d.2.2 d.2.1) f 64))) := by
  simp only [gX9_take_0, gX9_take_1, Rd_some, Wr_some, Cont_some, Cont_none, iso_O, true_and, hg_s, hg_n, hput_hput]
  have e2 : H = hput H A (cL 64 (mix (Xz P d.2.2 d.2.1) f 0)) := by rw [mix_0]; exact (hput_same hf).symm
  conv => lhs; rw [e2]
  exact lp_take hA hP hv rd 64 0 (by omega) (by omega)
theorem lp_kp (h41 : hget H 41 = cM S) {o g : Int → Int} (h59 : hget H 59 = cL 64 o) (hn : 0 ≤ n ∧ n ≤ 64) : ∀ (e : Nat) (i : Int), i + e = n → 0 ≤ i → (Go 165 7 [some (.ref 41), some (vi n), some (vi i)] [] (hput H 49 (cL 64 (mix o g i))) Q ↔ Q (some (vi n)) (hput H 49 (cL 64 (mix o g n)))) := by
  have x41 : ∀ c, hget (hput H 49 c) 41 = cM S := fun c => by rw [hg_n (by omega)]; exact h41
  have x59 : ∀ c, hget (hput H 49 c) 59 = cL 64 o := fun c => by rw [hg_n (by omega)]; exact h59
  intro e
  induction e with
  | zero =>
    intro i hi h0
    rw [show i = n by omega, gX9_keep_7]
    simp (disch := omega) only [gX9_keep_8, gX9_keep_9T, gX9_keep_9F, gX9_keep_30, gX9_keep_31, Rd_some, Wr_some, Cont_some, Cont_none, iso_O, true_and, hg_s, hg_n, hput_hput]
  | succ e ih =>
    intro i hi h0
    rw [gX9_keep_7]
    simp (disch := omega) only [gX9_keep_8, gX9_keep_9T, gX9_keep_9F, gX9_keep_12, gX9_keep_13, fl_9_12, gX9_keep_16, gX9_keep_17, gX9_keep_18, fl_9_25, gX9_keep_21, gX9_keep_22, aL_g, gX9_keep_23, sL_p, gX9_keep_24, gX9_keep_27, Rd_some, Wr_some, Cont_some, Cont_none, iso_O, true_and, hg_s, hg_n, hput_hput, x41, x59]
    rw [mix_up h0 rfl]
    exact ih (i + 1) (by omega) (by omega)
theorem sp_kp (h41 : hget H 41 = cM S) {o g : Int → Int} (V : Int → Int) (h59 : hget H 59 = cL 64 o) (h49 : hget H 49 = cL 64 g) (hn : 0 ≤ n ∧ n ≤ 64) : Go 165 0 [some (.ref 41), some (vi n), none] [] H Q ↔ Q (some (vi n)) (hput (hput H 41 (cM (wSh S 3 n V))) 49 (cL 64 (mix o g n))) := by
  simp (disch := omega) only [gX9_keep_0, gX9_keep_1, gX9_keep_2, pf_9_11, gX9_keep_5, gX9_keep_6, Rd_some, Wr_some, Cont_some, Cont_none, iso_O, true_and, hg_s, hg_n, hput_hput, h41]
  change Go _ _ _ _ (hput H 41 (cM (wSh S 3 n V))) _ ↔ _
  have e2 : hput H 41 (cM (wSh S 3 n V)) = hput (hput H 41 (cM (wSh S 3 n V))) 49 (cL 64 (mix o g 0)) := by rw [mix_0]; exact (hput_same (by rw [hg_n (by omega)]; exact h49)).symm
  conv => lhs; rw [e2]
  exact lp_kp (S := wSh S 3 n V) hg_s (by rw [hg_n (by omega)]; exact h59) hn n.toNat 0 (by omega) (by omega)
theorem MJ.sh3 {H1 H' : HP} {S1 : SS} {V g : Int → Int} (h1 : MH H1 S1 T) (h2 : MR S1 T) (h3 : SI S1) (h4 : ∀ k, live S1 k → rok (S1.1.2 k)) (e : ∀ q, 41 < q → q < 57 → q ≠ 49 → hget H' q = hget H1 q) (e1 : hget H' 41 = cM (wSh S1 3 n V)) (hg : hget H' 49 = cL 64 g) (hv : eqn g (n, V)) (hn : 0 ≤ n ∧ n ≤ 64) (w57 : ∃ f, hget H' 57 = cL 64 f) (w58 : ∃ f, hget H' 58 = cL 64 f) (w59 : ∃ f, hget H' 59 = cL 64 f) (w60 : ∃ f, hget H' 60 = cL 65 f) : MJ H' (wSh S1 3 n V) := by
  refine ⟨T, fun q q1 q2 => ?_, h2, ?_, h4⟩
  · by_cases b1 : q = 41
    · subst b1; exact e1
    · by_cases b2 : q = 49
      · subst b2; exact ⟨g, hg, hv⟩
      · by_cases b3 : q = 57
        · subst b3; exact w57
        · by_cases b4 : q = 58
          · subst b4; exact w58
          · by_cases b5 : q = 59
            · subst b5; exact w59
            · by_cases b6 : q = 60
              · subst b6; exact w60
              · rw [e q (by omega) (by omega) b2]
                have := h1 q q1 q2
                unfold Mh at this ⊢
                split at this <;> first | exact absurd rfl b1 | exact absurd rfl b2 | exact this
  · obtain ⟨s1, s2, s3, s4, s5, s6, s7, s8⟩ := h3
    exact ⟨s1, s2, s3, hn, s5, s6, s7, s8⟩
theorem MJ.sh34 {H1 H' : HP} {S1 : SS} {V W g r : Int → Int} {m : Int} (h1 : MH H1 S1 T) (h2 : MR S1 T) (h3 : SI S1) (h4 : ∀ k, live S1 k → rok (S1.1.2 k)) (e : ∀ q, 41 < q → q < 57 → q ≠ 49 → q ≠ 50 → hget H' q = hget H1 q) (e1 : hget H' 41 = cM (wSh (wSh S1 3 n V) 4 m W)) (hg : hget H' 49 = cL 64 g) (hv : eqn g (n, V)) (hn : 0 ≤ n ∧ n ≤ 64) (hr : hget H' 50 = cL 64 r) (hw : eqn r (m, W)) (hm : 0 ≤ m ∧ m ≤ 64) (w57 : ∃ f, hget H' 57 = cL 64 f) (w58 : ∃ f, hget H' 58 = cL 64 f) (w59 : ∃ f, hget H' 59 = cL 64 f) (w60 : ∃ f, hget H' 60 = cL 65 f) : MJ H' (wSh (wSh S1 3 n V) 4 m W) := by
  refine ⟨T, fun q q1 q2 => ?_, h2, ?_, h4⟩
  · by_cases b1 : q = 41
    · subst b1; exact e1
    · by_cases b2 : q = 49
      · subst b2; exact ⟨g, hg, hv⟩
      · by_cases b0 : q = 50
        · subst b0; exact ⟨r, hr, hw⟩
        · by_cases b3 : q = 57
          · subst b3; exact w57
          · by_cases b4 : q = 58
            · subst b4; exact w58
            · by_cases b5 : q = 59
              · subst b5; exact w59
              · by_cases b6 : q = 60
                · subst b6; exact w60
                · rw [e q (by omega) (by omega) b2 b0]
                  have := h1 q q1 q2
                  unfold Mh at this ⊢
                  split at this <;> first | exact absurd rfl b1 | exact absurd rfl b2 | exact absurd rfl b0 | exact this
  · obtain ⟨s1, s2, s3, s4, s5, s6, s7, s8⟩ := h3
    exact ⟨s1, s2, s3, hn, hm, s6, s7, s8⟩
/-- the rows that m works in -/
def HW (H : HP) (o t w : Int → Int) : HP := hput (hput (hput H 57 (cL 64 o)) 58 (cL 64 t)) 59 (cL 64 w)
theorem HW_57 {o t w : Int → Int} : hget (HW H o t w) 57 = cL 64 o := by unfold HW; rw [hg_n (by omega), hg_n (by omega), hg_s]
theorem HW_58 {o t w : Int → Int} : hget (HW H o t w) 58 = cL 64 t := by unfold HW; rw [hg_n (by omega), hg_s]
theorem HW_59 {o t w : Int → Int} : hget (HW H o t w) 59 = cL 64 w := hg_s
theorem HW_q {o t w : Int → Int} {q : Nat} (h : q ≠ 57 ∧ q ≠ 58 ∧ q ≠ 59) : hget (HW H o t w) q = hget H q := by unfold HW; rw [hg_n h.2.2, hg_n h.2.1, hg_n h.1]
theorem HW_p57 {o t w o' : Int → Int} : hput (HW H o t w) 57 (cL 64 o') = HW H o' t w := by unfold HW; rw [hput_comm (a := 59) (by omega), hput_comm (a := 58) (by omega), hput_hput]
theorem HW_p58 {o t w t' : Int → Int} : hput (HW H o t w) 58 (cL 64 t') = HW H o t' w := by unfold HW; rw [hput_comm (a := 59) (by omega), hput_hput]
theorem HW_p59 {o t w w' : Int → Int} : hput (HW H o t w) 59 (cL 64 w') = HW H o t w' := by unfold HW; rw [hput_hput]
theorem HW_id {o t w : Int → Int} (h1 : hget H 57 = cL 64 o) (h2 : hget H 58 = cL 64 t) (h3 : hget H 59 = cL 64 w) : HW H o t w = H := by
  unfold HW
  rw [hput_same h1, hput_same h2, hput_same h3]
theorem HW_fm {o t w : Int → Int} {H0 : HP} (f : Fm 41 60 H0 H) : Fm 41 60 H0 (HW H o t w) := by
  unfold HW
  exact ((f.put (by omega)).put (by omega)).put (by omega)
theorem lp_evI {P : Int} (h41 : hget H 41 = cM S) (hP : 1 < P ∧ P < 1073741824) {o t : Int → Int} (h57 : hget H 57 = cL 64 o) (h58 : hget H 58 = cL 64 t) {i : Int} (hi : 0 ≤ i ∧ i < 64) {m : Int} (hm : m ≤ 64) (ho : mo P o m) (ht : 0 ≤ t i ∧ t i < P) {l1 l2 l3 l4 : Option Value} : ∀ (k : Nat) (v : Int), (k : Int) ≤ m → 0 ≤ v ∧ v < P → (Go 169 97 [some (.ref 41), l1, l2, l3, l4, some (vl P), none, some (vi i), some (vl v), none, some (vi ((k : Int) - 1))] [] H Q ↔ Go 169 131 [some (.ref 41), l1, l2, l3, l4, some (vl P), none, some (vi i), some (vl (hz P o (t i) k v)), none, some (vi (-1))] [] H Q) := by
  intro k
  induction k with
  | zero =>
    intro v hk hv
    rw [show ((0 : Nat) : Int) - 1 = -1 from rfl, gX9_evaluate_97]
    simp (disch := omega) only [gX9_evaluate_99T, gX9_evaluate_99F, Rd_some, Wr_some, Cont_some, Cont_none, iso_O, true_and, hg_s, hg_n, hput_hput]
    rfl
  | succ k ih =>
    intro v hk hv
    have m1 := ho k (by omega) (by omega)
    have m2 := mb (x := v) (y := t i) (by omega)
    have m3 := em (P := P) (by omega) (v * t i % P + o k)
    have e1 : (v * t i + o k).tmod P = (v * t i % P + o k) % P := by
      rw [Int.tmod_eq_emod_of_nonneg (by omega)]
      exact cg.ad cg.md.sy cg.rf
    have ek : ((k + 1 : Nat) : Int) - 1 = (k : Int) := by omega
    rw [ek, gX9_evaluate_97]
    simp (disch := omega) only [gX9_evaluate_99T, gX9_evaluate_99F, gX9_evaluate_102, gX9_evaluate_104, gX9_evaluate_105, fl_9_24, gX9_evaluate_108, gX9_evaluate_110, aL_g, gX9_evaluate_111, gX9_evaluate_112, gX9_evaluate_113, fl_9_23, gX9_evaluate_116, gX9_evaluate_118, gX9_evaluate_119, gX9_evaluate_120, gX9_evaluate_122, gX9_evaluate_123, gX9_evaluate_125, gX9_evaluate_128, Rd_some, Wr_some, Cont_some, Cont_none, iso_O, true_and, hg_s, hg_n, hput_hput, h41, h57, h58, e1]
    rw [show (k : Int) + -1 = (k : Int) - 1 by omega, ih _ (by omega) m3]
    rfl
theorem lp_evO {P : Int} (hv : ∀ w, VR (hput H 59 w) S a d) (hw : ∀ w, VR (hput H 59 w) S b e) (hP : 1 < P ∧ P < 1073741824) {o t f : Int → Int} (h57 : hget H 57 = cL 64 o) (h58 : hget H 58 = cL 64 t) (ho : mo P o d.2.1) (ht : mo P t e.2.1) {l3 l4 : Option Value} (hq : ∀ l8 l9 l10, Go 169 146 [some (.ref 41), some (vi a), some (vi b), l3, l4, some (vl P), none, some (vi e.2.1), l8, l9, l10] [] (hput H 59 (cL 64 (mix (fun j => hz P o (t j) d.2.1.toNat 0) f e.2.1))) Q) : ∀ (f' k : Nat) (l8 l9 l10 : Option Value), (k : Int) + f' = e.2.1 → Go 169 75 [some (.ref 41), some (vi a), some (vi b), l3, l4, some (vl P), none, some (vi (k : Int)), l8, l9, l10] [] (hput H 59 (cL 64 (mix (fun j => hz P o (t j) d.2.1.toNat 0) f k))) Q := by
  have nd := (hv (cL 64 f)).2.1
  have ne := (hw (cL 64 f)).2.1
  have x57 : ∀ c, hget (hput H 59 c) 57 = cL 64 o := fun c => by rw [hg_n (by omega)]; exact h57
  have x58 : ∀ c, hget (hput H 59 c) 58 = cL 64 t := fun c => by rw [hg_n (by omega)]; exact h58
  intro f'
  induction f' with
  | zero =>
    intro k l8 l9 l10 hk
    rw [show (k : Int) = e.2.1 by omega, gX9_evaluate_75]
    simp (disch := omega) only [gX9_evaluate_77, gX9_evaluate_78, gX9_evaluate_79, gX9_evaluate_82T, gX9_evaluate_82F, Rd_some, Wr_some, Cont_some, Cont_none, iso_O, true_and, hg_s, hg_n, hput_hput, (hv _).1, vr_cnt (hw _)]
    exact hq _ _ _
  | succ f' ih =>
    intro k l8 l9 l10 hk
    have mt := ht k (by omega) (by omega)
    rw [gX9_evaluate_75]
    simp (disch := omega) only [gX9_evaluate_77, gX9_evaluate_78, gX9_evaluate_79, gX9_evaluate_82T, gX9_evaluate_82F, gX9_evaluate_85, gX9_evaluate_86, gX9_evaluate_88, gX9_evaluate_89, gX9_evaluate_90, gX9_evaluate_93, gX9_evaluate_94, gX9_evaluate_95, Rd_some, Wr_some, Cont_some, Cont_none, iso_O, true_and, hg_s, hg_n, hput_hput, (hv _).1, vr_cnt (hw _), vr_cnt (hv _)]
    have key := lp_evI (H := hput H 59 (cL 64 (mix (fun j => hz P o (t j) d.2.1.toNat 0) f k))) (Q := Q) (S := S) (l1 := some (vi a)) (l2 := some (vi b)) (l3 := l3) (l4 := l4) (hv _).1 hP (x57 _) (x58 _) (i := (k : Int)) (by omega) (m := d.2.1) (by omega) ho mt d.2.1.toNat 0 (by omega) (by omega)
    rw [show ((d.2.1.toNat : Nat) : Int) = d.2.1 by omega] at key
    rw [key]
    simp (disch := omega) only [gX9_evaluate_131, gX9_evaluate_132, fl_9_25, gX9_evaluate_135, gX9_evaluate_137, gX9_evaluate_139, sL_p, gX9_evaluate_140, gX9_evaluate_143, Rd_some, Wr_some, Cont_some, Cont_none, iso_O, true_and, hg_s, hg_n, hput_hput, (hv _).1]
    rw [mix_up (by omega) rfl]
    exact ih (k + 1) _ _ _ (by omega)
theorem lp_seI {P : Int} (h41 : hget H 41 = cM S) (hP : 1 < P ∧ P < 1073741824) {X o : Int → Int} (h57 : hget H 57 = cL 64 X) (hX : mo P X 64) (h59 : hget H 59 = cL 64 o) {i : Nat} (hi : i < 64) {g : Int → Int} (hg : ∀ j, 0 ≤ j → j < (i : Int) → o j = g j ∧ 0 ≤ g j ∧ g j < P) {D : Int} {l1 l2 l3 l4 l7 l8 : Option Value} : ∀ (e j : Nat), 1 ≤ j → j + e = i + 1 → (Go 167 120 [some (.ref 41), l1, l2, l3, l4, some (vl P), none, l7, l8, some (vi (i : Int)), some (vl ((D - sm (fun t => X (t + 1) * g ((i : Int) - 1 - t)) (j - 1)) % P)), none, some (vi (j : Int))] [] H Q ↔ Go 167 162 [some (.ref 41), l1, l2, l3, l4, some (vl P), none, l7, l8, some (vi (i : Int)), some (vl ((D - sm (fun t => X (t + 1) * g ((i : Int) - 1 - t)) i) % P)), none, some (vi ((i : Int) + 1))] [] H Q) := by
  intro e
  induction e with
  | zero =>
    intro j h1 hj
    rw [show j - 1 = i by omega, show (j : Int) = (i : Int) + 1 by omega, gX9_series_120]
    simp (disch := omega) only [gX9_series_122, gX9_series_124T, gX9_series_124F, Rd_some, Wr_some, Cont_some, Cont_none, iso_O, true_and, hg_s, hg_n, hput_hput]
  | succ e ih =>
    intro j h1 hj
    have m1 := hX j (by omega) (by omega)
    obtain ⟨g1, g2⟩ := hg ((i : Int) - j) (by omega) (by omega)
    have m2 := em (P := P) (by omega) (D - sm (fun t => X (t + 1) * g ((i : Int) - 1 - t)) (j - 1))
    have m3 := mb (x := P - X j) (y := g ((i : Int) - j)) (by omega)
    have e1 : ((D - sm (fun t => X (t + 1) * g ((i : Int) - 1 - t)) (j - 1)) % P + (P - X j) * g ((i : Int) - j)).tmod P = (D - sm (fun t => X (t + 1) * g ((i : Int) - 1 - t)) (j + 1 - 1)) % P := by
      rw [Int.tmod_eq_emod_of_nonneg (by omega), show j + 1 - 1 = j - 1 + 1 by omega, sm, show ((j - 1 : Nat) : Int) + 1 = (j : Int) by omega, show (i : Int) - 1 - ((j - 1 : Nat) : Int) = (i : Int) - j by omega]
      have c1 : cg P ((P - X j) * g ((i : Int) - j)) (-(X j * g ((i : Int) - j))) := by
        have : (P - X j) * g ((i : Int) - j) = -(X j * g ((i : Int) - j)) + P * g ((i : Int) - j) := by rw [Int.sub_mul]; omega
        rw [this]
        exact Int.add_mul_emod_self_left _ _ _
      have c2 := (cg.md (P := P) (a := D - sm (fun t => X (t + 1) * g ((i : Int) - 1 - t)) (j - 1))).ad c1
      refine c2.trans ?_
      congr 1
      omega
    rw [gX9_series_120]
    simp (disch := omega) only [gX9_series_122, gX9_series_124T, gX9_series_124F, gX9_series_127, gX9_series_129, gX9_series_131, gX9_series_132, fl_9_23, gX9_series_135, gX9_series_137, aL_g, gX9_series_138, gX9_series_139, gX9_series_140, fl_9_25, gX9_series_143, gX9_series_145, gX9_series_147, gX9_series_148, gX9_series_149, gX9_series_150, gX9_series_151, gX9_series_153, gX9_series_154, gX9_series_156, gX9_series_159, Rd_some, Wr_some, Cont_some, Cont_none, iso_O, true_and, hg_s, hg_n, hput_hput, h41, h57, h59, g1, e1]
    exact ih (j + 1) (by omega) (by omega)
theorem lp_seO {P s : Int} (h41 : hget H 41 = cM S) (hP : 1 < P ∧ P < 1073741824) {X Y : Int → Int} (h57 : hget H 57 = cL 64 X) (hX : mo P X 64) (hXY : ∀ j, 0 ≤ j → j < 64 → X j = Y j) (hs : 0 ≤ s ∧ s < P) (hn : 1 ≤ n ∧ n ≤ 64) {l1 l2 l4 : Option Value} (hq : ∀ o l9 l10 l11 l12, (∀ j, 0 ≤ j → j < n → o j = ser P s Y n.toNat j) → Go 167 183 [some (.ref 41), l1, l2, some (vi n), l4, some (vl P), none, some (vl s), none, l9, l10, l11, l12] [] (hput H 59 (cL 64 o)) Q) : ∀ (e i : Nat) (o : Int → Int) (l10 l11 l12 : Option Value), (i : Int) + e = n → (∀ j, 0 ≤ j → j < (i : Int) → o j = ser P s Y i j) → Go 167 99 [some (.ref 41), l1, l2, some (vi n), l4, some (vl P), none, some (vl s), none, some (vi (i : Int)), l10, l11, l12] [] (hput H 59 (cL 64 o)) Q := by
  have x41 : ∀ c, hget (hput H 59 c) 41 = cM S := fun c => by rw [hg_n (by omega)]; exact h41
  have x57 : ∀ c, hget (hput H 59 c) 57 = cL 64 X := fun c => by rw [hg_n (by omega)]; exact h57
  intro e
  induction e with
  | zero =>
    intro i o l10 l11 l12 hi ho
    rw [gX9_series_99]
    simp (disch := omega) only [gX9_series_101, gX9_series_102T, gX9_series_102F, Rd_some, Wr_some, Cont_some, Cont_none, iso_O, true_and, hg_s, hg_n, hput_hput]
    exact hq o _ _ _ _ (fun j j0 j1 => by rw [show n.toNat = i by omega]; exact ho j j0 (by omega))
  | succ e ih =>
    intro i o l10 l11 l12 hi ho
    have key := fun D => lp_seI (H := hput H 59 (cL 64 o)) (Q := Q) (S := S) (D := D) (l1 := l1) (l2 := l2) (l3 := some (vi n)) (l4 := l4) (l7 := some (vl s)) (l8 := none) (x41 _) hP (x57 _) hX hg_s (i := i) (by omega) (g := ser P s Y i) (fun j j0 j1 => ⟨ho j j0 j1, ser_r (by omega) i j⟩) i 1 (Nat.le_refl 1) (by omega)
    have esm : sm (fun t => X (t + 1) * ser P s Y i ((i : Int) - 1 - t)) i = sm (fun t => Y (t + 1) * ser P s Y i ((i : Int) - 1 - t)) i := sm_cN fun t ht => by rw [hXY _ (by omega) (by omega)]
    have fin : ∀ D : Int, D = (if i = 0 then 1 else 0) → Go 167 162 [some (.ref 41), l1, l2, some (vi n), l4, some (vl P), none, some (vl s), none, some (vi (i : Int)), some (vl ((D - sm (fun t => X (t + 1) * ser P s Y i ((i : Int) - 1 - t)) i) % P)), none, some (vi ((i : Int) + 1))] [] (hput H 59 (cL 64 o)) Q := by
      intro D hD
      have m2 := em (P := P) (by omega) (D - sm (fun t => X (t + 1) * ser P s Y i ((i : Int) - 1 - t)) i)
      have m3 := mb (x := (D - sm (fun t => X (t + 1) * ser P s Y i ((i : Int) - 1 - t)) i) % P) (y := s) (by omega)
      have e1 : ((D - sm (fun t => X (t + 1) * ser P s Y i ((i : Int) - 1 - t)) i) % P * s).tmod P = (D - sm (fun t => Y (t + 1) * ser P s Y i ((i : Int) - 1 - t)) i) * s % P := by
        rw [Int.tmod_eq_emod_of_nonneg m3.1, esm]
        exact cg.md.ml cg.rf
      simp (disch := omega) only [gX9_series_162, gX9_series_163, fl_9_25, gX9_series_166, gX9_series_168, gX9_series_170, gX9_series_172, gX9_series_173, gX9_series_175, gX9_series_176, sL_p, gX9_series_177, gX9_series_180, Rd_some, Wr_some, Cont_some, Cont_none, iso_O, true_and, hg_s, hg_n, hput_hput, x41, e1]
      refine ih (i + 1) _ _ _ _ (by omega) (fun j j0 j1 => ?_)
      rw [ser]
      unfold up
      by_cases ej : j = (i : Int)
      · rw [if_pos ej, if_pos ej, hD]
      · rw [if_neg ej, if_neg ej]; exact ho j j0 (by omega)
    rw [gX9_series_99]
    by_cases h0 : i = 0
    · have k1 := key 1
      rw [show 1 - 1 = 0 from rfl, sm, Int.sub_zero, Int.emod_eq_of_lt (show (0 : Int) ≤ 1 by decide) hP.1] at k1
      simp (disch := omega) only [gX9_series_101, gX9_series_102T, gX9_series_102F, gX9_series_105, gX9_series_107T, gX9_series_107F, gX9_series_110, gX9_series_111, gX9_series_114, gX9_series_115, gX9_series_117, gX9_series_118, Rd_some, Wr_some, Cont_some, Cont_none, iso_O, true_and, hg_s, hg_n, hput_hput]
      exact k1.mpr (fin 1 (if_pos h0).symm)
    · have k0 := key 0
      rw [show 1 - 1 = 0 from rfl, sm, Int.sub_zero, Int.zero_emod] at k0
      simp (disch := omega) only [gX9_series_101, gX9_series_102T, gX9_series_102F, gX9_series_105, gX9_series_107T, gX9_series_107F, gX9_series_110, gX9_series_111, gX9_series_114, gX9_series_115, gX9_series_117, gX9_series_118, Rd_some, Wr_some, Cont_some, Cont_none, iso_O, true_and, hg_s, hg_n, hput_hput]
      exact k0.mpr (fin 0 (if_neg h0).symm)

end MPO

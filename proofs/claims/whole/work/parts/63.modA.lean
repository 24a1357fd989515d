/-! m: rows -/
theorem Mh_ft {S : SS} {T : TT} {v : Int} {a : Nat} {c : AC} (h : a ≠ 41) : Mh (wFt S v) T a c ↔ Mh S T a c := by
  unfold Mh
  split <;> first | exact absurd rfl h | exact Iff.rfl
theorem Mh_pr {S : SS} {T : TT} {v : Int} {a : Nat} {c : AC} (h : a ≠ 41) : Mh (wPr S v) T a c ↔ Mh S T a c := by
  unfold Mh
  split <;> first | exact absurd rfl h | exact Iff.rfl
theorem Mh_rd {S : SS} {T : TT} {k : Nat} {d : RD} {a : Nat} {c : AC} : Mh (wRd S k d) T a c ↔ Mh S T a c := by
  unfold Mh
  split <;> exact Iff.rfl
theorem Mh_pl {S : SS} {T : TT} {p : Int} {o : Option Nat} {a : Nat} {c : AC} : Mh (wPl S p o) T a c ↔ Mh S T a c := by
  unfold Mh
  split <;> exact Iff.rfl
theorem Mh_T {S : SS} {T T' : TT} {a : Nat} {c : AC} (h : a < 42 ∨ 45 < a) : Mh S T' a c ↔ Mh S T a c := by
  unfold Mh
  split <;> first | exact Iff.rfl | (exfalso; omega)
/-- the tables of rows -/
def MV (H : HP) (S : SS) (T : TT) : Prop := hget H 41 = cM S ∧ hget H 42 = cJ 12 T.1.1 ∧ hget H 43 = cJ 13 T.1.2 ∧ hget H 44 = cJ 13 T.2.1
theorem MH.v {H : HP} {S : SS} {T : TT} (h : MH H S T) : MV H S T := ⟨h 41 (by decide) (by decide), h 42 (by decide) (by decide), h 43 (by decide) (by decide), h 44 (by decide) (by decide)⟩
theorem MH.e {H : HP} {S : SS} {T : TT} (h : MH H S T) : hget H 45 = cL 832 T.2.2 := h 45 (by decide) (by decide)
theorem MV.fm {H H' : HP} {S : SS} {T : TT} {lo hi : Nat} (h : MV H S T) (f : Fm lo hi H H') (hl : 44 < lo) : MV H' S T := ⟨by rw [f.2.2 41 (by omega)]; exact h.1, by rw [f.2.2 42 (by omega)]; exact h.2.1, by rw [f.2.2 43 (by omega)]; exact h.2.2.1, by rw [f.2.2 44 (by omega)]; exact h.2.2.2⟩
theorem MV.put {H : HP} {S : SS} {T : TT} (h : MV H S T) {a : Nat} {c : AC} (ha : 44 < a ∨ a < 41) : MV (hput H a c) S T := ⟨by rw [hg_n (by omega)]; exact h.1, by rw [hg_n (by omega)]; exact h.2.1, by rw [hg_n (by omega)]; exact h.2.2.1, by rw [hg_n (by omega)]; exact h.2.2.2⟩
theorem MH.ft {H : HP} {S : SS} {T : TT} (h : MH H S T) (v : Int) : MH (hput H 41 (cM (wFt S v))) (wFt S v) T := by
  intro a h1 h2
  by_cases e : a = 41
  · subst e; rw [hg_s]; rfl
  · rw [hg_n e]; exact (Mh_ft e).mpr (h a h1 h2)
theorem MJ.ft {H : HP} {S : SS} {T : TT} (h : MH H S T) (hr : MR S T) (hs : SI S) (hk : ∀ k, live S k → rok (S.1.2 k)) (v : Int) : MJ (hput H 41 (cM (wFt S v))) (wFt S v) := ⟨T, h.ft v, hr, hs, hk⟩
section MHELP
variable {H : HP} {Q : Option Value → HP → Prop} {p v lo hi : Int} {S : SS} {T : TT}
theorem sp_wiT (c : (-2147483648 ≤ v ∧ v ≤ 2147483647 ∧ -2147483648 ≤ lo ∧ hi ≤ 2147483647) ∧ lo ≤ v ∧ v ≤ hi) : Go 118 0 [some (vi v), some (vi lo), some (vi hi)] [] H Q ↔ Q (some (vi 1)) H := by simp (disch := omega) only [gX9_within_0, gX9_within_1, gX9_within_2T, gX9_within_2F, gX9_within_5, gX9_within_6, gX9_within_7T, gX9_within_7F, gX9_within_10, gX9_within_11, gX9_within_14, gX9_within_15, Rd_some, Wr_some, Cont_some, Cont_none, iso_O, true_and, hg_s, hg_n, hput_hput]
theorem sp_wiF (c : ((-2147483648 ≤ v ∧ v ≤ 2147483647) ∧ (-2147483648 ≤ lo ∧ lo ≤ 2147483647) ∧ (-2147483648 ≤ hi ∧ hi ≤ 2147483647)) ∧ ¬ (lo ≤ v ∧ v ≤ hi)) : Go 118 0 [some (vi v), some (vi lo), some (vi hi)] [] H Q ↔ Q (some (vi 0)) H := by
  by_cases h : lo ≤ v <;> simp (disch := omega) only [gX9_within_0, gX9_within_1, gX9_within_2T, gX9_within_2F, gX9_within_5, gX9_within_6, gX9_within_7T, gX9_within_7F, gX9_within_10, gX9_within_11, gX9_within_14, gX9_within_15, Rd_some, Wr_some, Cont_some, Cont_none, iso_O, true_and, hg_s, hg_n, hput_hput]
theorem sp_mplT (c : 0 ≤ p ∧ p < 12) : Go 119 0 [some (vi p)] [] H Q ↔ Q (some (vi 1)) H := by simp (disch := omega) only [gX9_isPlace_0, gX9_isPlace_1, gX9_isPlace_2, gX9_isPlace_4, gX9_isPlace_7, Rd_some, Wr_some, Cont_some, Cont_none, iso_O, true_and, hg_s, hg_n, hput_hput, sp_wiT]
theorem sp_mplF (c : (-2147483648 ≤ p ∧ p ≤ 2147483647) ∧ ¬ (0 ≤ p ∧ p < 12)) : Go 119 0 [some (vi p)] [] H Q ↔ Q (some (vi 0)) H := by simp (disch := omega) only [gX9_isPlace_0, gX9_isPlace_1, gX9_isPlace_2, gX9_isPlace_4, gX9_isPlace_7, Rd_some, Wr_some, Cont_some, Cont_none, iso_O, true_and, hg_s, hg_n, hput_hput, sp_wiF]
theorem sp_mprT (c : 0 ≤ p ∧ p ≤ 2) : Go 120 0 [some (vi p)] [] H Q ↔ Q (some (vi 1)) H := by simp (disch := omega) only [gX9_isPrime_0, gX9_isPrime_1, gX9_isPrime_2, gX9_isPrime_3, gX9_isPrime_6, Rd_some, Wr_some, Cont_some, Cont_none, iso_O, true_and, hg_s, hg_n, hput_hput, sp_wiT]
theorem sp_mprF (c : (-2147483648 ≤ p ∧ p ≤ 2147483647) ∧ ¬ (0 ≤ p ∧ p ≤ 2)) : Go 120 0 [some (vi p)] [] H Q ↔ Q (some (vi 0)) H := by simp (disch := omega) only [gX9_isPrime_0, gX9_isPrime_1, gX9_isPrime_2, gX9_isPrime_3, gX9_isPrime_6, Rd_some, Wr_some, Cont_some, Cont_none, iso_O, true_and, hg_s, hg_n, hput_hput, sp_wiF]
theorem sp_prime (c : 0 ≤ p ∧ p ≤ 2) : Go 121 0 [some (vi p)] [] H Q ↔ Q (some (vl (PV p))) H := by
  have h : p = 0 ∨ p = 1 ∨ p = 2 := by omega
  rcases h with rfl | rfl | rfl
  · simp (disch := omega) only [gX9_prime_0, gX9_prime_1T, gX9_prime_1F, gX9_prime_4, gX9_prime_7, gX9_prime_10, gX9_prime_11, gX9_prime_12T, gX9_prime_12F, gX9_prime_15, gX9_prime_18, gX9_prime_21, gX9_prime_24, Rd_some, Wr_some, Cont_some, Cont_none, iso_O, true_and, hg_s, hg_n, hput_hput]; rfl
  · simp (disch := omega) only [gX9_prime_0, gX9_prime_1T, gX9_prime_1F, gX9_prime_4, gX9_prime_7, gX9_prime_10, gX9_prime_11, gX9_prime_12T, gX9_prime_12F, gX9_prime_15, gX9_prime_18, gX9_prime_21, gX9_prime_24, Rd_some, Wr_some, Cont_some, Cont_none, iso_O, true_and, hg_s, hg_n, hput_hput]; rfl
  · simp (disch := omega) only [gX9_prime_0, gX9_prime_1T, gX9_prime_1F, gX9_prime_4, gX9_prime_7, gX9_prime_10, gX9_prime_11, gX9_prime_12T, gX9_prime_12F, gX9_prime_15, gX9_prime_18, gX9_prime_21, gX9_prime_24, Rd_some, Wr_some, Cont_some, Cont_none, iso_O, true_and, hg_s, hg_n, hput_hput]; rfl
theorem sp_cnt (h : MV H S T) (c : (0 ≤ p ∧ p < 12) ∧ 0 ≤ T.1.1 p ∧ T.1.1 p ≤ 12) : Go 124 0 [some (.ref 41), some (vi p)] [] H Q ↔ Q (some (vi (T.2.1 (T.1.1 p)))) H := by
  simp (disch := omega) only [gX9_count_0, gX9_count_1, fl_9_3, gX9_count_4, gX9_count_5, fl_9_1, gX9_count_8, gX9_count_9, aJ_g, gX9_count_10, gX9_count_11, Rd_some, Wr_some, Cont_some, Cont_none, iso_O, true_and, hg_s, hg_n, hput_hput, h.1, h.2.1, h.2.2.2]
theorem sp_lan (h : MV H S T) (c : (0 ≤ p ∧ p < 12) ∧ 0 ≤ T.1.1 p ∧ T.1.1 p ≤ 12) : Go 125 0 [some (.ref 41), some (vi p)] [] H Q ↔ Q (some (vi (T.1.2 (T.1.1 p)))) H := by
  simp (disch := omega) only [gX9_laneOf_0, gX9_laneOf_1, fl_9_2, gX9_laneOf_4, gX9_laneOf_5, fl_9_1, gX9_laneOf_8, gX9_laneOf_9, aJ_g, gX9_laneOf_10, gX9_laneOf_11, Rd_some, Wr_some, Cont_some, Cont_none, iso_O, true_and, hg_s, hg_n, hput_hput, h.1, h.2.1, h.2.2.1]
theorem sp_ent (h : MV H S T) {en : Int → Int} (he : hget H 45 = cL 832 en) (c : ((0 ≤ p ∧ p < 12) ∧ 0 ≤ T.1.1 p ∧ T.1.1 p ≤ 12) ∧ 0 ≤ v ∧ v < 64) : Go 123 0 [some (.ref 41), some (vi p), some (vi v)] [] H Q ↔ Q (some (vl (en (64 * T.1.1 p + v)))) H := by
  simp (disch := omega) only [gX9_entry_0, gX9_entry_1, fl_9_4, gX9_entry_4, gX9_entry_6, gX9_entry_7, fl_9_1, gX9_entry_10, gX9_entry_11, aJ_g, gX9_entry_12, gX9_entry_13, gX9_entry_14, gX9_entry_15, aL_g, gX9_entry_16, Rd_some, Wr_some, Cont_some, Cont_none, iso_O, true_and, hg_s, hg_n, hput_hput, h.1, h.2.1, he]
end MHELP
/-- more values than places -/
theorem pigeon : ∀ (n : Nat) (f : Int → Int), (∀ v : Int, 0 ≤ v → v ≤ n → ∃ i : Int, 0 ≤ i ∧ i < n ∧ f i = v) → False := by
  intro n
  induction n with
  | zero => intro f h; obtain ⟨i, h1, h2, -⟩ := h 0 (by omega) (by omega); omega
  | succ n ih =>
    intro f h
    obtain ⟨i0, a1, a2, a3⟩ := h ((n : Int) + 1) (by omega) (by omega)
    refine ih (fun j => if j = i0 then f n else f j) (fun v v0 v1 => ?_)
    obtain ⟨i, b1, b2, b3⟩ := h v v0 (by omega)
    have ne : i ≠ i0 := fun e => by rw [e, a3] at b3; omega
    by_cases e : i = n
    · refine ⟨i0, a1, by omega, ?_⟩
      show (if i0 = i0 then f n else f i0) = v
      rw [if_pos rfl, ← e]; exact b3
    · refine ⟨i, b1, by omega, ?_⟩
      show (if i = i0 then f n else f i) = v
      rw [if_neg ne]; exact b3
/-- r is among the first k -/
def us (ro : Int → Int) (r : Int) : Nat → Int
  | 0 => 0
  | k + 1 => if ro k = r then 1 else us ro r k
theorem us_01 (ro : Int → Int) (r : Int) (k : Nat) : us ro r k = 0 ∨ us ro r k = 1 := by
  induction k with
  | zero => exact Or.inl rfl
  | succ k ih => rw [us]; split; exact Or.inr rfl; exact ih
theorem us_0 {ro : Int → Int} {r : Int} {k : Nat} (h : us ro r k = 0) : ∀ j : Int, 0 ≤ j → j < k → ro j ≠ r := by
  induction k with
  | zero => intro j h1 h2; omega
  | succ k ih =>
    intro j h1 h2
    rw [us] at h
    split at h
    · cases h
    · rename_i hn
      by_cases e : j = k
      · rw [e]; exact hn
      · exact ih h j h1 (by omega)
theorem us_1 {ro : Int → Int} {r : Int} {k : Nat} (h : us ro r k = 1) : ∃ j : Int, 0 ≤ j ∧ j < k ∧ ro j = r := by
  induction k with
  | zero => cases h
  | succ k ih =>
    rw [us] at h
    split at h
    · rename_i hn; exact ⟨k, by omega, by omega, hn⟩
    · obtain ⟨j, h1, h2, h3⟩ := ih h; exact ⟨j, h1, by omega, h3⟩
theorem jOr_1 {a : Int} (h : a = 0 ∨ a = 1) : jOr a 1 = 1 := by rcases h with rfl | rfl <;> decide
theorem jOr_0 {a : Int} (h : a = 0 ∨ a = 1) : jOr a 0 = a := by rcases h with rfl | rfl <;> decide
/-- 64 zeros from b on, i of them laid -/
def zf (en : Int → Int) (b i : Int) : Int → Int := fun x => if b ≤ x ∧ x < b + i then 0 else en x
section RENEW
variable {H : HP} {Q : Option Value → HP → Prop} {S : SS} {T : TT}
theorem lp_renew1 (h : MV H S T) (hro : ∀ j, 0 ≤ j → j < 12 → -9 ≤ T.1.1 j ∧ T.1.1 j ≤ 12) {r : Int} (hr : 0 ≤ r ∧ r ≤ 12) (l1 l2 l3 : Option Value) : ∀ (d k : Nat) (i : Int), i = (k : Int) → k + d = 12 → (Go 122 17 [some (.ref 41), l1, l2, l3, some (vi r), some (vi (us T.1.1 r k)), some (vi i)] [] H Q ↔ Go 122 52 [some (.ref 41), l1, l2, l3, some (vi r), some (vi (us T.1.1 r 12)), some (vi 12)] [] H Q) := by
  intro d
  induction d with
  | zero =>
    intro k i hi hk
    rw [show i = 12 by omega, show k = 12 by omega]
    rw [gX9_renew_17]
    simp (disch := omega) only [gX9_renew_19, gX9_renew_21T, gX9_renew_21F, Rd_some, Wr_some, Cont_some, Cont_none, iso_O, true_and, hg_s, hg_n, hput_hput]
  | succ d ih =>
    intro k i hi hk
    have h1 := us_01 T.1.1 r k
    have h2 := hro i (by omega) (by omega)
    rw [← ih (k + 1) (i + 1) (by omega) (by omega)]
    rw [us]
    rw [gX9_renew_17]
    by_cases e : T.1.1 i = r
    · rw [if_pos (show T.1.1 (k : Int) = r by rw [← hi]; exact e)]
      simp (disch := omega) only [gX9_renew_19, gX9_renew_21T, gX9_renew_21F, gX9_renew_24, gX9_renew_26, gX9_renew_27, fl_9_1, gX9_renew_30, gX9_renew_32, aJ_g, gX9_renew_33, gX9_renew_35T, gX9_renew_35F, gX9_renew_38, gX9_renew_39, gX9_renew_42, gX9_renew_43, gX9_renew_44, gX9_renew_46, gX9_renew_49, Rd_some, Wr_some, Cont_some, Cont_none, iso_O, true_and, hg_s, hg_n, hput_hput, h.1, h.2.1, jOr_1 h1]
    · rw [if_neg (show ¬ T.1.1 (k : Int) = r by rw [← hi]; exact e)]
      simp (disch := omega) only [gX9_renew_19, gX9_renew_21T, gX9_renew_21F, gX9_renew_24, gX9_renew_26, gX9_renew_27, fl_9_1, gX9_renew_30, gX9_renew_32, aJ_g, gX9_renew_33, gX9_renew_35T, gX9_renew_35F, gX9_renew_38, gX9_renew_39, gX9_renew_42, gX9_renew_43, gX9_renew_44, gX9_renew_46, gX9_renew_49, Rd_some, Wr_some, Cont_some, Cont_none, iso_O, true_and, hg_s, hg_n, hput_hput, h.1, h.2.1, jOr_0 h1]
theorem lp_renew2 (h : MV H S T) (hro : ∀ j, 0 ≤ j → j < 12 → -9 ≤ T.1.1 j ∧ T.1.1 j ≤ 12) {l1 l2 l3 : Option Value} (hq : ∀ (r : Int) (l : Option Value), (0 ≤ r ∧ r ≤ 12) → (∀ j, 0 ≤ j → j < 12 → T.1.1 j ≠ r) → Go 122 70 [some (.ref 41), l1, l2, l3, some (vi r), some (vi 0), l] [] H Q) : ∀ (d : Nat) (r : Int) (l : Option Value), r + d = 12 → 0 ≤ r → (∀ v, 0 ≤ v → v < r → ∃ j, 0 ≤ j ∧ j < 12 ∧ T.1.1 j = v) → Go 122 6 [some (.ref 41), l1, l2, l3, some (vi r), some (vi 1), l] [] H Q := by
  intro d
  induction d with
  | zero =>
    intro r l hr h0 hv
    rw [gX9_renew_6]
    simp (disch := omega) only [gX9_renew_8T, gX9_renew_8F, gX9_renew_11, gX9_renew_12, gX9_renew_14, gX9_renew_15, Rd_some, Wr_some, Cont_some, Cont_none, iso_O, true_and, hg_s, hg_n, hput_hput]
    have e := lp_renew1 (Q := Q) h hro (r := r) (by omega) l1 l2 l3 12 0 0 rfl rfl
    rw [show us T.1.1 r 0 = 0 from rfl] at e
    rw [e]
    rcases us_01 T.1.1 r 12 with q | q
    · rw [q]
      simp (disch := omega) only [gX9_renew_52, gX9_renew_54, gX9_renew_56T, gX9_renew_56F, gX9_renew_59, gX9_renew_60, gX9_renew_63, gX9_renew_64, gX9_renew_65, gX9_renew_67, Rd_some, Wr_some, Cont_some, Cont_none, iso_O, true_and, hg_s, hg_n, hput_hput]
      rw [gX9_renew_6, Int.add_zero]
      simp (disch := omega) only [gX9_renew_8T, gX9_renew_8F, Rd_some, Wr_some, Cont_some, Cont_none, iso_O, true_and, hg_s, hg_n, hput_hput]
      exact hq r _ (by omega) (us_0 q)
    · exfalso
      obtain ⟨j, j0, j1, j2⟩ := us_1 q
      refine pigeon 12 T.1.1 (fun v v0 v1 => ?_)
      by_cases e : v < r
      · exact hv v v0 e
      · exact ⟨j, j0, j1, by omega⟩
  | succ d ih =>
    intro r l hr h0 hv
    rw [gX9_renew_6]
    simp (disch := omega) only [gX9_renew_8T, gX9_renew_8F, gX9_renew_11, gX9_renew_12, gX9_renew_14, gX9_renew_15, Rd_some, Wr_some, Cont_some, Cont_none, iso_O, true_and, hg_s, hg_n, hput_hput]
    have e := lp_renew1 (Q := Q) h hro (r := r) (by omega) l1 l2 l3 12 0 0 rfl rfl
    rw [show us T.1.1 r 0 = 0 from rfl] at e
    rw [e]
    rcases us_01 T.1.1 r 12 with q | q
    · rw [q]
      simp (disch := omega) only [gX9_renew_52, gX9_renew_54, gX9_renew_56T, gX9_renew_56F, gX9_renew_59, gX9_renew_60, gX9_renew_63, gX9_renew_64, gX9_renew_65, gX9_renew_67, Rd_some, Wr_some, Cont_some, Cont_none, iso_O, true_and, hg_s, hg_n, hput_hput]
      rw [gX9_renew_6, Int.add_zero]
      simp (disch := omega) only [gX9_renew_8T, gX9_renew_8F, Rd_some, Wr_some, Cont_some, Cont_none, iso_O, true_and, hg_s, hg_n, hput_hput]
      exact hq r _ (by omega) (us_0 q)
    · rw [q]
      simp (disch := omega) only [gX9_renew_52, gX9_renew_54, gX9_renew_56T, gX9_renew_56F, gX9_renew_59, gX9_renew_60, gX9_renew_63, gX9_renew_64, gX9_renew_65, gX9_renew_67, Rd_some, Wr_some, Cont_some, Cont_none, iso_O, true_and, hg_s, hg_n, hput_hput]
      refine ih (r + 1) _ (by omega) (by omega) (fun v v0 v1 => ?_)
      by_cases e : v < r
      · exact hv v v0 e
      · obtain ⟨j, j0, j1, j2⟩ := us_1 q
        exact ⟨j, j0, j1, by omega⟩
theorem lp_renew3 {en : Int → Int} (hx : hget H 41 = cM S) {r : Int} (hr : 0 ≤ r ∧ r ≤ 12) (l1 l2 l3 l5 : Option Value) : ∀ (d : Nat) (i : Int), i + d = 64 → 0 ≤ i → (Go 122 97 [some (.ref 41), l1, l2, l3, some (vi r), l5, some (vi i)] [] (hput H 45 (cL 832 (zf en (64 * r) i))) Q ↔ Q (some (vi r)) (hput H 45 (cL 832 (zf en (64 * r) 64)))) := by
  have hx2 : ∀ c, hget (hput H 45 c) 41 = cM S := fun c => by rw [hg_n (by omega)]; exact hx
  intro d
  induction d with
  | zero =>
    intro i hi h0
    rw [show i = 64 by omega, gX9_renew_97]
    simp (disch := omega) only [gX9_renew_99, gX9_renew_101T, gX9_renew_101F, gX9_renew_124, gX9_renew_126, Rd_some, Wr_some, Cont_some, Cont_none, iso_O, true_and, hg_s, hg_n, hput_hput]
  | succ d ih =>
    intro i hi h0
    rw [gX9_renew_97]
    simp (disch := omega) only [gX9_renew_99, gX9_renew_101T, gX9_renew_101F, gX9_renew_104, gX9_renew_105, fl_9_4, gX9_renew_108, gX9_renew_110, gX9_renew_112, gX9_renew_113, gX9_renew_115, gX9_renew_116, gX9_renew_117, sL_p, gX9_renew_118, gX9_renew_121, Rd_some, Wr_some, Cont_some, Cont_none, iso_O, true_and, hg_s, hg_n, hput_hput, hx2]
    have e : up (zf en (64 * r) i) (64 * r + i) 0 = zf en (64 * r) (i + 1) := by
      funext x
      unfold up zf
      by_cases h : x = 64 * r + i
      · rw [if_pos h, if_pos (by omega)]
      · rw [if_neg h]
        by_cases h2 : 64 * r ≤ x ∧ x < 64 * r + i
        · rw [if_pos h2, if_pos (by omega)]
        · rw [if_neg h2, if_neg (by omega)]
    rw [e]
    exact ih (i + 1) (by omega) (by omega)
theorem sp_renew (h : MV H S T) (hro : ∀ j, 0 ≤ j → j < 12 → -9 ≤ T.1.1 j ∧ T.1.1 j ≤ 12) {en : Int → Int} (he : hget H 45 = cL 832 en) {p w n : Int} (hp : 0 ≤ p ∧ p < 12) (hq : ∀ (r : Int), (0 ≤ r ∧ r ≤ 12) → (∀ j, 0 ≤ j → j < 12 → T.1.1 j ≠ r) → Q (some (vi r)) (hput (hput (hput (hput H 42 (cJ 12 (up T.1.1 p r))) 43 (cJ 13 (up T.1.2 r w))) 44 (cJ 13 (up T.2.1 r n))) 45 (cL 832 (zf en (64 * r) 64)))) : Go 122 0 [some (.ref 41), some (vi p), some (vi w), some (vi n), none, none, none] [] H Q := by
  simp only [gX9_renew_0, gX9_renew_1, gX9_renew_3, gX9_renew_4, Rd_some, Wr_some, Cont_some, Cont_none, iso_O, true_and, hg_s, hg_n, hput_hput]
  refine lp_renew2 h hro (fun r l hr hf => ?_) 12 0 _ rfl (by omega) (fun v v0 v1 => by omega)
  simp (disch := omega) only [gX9_renew_70, gX9_renew_71, fl_9_1, gX9_renew_74, gX9_renew_75, gX9_renew_77, sJ_p, gX9_renew_78, gX9_renew_79, fl_9_2, gX9_renew_82, gX9_renew_84, gX9_renew_85, gX9_renew_86, gX9_renew_87, fl_9_3, gX9_renew_90, gX9_renew_92, gX9_renew_93, gX9_renew_94, gX9_renew_95, Rd_some, Wr_some, Cont_some, Cont_none, iso_O, true_and, hg_s, hg_n, hput_hput, h.1, h.2.1, h.2.2.1, h.2.2.2]
  have e : zf en (64 * r) 0 = en := by
    funext x
    exact if_neg (by omega)
  have hH : ∀ H1 : HP, hget H1 45 = hget H 45 → H1 = hput H1 45 (cL 832 (zf en (64 * r) 0)) := fun H1 e1 => by rw [e]; exact (hput_same (e1.trans he)).symm
  rw [hH (hput (hput (hput H 42 (cJ 12 (up T.1.1 p r))) 43 (cJ 13 (up T.1.2 r w))) 44 (cJ 13 (up T.2.1 r n))) (by rw [hg_n (by omega), hg_n (by omega), hg_n (by omega)])]
  rw [lp_renew3 (S := S) (by rw [hg_n (by omega), hg_n (by omega), hg_n (by omega)]; exact h.1) hr _ _ _ _ 64 0 (by omega) (by omega)]
  exact hq r hr hf
end RENEW
section MRS
variable {S : SS} {T : TT} {k : Nat} {p : Int}
theorem MR.ro (h : MR S T) (hp : 0 ≤ p ∧ p < 12) (hk : S.1.1 p = some k) : (0 ≤ T.1.1 p ∧ T.1.1 p ≤ 12) ∧ T.1.2 (T.1.1 p) = (S.1.2 k).1 ∧ T.2.1 (T.1.1 p) = (S.1.2 k).2.1 ∧ ∀ j, 0 ≤ j → j < (S.1.2 k).2.1 → T.2.2 (64 * T.1.1 p + j) = (S.1.2 k).2.2 j := (h.1 p hp.1 hp.2).2 k hk
theorem MR.no (h : MR S T) (hp : 0 ≤ p ∧ p < 12) (hk : S.1.1 p = none) : T.1.1 p = -9 := (h.1 p hp.1 hp.2).1 hk
theorem MR.bd (h : MR S T) : ∀ j, 0 ≤ j → j < 12 → -9 ≤ T.1.1 j ∧ T.1.1 j ≤ 12 := by
  intro j h0 h1
  cases hk : S.1.1 j with
  | none => rw [h.no ⟨h0, h1⟩ hk]; omega
  | some k => have := (h.ro ⟨h0, h1⟩ hk).1; omega
theorem MR.cells (h : MR S T) (hok : ∀ k, live S k → rok (S.1.2 k)) (hp : 0 ≤ p ∧ p < 12) (hk : S.1.1 p = some k) {g : Int → Int} {en : Int → Int} (h1 : ∀ j, 0 ≤ j → j < (S.1.2 k).2.1 → en (64 * T.1.1 p + j) = g j) (h2 : ∀ x, (x < 64 * T.1.1 p ∨ 64 * T.1.1 p + 64 ≤ x) → en x = T.2.2 x) : MR (wRd S k ((S.1.2 k).1, (S.1.2 k).2.1, g)) (T.1, T.2.1, en) := by
  refine ⟨fun q q0 q1 => ⟨fun e => h.no ⟨q0, q1⟩ e, fun l hl => ?_⟩, fun a b k l a0 a1 b0 b1 ha hb => h.2 a b k l a0 a1 b0 b1 ha hb⟩
  have hl : S.1.1 q = some l := hl
  obtain ⟨r1, r2, r3, r4⟩ := h.ro ⟨q0, q1⟩ hl
  have hi := h.2 p q k l hp.1 hp.2 q0 q1 hk hl
  have hn := (hok l ⟨q, q0, q1, hl⟩).2.1
  show (0 ≤ T.1.1 q ∧ T.1.1 q ≤ 12) ∧ T.1.2 (T.1.1 q) = (if l = k then ((S.1.2 k).1, (S.1.2 k).2.1, g) else S.1.2 l).1 ∧ T.2.1 (T.1.1 q) = (if l = k then ((S.1.2 k).1, (S.1.2 k).2.1, g) else S.1.2 l).2.1 ∧ ∀ j, 0 ≤ j → j < (if l = k then ((S.1.2 k).1, (S.1.2 k).2.1, g) else S.1.2 l).2.1 → en (64 * T.1.1 q + j) = (if l = k then ((S.1.2 k).1, (S.1.2 k).2.1, g) else S.1.2 l).2.2 j
  by_cases e : l = k
  · rw [if_pos e]
    subst e
    have e2 := hi.mp rfl
    refine ⟨r1, r2, r3, fun j j0 j1 => ?_⟩
    rw [← e2]; exact h1 j j0 j1
  · rw [if_neg e]
    refine ⟨r1, r2, r3, fun j j0 j1 => ?_⟩
    have ne : T.1.1 p ≠ T.1.1 q := fun e2 => e (hi.mpr e2).symm
    rw [h2 _ (by omega)]
    exact r4 j j0 j1
theorem MR.new (h : MR S T) (hok : ∀ k, live S k → rok (S.1.2 k)) (hp : 0 ≤ p ∧ p < 12) (hk : ¬ live S k) {r : Int} (hr : 0 ≤ r ∧ r ≤ 12) (hf : ∀ j, 0 ≤ j → j < 12 → T.1.1 j ≠ r) {d : RD} {en : Int → Int} (h1 : ∀ j, 0 ≤ j → j < d.2.1 → en (64 * r + j) = d.2.2 j) (h2 : ∀ x, (x < 64 * r ∨ 64 * r + 64 ≤ x) → en x = T.2.2 x) : MR (wPl (wRd S k d) p (some k)) ((up T.1.1 p r, up T.1.2 r d.1), (up T.2.1 r d.2.1, en)) := by
  have key : ∀ q, 0 ≤ q → q < 12 → ∀ l, up S.1.1 p (some k) q = some l → (q = p ∧ l = k) ∨ (q ≠ p ∧ l ≠ k ∧ S.1.1 q = some l) := by
    intro q q0 q1 l hl
    by_cases e : q = p
    · rw [show up S.1.1 p (some k) q = some k from if_pos e] at hl
      cases hl
      exact Or.inl ⟨e, rfl⟩
    · rw [show up S.1.1 p (some k) q = S.1.1 q from if_neg e] at hl
      exact Or.inr ⟨e, fun e2 => hk ⟨q, q0, q1, by rw [← e2]; exact hl⟩, hl⟩
  refine ⟨fun q q0 q1 => ⟨fun e => ?_, fun l hl => ?_⟩, fun a b k' l a0 a1 b0 b1 ha hb => ?_⟩
  · have e : up S.1.1 p (some k) q = none := e
    show up T.1.1 p r q = -9
    unfold up at e ⊢
    split at e
    · cases e
    · rename_i ne
      rw [if_neg ne]; exact h.no ⟨q0, q1⟩ e
  · have hl : up S.1.1 p (some k) q = some l := hl
    show (0 ≤ up T.1.1 p r q ∧ up T.1.1 p r q ≤ 12) ∧ up T.1.2 r d.1 (up T.1.1 p r q) = (if l = k then d else S.1.2 l).1 ∧ up T.2.1 r d.2.1 (up T.1.1 p r q) = (if l = k then d else S.1.2 l).2.1 ∧ ∀ j, 0 ≤ j → j < (if l = k then d else S.1.2 l).2.1 → en (64 * up T.1.1 p r q + j) = (if l = k then d else S.1.2 l).2.2 j
    rcases key q q0 q1 l hl with ⟨e1, e2⟩ | ⟨e1, e2, e3⟩
    · rw [show up T.1.1 p r q = r from if_pos e1, if_pos e2, show up T.1.2 r d.1 r = d.1 from if_pos rfl, show up T.2.1 r d.2.1 r = d.2.1 from if_pos rfl]
      exact ⟨hr, rfl, rfl, h1⟩
    · obtain ⟨r1, r2, r3, r4⟩ := h.ro ⟨q0, q1⟩ e3
      have ne := hf q q0 q1
      have hn := (hok l ⟨q, q0, q1, e3⟩).2.1
      rw [show up T.1.1 p r q = T.1.1 q from if_neg e1, if_neg e2, show up T.1.2 r d.1 (T.1.1 q) = T.1.2 (T.1.1 q) from if_neg ne, show up T.2.1 r d.2.1 (T.1.1 q) = T.2.1 (T.1.1 q) from if_neg ne]
      exact ⟨r1, r2, r3, fun j j0 j1 => by rw [h2 _ (by omega)]; exact r4 j j0 j1⟩
  · have ha : up S.1.1 p (some k) a = some k' := ha
    have hb : up S.1.1 p (some k) b = some l := hb
    show k' = l ↔ up T.1.1 p r a = up T.1.1 p r b
    rcases key a a0 a1 k' ha with ⟨e1, e2⟩ | ⟨e1, e2, e3⟩ <;> rcases key b b0 b1 l hb with ⟨f1, f2⟩ | ⟨f1, f2, f3⟩
    · rw [e1, f1, e2, f2]; exact ⟨fun _ => rfl, fun _ => rfl⟩
    · rw [show up T.1.1 p r a = r from if_pos e1, show up T.1.1 p r b = T.1.1 b from if_neg f1]
      exact ⟨fun e => absurd (e.symm.trans e2) f2, fun e => absurd e.symm (hf b b0 b1)⟩
    · rw [show up T.1.1 p r a = T.1.1 a from if_neg e1, show up T.1.1 p r b = r from if_pos f1]
      exact ⟨fun e => absurd (e.trans f2) e2, fun e => absurd e (hf a a0 a1)⟩
    · rw [show up T.1.1 p r a = T.1.1 a from if_neg e1, show up T.1.1 p r b = T.1.1 b from if_neg f1]
      exact h.2 a b k' l a0 a1 b0 b1 e3 f3
theorem MR.pla (h : MR S T) {q : Int} (hp : 0 ≤ p ∧ p < 12) (hq : 0 ≤ q ∧ q < 12) : MR (wPl S p (S.1.1 q)) ((up T.1.1 p (T.1.1 q), T.1.2), T.2) := by
  have key : ∀ a, ∃ b, (up S.1.1 p (S.1.1 q) a = S.1.1 b ∧ up T.1.1 p (T.1.1 q) a = T.1.1 b) ∧ (0 ≤ a → a < 12 → 0 ≤ b ∧ b < 12) := by
    intro a
    by_cases e : a = p
    · exact ⟨q, ⟨if_pos e, if_pos e⟩, fun _ _ => hq⟩
    · exact ⟨a, ⟨if_neg e, if_neg e⟩, fun h1 h2 => ⟨h1, h2⟩⟩
  refine ⟨fun a a0 a1 => ?_, fun a b k l a0 a1 b0 b1 ha hb => ?_⟩
  · obtain ⟨b, ⟨e1, e2⟩, e3⟩ := key a
    have hb := h.1 b (e3 a0 a1).1 (e3 a0 a1).2
    show (up S.1.1 p (S.1.1 q) a = none → up T.1.1 p (T.1.1 q) a = -9) ∧ ∀ k, up S.1.1 p (S.1.1 q) a = some k → (0 ≤ up T.1.1 p (T.1.1 q) a ∧ up T.1.1 p (T.1.1 q) a ≤ 12) ∧ T.1.2 (up T.1.1 p (T.1.1 q) a) = (S.1.2 k).1 ∧ T.2.1 (up T.1.1 p (T.1.1 q) a) = (S.1.2 k).2.1 ∧ ∀ j, 0 ≤ j → j < (S.1.2 k).2.1 → T.2.2 (64 * up T.1.1 p (T.1.1 q) a + j) = (S.1.2 k).2.2 j
    rw [e1, e2]
    exact hb
  · obtain ⟨c, ⟨e1, e2⟩, e3⟩ := key a
    obtain ⟨d, ⟨f1, f2⟩, f3⟩ := key b
    have ha : up S.1.1 p (S.1.1 q) a = some k := ha
    have hb : up S.1.1 p (S.1.1 q) b = some l := hb
    show k = l ↔ up T.1.1 p (T.1.1 q) a = up T.1.1 p (T.1.1 q) b
    rw [e1] at ha
    rw [f1] at hb
    rw [e2, f2]
    exact h.2 c d k l (e3 a0 a1).1 (e3 a0 a1).2 (f3 b0 b1).1 (f3 b0 b1).2 ha hb
end MRS

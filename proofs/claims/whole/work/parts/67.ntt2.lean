/-! A product out of transforms -/
theorem dprod (w v : Int) (a b : Int → Int) (N i : Nat) : df v (fun t => df w a N t.toNat * df w b N t.toNat) N i = sm (fun j => sm (fun k => a j * b k * sm (fun t => (w ^ j.toNat * w ^ k.toNat * v ^ i) ^ t.toNat) N) N) N := by
  have h1 : ∀ t : Nat, df w a N t * df w b N t * v ^ (t * i) = sm (fun j => sm (fun k => a j * b k * (w ^ j.toNat * w ^ k.toNat * v ^ i) ^ t) N) N := by
    intro t
    unfold df
    rw [Int.mul_assoc, ← sm_mulr]
    refine sm_cN fun j hj => ?_
    try dsimp only
    rw [← sm_mulr, ← sm_mul]
    refine sm_cN fun k hk => ?_
    try dsimp only
    rw [Int.mul_pow, Int.mul_pow, ← Int.pow_mul, ← Int.pow_mul, ← Int.pow_mul, Nat.mul_comm t i]
    ac_rfl
  have h2 : df v (fun t => df w a N t.toNat * df w b N t.toNat) N i = sm (fun t => sm (fun j => sm (fun k => a j * b k * (w ^ j.toNat * w ^ k.toNat * v ^ i) ^ t.toNat) N) N) N := by
    rw [df]
    refine sm_cN fun t ht => ?_
    try dsimp only
    rw [Int.toNat_natCast]
    exact h1 t
  rw [h2, sm_swap (fun t j => sm (fun k => a j * b k * (w ^ j.toNat * w ^ k.toNat * v ^ i) ^ t.toNat) N)]
  refine sm_cN fun j hj => ?_
  try dsimp only
  rw [sm_swap (fun t k => a j * b k * (w ^ ((j : Int)).toNat * w ^ k.toNat * v ^ i) ^ t.toNat)]
  refine sm_cN fun k hk => ?_
  try dsimp only
  rw [sm_mul]
theorem pw_inv {P w v : Int} (h : cg P (w * v) 1) (i : Nat) : cg P (w ^ i * v ^ i) 1 := by
  rw [← Int.mul_pow]
  exact pw_one h i
theorem geoV {P w v : Int} {e j k i : Nat} (hi : i < 2 ^ e) (hjk : j + k < 2 ^ e) (hwv : cg P (w * v) 1) (hw : e ≠ 0 → cg P (w ^ 2 ^ (e - 1)) (-1)) (hv : e ≠ 0 → cg P (v ^ 2 ^ (e - 1)) (-1)) : cg P (sm (fun t => (w ^ j * w ^ k * v ^ i) ^ t.toNat) (2 ^ e)) (if j + k = i then ((2 ^ e : Nat) : Int) else 0) := by
  rw [← Int.pow_add]
  have pin := pw_inv hwv
  split
  · rename_i h
    rw [h]
    exact orth1 (pin i)
  · rename_i h
    have he : e ≠ 0 := by
      rintro rfl
      have : (2 : Nat) ^ 0 = 1 := rfl
      omega
    by_cases hlt : i < j + k
    · refine cg.tr (cg.sm fun t ht => cg.pw (b := w ^ (j + k - i)) ?_ t) (orth (by omega) (by omega) (hw he))
      rw [show j + k = j + k - i + i by omega, Int.pow_add, Int.mul_assoc, show j + k - i + i - i = j + k - i by omega]
      have := (cg.rf (P := P) (a := w ^ (j + k - i))).ml (pin i)
      rw [Int.mul_one] at this
      exact this
    · refine cg.tr (cg.sm fun t ht => cg.pw (b := v ^ (i - (j + k))) ?_ t) (orth (by omega) (by omega) (hv he))
      rw [show v ^ i = v ^ (j + k) * v ^ (i - (j + k)) by rw [← Int.pow_add]; congr 1; omega, ← Int.mul_assoc]
      have := (pin (j + k)).ml (cg.rf (P := P) (a := v ^ (i - (j + k))))
      rw [Int.one_mul] at this
      exact this
/-- the transform back of the product of transforms is the product, 2 ^ e times -/
theorem ntt_prod {P w v : Int} {e nx ny : Nat} {x y a b : Int → Int} (hN : nx + ny ≤ 2 ^ e + 1) (hny : 0 < ny) (hnx : 0 < nx) (ha : ∀ j : Nat, j < nx → cg P (a j) (x j)) (ha0 : ∀ j : Nat, nx ≤ j → j < 2 ^ e → a j = 0) (hb : ∀ j : Nat, j < ny → cg P (b j) (y j)) (hb0 : ∀ j : Nat, ny ≤ j → j < 2 ^ e → b j = 0) (hwv : cg P (w * v) 1) (hw : e ≠ 0 → cg P (w ^ 2 ^ (e - 1)) (-1)) (hv : e ≠ 0 → cg P (v ^ 2 ^ (e - 1)) (-1)) {i : Nat} (hi : i < nx + ny - 1) : cg P (df v (fun t => df w a (2 ^ e) t.toNat * df w b (2 ^ e) t.toNat) (2 ^ e) i) (((2 ^ e : Nat) : Int) * cv x nx y ny i) := by
  rw [dprod]
  have hcv : ((2 ^ e : Nat) : Int) * cv x nx y ny i = sm (fun j => ((2 ^ e : Nat) : Int) * tm x y ny i j) (2 ^ e - (2 ^ e - nx)) := by
    rw [show 2 ^ e - (2 ^ e - nx) = nx by omega]
    unfold cv
    rw [← sm_mul]
    rfl
  rw [hcv]
  have htail : sm (fun j => sm (fun k => a j * b k * sm (fun t => (w ^ j.toNat * w ^ k.toNat * v ^ i) ^ t.toNat) (2 ^ e)) (2 ^ e)) (2 ^ e) = sm (fun j => sm (fun k => a j * b k * sm (fun t => (w ^ j.toNat * w ^ k.toNat * v ^ i) ^ t.toNat) (2 ^ e)) (2 ^ e)) (2 ^ e - (2 ^ e - nx)) := by
    refine sm_tail (by omega) (fun j j0 j1 => ?_)
    try dsimp only
    refine sm_0 (fun k k0 k1 => ?_)
    have := ha0 j.toNat (by omega) (by omega)
    rw [show ((j.toNat : Nat) : Int) = j by omega] at this
    rw [this, Int.zero_mul, Int.zero_mul]
  rw [htail, show 2 ^ e - (2 ^ e - nx) = nx by omega]
  refine cg.sm fun j hj => ?_
  try dsimp only
  have h1 : sm (fun k => a j * b k * sm (fun t => (w ^ ((j : Int)).toNat * w ^ k.toNat * v ^ i) ^ t.toNat) (2 ^ e)) (2 ^ e) = sm (fun k => a j * b k * sm (fun t => (w ^ ((j : Int)).toNat * w ^ k.toNat * v ^ i) ^ t.toNat) (2 ^ e)) ny := by
    refine sm_tail (by omega) (fun k k0 k1 => ?_)
    have := hb0 k.toNat (by omega) (by omega)
    rw [show ((k.toNat : Nat) : Int) = k by omega] at this
    try dsimp only
    rw [this, Int.mul_zero, Int.zero_mul]
  rw [h1]
  have h2 : cg P (sm (fun k => a j * b k * sm (fun t => (w ^ ((j : Int)).toNat * w ^ k.toNat * v ^ i) ^ t.toNat) (2 ^ e)) ny) (sm (fun k => x j * y k * (if (j : Int) + k = i then ((2 ^ e : Nat) : Int) else 0)) ny) := by
    refine cg.sm fun k hk => ?_
    try dsimp only
    refine ((ha j hj).ml (hb k hk)).ml ?_
    have := geoV (P := P) (w := w) (v := v) (e := e) (j := j) (k := k) (i := i) (by omega) (by omega) hwv hw hv
    rw [Int.toNat_natCast, Int.toNat_natCast]
    by_cases hh : j + k = i
    · rw [if_pos hh] at this; rw [if_pos (by omega)]; exact this
    · rw [if_neg hh] at this; rw [if_neg (by omega)]; exact this
  refine h2.tr ?_
  unfold tm
  by_cases hq : 0 ≤ (i : Int) - j ∧ (i : Int) - j < ny
  · rw [if_pos hq, sm_one (i := i - j) (by omega) (fun k hk hne => by rw [if_neg (by omega), Int.mul_zero])]
    rw [if_pos (by omega), show (((i - j : Nat) : Nat) : Int) = (i : Int) - j by omega, Int.mul_comm]
    exact cg.rf
  · rw [if_neg hq, sm_0 (fun k k0 k1 => by rw [if_neg (by omega), Int.mul_zero]), Int.mul_zero]
    exact cg.rf
/-- powers over P by squaring -/
def pm (P : Int) : Nat → Int → Nat → Int
  | 0, _, _ => 1 % P
  | f + 1, a, k => if k = 0 then 1 % P else (if k % 2 = 1 then a * pm P f (a * a % P) (k / 2) % P else pm P f (a * a % P) (k / 2))
theorem pm_v {P : Int} : ∀ (f : Nat) (a : Int) (k : Nat), k < 2 ^ f → pm P f a k = a ^ k % P := by
  intro f
  induction f with
  | zero =>
    intro a k hk
    have : k = 0 := by have : (2 : Nat) ^ 0 = 1 := rfl; omega
    rw [this, pm, Int.pow_zero]
  | succ f ih =>
    intro a k hk
    rw [pm]
    by_cases h0 : k = 0
    · rw [if_pos h0, h0, Int.pow_zero]
    · rw [if_neg h0]
      have hk2 : k / 2 < 2 ^ f := by rw [Nat.pow_succ] at hk; omega
      rw [ih _ _ hk2, pw_emod, ← sq_pow]
      by_cases ho : k % 2 = 1
      · rw [if_pos ho, Int.mul_emod, Int.emod_emod, ← Int.mul_emod, Int.mul_comm, ← Int.pow_succ, show (2 * (k / 2)).succ = k by omega]
      · rw [if_neg ho, show 2 * (k / 2) = k by omega]
/-- what is asked of a prime's root for 2 ^ e -/
def rtOk (P : Int) (e : Nat) : Bool :=
  let w := pm P 30 3 ((P - 1) / ((2 ^ e : Nat) : Int)).toNat
  let v := pm P 30 w (P - 2).toNat
  let s := pm P 30 ((2 ^ e : Nat) : Int) (P - 2).toNat
  decide (w * v % P = 1) && (decide (e = 0) || (decide (pm P 30 w (2 ^ (e - 1)) = P - 1) && decide (pm P 30 v (2 ^ (e - 1)) = P - 1))) && decide (((2 ^ e : Nat) : Int) * s % P = 1)
theorem rtOk_0 : ∀ e, e < 8 → rtOk 998244353 e = true := by decide +kernel
theorem rtOk_1 : ∀ e, e < 8 → rtOk 1004535809 e = true := by decide +kernel
theorem rtOk_2 : ∀ e, e < 8 → rtOk 469762049 e = true := by decide +kernel
theorem rt_fact {P : Int} {e : Nat} (hP : 1 < P ∧ P < 1073741824) (h : rtOk P e = true) (he : e < 8) {w v s : Int} (ew : w = 3 ^ ((P - 1) / ((2 ^ e : Nat) : Int)).toNat % P) (ev : v = w ^ (P - 2).toNat % P) (es : s = ((2 ^ e : Nat) : Int) ^ (P - 2).toNat % P) : cg P (w * v) 1 ∧ (e ≠ 0 → cg P (w ^ 2 ^ (e - 1)) (-1)) ∧ (e ≠ 0 → cg P (v ^ 2 ^ (e - 1)) (-1)) ∧ cg P (((2 ^ e : Nat) : Int) * s) 1 := by
  have hb : (2 : Nat) ^ 30 = 1073741824 := by decide
  have h2e : (2 : Nat) ^ (e - 1) < 2 ^ 30 := Nat.pow_lt_pow_right (by decide) (by omega)
  have h0 : 0 ≤ (P - 1) / ((2 ^ e : Nat) : Int) := Int.ediv_nonneg (by omega) (Int.natCast_nonneg _)
  have h3 : (P - 1) / ((2 ^ e : Nat) : Int) ≤ P - 1 := Int.ediv_le_self _ (by omega)
  unfold rtOk at h
  dsimp only at h
  rw [pm_v 30 3 _ (by omega), ← ew, pm_v 30 w _ (by omega), ← ev, pm_v 30 _ (P - 2).toNat (by omega), ← es, pm_v 30 w _ h2e, pm_v 30 v _ h2e] at h
  simp only [Bool.and_eq_true, Bool.or_eq_true, decide_eq_true_eq] at h
  obtain ⟨⟨a1, a2⟩, a3⟩ := h
  have e1 : (1 : Int) % P = 1 := Int.emod_eq_of_lt (by omega) (by omega)
  have em1 : (-1 : Int) % P = P - 1 := by rw [← Int.add_emod_right, Int.emod_eq_of_lt (by omega) (by omega)]; omega
  refine ⟨a1.trans e1.symm, fun hne => ?_, fun hne => ?_, a3.trans e1.symm⟩
  · rcases a2 with q | q
    · exact absurd q hne
    · exact q.1.trans em1.symm
  · rcases a2 with q | q
    · exact absurd q hne
    · exact q.2.trans em1.symm

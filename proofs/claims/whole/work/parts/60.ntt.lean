/-! Transforms over a prime: the sums behind them -/
def cg (P a b : Int) : Prop := a % P = b % P
theorem cg.rf {P a : Int} : cg P a a := rfl
theorem cg.sy {P a b : Int} (h : cg P a b) : cg P b a := Eq.symm h
theorem cg.tr {P a b c : Int} (h : cg P a b) (h2 : cg P b c) : cg P a c := Eq.trans h h2
theorem cg.ad {P a b c d : Int} (h : cg P a b) (h2 : cg P c d) : cg P (a + c) (b + d) := by
  unfold cg at *
  rw [Int.add_emod, h, h2, ← Int.add_emod]
theorem cg.sb {P a b c d : Int} (h : cg P a b) (h2 : cg P c d) : cg P (a - c) (b - d) := by
  unfold cg at *
  rw [Int.sub_emod, h, h2, ← Int.sub_emod]
theorem cg.ml {P a b c d : Int} (h : cg P a b) (h2 : cg P c d) : cg P (a * c) (b * d) := by
  unfold cg at *
  rw [Int.mul_emod, h, h2, ← Int.mul_emod]
theorem cg.md {P a : Int} : cg P (a % P) a := Int.emod_emod a P
theorem cg.pw {P a b : Int} (h : cg P a b) (k : Nat) : cg P (a ^ k) (b ^ k) := by
  induction k with
  | zero => rw [Int.pow_zero, Int.pow_zero]; exact cg.rf
  | succ k ih => rw [Int.pow_succ, Int.pow_succ]; exact ih.ml h
theorem cg.sm {P : Int} {f g : Int → Int} {k : Nat} (h : ∀ j : Nat, j < k → cg P (f j) (g j)) : cg P (sm f k) (sm g k) := by
  induction k with
  | zero => exact cg.rf
  | succ k ih => exact (ih fun j hj => h j (by omega)).ad (h k (by omega))
theorem sm_cN {f g : Int → Int} {k : Nat} (h : ∀ j : Nat, j < k → f j = g j) : sm f k = sm g k := by
  induction k with
  | zero => rfl
  | succ k ih => rw [sm, sm, ih (fun j hj => h j (by omega)), h k (by omega)]
theorem sm_add (f g : Int → Int) (k : Nat) : sm (fun j => f j + g j) k = sm f k + sm g k := by
  induction k with
  | zero => rfl
  | succ k ih => rw [sm, sm, sm, ih]; omega
theorem sm_mul (c : Int) (f : Int → Int) (k : Nat) : sm (fun j => c * f j) k = c * sm f k := by
  induction k with
  | zero => rw [sm, sm, Int.mul_zero]
  | succ k ih => rw [sm, sm, ih, Int.mul_add]
theorem sm_mulr (c : Int) (f : Int → Int) (k : Nat) : sm (fun j => f j * c) k = sm f k * c := by
  induction k with
  | zero => rw [sm, sm, Int.zero_mul]
  | succ k ih => rw [sm, sm, ih, Int.add_mul]
theorem sm_swap (F : Int → Int → Int) (m n : Nat) : sm (fun i => sm (fun j => F i j) m) n = sm (fun j => sm (fun i => F i j) n) m := by
  induction n with
  | zero => rw [sm]; exact (sm_0 (fun j _ _ => rfl)).symm
  | succ n ih => rw [sm, ih, ← sm_add]; exact sm_cN fun j _ => rfl
theorem sm_split (f : Int → Int) (a b : Nat) : sm f (a + b) = sm f a + sm (fun j => f (a + j)) b := by
  induction b with
  | zero => rw [Nat.add_zero, sm, Int.add_zero]
  | succ b ih => rw [← Nat.add_assoc, sm, sm, ih, Int.add_assoc, show ((a + b : Nat) : Int) = (a : Int) + b by omega]
theorem sm_eo (f : Int → Int) (k : Nat) : sm f (2 * k) = sm (fun s => f (2 * s)) k + sm (fun s => f (2 * s + 1)) k := by
  induction k with
  | zero => rfl
  | succ k ih =>
    rw [show 2 * (k + 1) = 2 * k + 1 + 1 by omega, sm, sm, sm, sm, ih]
    rw [show ((2 * k : Nat) : Int) = 2 * (k : Int) by omega, show ((2 * k + 1 : Nat) : Int) = 2 * (k : Int) + 1 by omega]
    omega
theorem sm_one {f : Int → Int} {k i : Nat} (hi : i < k) (h : ∀ j : Nat, j < k → j ≠ i → f j = 0) : sm f k = f i := by
  induction k with
  | zero => omega
  | succ k ih =>
    rw [sm]
    by_cases e : i = k
    · rw [e, sm_0 (fun j j0 j1 => by rw [show j = ((j.toNat : Nat) : Int) by omega]; exact h j.toNat (by omega) (by omega)), Int.zero_add]
    · rw [ih (by omega) (fun j j1 j2 => h j (by omega) j2), h k (by omega) (fun q => e q.symm), Int.add_zero]
/-- the transform's value t of h numbers, by the root w -/
def df (w : Int) (f : Int → Int) (h t : Nat) : Int := sm (fun s => f s * w ^ (s.toNat * t)) h
theorem df_lo (w : Int) (f : Int → Int) (h t : Nat) : df w f (2 * h) t = df (w * w) (fun s => f (2 * s)) h t + w ^ t * df (w * w) (fun s => f (2 * s + 1)) h t := by
  unfold df
  rw [sm_eo, ← sm_mul]
  congr 1
  · refine sm_cN fun s hs => ?_
    rw [show ((2 * (s : Int)).toNat) * t = 2 * (s * t) by rw [← Nat.mul_assoc]; congr 1, sq_pow, Int.toNat_natCast]
  · refine sm_cN fun s hs => ?_
    rw [show ((2 * (s : Int) + 1).toNat) * t = 2 * (s * t) + t by rw [show (2 * (s : Int) + 1).toNat = 2 * s + 1 by omega, Nat.add_mul, Nat.mul_assoc, Nat.one_mul], Int.pow_add, sq_pow, Int.toNat_natCast]
    rw [← Int.mul_assoc, Int.mul_comm (w ^ t)]
theorem pw_one {P u : Int} (h : cg P u 1) (k : Nat) : cg P (u ^ k) 1 := by
  have := h.pw k
  rw [Int.one_pow] at this
  exact this
theorem df_hi {P : Int} (w : Int) (f : Int → Int) (h t : Nat) (hw : cg P (w ^ h) (-1)) : cg P (df w f (2 * h) (t + h)) (df (w * w) (fun s => f (2 * s)) h t - w ^ t * df (w * w) (fun s => f (2 * s + 1)) h t) := by
  have h1 : cg P ((w * w) ^ h) 1 := by
    rw [← sq_pow, show 2 * h = h + h by omega, Int.pow_add]
    exact hw.ml hw
  rw [df_lo]
  have key : ∀ g : Int → Int, cg P (df (w * w) g h (t + h)) (df (w * w) g h t) := by
    intro g
    unfold df
    refine cg.sm fun s hs => ?_
    rw [Nat.mul_add, Int.pow_add]
    refine cg.ml cg.rf ?_
    have h2 : cg P ((w * w) ^ ((s : Int).toNat * h)) 1 := by
      rw [Nat.mul_comm, Int.pow_mul]
      exact pw_one h1 _
    have := (cg.rf (P := P) (a := (w * w) ^ ((s : Int).toNat * t))).ml h2
    rw [Int.mul_one] at this
    exact this
  have h3 : cg P (w ^ (t + h)) (-(w ^ t)) := by
    rw [Int.pow_add]
    have := (cg.rf (P := P) (a := w ^ t)).ml hw
    rw [Int.mul_neg, Int.mul_one] at this
    exact this
  have := (key (fun s => f (2 * s))).ad (h3.ml (key (fun s => f (2 * s + 1))))
  rw [Int.neg_mul, ← Int.sub_eq_add_neg] at this
  exact this
/-- the bits of i, e of them, read backwards -/
def rv : Nat → Nat → Nat
  | 0, _ => 0
  | e + 1, i => rv e (i / 2) + (i % 2) * 2 ^ e
theorem rv_add : ∀ (e q i : Nat), q < e → rv e (i * 2 ^ (q + 1) + 2 ^ q) = rv e (i * 2 ^ (q + 1)) + 2 ^ (e - 1 - q) := by
  intro e
  induction e with
  | zero => intro q i h; omega
  | succ e ih =>
    intro q i h
    rw [rv, rv]
    cases q with
    | zero =>
      rw [Nat.pow_zero, Nat.zero_add, Nat.pow_one]
      rw [show (i * 2 + 1) / 2 = i by omega, show (i * 2) / 2 = i by omega, show (i * 2 + 1) % 2 = 1 by omega, show (i * 2) % 2 = 0 by omega]
      simp
    | succ q =>
      have e1 : i * 2 ^ (q + 1 + 1) = 2 * (i * 2 ^ (q + 1)) := by rw [Nat.pow_succ, ← Nat.mul_assoc, Nat.mul_comm]
      have e2 : 2 ^ (q + 1) = 2 * 2 ^ q := by rw [Nat.pow_succ]; omega
      have e3 : (i * 2 ^ (q + 1 + 1) + 2 ^ (q + 1)) / 2 = i * 2 ^ (q + 1) + 2 ^ q := by omega
      have e4 : (i * 2 ^ (q + 1 + 1)) / 2 = i * 2 ^ (q + 1) := by omega
      have e5 : (i * 2 ^ (q + 1 + 1) + 2 ^ (q + 1)) % 2 = 0 := by omega
      have e6 : (i * 2 ^ (q + 1 + 1)) % 2 = 0 := by omega
      rw [e3, e4, e5, e6, ih q i (by omega), show e + 1 - 1 - (q + 1) = e - 1 - q by omega]
      omega
/-- one stage: blocks of h become blocks of 2 h -/
def stg (P w : Int) (h : Int) (c : Int → Int) (j : Int) : Int := if j % (2 * h) < h then (c j + c (j + h) * w ^ (j % (2 * h)).toNat) % P else (c (j - h) - c j * w ^ (j % (2 * h) - h).toNat) % P
/-- what stands behind stage q: each block is a transform of some of a's numbers -/
def Blk (P w : Int) (e : Nat) (a : Int → Int) (q : Nat) (c : Int → Int) : Prop := ∀ b t : Nat, b < 2 ^ (e - q) → t < 2 ^ q → c ((b * 2 ^ q + t : Nat) : Int) = df (w ^ 2 ^ (e - q)) (fun s => a ((rv e (b * 2 ^ q) + s.toNat * 2 ^ (e - q) : Nat) : Int)) (2 ^ q) t % P
theorem Blk.start {P w : Int} {e : Nat} {a c : Int → Int} (hc : ∀ i : Nat, i < 2 ^ e → c (i : Int) = a (rv e i : Nat) % P) : Blk P w e a 0 c := by
  intro b t hb ht
  have et : t = 0 := by simpa using ht
  subst et
  rw [Nat.sub_zero] at hb
  rw [show b * 2 ^ 0 + 0 = b by simp, hc b hb]
  unfold df
  rw [show (2 : Nat) ^ 0 = 1 from rfl, sm, sm]
  simp
theorem Blk.stage {P w : Int} {e q : Nat} {a c : Int → Int} (hq : q < e) (hw : cg P (w ^ 2 ^ (e - 1)) (-1)) (h : Blk P w e a q c) : Blk P w e a (q + 1) (stg P (w ^ 2 ^ (e - q - 1) % P) ((2 ^ q : Nat) : Int) c) := by
  intro b t hb ht
  have hh : 0 < (2 : Nat) ^ q := Nat.pow_pos (by decide)
  have e1 : (2 : Nat) ^ (q + 1) = 2 * 2 ^ q := by rw [Nat.pow_succ]; omega
  have e2 : (2 : Nat) ^ (e - q) = 2 * 2 ^ (e - q - 1) := by
    have h9 : e - q = (e - q - 1) + 1 := by omega
    conv => lhs; rw [h9]
    rw [Nat.pow_succ, Nat.mul_comm]
  have e3 : e - (q + 1) = e - q - 1 := by omega
  rw [e3] at hb ⊢
  -- the two halves
  have wsq : w ^ 2 ^ (e - q) = w ^ 2 ^ (e - q - 1) * w ^ 2 ^ (e - q - 1) := by rw [e2, ← Int.pow_add]; congr 1; omega
  have whalf : cg P ((w ^ 2 ^ (e - q - 1)) ^ 2 ^ q) (-1) := by
    rw [← Int.pow_mul, ← Nat.pow_add, show e - q - 1 + q = e - 1 by omega]
    exact hw
  have idx : ∀ s : Nat, rv e (b * 2 ^ (q + 1)) + (2 * (s : Int)).toNat * 2 ^ (e - q - 1) = rv e (2 * b * 2 ^ q) + s * 2 ^ (e - q) := by
    intro s
    rw [e2, show b * 2 ^ (q + 1) = 2 * b * 2 ^ q by rw [e1]; rw [Nat.mul_comm 2 b, Nat.mul_assoc], show (2 * (s : Int)).toNat = 2 * s by omega]
    congr 1
    rw [Nat.mul_comm 2 s, Nat.mul_assoc]
  have idx1 : ∀ s : Nat, rv e (b * 2 ^ (q + 1)) + (2 * (s : Int) + 1).toNat * 2 ^ (e - q - 1) = rv e ((2 * b + 1) * 2 ^ q) + s * 2 ^ (e - q) := by
    intro s
    have r := rv_add e q b hq
    have e4 : (2 * b + 1) * 2 ^ q = b * 2 ^ (q + 1) + 2 ^ q := by rw [e1, Nat.add_mul, Nat.one_mul]; congr 1; rw [Nat.mul_comm 2 b, Nat.mul_assoc]
    rw [e4, r, e2, show (2 * (s : Int) + 1).toNat = 2 * s + 1 by omega, show e - 1 - q = e - q - 1 by omega, Nat.add_mul, Nat.one_mul]
    have : s * (2 * 2 ^ (e - q - 1)) = 2 * s * 2 ^ (e - q - 1) := by rw [← Nat.mul_assoc, Nat.mul_comm s 2]
    omega
  have even : ∀ t', t' < 2 ^ q → c ((b * 2 ^ (q + 1) + t' : Nat) : Int) = df (w ^ 2 ^ (e - q - 1) * w ^ 2 ^ (e - q - 1)) (fun s => (fun s => a ((rv e (b * 2 ^ (q + 1)) + s.toNat * 2 ^ (e - q - 1) : Nat) : Int)) (2 * s)) (2 ^ q) t' % P := by
    intro t' ht'
    have := h (2 * b) t' (by omega) ht'
    rw [show 2 * b * 2 ^ q = b * 2 ^ (q + 1) by rw [e1, Nat.mul_comm 2 b, Nat.mul_assoc]] at this
    rw [this, wsq]
    congr 1
    unfold df
    refine sm_cN fun s hs => ?_
    dsimp only
    rw [idx s, show 2 * b * 2 ^ q = b * 2 ^ (q + 1) by rw [e1, Nat.mul_comm 2 b, Nat.mul_assoc], Int.toNat_natCast]
  have odd : ∀ t', t' < 2 ^ q → c ((b * 2 ^ (q + 1) + t' + 2 ^ q : Nat) : Int) = df (w ^ 2 ^ (e - q - 1) * w ^ 2 ^ (e - q - 1)) (fun s => (fun s => a ((rv e (b * 2 ^ (q + 1)) + s.toNat * 2 ^ (e - q - 1) : Nat) : Int)) (2 * s + 1)) (2 ^ q) t' % P := by
    intro t' ht'
    have := h (2 * b + 1) t' (by omega) ht'
    rw [show (2 * b + 1) * 2 ^ q + t' = b * 2 ^ (q + 1) + t' + 2 ^ q by rw [e1, Nat.add_mul, Nat.one_mul, Nat.mul_comm 2 b, Nat.mul_assoc]; omega] at this
    rw [this, wsq]
    congr 1
    unfold df
    refine sm_cN fun s hs => ?_
    dsimp only
    rw [idx1 s, Int.toNat_natCast]
  unfold stg
  have hm : ((b * 2 ^ (q + 1) + t : Nat) : Int) % (2 * ((2 ^ q : Nat) : Int)) = (t : Int) := by
    rw [show (2 * ((2 ^ q : Nat) : Int)) = ((2 ^ (q + 1) : Nat) : Int) by rw [e1]; omega, ← Int.natCast_emod, Nat.add_comm, Nat.add_mul_mod_self_right, Nat.mod_eq_of_lt ht]
  rw [hm]
  by_cases hlt : (t : Int) < ((2 ^ q : Nat) : Int)
  · have hlt' : t < 2 ^ q := by omega
    rw [if_pos hlt, show ((b * 2 ^ (q + 1) + t : Nat) : Int) + ((2 ^ q : Nat) : Int) = ((b * 2 ^ (q + 1) + t + 2 ^ q : Nat) : Int) by omega, even t hlt', odd t hlt', Int.toNat_natCast, e1, df_lo]
    refine cg.ad cg.md ?_
    rw [Int.mul_comm (_ ^ t)]
    exact cg.md.ml (cg.md.pw t)
  · obtain ⟨t', rfl⟩ : ∃ t', t = t' + 2 ^ q := ⟨t - 2 ^ q, by omega⟩
    have ht' : t' < 2 ^ q := by omega
    rw [if_neg hlt, show ((b * 2 ^ (q + 1) + (t' + 2 ^ q) : Nat) : Int) - ((2 ^ q : Nat) : Int) = ((b * 2 ^ (q + 1) + t' : Nat) : Int) by omega, show (b * 2 ^ (q + 1) + (t' + 2 ^ q)) = b * 2 ^ (q + 1) + t' + 2 ^ q by omega, even t' ht', odd t' ht', show (((t' + 2 ^ q : Nat) : Int) - ((2 ^ q : Nat) : Int)).toNat = t' by omega, e1]
    refine cg.tr ?_ (df_hi _ _ _ _ whalf).sy
    refine cg.sb cg.md ?_
    rw [Int.mul_comm (_ ^ t')]
    exact cg.md.ml (cg.md.pw t')
/-- the geometric sum of 2 ^ e terms -/
theorem geo (v : Int) (e : Nat) : sm (fun s => v ^ s.toNat) (2 ^ (e + 1)) = sm (fun s => v ^ s.toNat) (2 ^ e) * (1 + v ^ 2 ^ e) := by
  rw [show 2 ^ (e + 1) = 2 ^ e + 2 ^ e by rw [Nat.pow_succ]; omega, sm_split, Int.mul_add, Int.mul_one]
  congr 1
  rw [← sm_mulr]
  refine sm_cN fun j hj => ?_
  rw [show (((2 ^ e : Nat) : Int) + (j : Int)).toNat = j + 2 ^ e by omega, Int.pow_add, Int.toNat_natCast]
theorem geo0 {P v : Int} {e i : Nat} (hi : i < e) (h : cg P (v ^ 2 ^ i) (-1)) : cg P (sm (fun s => v ^ s.toNat) (2 ^ e)) 0 := by
  induction e with
  | zero => omega
  | succ e ih =>
    rw [geo]
    by_cases hie : i = e
    · subst hie
      have h2 : cg P (1 + v ^ 2 ^ i) 0 := (cg.rf (P := P) (a := 1)).ad h
      have := (cg.rf (P := P) (a := sm (fun s => v ^ s.toNat) (2 ^ i))).ml h2
      rw [Int.mul_zero] at this
      exact this
    · have := (ih (by omega)).ml (cg.rf (P := P) (a := 1 + v ^ 2 ^ e))
      rw [Int.zero_mul] at this
      exact this
theorem odd_part : ∀ (e m : Nat), 0 < m → m < 2 ^ e → ∃ s o : Nat, s < e ∧ m = 2 ^ s * (2 * o + 1) := by
  intro e
  induction e with
  | zero => intro m h1 h2; have : (2 : Nat) ^ 0 = 1 := rfl; omega
  | succ e ih =>
    intro m h1 h2
    by_cases ho : m % 2 = 1
    · exact ⟨0, m / 2, by omega, by rw [Nat.pow_zero]; omega⟩
    · obtain ⟨s, o, h3, h4⟩ := ih (m / 2) (by omega) (by rw [Nat.pow_succ] at h2; omega)
      refine ⟨s + 1, o, by omega, ?_⟩
      rw [Nat.pow_succ, Nat.mul_comm (2 ^ s) 2, Nat.mul_assoc, ← h4]
      omega
/-- a root's powers sum up to 0 -/
theorem orth {P w : Int} {e m : Nat} (hm : 0 < m) (hm2 : m < 2 ^ e) (hw : cg P (w ^ 2 ^ (e - 1)) (-1)) : cg P (sm (fun s => (w ^ m) ^ s.toNat) (2 ^ e)) 0 := by
  obtain ⟨s, o, h1, h2⟩ := odd_part e m hm hm2
  refine geo0 (i := e - 1 - s) (by omega) ?_
  rw [← Int.pow_mul, h2, show 2 ^ s * (2 * o + 1) * 2 ^ (e - 1 - s) = 2 ^ (e - 1) * (2 * o + 1) by
    rw [Nat.mul_comm (2 ^ s), Nat.mul_assoc, ← Nat.pow_add, show s + (e - 1 - s) = e - 1 by omega, Nat.mul_comm], Int.pow_mul]
  have h3 := hw.pw (2 * o + 1)
  have h4 : (-1 : Int) ^ (2 * o + 1) = -1 := by
    rw [Int.pow_succ, sq_pow, show (-1 : Int) * -1 = 1 from rfl, Int.one_pow]; rfl
  rw [h4] at h3
  exact h3
theorem orth1 {P w : Int} {N : Nat} (hw : cg P w 1) : cg P (sm (fun s => w ^ s.toNat) N) N := by
  induction N with
  | zero => exact cg.rf
  | succ N ih =>
    rw [sm]
    have h2 := pw_one hw N
    rw [show ((N + 1 : Nat) : Int) = (N : Int) + 1 by omega]
    exact ih.ad (by rw [Int.toNat_natCast]; exact h2)

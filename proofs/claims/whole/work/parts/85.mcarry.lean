/-! m: carry: numbers in nine limbs of 16 bits -/
theorem bUsh_0 (a : Int) : Int64.ofInt (bUsh a 0) = Int64.ofInt a := by
  unfold bUsh
  rw [Int64.ofInt_toInt, show ((Int32.ofInt 0).toInt64.toUInt64 &&& Int64.toUInt64 63) = 0 by decide, UInt64.shiftRight_zero]
  rfl
theorem limb (a : Int) : ∀ x : Nat, x < 4 → bAnd (bUsh a (16 * (x : Int))) 65535 = (a % 18446744073709551616 / 65536 ^ x) % 65536 := by
  intro x hx
  have h4 : x = 0 ∨ x = 1 ∨ x = 2 ∨ x = 3 := by omega
  rcases h4 with rfl | rfl | rfl | rfl
  · rw [show (16 : Int) * ((0 : Nat) : Int) = 0 from rfl]
    have : bAnd (bUsh a 0) 65535 = bAnd a 65535 := by
      unfold bAnd
      rw [bUsh_0]
    rw [this, bAnd_16, Int.pow_zero]
    omega
  · rw [show (16 : Int) * ((1 : Nat) : Int) = ((16 : Nat) : Int) from rfl, bAnd_16, bUsh_v (by decide) (by decide)]
    rfl
  · rw [show (16 : Int) * ((2 : Nat) : Int) = ((32 : Nat) : Int) from rfl, bAnd_16, bUsh_v (by decide) (by decide)]
    rfl
  · rw [show (16 : Int) * ((3 : Nat) : Int) = ((48 : Nat) : Int) from rfl, bAnd_16, bUsh_v (by decide) (by decide)]
    rfl
theorem limb_lo {V : Int} (x : Nat) (hx : x < 4) : (V % 18446744073709551616 / 65536 ^ x) % 65536 = (V / 65536 ^ x) % 65536 := by
  have h4 : x = 0 ∨ x = 1 ∨ x = 2 ∨ x = 3 := by omega
  rcases h4 with rfl | rfl | rfl | rfl
  · rw [Int.pow_zero]; omega
  · rw [show (65536 : Int) ^ 1 = 65536 by decide]; omega
  · rw [show (65536 : Int) ^ 2 = 4294967296 by decide]; omega
  · rw [show (65536 : Int) ^ 3 = 281474976710656 by decide]; omega
theorem limb_hi {V : Int} (x : Nat) (hx : x < 4) : (V / 18446744073709551616 % 18446744073709551616 / 65536 ^ x) % 65536 = (V / 65536 ^ (x + 4)) % 65536 := by
  have h4 : x = 0 ∨ x = 1 ∨ x = 2 ∨ x = 3 := by omega
  rcases h4 with rfl | rfl | rfl | rfl
  · rw [Int.pow_zero, show (65536 : Int) ^ (0 + 4) = 18446744073709551616 by decide]; omega
  · rw [show (65536 : Int) ^ 1 = 65536 by decide, show (65536 : Int) ^ (1 + 4) = 1208925819614629174706176 by decide]; omega
  · rw [show (65536 : Int) ^ 2 = 4294967296 by decide, show (65536 : Int) ^ (2 + 4) = 79228162514264337593543950336 by decide]; omega
  · rw [show (65536 : Int) ^ 3 = 281474976710656 by decide, show (65536 : Int) ^ (3 + 4) = 5192296858534827628530496329220096 by decide]; omega
theorem or_16 {L c : Int} (hL : 0 ≤ L ∧ L < 65536) (hc : 0 ≤ c ∧ c < 65536) : bOr (bShl L 16) c = L * 65536 + c := by
  have h0 : Int64.ofInt (bShl L 16) = Int64.ofInt (L * 65536) := Value.long.inj (bShl_v (a := L) (k := 16) (by decide))
  have h1 : Int64.ofInt (bOr (bShl L 16) c) = Int64.ofInt (L * 65536 + c) := by
    rw [ofI_bOr, h0]
    apply Int64.toBitVec.inj
    apply BitVec.eq_of_toNat_eq
    show ((Int64.ofInt (L * 65536)).toBitVec ||| (Int64.ofInt c).toBitVec).toNat = _
    rw [BitVec.toNat_or, tnL, tnL, tnL]
    have e1 : (L * 65536 % 18446744073709551616).toNat = ((L * 65536 % 18446744073709551616).toNat / 2 ^ 16) <<< 16 := by
      rw [Nat.shiftLeft_eq]
      omega
    have e2 : (c % 18446744073709551616).toNat < 2 ^ 16 := by omega
    rw [e1, ← Nat.shiftLeft_add_eq_or_of_lt e2, ← e1]
    omega
  have h := congrArg Int64.toInt h1
  rw [i64 (x := L * 65536 + c) (by omega) (by omega)] at h
  rw [← h]
  unfold bOr
  rw [Int64.ofInt_toInt]
theorem bUsh_16 {s : Int} (hs : 0 ≤ s ∧ s ≤ 9223372036854775807) : bUsh s 16 = s / 65536 := by
  have h := bUsh_v (a := s) (k := 16) (by decide) (by decide)
  rw [show ((16 : Nat) : Int) = 16 from rfl] at h
  rw [h, Int.emod_eq_of_lt hs.1 (by omega)]
  rfl
/-- the first x limbs' number -/
def lv (c : Int → Int) (x : Nat) : Int := sm (fun t => c t * 65536 ^ t.toNat) x
theorem lv_s (c : Int → Int) (x : Nat) : lv c (x + 1) = lv c x + c x * 65536 ^ x := by unfold lv; rw [sm, Int.toNat_natCast]
theorem lv_c {c d : Int → Int} {x : Nat} (h : ∀ t : Nat, t < x → c t = d t) : lv c x = lv d x := by
  unfold lv
  exact sm_cN fun t ht => by rw [h t ht]
theorem lv_r {c : Int → Int} {x : Nat} (h : mo 65536 c x) : 0 ≤ lv c x ∧ lv c x < 65536 ^ x := by
  induction x with
  | zero => exact ⟨Int.le_refl 0, by show (0 : Int) < 65536 ^ 0; decide⟩
  | succ x ih =>
    have h1 := ih (fun j j0 j1 => h j j0 (by omega))
    have h2 := h x (by omega) (by omega)
    have hp : (0 : Int) < 65536 ^ x := Int.pow_pos (by decide)
    rw [lv_s, Int.pow_succ]
    have h3 : 0 ≤ c x * 65536 ^ x := Int.mul_nonneg h2.1 (Int.le_of_lt hp)
    have h4 : c x * 65536 ^ x ≤ 65535 * 65536 ^ x := Int.mul_le_mul_of_nonneg_right (by omega) (Int.le_of_lt hp)
    omega
theorem emod_next (v : Int) (x : Nat) : v % 65536 ^ (x + 1) = v % 65536 ^ x + (v / 65536 ^ x) % 65536 * 65536 ^ x := by
  have hp : (0 : Int) < 65536 ^ x := Int.pow_pos (by decide)
  have a1 := Int.emod_add_mul_ediv v (65536 ^ x)
  have a2 := em hp v
  have a3 := Int.emod_add_mul_ediv (v / 65536 ^ x) 65536
  have a4 := em (show (0 : Int) < 65536 by decide) (v / 65536 ^ x)
  rw [Int.pow_succ]
  generalize (65536 : Int) ^ x = B at *
  generalize hq : v / B = q at *
  generalize hr : v % B = r at *
  generalize q / 65536 = q1 at *
  generalize q % 65536 = q0 at *
  have e : v = (r + q0 * B) + B * 65536 * q1 := by
    rw [← a1, ← a3, Int.mul_add, Int.mul_comm B q0, ← Int.mul_assoc]
    omega
  have b1 : 0 ≤ q0 * B := Int.mul_nonneg a4.1 (Int.le_of_lt hp)
  have b2 : q0 * B ≤ 65535 * B := Int.mul_le_mul_of_nonneg_right (by omega) (Int.le_of_lt hp)
  rw [e, Int.add_mul_emod_self_left, Int.emod_eq_of_lt (by omega) (by omega)]
/-- one limb more is summed up -/
theorem c1_step {c c0 : Int → Int} {v o : Int} {x : Nat} (h : lv c x + o * 65536 ^ x = lv c0 x + v % 65536 ^ x) {s : Int} (hs : s = c0 x + (v / 65536 ^ x) % 65536 + o) : lv (up c x (s % 65536)) (x + 1) + s / 65536 * 65536 ^ (x + 1) = lv c0 (x + 1) + v % 65536 ^ (x + 1) := by
  have e1 : lv (up c x (s % 65536)) x = lv c x := lv_c fun t ht => if_neg (by omega)
  have e2 : up c x (s % 65536) x = s % 65536 := if_pos rfl
  rw [lv_s, lv_s, emod_next, e1, e2, Int.pow_succ]
  generalize (v / 65536 ^ x) % 65536 = p at *
  generalize v % 65536 ^ x = r at *
  generalize (65536 : Int) ^ x = B at *
  have e3 : s % 65536 * B + s / 65536 * (B * 65536) = s * B := by
    have : s = s % 65536 + 65536 * (s / 65536) := (Int.emod_add_mul_ediv s 65536).symm
    conv => rhs; rw [this]
    rw [Int.add_mul]
    congr 1
    ac_rfl
  have e4 : s * B = c0 x * B + p * B + o * B := by rw [hs, Int.add_mul, Int.add_mul]
  omega
/-- the limbs from the top down, e of them -/
def hs (c : Int → Int) : Nat → Int
  | 0 => 0
  | e + 1 => hs c e + c (8 - e) * 65536 ^ (8 - e)
theorem hs_c {c d : Int → Int} {e : Nat} (he : e ≤ 9) (h : ∀ t : Int, 9 - e ≤ t → t < 9 → c t = d t) : hs c e = hs d e := by
  induction e with
  | zero => rfl
  | succ e ih => rw [hs, hs, ih (by omega) (fun t t0 t1 => h t (by omega) t1), h (8 - e) (by omega) (by omega)]
theorem hs_9 (c : Int → Int) : hs c 9 = lv c 9 := by
  unfold lv
  simp only [hs, sm]
  simp
  omega
theorem hs_0 {c : Int → Int} (h : mo 65536 c 9) {e : Nat} (he : e ≤ 9) : 0 ≤ hs c e := by
  induction e with
  | zero => exact Int.le_refl 0
  | succ e ih =>
    rw [hs]
    have h1 := ih (by omega)
    have h2 := h (8 - e) (by omega) (by omega)
    have hp : (0 : Int) < 65536 ^ (8 - e) := Int.pow_pos (by decide)
    have := Int.mul_nonneg h2.1 (Int.le_of_lt hp)
    omega
section MCAR
variable {H : HP} {S : SS} {Q : Option Value → HP → Prop} {a m n : Int}
theorem lp_c1 (h41 : hget H 41 = cM S) (hn : (S.2.2 2).1 = n ∧ 0 ≤ n ∧ n ≤ 127) {U W V : Int → Int} (h47 : hget H 47 = cL 128 U) (h48 : hget H 48 = cL 128 W) (hUW : ∀ j, 0 ≤ j → j < n → U j = V j / 18446744073709551616 ∧ W j = V j) {k v : Int} (hk : 0 ≤ k ∧ k ≤ 300) (hv : v = vt V n k) (hv0 : 0 ≤ v ∧ v ≤ 75557863725914323419136) {c0 : Int → Int} (hc0 : mo 65536 c0 9) (hsum : lv c0 9 + v < 65536 ^ 9) {l1 l2 l3 l5 l13 : Option Value} (hq : ∀ c l9 l10 l11 l12, mo 65536 c 9 → lv c 9 = lv c0 9 + v → Go 158 237 [some (.ref 41), l1, l2, l3, some (vi k), l5, some (vl 0), none, some (vi 9), l9, l10, l11, l12, l13] [] (hput H 56 (cL 9 c)) Q) : ∀ (f x : Nat) (c : Int → Int) (o : Int) (l9 l10 l11 l12 : Option Value), x + f = 9 → mo 65536 c 9 → (∀ t : Nat, x ≤ t → t < 9 → c t = c0 t) → 0 ≤ o ∧ o ≤ 1 → lv c x + o * 65536 ^ x = lv c0 x + v % 65536 ^ x → Go 158 122 [some (.ref 41), l1, l2, l3, some (vi k), l5, some (vl o), none, some (vi (x : Int)), l9, l10, l11, l12, l13] [] (hput H 56 (cL 9 c)) Q := by
  have x41 : ∀ c, hget (hput H 56 c) 41 = cM S := fun c => by rw [hg_n (by omega)]; exact h41
  have x47 : ∀ c, hget (hput H 56 c) 47 = cL 128 U := fun c => by rw [hg_n (by omega)]; exact h47
  have x48 : ∀ c, hget (hput H 56 c) 48 = cL 128 W := fun c => by rw [hg_n (by omega)]; exact h48
  have hnS := hn.1
  intro f
  induction f with
  | zero =>
    intro x c o l9 l10 l11 l12 hx hm hct ho hI
    have ex : x = 9 := by omega
    subst ex
    have e9 : (65536 : Int) ^ 9 = 22300745198530623141535718272648361505980416 := by decide
    have ev : v % 65536 ^ 9 = v := Int.emod_eq_of_lt hv0.1 (by rw [e9]; omega)
    have lr := (lv_r (x := 9) (by exact hm)).1
    have eo : o = 0 := by
      rw [ev] at hI
      rw [e9] at hI hsum
      omega
    subst eo
    rw [gX9_carry_122]
    simp (disch := omega) only [gX9_carry_124, gX9_carry_126T, gX9_carry_126F, Rd_some, Wr_some, Cont_some, Cont_none, iso_O, true_and, hg_s, hg_n, hput_hput]
    exact hq c _ _ _ _ hm (by rw [ev, Int.zero_mul, Int.add_zero] at hI; exact hI)
  | succ f ih =>
    intro x c o l9 l10 l11 l12 hx hm hct ho hI
    have mx := hm x (by omega) (by omega)
    have ec := hct x (Nat.le_refl x) (by omega)
    /- behind the part -/
    have key : ∀ p l11 l12, p = (v / 65536 ^ x) % 65536 → Go 158 196 [some (.ref 41), l1, l2, l3, some (vi k), l5, some (vl o), none, some (vi (x : Int)), some (vl p), none, l11, l12, l13] [] (hput H 56 (cL 9 c)) Q := by
      intro p l11 l12 hp
      have mp : 0 ≤ p ∧ p < 65536 := by rw [hp]; exact em (by decide) _
      have ms := em (show (0 : Int) < 65536 by decide) (c x + p + o)
      have eu := bUsh_16 (s := c x + p + o) (by omega)
      simp (disch := omega) only [gX9_carry_196, gX9_carry_197, fl_9_22, gX9_carry_200, gX9_carry_202, aL_g, gX9_carry_203, gX9_carry_205, gX9_carry_206, gX9_carry_208, gX9_carry_209, gX9_carry_211, gX9_carry_212, gX9_carry_215, gX9_carry_217, gX9_carry_219, gX9_carry_222, gX9_carry_223, sL_p, gX9_carry_224, gX9_carry_226, gX9_carry_228, gX9_carry_229, gX9_carry_231, gX9_carry_234, Rd_some, Wr_some, Cont_some, Cont_none, iso_O, true_and, hg_s, hg_n, hput_hput, x41, bAnd_16, eu]
      refine ih (x + 1) _ _ _ _ _ _ (by omega) (fun j j0 j1 => ?_) (fun t t0 t1 => ?_) (by omega) (c1_step hI (by rw [← ec, ← hp]))
      · unfold up
        split
        · exact ms
        · exact hm j j0 j1
      · unfold up
        rw [if_neg (by omega)]
        exact hct t (by omega) t1
    rw [gX9_carry_122]
    by_cases hkn : k < n
    · have ev : v = V k := by rw [hv]; exact if_pos hkn
      obtain ⟨eU, eW⟩ := hUW k hk.1 hkn
      by_cases h8 : x = 8
      · subst h8
        simp (disch := omega) only [gX9_carry_124, gX9_carry_126T, gX9_carry_126F, gX9_carry_129, gX9_carry_131, gX9_carry_132, fl_9_8, gX9_carry_135T, gX9_carry_135F, gX9_carry_138, gX9_carry_140, gX9_carry_142T, gX9_carry_142F, gX9_carry_145, gX9_carry_146, gX9_carry_149, gX9_carry_151, gX9_carry_152T, gX9_carry_152F, gX9_carry_155, gX9_carry_156, fl_9_10, gX9_carry_159, gX9_carry_161, aL_g, gX9_carry_162, gX9_carry_164, gX9_carry_166, gX9_carry_167, gX9_carry_168, gX9_carry_171, gX9_carry_172, gX9_carry_175, gX9_carry_176, fl_9_9, gX9_carry_179, gX9_carry_181, gX9_carry_182, gX9_carry_184, gX9_carry_186, gX9_carry_187, gX9_carry_188, gX9_carry_189, gX9_carry_190, gX9_carry_193, gX9_carry_194, Rd_some, Wr_some, Cont_some, Cont_none, iso_O, true_and, hg_s, hg_n, hput_hput, x41, hnS]
        refine key 0 _ _ ?_
        rw [show (65536 : Int) ^ 8 = 340282366920938463463374607431768211456 by decide]
        omega
      · by_cases h4 : x < 4
        · have el : bAnd (bUsh (W k) (16 * (x : Int))) 65535 = (v / 65536 ^ x) % 65536 := by rw [limb _ x h4, eW, limb_lo x h4, ev]
          simp (disch := omega) only [gX9_carry_124, gX9_carry_126T, gX9_carry_126F, gX9_carry_129, gX9_carry_131, gX9_carry_132, fl_9_8, gX9_carry_135T, gX9_carry_135F, gX9_carry_138, gX9_carry_140, gX9_carry_142T, gX9_carry_142F, gX9_carry_145, gX9_carry_146, gX9_carry_149, gX9_carry_151, gX9_carry_152T, gX9_carry_152F, gX9_carry_155, gX9_carry_156, fl_9_10, gX9_carry_159, gX9_carry_161, aL_g, gX9_carry_162, gX9_carry_164, gX9_carry_166, gX9_carry_167, gX9_carry_168, gX9_carry_171, gX9_carry_172, gX9_carry_175, gX9_carry_176, fl_9_9, gX9_carry_179, gX9_carry_181, gX9_carry_182, gX9_carry_184, gX9_carry_186, gX9_carry_187, gX9_carry_188, gX9_carry_189, gX9_carry_190, gX9_carry_193, gX9_carry_194, Rd_some, Wr_some, Cont_some, Cont_none, iso_O, true_and, hg_s, hg_n, hput_hput, x41, x48, hnS, el]
          exact key _ _ _ rfl
        · have el : bAnd (bUsh (U k) (16 * ((x : Int) - 4))) 65535 = (v / 65536 ^ x) % 65536 := by
            rw [show ((x : Int) - 4) = ((x - 4 : Nat) : Int) by omega, limb _ (x - 4) (by omega), eU, limb_hi (x - 4) (by omega), ev, show x - 4 + 4 = x by omega]
          simp (disch := omega) only [gX9_carry_124, gX9_carry_126T, gX9_carry_126F, gX9_carry_129, gX9_carry_131, gX9_carry_132, fl_9_8, gX9_carry_135T, gX9_carry_135F, gX9_carry_138, gX9_carry_140, gX9_carry_142T, gX9_carry_142F, gX9_carry_145, gX9_carry_146, gX9_carry_149, gX9_carry_151, gX9_carry_152T, gX9_carry_152F, gX9_carry_155, gX9_carry_156, fl_9_10, gX9_carry_159, gX9_carry_161, aL_g, gX9_carry_162, gX9_carry_164, gX9_carry_166, gX9_carry_167, gX9_carry_168, gX9_carry_171, gX9_carry_172, gX9_carry_175, gX9_carry_176, fl_9_9, gX9_carry_179, gX9_carry_181, gX9_carry_182, gX9_carry_184, gX9_carry_186, gX9_carry_187, gX9_carry_188, gX9_carry_189, gX9_carry_190, gX9_carry_193, gX9_carry_194, Rd_some, Wr_some, Cont_some, Cont_none, iso_O, true_and, hg_s, hg_n, hput_hput, x41, x47, hnS, el]
          exact key _ _ _ rfl
    · have ev : v = 0 := by rw [hv]; exact if_neg hkn
      simp (disch := omega) only [gX9_carry_124, gX9_carry_126T, gX9_carry_126F, gX9_carry_129, gX9_carry_131, gX9_carry_132, fl_9_8, gX9_carry_135T, gX9_carry_135F, gX9_carry_138, gX9_carry_140, gX9_carry_142T, gX9_carry_142F, gX9_carry_145, gX9_carry_146, gX9_carry_149, gX9_carry_151, gX9_carry_152T, gX9_carry_152F, gX9_carry_155, gX9_carry_156, fl_9_10, gX9_carry_159, gX9_carry_161, aL_g, gX9_carry_162, gX9_carry_164, gX9_carry_166, gX9_carry_167, gX9_carry_168, gX9_carry_171, gX9_carry_172, gX9_carry_175, gX9_carry_176, fl_9_9, gX9_carry_179, gX9_carry_181, gX9_carry_182, gX9_carry_184, gX9_carry_186, gX9_carry_187, gX9_carry_188, gX9_carry_189, gX9_carry_190, gX9_carry_193, gX9_carry_194, Rd_some, Wr_some, Cont_some, Cont_none, iso_O, true_and, hg_s, hg_n, hput_hput, x41, hnS]
      refine key 0 _ _ ?_
      rw [ev, Int.zero_ediv]
      rfl
theorem lp_c2 (h41 : hget H 41 = cM S) (hm : 2 ≤ m ∧ m ≤ 10000) {c0 : Int → Int} (hc0 : mo 65536 c0 9) {l1 l3 l4 l5 l6 l7 : Option Value} (hq : ∀ (c : Int → Int) (i : Int) (l12 l13 : Option Value), mo 65536 c 9 → lv c 9 = lv c0 9 / m → (i = 0 ∨ i = 1) → (i = 0 ↔ lv c 9 = 0) → Go 158 314 [some (.ref 41), l1, some (vi m), l3, l4, l5, l6, l7, some (vl (lv c0 9 % m)), none, some (vi i), some (vi (-1)), l12, l13] [] (hput H 56 (cL 9 c)) Q) : ∀ (y e : Nat) (c : Int → Int) (L i : Int) (l12 l13 : Option Value), y + e = 9 → mo 65536 c 9 → (∀ t : Nat, t < y → c t = c0 t) → 0 ≤ L ∧ L < m → (i = 0 ∨ i = 1) → (i = 0 ↔ hs c e = 0) → lv c0 9 = lv c0 y + L * 65536 ^ y + m * hs c e → Go 158 247 [some (.ref 41), l1, some (vi m), l3, l4, l5, l6, l7, some (vl L), none, some (vi i), some (vi ((y : Int) - 1)), l12, l13] [] (hput H 56 (cL 9 c)) Q := by
  have x41 : ∀ c, hget (hput H 56 c) 41 = cM S := fun c => by rw [hg_n (by omega)]; exact h41
  intro y
  induction y with
  | zero =>
    intro e c L i l12 l13 he hmo hct hL hi hi2 hI
    have e9 : e = 9 := by omega
    subst e9
    rw [hs_9] at hi2 hI
    rw [show lv c0 0 = 0 from rfl, Int.zero_add, Int.pow_zero, Int.mul_one] at hI
    have q1 : lv c0 9 / m = lv c 9 := by rw [hI, Int.add_mul_ediv_left _ _ (by omega), Int.ediv_eq_zero_of_lt hL.1 hL.2, Int.zero_add]
    have q2 : lv c0 9 % m = L := by rw [hI, Int.add_mul_emod_self_left, Int.emod_eq_of_lt hL.1 hL.2]
    rw [gX9_carry_247]
    simp (disch := omega) only [gX9_carry_249T, gX9_carry_249F, Rd_some, Wr_some, Cont_some, Cont_none, iso_O, true_and, hg_s, hg_n, hput_hput]
    have := hq c i l12 l13 hmo q1.symm hi hi2
    rw [q2] at this
    exact this
  | succ y ih =>
    intro e c L i l12 l13 he hmo hct hL hi hi2 hI
    have mc := hmo y (by omega) (by omega)
    have ec := hct y (by omega)
    have eo := or_16 (L := L) (c := c y) (by omega) mc
    have t1 : (L * 65536 + c y).tdiv m = (L * 65536 + c y) / m := Int.tdiv_eq_ediv_of_nonneg (by omega)
    have t2 : (L * 65536 + c y).tmod m = (L * 65536 + c y) % m := Int.tmod_eq_emod_of_nonneg (by omega)
    have m2 := em (show 0 < m by omega) (L * 65536 + c y)
    have dm := Int.emod_add_mul_ediv (L * 65536 + c y) m
    have q0 : 0 ≤ (L * 65536 + c y) / m := Int.ediv_nonneg (by omega) (by omega)
    have q1 : (L * 65536 + c y) / m < 65536 := by
      refine Int.ediv_lt_of_lt_mul (by omega) ?_
      have : (L + 1) * 65536 ≤ m * 65536 := Int.mul_le_mul_of_nonneg_right (by omega) (by decide)
      rw [Int.mul_comm 65536]
      omega
    generalize hq' : (L * 65536 + c y) / m = q at *
    generalize hr' : (L * 65536 + c y) % m = r at *
    have eu : up c (y : Int) q y = q := if_pos rfl
    have ey : ((y + 1 : Nat) : Int) - 1 = (y : Int) := by omega
    have hm' : mo 65536 (up c (y : Int) q) 9 := fun j j0 j1 => by
      unfold up
      split
      · exact ⟨q0, q1⟩
      · exact hmo j j0 j1
    have e8 : (8 : Int) - (e : Int) = (y : Int) := by omega
    have e8' : 8 - e = y := by omega
    have hhs : hs (up c (y : Int) q) (e + 1) = hs c e + q * 65536 ^ y := by
      rw [hs, hs_c (c := up c (y : Int) q) (d := c) (e := e) (by omega) (fun t t0 t1 => if_neg (by omega)), e8, e8', eu]
    have hh0 := hs_0 hmo (e := e) (by omega)
    have hp : (0 : Int) < 65536 ^ y := Int.pow_pos (by decide)
    have hI' : lv c0 9 = lv c0 y + r * 65536 ^ y + m * hs (up c (y : Int) q) (e + 1) := by
      rw [hhs, hI, lv_s, ← ec, Int.pow_succ, Int.mul_add]
      have : (L * 65536 + c y) * 65536 ^ y = (r + m * q) * 65536 ^ y := by rw [dm]
      rw [Int.add_mul, Int.add_mul] at this
      have a1 : L * (65536 ^ y * 65536) = L * 65536 * 65536 ^ y := by ac_rfl
      have a2 : m * (q * 65536 ^ y) = m * q * 65536 ^ y := by ac_rfl
      rw [a1, a2]
      omega
    have cont : ∀ (i' : Int) (l12 l13 : Option Value), (i' = 0 ∨ i' = 1) → (i' = 0 ↔ hs (up c (y : Int) q) (e + 1) = 0) → Go 158 247 [some (.ref 41), l1, some (vi m), l3, l4, l5, l6, l7, some (vl r), none, some (vi i'), some (vi ((y : Int) - 1)), l12, l13] [] (hput H 56 (cL 9 (up c (y : Int) q))) Q := fun i' l12 l13 a1 a2 => ih (e + 1) _ r i' l12 l13 (by omega) hm' (fun t ht => by
        unfold up
        rw [if_neg (by omega)]
        exact hct t (by omega)) m2 a1 a2 hI'
    rw [ey, gX9_carry_247]
    by_cases hz : q = 0
    · simp (disch := omega) only [gX9_carry_249T, gX9_carry_249F, gX9_carry_252, gX9_carry_254, gX9_carry_256, gX9_carry_257, gX9_carry_258, fl_9_22, gX9_carry_261, gX9_carry_263, aL_g, gX9_carry_264, gX9_carry_265, gX9_carry_267, gX9_carry_268, gX9_carry_271, gX9_carry_273, gX9_carry_275, gX9_carry_276, gX9_carry_277, gX9_carry_278, sL_p, gX9_carry_279, gX9_carry_281, gX9_carry_282, gX9_carry_283, gX9_carry_284, gX9_carry_286, gX9_carry_288, gX9_carry_289, gX9_carry_292, gX9_carry_294, gX9_carry_295, gX9_carry_296T, gX9_carry_296F, gX9_carry_297T, gX9_carry_297F, gX9_carry_300, gX9_carry_301, gX9_carry_304, gX9_carry_305, gX9_carry_306, gX9_carry_308, gX9_carry_311, Rd_some, Wr_some, Cont_some, Cont_none, iso_O, true_and, hg_s, hg_n, hput_hput, x41, eo, t1, t2, eu, jOr_0 hi]
      rw [show (y : Int) + -1 = (y : Int) - 1 by omega]
      refine cont i _ _ hi ?_
      rw [hhs, hz, Int.zero_mul, Int.add_zero]
      exact hi2
    · simp (disch := omega) only [gX9_carry_249T, gX9_carry_249F, gX9_carry_252, gX9_carry_254, gX9_carry_256, gX9_carry_257, gX9_carry_258, fl_9_22, gX9_carry_261, gX9_carry_263, aL_g, gX9_carry_264, gX9_carry_265, gX9_carry_267, gX9_carry_268, gX9_carry_271, gX9_carry_273, gX9_carry_275, gX9_carry_276, gX9_carry_277, gX9_carry_278, sL_p, gX9_carry_279, gX9_carry_281, gX9_carry_282, gX9_carry_283, gX9_carry_284, gX9_carry_286, gX9_carry_288, gX9_carry_289, gX9_carry_292, gX9_carry_294, gX9_carry_295, gX9_carry_296T, gX9_carry_296F, gX9_carry_297T, gX9_carry_297F, gX9_carry_300, gX9_carry_301, gX9_carry_304, gX9_carry_305, gX9_carry_306, gX9_carry_308, gX9_carry_311, Rd_some, Wr_some, Cont_some, Cont_none, iso_O, true_and, hg_s, hg_n, hput_hput, x41, eo, t1, t2, eu, jOr_1 hi]
      rw [show (y : Int) + -1 = (y : Int) - 1 by omega]
      refine cont 1 _ _ (Or.inr rfl) ⟨fun t => absurd t (by decide), fun t => ?_⟩
      exfalso
      rw [hhs] at t
      have : 1 * 65536 ^ y ≤ q * 65536 ^ y := Int.mul_le_mul_of_nonneg_right (by omega) (Int.le_of_lt hp)
      omega
end MCAR

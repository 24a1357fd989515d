/-! the constructor of m (begun by program: wip/gen/minit.py) -/
def ro0 : Int → Int := up (up (up (up (up (up (up (up (up (up (up (up (fun _ => 0) 0 (-9)) 1 (-9)) 2 (-9)) 3 (-9)) 4 (-9)) 5 (-9)) 6 (-9)) 7 (-9)) 8 (-9)) 9 (-9)) 10 (-9)) 11 (-9)
def T0 : TT := ((ro0, fun _ => 0), (fun _ => 0, fun _ => 0))
section CT3
variable {H : HP} {Q : Option Value → HP → Prop}
theorem m_init (hm : H.1 = 41) (hq : ∀ H', H'.1 = 61 → H'.2.1 ≤ H.2.1 + 3000 → (∀ a, a ≤ 40 → hget H' a = hget H a) → MH H' S0 T0 → Q none H') : Go 116 0 [some (.ref 41)] [] (hnew H (cO 9 [.int 0, .null, .null, .null, .null, .int 0, .int 0, .null, .int 0, .null, .null, .int 0, .null, .int 0, .null, .int 0, .null, .int 0, .null, .null, .null, .null, .null, .null, .null, .null, .null]) 27) Q := by
  have hB0 : ∀ a, a ≤ 40 → hget (hnew H (cO 9 [.int 0, .null, .null, .null, .null, .int 0, .int 0, .null, .int 0, .null, .null, .int 0, .null, .int 0, .null, .int 0, .null, .int 0, .null, .null, .null, .null, .null, .null, .null, .null, .null]) 27) a = hget H a := fun a ha => hn_n (by omega)
  have h : PX (Mh S0 T0) (hnew H (cO 9 [.int 0, .null, .null, .null, .null, .int 0, .int 0, .null, .int 0, .null, .null, .int 0, .null, .int 0, .null, .int 0, .null, .int 0, .null, .null, .null, .null, .null, .null, .null, .null, .null]) 27) 42 41 9 (hnew H (cO 9 [.int 0, .null, .null, .null, .null, .int 0, .int 0, .null, .int 0, .null, .null, .int 0, .null, .int 0, .null, .int 0, .null, .int 0, .null, .null, .null, .null, .null, .null, .null, .null, .null]) 27) [.int 0, .null, .null, .null, .null, .int 0, .int 0, .null, .int 0, .null, .null, .int 0, .null, .int 0, .null, .int 0, .null, .int 0, .null, .null, .null, .null, .null, .null, .null, .null, .null] 42 (H.2.1 + 27) := ⟨hn_at hm.symm, by show H.1 + 1 = 42; omega, rfl, fun a _ _ => rfl, fun a a1 a2 => by omega, by omega, by omega⟩
  generalize hnew H (cO 9 [.int 0, .null, .null, .null, .null, .int 0, .int 0, .null, .int 0, .null, .null, .int 0, .null, .int 0, .null, .int 0, .null, .int 0, .null, .null, .null, .null, .null, .null, .null, .null, .null]) 27 = B at h hB0 ⊢
  have key : ∀ H1, PX (Mh S0 T0) B 42 41 9 H1 [.int 0, .null, .null, .null, .null, .int 0, .int 0, .null, .int 0, .null, .null, .int 0, .null, .int 0, .null, .int 0, .null, .int 0, .null, .null, .null, .null, .null, .null, .null, .null, .null] 42 (H.2.1 + 27) → Go 116 0 [some (.ref 41)] [] H1 Q := by
    clear h
    intro H1 h
    have hx := h.1
    have hN := h.2.1
    have hA : hget (hnew H1 (cJ 12 fun _ => 0) (12 : Int).toNat) 42 = cJ 12 fun _ => 0 := hn_at hN.symm
    have hX : hget (hnew H1 (cJ 12 fun _ => 0) (12 : Int).toNat) 41 = cO 9 [.int 0, .null, .null, .null, .null, .int 0, .int 0, .null, .int 0, .null, .null, .int 0, .null, .int 0, .null, .int 0, .null, .int 0, .null, .null, .null, .null, .null, .null, .null, .null, .null] := by rw [hn_n (by omega)]; exact hx
    simp (disch := omega) only [gX9_init_0, gX9_init_1, gX9_init_4, gX9_init_5, gX9_init_7, gX9_init_9, gX9_init_10, gX9_init_11, gX9_init_13, sJ_p, gX9_init_14, gX9_init_15, gX9_init_16, gX9_init_18, gX9_init_19, gX9_init_20, gX9_init_21, gX9_init_23, gX9_init_24, gX9_init_25, gX9_init_26, gX9_init_28, gX9_init_29, gX9_init_30, gX9_init_31, gX9_init_33, gX9_init_34, gX9_init_35, gX9_init_36, gX9_init_38, gX9_init_39, gX9_init_40, gX9_init_42, gX9_init_44, gX9_init_45, gX9_init_46, gX9_init_48, gX9_init_50, gX9_init_51, gX9_init_52, gX9_init_54, gX9_init_56, gX9_init_57, gX9_init_58, gX9_init_60, gX9_init_62, gX9_init_63, gX9_init_64, gX9_init_66, gX9_init_68, gX9_init_69, gX9_init_70, gX9_init_72, gX9_init_74, gX9_init_75, pf_9_1, Rd_some, Wr_some, Cont_some, Cont_none, iso_O, true_and, hg_s, hg_n, hput_hput, hN, hA, hX]
    rw [hput_new hN]
    refine h.goA (m' := 43) rfl rfl (fun H h => ?_)
    have hx := h.1
    have hN := h.2.1
    simp (disch := omega) only [gX9_init_78, gX9_init_79, gX9_init_81, gX9_init_83, pf_9_2, Rd_some, Wr_some, Cont_some, Cont_none, iso_O, true_and, hg_s, hg_n, hput_hput, hx, hN, hn_n]
    refine h.goA (m' := 44) rfl rfl (fun H h => ?_)
    have hx := h.1
    have hN := h.2.1
    simp (disch := omega) only [gX9_init_86, gX9_init_87, gX9_init_89, gX9_init_91, pf_9_3, Rd_some, Wr_some, Cont_some, Cont_none, iso_O, true_and, hg_s, hg_n, hput_hput, hx, hN, hn_n]
    refine h.goA (m' := 45) rfl rfl (fun H h => ?_)
    have hx := h.1
    have hN := h.2.1
    simp (disch := omega) only [gX9_init_94, gX9_init_95, gX9_init_98, gX9_init_100, pf_9_4, Rd_some, Wr_some, Cont_some, Cont_none, iso_O, true_and, hg_s, hg_n, hput_hput, hx, hN, hn_n]
    refine h.goA (m' := 46) rfl rfl (fun H h => ?_)
    have hx := h.1
    have hN := h.2.1
    simp (disch := omega) only [gX9_init_103, gX9_init_104, gX9_init_106, pf_9_6, Rd_some, Wr_some, Cont_some, Cont_none, iso_O, true_and, hg_s, hg_n, hput_hput, hx]
    refine h.goC (fun H h => ?_)
    have hx := h.1
    have hN := h.2.1
    simp (disch := omega) only [gX9_init_109, gX9_init_110, gX9_init_112, gX9_init_114, pf_9_7, Rd_some, Wr_some, Cont_some, Cont_none, iso_O, true_and, hg_s, hg_n, hput_hput, hx, hN, hn_n]
    refine h.goA (m' := 47) rfl ⟨_, rfl, eqn_0⟩ (fun H h => ?_)
    have hx := h.1
    have hN := h.2.1
    simp (disch := omega) only [gX9_init_117, gX9_init_118, gX9_init_121, gX9_init_123, pf_9_9, Rd_some, Wr_some, Cont_some, Cont_none, iso_O, true_and, hg_s, hg_n, hput_hput, hx, hN, hn_n]
    refine h.goA (m' := 48) rfl ⟨_, rfl, eqH_0⟩ (fun H h => ?_)
    have hx := h.1
    have hN := h.2.1
    simp (disch := omega) only [gX9_init_126, gX9_init_127, gX9_init_130, gX9_init_132, pf_9_10, Rd_some, Wr_some, Cont_some, Cont_none, iso_O, true_and, hg_s, hg_n, hput_hput, hx, hN, hn_n]
    refine h.goA (m' := 49) rfl ⟨_, rfl, eqn_0⟩ (fun H h => ?_)
    have hx := h.1
    have hN := h.2.1
    simp (disch := omega) only [gX9_init_135, gX9_init_136, gX9_init_138, gX9_init_140, pf_9_12, Rd_some, Wr_some, Cont_some, Cont_none, iso_O, true_and, hg_s, hg_n, hput_hput, hx, hN, hn_n]
    refine h.goA (m' := 50) rfl ⟨_, rfl, eqn_0⟩ (fun H h => ?_)
    have hx := h.1
    have hN := h.2.1
    simp (disch := omega) only [gX9_init_143, gX9_init_144, gX9_init_146, gX9_init_148, pf_9_14, Rd_some, Wr_some, Cont_some, Cont_none, iso_O, true_and, hg_s, hg_n, hput_hput, hx, hN, hn_n]
    refine h.goA (m' := 51) rfl ⟨_, rfl, eqn_0⟩ (fun H h => ?_)
    have hx := h.1
    have hN := h.2.1
    simp (disch := omega) only [gX9_init_151, gX9_init_152, gX9_init_154, gX9_init_156, pf_9_16, Rd_some, Wr_some, Cont_some, Cont_none, iso_O, true_and, hg_s, hg_n, hput_hput, hx, hN, hn_n]
    refine h.goA (m' := 52) rfl ⟨_, rfl, eqn_0⟩ (fun H h => ?_)
    have hx := h.1
    have hN := h.2.1
    simp (disch := omega) only [gX9_init_159, gX9_init_160, gX9_init_163, gX9_init_165, pf_9_18, Rd_some, Wr_some, Cont_some, Cont_none, iso_O, true_and, hg_s, hg_n, hput_hput, hx, hN, hn_n]
    refine h.goA (m' := 53) rfl ⟨_, rfl, eqn_0⟩ (fun H h => ?_)
    have hx := h.1
    have hN := h.2.1
    simp (disch := omega) only [gX9_init_168, gX9_init_169, gX9_init_171, gX9_init_173, pf_9_19, Rd_some, Wr_some, Cont_some, Cont_none, iso_O, true_and, hg_s, hg_n, hput_hput, hx, hN, hn_n]
    refine h.goA (m' := 54) rfl ⟨_, rfl⟩ (fun H h => ?_)
    have hx := h.1
    have hN := h.2.1
    simp (disch := omega) only [gX9_init_176, gX9_init_177, gX9_init_179, gX9_init_181, pf_9_20, Rd_some, Wr_some, Cont_some, Cont_none, iso_O, true_and, hg_s, hg_n, hput_hput, hx, hN, hn_n]
    refine h.goA (m' := 55) rfl ⟨_, rfl⟩ (fun H h => ?_)
    have hx := h.1
    have hN := h.2.1
    simp (disch := omega) only [gX9_init_184, gX9_init_185, gX9_init_188, gX9_init_190, pf_9_21, Rd_some, Wr_some, Cont_some, Cont_none, iso_O, true_and, hg_s, hg_n, hput_hput, hx, hN, hn_n]
    refine h.goA (m' := 56) rfl ⟨_, rfl⟩ (fun H h => ?_)
    have hx := h.1
    have hN := h.2.1
    simp (disch := omega) only [gX9_init_193, gX9_init_194, gX9_init_196, gX9_init_198, pf_9_22, Rd_some, Wr_some, Cont_some, Cont_none, iso_O, true_and, hg_s, hg_n, hput_hput, hx, hN, hn_n]
    refine h.goA (m' := 57) rfl ⟨_, rfl⟩ (fun H h => ?_)
    have hx := h.1
    have hN := h.2.1
    simp (disch := omega) only [gX9_init_201, gX9_init_202, gX9_init_204, gX9_init_206, pf_9_23, Rd_some, Wr_some, Cont_some, Cont_none, iso_O, true_and, hg_s, hg_n, hput_hput, hx, hN, hn_n]
    refine h.goA (m' := 58) rfl ⟨_, rfl⟩ (fun H h => ?_)
    have hx := h.1
    have hN := h.2.1
    simp (disch := omega) only [gX9_init_209, gX9_init_210, gX9_init_212, gX9_init_214, pf_9_24, Rd_some, Wr_some, Cont_some, Cont_none, iso_O, true_and, hg_s, hg_n, hput_hput, hx, hN, hn_n]
    refine h.goA (m' := 59) rfl ⟨_, rfl⟩ (fun H h => ?_)
    have hx := h.1
    have hN := h.2.1
    simp (disch := omega) only [gX9_init_217, gX9_init_218, gX9_init_220, gX9_init_222, pf_9_25, Rd_some, Wr_some, Cont_some, Cont_none, iso_O, true_and, hg_s, hg_n, hput_hput, hx, hN, hn_n]
    refine h.goA (m' := 60) rfl ⟨_, rfl⟩ (fun H h => ?_)
    have hx := h.1
    have hN := h.2.1
    simp (disch := omega) only [gX9_init_225, gX9_init_226, gX9_init_228, gX9_init_230, pf_9_26, Rd_some, Wr_some, Cont_some, Cont_none, iso_O, true_and, hg_s, hg_n, hput_hput, hx, hN, hn_n]
    refine h.goA (m' := 61) rfl ⟨_, rfl⟩ (fun H h => ?_)
    have hx := h.1
    have hN := h.2.1
    simp (disch := omega) only [gX9_init_233, Rd_some, Wr_some, Cont_some, Cont_none, iso_O, true_and, hg_s, hg_n, hput_hput]
    refine hq _ h.2.1 (by rw [h.2.2.1]; omega) (fun a ha => (h.2.2.2.1 a (by omega) (by omega)).trans (hB0 a ha)) (fun a a1 a2 => ?_)
    by_cases e : a = 41
    · subst e; exact h.1
    · exact h.2.2.2.2.1 a (by omega) (by omega)
  exact key _ h
theorem live0 {k : Nat} : ¬ live S0 k := by
  rintro ⟨p, -, -, h⟩
  cases h
theorem SI0 : SI S0 := ⟨Or.inl ⟨rfl, rfl⟩, by decide, by decide, by decide, by decide, by decide, by decide, fun j j0 j1 => by have j1 : j < 0 := j1; omega⟩
theorem ro0_v : ∀ p : Int, 0 ≤ p → p < 12 → ro0 p = -9 := by
  intro p h1 h2
  have h : p = 0 ∨ p = 1 ∨ p = 2 ∨ p = 3 ∨ p = 4 ∨ p = 5 ∨ p = 6 ∨ p = 7 ∨ p = 8 ∨ p = 9 ∨ p = 10 ∨ p = 11 := by omega
  rcases h with rfl | rfl | rfl | rfl | rfl | rfl | rfl | rfl | rfl | rfl | rfl | rfl <;> rfl
theorem MR0 : MR S0 T0 := ⟨fun p p0 p1 => ⟨fun _ => ro0_v p p0 p1, fun k hk => by cases hk⟩, fun p q k l _ _ _ _ hk _ => by cases hk⟩
theorem CI0 (hn : H.1 = 61) (h : ∀ a, 1 ≤ a → a ≤ 40 → Sh S0 a (hget H a)) : CI H S0 := by
  refine ⟨fun a ha => ?_, fun k hk => absurd hk live0, SI0, by omega, by omega⟩
  by_cases e : a = 0
  · subst e; exact trivial
  · exact h a (by omega) ha
theorem MJ0 (h : MH H S0 T0) : MJ H S0 := ⟨T0, h, MR0, SI0, fun k hk => absurd hk live0⟩
end CT3

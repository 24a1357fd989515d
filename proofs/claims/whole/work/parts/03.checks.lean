/-! what a program decides of the tables -/
def WS : List Cond := lw_tbl.filter goodWord
def NL : List Cond := [.methodLinkNest "ConvolutionBench" 23 yX2_init "ConvolutionBench", .methodLinkNest "ConvolutionBench$Products" 24 yX7_init "ConvolutionBench", .methodLinkNest "ConvolutionBench$FastProduct" 28 yX8_exponentFor "ConvolutionBench"]
def AL : List String := ["ConvolutionBench$Row", "ConvolutionBench$Prime"]
def okW (r : Nat) (w : Cond) : Bool := decide (lw_tbl[r]? = some w) && goodWord w
def nmL2D : MethodName := ⟨"java/lang/Double", "longBitsToDouble", "(J)D"⟩
def nmD2L : MethodName := ⟨"java/lang/Double", "doubleToRawLongBits", "(D)J"⟩
def isSw : Instr → Bool
  | .tableswitch _ _ _ _ => true
  | _ => false
def okF (y idx : Nat) (ax : Ax) : Bool := decide (ax.1 < 10 ∧ ax.2.1 < vN ax.1) && okW ax.2.2.1 (.fieldLink (m_own y) idx (vF ax.1 ax.2.1).1 (vF ax.1 ax.2.1).2.1 (vF ax.1 ax.2.1).2.2.1)
def okL (y idx : Nat) (ax : Ax) : Bool := if ax.2.1 = 1 then decide (Cond.methodLinkNest (m_own y) idx (m_name ax.1) "ConvolutionBench" ∈ NL) else okW ax.2.2.1 (.methodLink (m_own y) idx (m_name ax.1))
def okX (y : Nat) (i : Instr) (ax : Ax) : Bool := match i with
  | .getfield idx => okF y idx ax
  | .putfield idx => okF y idx ax
  | .ldc2_w idx => (match ax.2.2.2 with
    | .long v => okW ax.2.2.1 (.constantLong (m_own y) idx v)
    | .double v => okW ax.2.2.1 (.constantDouble (m_own y) idx v)
    | _ => false)
  | .new idx => decide (ax.1 < 10) && okW ax.2.2.1 (.classLink (m_own y) idx (vCn ax.1))
  | .anewarray idx => decide (ax.1 < 10 ∧ vCn ax.1 ∈ AL) && okW ax.2.2.1 (.classLink (m_own y) idx (vCn ax.1))
  | .invokestatic idx => if ax.1 = 1001 then okW ax.2.2.1 (.methodLink (m_own y) idx nmL2D) else if ax.1 = 1002 then okW ax.2.2.1 (.methodLink (m_own y) idx nmD2L) else okL y idx ax
  | .invokevirtual idx => okW ax.2.2.1 (.methodLink (m_own y) idx (m_name ax.1))
  | .invokespecial idx => if ax.1 = 1000 then okW ax.2.2.1 (.methodLink (m_own y) idx objectInit) else okL y idx ax
  | _ => true
def okD (cc : ByteArray) (pc : Nat) (i : Instr) : Bool := match decode cc pc with
  | .ok q => decide (q.1 = i) && (decide (q.2 = ilen i) || isSw i)
  | _ => false
def okE (y : Nat) (e : Nat × Instr × Ax) : Bool := okD (m_bytes y) e.1 e.2.1 && okX y e.2.1 e.2.2
/-- of a method that is called: its words -/
def okM (y : Nat) : Bool := okW (m_ps y).1 (.code (m_name y) (m_bytes y) (m_maxL y) (m_ret y)) && okW (m_ps y).2.1 (.initialized (m_name y).cls)
  && decide ((m_name y).cls = m_own y ∧ plainFor (m_name y) = true ∧ (m_name y).cls ≠ "java/lang/invoke/MethodHandle" ∧ (m_name y).cls ≠ "java/lang/invoke/VarHandle" ∧ (parseMethodDescriptor (m_name y).desc).map (fun d => d.parameters.length) = some (m_np y))
  && (if m_kd y = 0 then okW (m_ps y).2.2.1 (.static (m_name y)) else okW (m_ps y).2.2.1 (.instanceMethod (m_name y)) && decide (m_ci y < 10 ∧ vCn (m_ci y) = m_own y) && (if m_kd y = 1 then okW (m_ps y).2.2.2 (.selects (m_own y) (m_name y) (m_name y)) else decide (m_kd y = 2 ∧ (m_name y).name = "<init>" ∧ m_ret y = none)))
theorem okW_in {r : Nat} {w : Cond} (h : okW r w = true) : w ∈ WS := by
  unfold okW at h
  rw [Bool.and_eq_true, decide_eq_true_eq] at h
  exact List.mem_filter.mpr ⟨List.mem_of_getElem? h.1, h.2⟩
theorem inWS (ws : List Cond) (ps : List Nat) (h : ws = ps.filterMap (fun i => lw_tbl[i]?)) (hg : ws.all goodWord = true) : ∀ w ∈ ws, w ∈ WS := by
  intro w hw
  refine List.mem_filter.mpr ⟨?_, List.all_eq_true.mp hg w hw⟩
  rw [h] at hw
  obtain ⟨i, -, hi⟩ := List.mem_filterMap.mp hw
  exact List.mem_of_getElem? hi
theorem all_cut {α : Type} {f : α → Bool} (n : Nat) {l : List α} (h1 : (l.take n).all f = true) (h2 : (l.drop n).all f = true) : l.all f = true := by
  rw [← List.take_append_drop n l, List.all_append, h1, h2]
  rfl

theorem uW0 : ∀ w ∈ u_ws RX0 TX0 5, w ∈ WS := inWS _ [85, 87, 89, 91, 93] (by decide +kernel) (by decide +kernel)
theorem uI0 : Cond.instantiable RX0 5 ∈ WS ∧ Cond.initialized RX0 ∈ WS := ⟨okW_in (r := 74) (by decide +kernel), okW_in (r := 34) (by decide +kernel)⟩
theorem uW1 : ∀ w ∈ u_ws RX1 TX1 3, w ∈ WS := inWS _ [161, 163, 165] (by decide +kernel) (by decide +kernel)
theorem uI1 : Cond.instantiable RX1 3 ∈ WS ∧ Cond.initialized RX1 ∈ WS := ⟨okW_in (r := 151) (by decide +kernel), okW_in (r := 39) (by decide +kernel)⟩
theorem uW2 : ∀ w ∈ u_ws RX2 TX2 3, w ∈ WS := inWS _ [65, 67, 69] (by decide +kernel) (by decide +kernel)
theorem uI2 : Cond.instantiable RX2 3 ∈ WS ∧ Cond.initialized RX2 ∈ WS := ⟨okW_in (r := 57) (by decide +kernel), okW_in (r := 33) (by decide +kernel)⟩
theorem uW3 : ∀ w ∈ u_ws RX3 TX3 1, w ∈ WS := inWS _ [124] (by decide +kernel) (by decide +kernel)
theorem uI3 : Cond.instantiable RX3 1 ∈ WS ∧ Cond.initialized RX3 ∈ WS := ⟨okW_in (r := 117) (by decide +kernel), okW_in (r := 36) (by decide +kernel)⟩
theorem uW4 : ∀ w ∈ u_ws RX4 TX4 9, w ∈ WS := inWS _ [202, 204, 206, 208, 210, 212, 214, 216, 218] (by decide +kernel) (by decide +kernel)
theorem uI4 : Cond.instantiable RX4 9 ∈ WS ∧ Cond.initialized RX4 ∈ WS := ⟨okW_in (r := 130) (by decide +kernel), okW_in (r := 37) (by decide +kernel)⟩
theorem uW5 : ∀ w ∈ u_ws RX5 TX5 2, w ∈ WS := inWS _ [289, 291] (by decide +kernel) (by decide +kernel)
theorem uI5 : Cond.instantiable RX5 2 ∈ WS ∧ Cond.initialized RX5 ∈ WS := ⟨okW_in (r := 275) (by decide +kernel), okW_in (r := 42) (by decide +kernel)⟩
theorem uW6 : ∀ w ∈ u_ws RX6 TX6 2, w ∈ WS := inWS _ [112, 114] (by decide +kernel) (by decide +kernel)
theorem uI6 : Cond.instantiable RX6 2 ∈ WS ∧ Cond.initialized RX6 ∈ WS := ⟨okW_in (r := 99) (by decide +kernel), okW_in (r := 35) (by decide +kernel)⟩
theorem uW7 : ∀ w ∈ u_ws RX7 TX7 2, w ∈ WS := inWS _ [145, 147] (by decide +kernel) (by decide +kernel)
theorem uI7 : Cond.instantiable RX7 2 ∈ WS ∧ Cond.initialized RX7 ∈ WS := ⟨okW_in (r := 136) (by decide +kernel), okW_in (r := 38) (by decide +kernel)⟩
theorem uW8 : ∀ w ∈ u_ws RX8 TX8 13, w ∈ WS := inWS _ [234, 236, 238, 240, 242, 244, 246, 248, 250, 252, 254, 256, 258] (by decide +kernel) (by decide +kernel)
theorem uI8 : Cond.instantiable RX8 13 ∈ WS ∧ Cond.initialized RX8 ∈ WS := ⟨okW_in (r := 45) (by decide +kernel), okW_in (r := 32) (by decide +kernel)⟩
theorem uW9 : ∀ w ∈ u_ws RX9 TX9 27, w ∈ WS := inWS _ [781, 783, 785, 787, 789, 791, 793, 795, 797, 799, 801, 803, 805, 807, 809, 811, 813, 815, 817, 819, 821, 823, 825, 827, 829, 831, 833] (by decide +kernel) (by decide +kernel)
theorem uI9 : Cond.instantiable RX9 27 ∈ WS ∧ Cond.initialized RX9 ∈ WS := ⟨okW_in (r := 749) (by decide +kernel), okW_in (r := 41) (by decide +kernel)⟩
theorem uA_boolean : Cond.arrayClass .boolean ∈ WS := okW_in (r := 97) (by decide +kernel)
theorem uA_int : Cond.arrayClass .int ∈ WS := okW_in (r := 836) (by decide +kernel)
theorem uA_long : Cond.arrayClass .long ∈ WS := okW_in (r := 72) (by decide +kernel)
theorem uA_double : Cond.arrayClass .double ∈ WS := okW_in (r := 96) (by decide +kernel)
theorem uNat : (Cond.native nmL2D ∈ WS ∧ Cond.static nmL2D ∈ WS) ∧ (Cond.native nmD2L ∈ WS ∧ Cond.static nmD2L ∈ WS) ∧ Cond.initialized "java/lang/Double" ∈ WS := ⟨⟨okW_in (r := 1078) (by decide +kernel), okW_in (r := 1077) (by decide +kernel)⟩, ⟨okW_in (r := 1091) (by decide +kernel), okW_in (r := 1090) (by decide +kernel)⟩, okW_in (r := 43) (by decide +kernel)⟩
theorem uObj : Cond.instanceMethod objectInit ∈ WS ∧ Cond.code objectInit ⟨#[0xb1]⟩ 1 none ∈ WS := ⟨okW_in (r := 50) (by decide +kernel), okW_in (r := 51) (by decide +kernel)⟩
theorem ck0 : (m_code 0).all (okE 0) = true := by decide +kernel
theorem cm0 : okM 0 = true := by decide +kernel
theorem ck1 : (m_code 1).all (okE 1) = true := by decide +kernel
theorem cm1 : okM 1 = true := by decide +kernel
theorem ck2 : (m_code 2).all (okE 2) = true := by decide +kernel
theorem cm2 : okM 2 = true := by decide +kernel
theorem ck3 : (m_code 3).all (okE 3) = true := by decide +kernel
theorem cm3 : okM 3 = true := by decide +kernel
theorem ck4 : (m_code 4).all (okE 4) = true := by decide +kernel
theorem cm4 : okM 4 = true := by decide +kernel
theorem ck5 : (m_code 5).all (okE 5) = true := by decide +kernel
theorem cm5 : okM 5 = true := by decide +kernel
theorem ck6 : (m_code 6).all (okE 6) = true := by decide +kernel
theorem cm6 : okM 6 = true := by decide +kernel
theorem ck7 : (m_code 7).all (okE 7) = true := by decide +kernel
theorem cm7 : okM 7 = true := by decide +kernel
theorem ck8 : (m_code 8).all (okE 8) = true := by decide +kernel
theorem cm8 : okM 8 = true := by decide +kernel
theorem ck9 : (m_code 9).all (okE 9) = true := by decide +kernel
theorem cm9 : okM 9 = true := by decide +kernel
theorem ck10 : (m_code 10).all (okE 10) = true := by decide +kernel
theorem cm10 : okM 10 = true := by decide +kernel
theorem ck11 : (m_code 11).all (okE 11) = true := by decide +kernel
theorem cm11 : okM 11 = true := by decide +kernel
theorem ck12 : (m_code 12).all (okE 12) = true := by decide +kernel
theorem cm12 : okM 12 = true := by decide +kernel
theorem ck13 : (m_code 13).all (okE 13) = true := by decide +kernel
theorem cm13 : okM 13 = true := by decide +kernel
theorem ck14 : (m_code 14).all (okE 14) = true := by decide +kernel
theorem cm14 : okM 14 = true := by decide +kernel
theorem ck15 : (m_code 15).all (okE 15) = true := by decide +kernel
theorem cm15 : okM 15 = true := by decide +kernel
theorem ck16 : (m_code 16).all (okE 16) = true := by decide +kernel
theorem cm16 : okM 16 = true := by decide +kernel
theorem ck17 : (m_code 17).all (okE 17) = true := by decide +kernel
theorem cm17 : okM 17 = true := by decide +kernel
theorem ck18 : (m_code 18).all (okE 18) = true := by decide +kernel
theorem cm18 : okM 18 = true := by decide +kernel
theorem ck19 : (m_code 19).all (okE 19) = true := by decide +kernel
theorem cm19 : okM 19 = true := by decide +kernel
theorem ck20 : (m_code 20).all (okE 20) = true := by decide +kernel
theorem cm20 : okM 20 = true := by decide +kernel
theorem ck21 : (m_code 21).all (okE 21) = true := by decide +kernel
theorem cm21 : okM 21 = true := by decide +kernel
theorem ck22 : (m_code 22).all (okE 22) = true := by decide +kernel
theorem cm22 : okM 22 = true := by decide +kernel
theorem ck23 : (m_code 23).all (okE 23) = true := by decide +kernel
theorem cm23 : okM 23 = true := by decide +kernel
theorem ck24 : (m_code 24).all (okE 24) = true := by decide +kernel
theorem cm24 : okM 24 = true := by decide +kernel
theorem ck25 : (m_code 25).all (okE 25) = true := by decide +kernel
theorem cm25 : okM 25 = true := by decide +kernel
theorem ck26 : (m_code 26).all (okE 26) = true := by decide +kernel
theorem cm26 : okM 26 = true := by decide +kernel
theorem ck27 : (m_code 27).all (okE 27) = true := by decide +kernel
theorem cm27 : okM 27 = true := by decide +kernel
theorem ck28 : (m_code 28).all (okE 28) = true := by decide +kernel
theorem cm28 : okM 28 = true := by decide +kernel
theorem ck29 : (m_code 29).all (okE 29) = true := by decide +kernel
theorem cm29 : okM 29 = true := by decide +kernel
theorem ck30 : (m_code 30).all (okE 30) = true := by decide +kernel
theorem cm30 : okM 30 = true := by decide +kernel
theorem ck31 : (m_code 31).all (okE 31) = true := by decide +kernel
theorem cm31 : okM 31 = true := by decide +kernel
theorem ck32 : (m_code 32).all (okE 32) = true := by decide +kernel
theorem cm32 : okM 32 = true := by decide +kernel
theorem ck33 : (m_code 33).all (okE 33) = true := by decide +kernel
theorem cm33 : okM 33 = true := by decide +kernel
theorem ck34 : (m_code 34).all (okE 34) = true := by decide +kernel
theorem cm34 : okM 34 = true := by decide +kernel
theorem ck35 : (m_code 35).all (okE 35) = true := by decide +kernel
theorem cm35 : okM 35 = true := by decide +kernel
theorem ck36 : (m_code 36).all (okE 36) = true := by decide +kernel
theorem cm36 : okM 36 = true := by decide +kernel
theorem ck37 : (m_code 37).all (okE 37) = true := by decide +kernel
theorem cm37 : okM 37 = true := by decide +kernel
theorem ck38 : (m_code 38).all (okE 38) = true := by decide +kernel
theorem cm38 : okM 38 = true := by decide +kernel
theorem ck39 : (m_code 39).all (okE 39) = true := by decide +kernel
theorem cm39 : okM 39 = true := by decide +kernel
theorem ck40 : (m_code 40).all (okE 40) = true := by decide +kernel
theorem cm40 : okM 40 = true := by decide +kernel
theorem ck41 : (m_code 41).all (okE 41) = true := by decide +kernel
theorem cm41 : okM 41 = true := by decide +kernel
theorem ck42 : (m_code 42).all (okE 42) = true := by decide +kernel
theorem cm42 : okM 42 = true := by decide +kernel
theorem ck43 : (m_code 43).all (okE 43) = true := by decide +kernel
theorem cm43 : okM 43 = true := by decide +kernel
theorem ck44 : (m_code 44).all (okE 44) = true := by decide +kernel
theorem cm44 : okM 44 = true := by decide +kernel
theorem ck45 : (m_code 45).all (okE 45) = true := by decide +kernel
theorem cm45 : okM 45 = true := by decide +kernel
theorem ck46 : (m_code 46).all (okE 46) = true := by decide +kernel
theorem cm46 : okM 46 = true := by decide +kernel
theorem ck47 : (m_code 47).all (okE 47) = true := by decide +kernel
theorem cm47 : okM 47 = true := by decide +kernel
theorem ck48 : (m_code 48).all (okE 48) = true := by decide +kernel
theorem cm48 : okM 48 = true := by decide +kernel
theorem ck49 : (m_code 49).all (okE 49) = true := by decide +kernel
theorem cm49 : okM 49 = true := by decide +kernel
theorem ck50 : (m_code 50).all (okE 50) = true := by decide +kernel
theorem cm50 : okM 50 = true := by decide +kernel
theorem ck51 : (m_code 51).all (okE 51) = true := by decide +kernel
theorem cm51 : okM 51 = true := by decide +kernel
theorem ck52 : (m_code 52).all (okE 52) = true := by decide +kernel
theorem cm52 : okM 52 = true := by decide +kernel
theorem ck53 : (m_code 53).all (okE 53) = true := by decide +kernel
theorem cm53 : okM 53 = true := by decide +kernel
theorem ck54 : (m_code 54).all (okE 54) = true := by decide +kernel
theorem cm54 : okM 54 = true := by decide +kernel
theorem ck55 : (m_code 55).all (okE 55) = true := by decide +kernel
theorem cm55 : okM 55 = true := by decide +kernel
theorem ck56 : (m_code 56).all (okE 56) = true := by decide +kernel
theorem cm56 : okM 56 = true := by decide +kernel
theorem ck57 : (m_code 57).all (okE 57) = true := by decide +kernel
theorem cm57 : okM 57 = true := by decide +kernel
theorem ck58 : (m_code 58).all (okE 58) = true := by decide +kernel
theorem cm58 : okM 58 = true := by decide +kernel
theorem ck59 : (m_code 59).all (okE 59) = true := by decide +kernel
theorem cm59 : okM 59 = true := by decide +kernel
theorem ck60 : (m_code 60).all (okE 60) = true := by decide +kernel
theorem cm60 : okM 60 = true := by decide +kernel
theorem ck61 : (m_code 61).all (okE 61) = true := by decide +kernel
theorem cm61 : okM 61 = true := by decide +kernel
theorem ck62 : (m_code 62).all (okE 62) = true := by decide +kernel
theorem cm62 : okM 62 = true := by decide +kernel
theorem ck63 : (m_code 63).all (okE 63) = true := by decide +kernel
theorem cm63 : okM 63 = true := by decide +kernel
theorem ck64 : (m_code 64).all (okE 64) = true := by decide +kernel
theorem cm64 : okM 64 = true := by decide +kernel
theorem ck65 : (m_code 65).all (okE 65) = true := by decide +kernel
theorem cm65 : okM 65 = true := by decide +kernel
theorem ck66 : (m_code 66).all (okE 66) = true := by decide +kernel
theorem cm66 : okM 66 = true := by decide +kernel
theorem ck67 : (m_code 67).all (okE 67) = true := by decide +kernel
theorem cm67 : okM 67 = true := by decide +kernel
theorem ck68 : (m_code 68).all (okE 68) = true := by decide +kernel
theorem cm68 : okM 68 = true := by decide +kernel
theorem ck69 : (m_code 69).all (okE 69) = true := by decide +kernel
theorem cm69 : okM 69 = true := by decide +kernel
theorem ck70 : (m_code 70).all (okE 70) = true := by decide +kernel
theorem cm70 : okM 70 = true := by decide +kernel
theorem ck71 : (m_code 71).all (okE 71) = true := by decide +kernel
theorem cm71 : okM 71 = true := by decide +kernel
theorem ck72 : (m_code 72).all (okE 72) = true := by decide +kernel
theorem cm72 : okM 72 = true := by decide +kernel
theorem ck73 : (m_code 73).all (okE 73) = true := by decide +kernel
theorem cm73 : okM 73 = true := by decide +kernel
theorem ck74 : (m_code 74).all (okE 74) = true := by decide +kernel
theorem cm74 : okM 74 = true := by decide +kernel
theorem ck75 : (m_code 75).all (okE 75) = true := by decide +kernel
theorem cm75 : okM 75 = true := by decide +kernel
theorem ck76 : (m_code 76).all (okE 76) = true := by decide +kernel
theorem cm76 : okM 76 = true := by decide +kernel
theorem ck77 : (m_code 77).all (okE 77) = true := by decide +kernel
theorem cm77 : okM 77 = true := by decide +kernel
theorem ck78 : (m_code 78).all (okE 78) = true := by decide +kernel
theorem cm78 : okM 78 = true := by decide +kernel
theorem ck79 : (m_code 79).all (okE 79) = true := by decide +kernel
theorem cm79 : okM 79 = true := by decide +kernel
theorem ck80 : (m_code 80).all (okE 80) = true := by decide +kernel
theorem cm80 : okM 80 = true := by decide +kernel
theorem ck81 : (m_code 81).all (okE 81) = true := by decide +kernel
theorem cm81 : okM 81 = true := by decide +kernel
theorem ck82 : (m_code 82).all (okE 82) = true := by decide +kernel
theorem cm82 : okM 82 = true := by decide +kernel
theorem ck83 : (m_code 83).all (okE 83) = true := by decide +kernel
theorem cm83 : okM 83 = true := by decide +kernel
theorem ck84 : (m_code 84).all (okE 84) = true := by decide +kernel
theorem cm84 : okM 84 = true := by decide +kernel
theorem ck85 : (m_code 85).all (okE 85) = true := by decide +kernel
theorem cm85 : okM 85 = true := by decide +kernel
theorem ck86 : (m_code 86).all (okE 86) = true := by decide +kernel
theorem cm86 : okM 86 = true := by decide +kernel
theorem ck87 : (m_code 87).all (okE 87) = true := by decide +kernel
theorem cm87 : okM 87 = true := by decide +kernel
theorem ck88 : (m_code 88).all (okE 88) = true := by decide +kernel
theorem cm88 : okM 88 = true := by decide +kernel
theorem ck89 : (m_code 89).all (okE 89) = true := by decide +kernel
theorem cm89 : okM 89 = true := by decide +kernel
theorem ck90 : (m_code 90).all (okE 90) = true := by decide +kernel
theorem cm90 : okM 90 = true := by decide +kernel
theorem ck91 : (m_code 91).all (okE 91) = true := by decide +kernel
theorem cm91 : okM 91 = true := by decide +kernel
theorem ck92 : (m_code 92).all (okE 92) = true := by decide +kernel
theorem cm92 : okM 92 = true := by decide +kernel
theorem ck93 : (m_code 93).all (okE 93) = true := by decide +kernel
theorem cm93 : okM 93 = true := by decide +kernel
theorem ck94 : (m_code 94).all (okE 94) = true := by decide +kernel
theorem cm94 : okM 94 = true := by decide +kernel
theorem ck95 : (m_code 95).all (okE 95) = true := by decide +kernel
theorem cm95 : okM 95 = true := by decide +kernel
theorem ck96 : (m_code 96).all (okE 96) = true := by decide +kernel
theorem cm96 : okM 96 = true := by decide +kernel
theorem ck97 : (m_code 97).all (okE 97) = true := by decide +kernel
theorem cm97 : okM 97 = true := by decide +kernel
theorem ck98 : (m_code 98).all (okE 98) = true := by decide +kernel
theorem cm98 : okM 98 = true := by decide +kernel
theorem ck99 : (m_code 99).all (okE 99) = true := by decide +kernel
theorem cm99 : okM 99 = true := by decide +kernel
theorem ck100 : (m_code 100).all (okE 100) = true := by decide +kernel
theorem cm100 : okM 100 = true := by decide +kernel
theorem ck101 : (m_code 101).all (okE 101) = true := by decide +kernel
theorem cm101 : okM 101 = true := by decide +kernel
theorem ck102 : (m_code 102).all (okE 102) = true := by decide +kernel
theorem cm102 : okM 102 = true := by decide +kernel
theorem ck103 : (m_code 103).all (okE 103) = true := by decide +kernel
theorem cm103 : okM 103 = true := by decide +kernel
theorem ck104 : (m_code 104).all (okE 104) = true := by decide +kernel
theorem cm104 : okM 104 = true := by decide +kernel
theorem ck105 : (m_code 105).all (okE 105) = true := by decide +kernel
theorem cm105 : okM 105 = true := by decide +kernel
theorem ck106 : (m_code 106).all (okE 106) = true := by decide +kernel
theorem cm106 : okM 106 = true := by decide +kernel
theorem ck107 : (m_code 107).all (okE 107) = true := by decide +kernel
theorem cm107 : okM 107 = true := by decide +kernel
theorem ck108 : (m_code 108).all (okE 108) = true := by decide +kernel
theorem cm108 : okM 108 = true := by decide +kernel
theorem ck109 : (m_code 109).all (okE 109) = true := by decide +kernel
theorem cm109 : okM 109 = true := by decide +kernel
theorem ck110 : (m_code 110).all (okE 110) = true := by decide +kernel
theorem cm110 : okM 110 = true := by decide +kernel
theorem ck111 : (m_code 111).all (okE 111) = true := by decide +kernel
theorem cm111 : okM 111 = true := by decide +kernel
theorem ck112 : (m_code 112).all (okE 112) = true := by decide +kernel
theorem cm112 : okM 112 = true := by decide +kernel
theorem ck113 : (m_code 113).all (okE 113) = true := by decide +kernel
theorem cm113 : okM 113 = true := by decide +kernel
theorem ck114 : (m_code 114).all (okE 114) = true := by decide +kernel
theorem cm114 : okM 114 = true := by decide +kernel
theorem ck115 : (m_code 115).all (okE 115) = true := by decide +kernel
theorem cm115 : okM 115 = true := by decide +kernel
theorem ck116_0 : ((kX9_init.drop 0).take 60).all (okE 116) = true := by decide +kernel
theorem ck116_60 : ((kX9_init.drop 60).take 60).all (okE 116) = true := by decide +kernel
theorem ck116_120 : ((kX9_init.drop 120).take 60).all (okE 116) = true := by decide +kernel
theorem cl116_120 : (kX9_init.drop 120).all (okE 116) = true := all_cut 60 ck116_120 (by rw [List.drop_drop]; decide +kernel)
theorem cl116_60 : (kX9_init.drop 60).all (okE 116) = true := all_cut 60 ck116_60 (by rw [List.drop_drop]; exact cl116_120)
theorem cl116_0 : (kX9_init.drop 0).all (okE 116) = true := all_cut 60 ck116_0 (by rw [List.drop_drop]; exact cl116_60)
theorem ck116 : (m_code 116).all (okE 116) = true := cl116_0
theorem cm116 : okM 116 = true := by decide +kernel
theorem ck117 : (m_code 117).all (okE 117) = true := by decide +kernel
theorem cm117 : okM 117 = true := by decide +kernel
theorem ck118 : (m_code 118).all (okE 118) = true := by decide +kernel
theorem cm118 : okM 118 = true := by decide +kernel
theorem ck119 : (m_code 119).all (okE 119) = true := by decide +kernel
theorem cm119 : okM 119 = true := by decide +kernel
theorem ck120 : (m_code 120).all (okE 120) = true := by decide +kernel
theorem cm120 : okM 120 = true := by decide +kernel
theorem ck121 : (m_code 121).all (okE 121) = true := by decide +kernel
theorem cm121 : okM 121 = true := by decide +kernel
theorem ck122 : (m_code 122).all (okE 122) = true := by decide +kernel
theorem cm122 : okM 122 = true := by decide +kernel
theorem ck123 : (m_code 123).all (okE 123) = true := by decide +kernel
theorem cm123 : okM 123 = true := by decide +kernel
theorem ck124 : (m_code 124).all (okE 124) = true := by decide +kernel
theorem cm124 : okM 124 = true := by decide +kernel
theorem ck125 : (m_code 125).all (okE 125) = true := by decide +kernel
theorem cm125 : okM 125 = true := by decide +kernel
theorem ck126 : (m_code 126).all (okE 126) = true := by decide +kernel
theorem cm126 : okM 126 = true := by decide +kernel
theorem ck127 : (m_code 127).all (okE 127) = true := by decide +kernel
theorem cm127 : okM 127 = true := by decide +kernel
theorem ck128 : (m_code 128).all (okE 128) = true := by decide +kernel
theorem cm128 : okM 128 = true := by decide +kernel
theorem ck129 : (m_code 129).all (okE 129) = true := by decide +kernel
theorem cm129 : okM 129 = true := by decide +kernel
theorem ck130 : (m_code 130).all (okE 130) = true := by decide +kernel
theorem cm130 : okM 130 = true := by decide +kernel
theorem ck131 : (m_code 131).all (okE 131) = true := by decide +kernel
theorem cm131 : okM 131 = true := by decide +kernel
theorem ck132 : (m_code 132).all (okE 132) = true := by decide +kernel
theorem cm132 : okM 132 = true := by decide +kernel
theorem ck133 : (m_code 133).all (okE 133) = true := by decide +kernel
theorem cm133 : okM 133 = true := by decide +kernel
theorem ck134 : (m_code 134).all (okE 134) = true := by decide +kernel
theorem cm134 : okM 134 = true := by decide +kernel
theorem ck135 : (m_code 135).all (okE 135) = true := by decide +kernel
theorem cm135 : okM 135 = true := by decide +kernel
theorem ck136 : (m_code 136).all (okE 136) = true := by decide +kernel
theorem cm136 : okM 136 = true := by decide +kernel
theorem ck137 : (m_code 137).all (okE 137) = true := by decide +kernel
theorem cm137 : okM 137 = true := by decide +kernel
theorem ck138 : (m_code 138).all (okE 138) = true := by decide +kernel
theorem cm138 : okM 138 = true := by decide +kernel
theorem ck139 : (m_code 139).all (okE 139) = true := by decide +kernel
theorem cm139 : okM 139 = true := by decide +kernel
theorem ck140 : (m_code 140).all (okE 140) = true := by decide +kernel
theorem cm140 : okM 140 = true := by decide +kernel
theorem ck141 : (m_code 141).all (okE 141) = true := by decide +kernel
theorem cm141 : okM 141 = true := by decide +kernel
theorem ck142 : (m_code 142).all (okE 142) = true := by decide +kernel
theorem cm142 : okM 142 = true := by decide +kernel
theorem ck143 : (m_code 143).all (okE 143) = true := by decide +kernel
theorem cm143 : okM 143 = true := by decide +kernel
theorem ck144 : (m_code 144).all (okE 144) = true := by decide +kernel
theorem cm144 : okM 144 = true := by decide +kernel
theorem ck145 : (m_code 145).all (okE 145) = true := by decide +kernel
theorem cm145 : okM 145 = true := by decide +kernel
theorem ck146 : (m_code 146).all (okE 146) = true := by decide +kernel
theorem cm146 : okM 146 = true := by decide +kernel
theorem ck147 : (m_code 147).all (okE 147) = true := by decide +kernel
theorem cm147 : okM 147 = true := by decide +kernel
theorem ck148 : (m_code 148).all (okE 148) = true := by decide +kernel
theorem cm148 : okM 148 = true := by decide +kernel
theorem ck149 : (m_code 149).all (okE 149) = true := by decide +kernel
theorem cm149 : okM 149 = true := by decide +kernel
theorem ck150 : (m_code 150).all (okE 150) = true := by decide +kernel
theorem cm150 : okM 150 = true := by decide +kernel
theorem ck151 : (m_code 151).all (okE 151) = true := by decide +kernel
theorem cm151 : okM 151 = true := by decide +kernel
theorem ck152 : (m_code 152).all (okE 152) = true := by decide +kernel
theorem cm152 : okM 152 = true := by decide +kernel
theorem ck153 : (m_code 153).all (okE 153) = true := by decide +kernel
theorem cm153 : okM 153 = true := by decide +kernel
theorem ck154 : (m_code 154).all (okE 154) = true := by decide +kernel
theorem cm154 : okM 154 = true := by decide +kernel
theorem ck155 : (m_code 155).all (okE 155) = true := by decide +kernel
theorem cm155 : okM 155 = true := by decide +kernel
theorem ck156 : (m_code 156).all (okE 156) = true := by decide +kernel
theorem cm156 : okM 156 = true := by decide +kernel
theorem ck157 : (m_code 157).all (okE 157) = true := by decide +kernel
theorem cm157 : okM 157 = true := by decide +kernel
theorem ck158_0 : ((kX9_carry.drop 0).take 60).all (okE 158) = true := by decide +kernel
theorem ck158_60 : ((kX9_carry.drop 60).take 60).all (okE 158) = true := by decide +kernel
theorem ck158_120 : ((kX9_carry.drop 120).take 60).all (okE 158) = true := by decide +kernel
theorem ck158_180 : ((kX9_carry.drop 180).take 60).all (okE 158) = true := by decide +kernel
theorem cl158_180 : (kX9_carry.drop 180).all (okE 158) = true := all_cut 60 ck158_180 (by rw [List.drop_drop]; decide +kernel)
theorem cl158_120 : (kX9_carry.drop 120).all (okE 158) = true := all_cut 60 ck158_120 (by rw [List.drop_drop]; exact cl158_180)
theorem cl158_60 : (kX9_carry.drop 60).all (okE 158) = true := all_cut 60 ck158_60 (by rw [List.drop_drop]; exact cl158_120)
theorem cl158_0 : (kX9_carry.drop 0).all (okE 158) = true := all_cut 60 ck158_0 (by rw [List.drop_drop]; exact cl158_60)
theorem ck158 : (m_code 158).all (okE 158) = true := cl158_0
theorem cm158 : okM 158 = true := by decide +kernel
theorem ck159 : (m_code 159).all (okE 159) = true := by decide +kernel
theorem cm159 : okM 159 = true := by decide +kernel
theorem ck160 : (m_code 160).all (okE 160) = true := by decide +kernel
theorem cm160 : okM 160 = true := by decide +kernel
theorem ck161 : (m_code 161).all (okE 161) = true := by decide +kernel
theorem cm161 : okM 161 = true := by decide +kernel
theorem ck162 : (m_code 162).all (okE 162) = true := by decide +kernel
theorem cm162 : okM 162 = true := by decide +kernel
theorem ck163 : (m_code 163).all (okE 163) = true := by decide +kernel
theorem cm163 : okM 163 = true := by decide +kernel
theorem ck164 : (m_code 164).all (okE 164) = true := by decide +kernel
theorem cm164 : okM 164 = true := by decide +kernel
theorem ck165 : (m_code 165).all (okE 165) = true := by decide +kernel
theorem cm165 : okM 165 = true := by decide +kernel
theorem ck166 : (m_code 166).all (okE 166) = true := by decide +kernel
theorem cm166 : okM 166 = true := by decide +kernel
theorem ck167 : (m_code 167).all (okE 167) = true := by decide +kernel
theorem cm167 : okM 167 = true := by decide +kernel
theorem ck168_0 : ((kX9_divide.drop 0).take 60).all (okE 168) = true := by decide +kernel
theorem ck168_60 : ((kX9_divide.drop 60).take 60).all (okE 168) = true := by decide +kernel
theorem ck168_120 : ((kX9_divide.drop 120).take 60).all (okE 168) = true := by decide +kernel
theorem cl168_120 : (kX9_divide.drop 120).all (okE 168) = true := all_cut 60 ck168_120 (by rw [List.drop_drop]; decide +kernel)
theorem cl168_60 : (kX9_divide.drop 60).all (okE 168) = true := all_cut 60 ck168_60 (by rw [List.drop_drop]; exact cl168_120)
theorem cl168_0 : (kX9_divide.drop 0).all (okE 168) = true := all_cut 60 ck168_0 (by rw [List.drop_drop]; exact cl168_60)
theorem ck168 : (m_code 168).all (okE 168) = true := cl168_0
theorem cm168 : okM 168 = true := by decide +kernel
theorem ck169 : (m_code 169).all (okE 169) = true := by decide +kernel
theorem cm169 : okM 169 = true := by decide +kernel
theorem ck170_0 : ((kX9_interpolate.drop 0).take 60).all (okE 170) = true := by decide +kernel
theorem ck170_60 : ((kX9_interpolate.drop 60).take 60).all (okE 170) = true := by decide +kernel
theorem ck170_120 : ((kX9_interpolate.drop 120).take 60).all (okE 170) = true := by decide +kernel
theorem ck170_180 : ((kX9_interpolate.drop 180).take 60).all (okE 170) = true := by decide +kernel
theorem cl170_180 : (kX9_interpolate.drop 180).all (okE 170) = true := all_cut 60 ck170_180 (by rw [List.drop_drop]; decide +kernel)
theorem cl170_120 : (kX9_interpolate.drop 120).all (okE 170) = true := all_cut 60 ck170_120 (by rw [List.drop_drop]; exact cl170_180)
theorem cl170_60 : (kX9_interpolate.drop 60).all (okE 170) = true := all_cut 60 ck170_60 (by rw [List.drop_drop]; exact cl170_120)
theorem cl170_0 : (kX9_interpolate.drop 0).all (okE 170) = true := all_cut 60 ck170_0 (by rw [List.drop_drop]; exact cl170_60)
theorem ck170 : (m_code 170).all (okE 170) = true := cl170_0
theorem cm170 : okM 170 = true := by decide +kernel
theorem ck171 : (m_code 171).all (okE 171) = true := by decide +kernel
theorem cm171 : okM 171 = true := by decide +kernel
theorem ck172 : (m_code 172).all (okE 172) = true := by decide +kernel
theorem cm172 : okM 172 = true := by decide +kernel
theorem ck173 : (m_code 173).all (okE 173) = true := by decide +kernel
theorem cm173 : okM 173 = true := by decide +kernel
theorem ck174 : (m_code 174).all (okE 174) = true := by decide +kernel
theorem cm174 : okM 174 = true := by decide +kernel
theorem ck175 : (m_code 175).all (okE 175) = true := by decide +kernel
theorem cm175 : okM 175 = true := by decide +kernel
theorem ck176_0 : ((kX9_realOf.drop 0).take 60).all (okE 176) = true := by decide +kernel
theorem ck176_60 : ((kX9_realOf.drop 60).take 60).all (okE 176) = true := by decide +kernel
theorem ck176_120 : ((kX9_realOf.drop 120).take 60).all (okE 176) = true := by decide +kernel
theorem cl176_120 : (kX9_realOf.drop 120).all (okE 176) = true := all_cut 60 ck176_120 (by rw [List.drop_drop]; decide +kernel)
theorem cl176_60 : (kX9_realOf.drop 60).all (okE 176) = true := all_cut 60 ck176_60 (by rw [List.drop_drop]; exact cl176_120)
theorem cl176_0 : (kX9_realOf.drop 0).all (okE 176) = true := all_cut 60 ck176_0 (by rw [List.drop_drop]; exact cl176_60)
theorem ck176 : (m_code 176).all (okE 176) = true := cl176_0
theorem cm176 : okM 176 = true := by decide +kernel
theorem ck177 : (m_code 177).all (okE 177) = true := by decide +kernel
theorem cm177 : okM 177 = true := by decide +kernel
theorem ck178 : (m_code 178).all (okE 178) = true := by decide +kernel
theorem cm178 : okM 178 = true := by decide +kernel
theorem ck179 : (m_code 179).all (okE 179) = true := by decide +kernel
theorem cm179 : okM 179 = true := by decide +kernel
theorem ck180 : (m_code 180).all (okE 180) = true := by decide +kernel
theorem cm180 : okM 180 = true := by decide +kernel
theorem ck181 : (m_code 181).all (okE 181) = true := by decide +kernel
theorem cm181 : okM 181 = true := by decide +kernel
theorem ck182 : (m_code 182).all (okE 182) = true := by decide +kernel
theorem cm182 : okM 182 = true := by decide +kernel
theorem ck183 : (m_code 183).all (okE 183) = true := by decide +kernel
theorem cm183 : okM 183 = true := by decide +kernel
theorem ck184 : (m_code 184).all (okE 184) = true := by decide +kernel
theorem cm184 : okM 184 = true := by decide +kernel
theorem ck185 : (m_code 185).all (okE 185) = true := by decide +kernel
theorem cm185 : okM 185 = true := by decide +kernel
theorem ck186 : (m_code 186).all (okE 186) = true := by decide +kernel
theorem cm186 : okM 186 = true := by decide +kernel
theorem ck187 : (m_code 187).all (okE 187) = true := by decide +kernel
theorem cm187 : okM 187 = true := by decide +kernel
theorem ck188 : (m_code 188).all (okE 188) = true := by decide +kernel
theorem cm188 : okM 188 = true := by decide +kernel
theorem ck189 : (m_code 189).all (okE 189) = true := by decide +kernel
theorem cm189 : okM 189 = true := by decide +kernel
theorem ck190_0 : ((kL_law.drop 0).take 60).all (okE 190) = true := by decide +kernel
theorem ck190_60 : ((kL_law.drop 60).take 60).all (okE 190) = true := by decide +kernel
theorem ck190_120 : ((kL_law.drop 120).take 60).all (okE 190) = true := by decide +kernel
theorem ck190_180 : ((kL_law.drop 180).take 60).all (okE 190) = true := by decide +kernel
theorem ck190_240 : ((kL_law.drop 240).take 60).all (okE 190) = true := by decide +kernel
theorem ck190_300 : ((kL_law.drop 300).take 60).all (okE 190) = true := by decide +kernel
theorem ck190_360 : ((kL_law.drop 360).take 60).all (okE 190) = true := by decide +kernel
theorem ck190_420 : ((kL_law.drop 420).take 60).all (okE 190) = true := by decide +kernel
theorem ck190_480 : ((kL_law.drop 480).take 60).all (okE 190) = true := by decide +kernel
theorem ck190_540 : ((kL_law.drop 540).take 60).all (okE 190) = true := by decide +kernel
theorem ck190_600 : ((kL_law.drop 600).take 60).all (okE 190) = true := by decide +kernel
theorem ck190_660 : ((kL_law.drop 660).take 60).all (okE 190) = true := by decide +kernel
theorem ck190_720 : ((kL_law.drop 720).take 60).all (okE 190) = true := by decide +kernel
theorem ck190_780 : ((kL_law.drop 780).take 60).all (okE 190) = true := by decide +kernel
theorem ck190_840 : ((kL_law.drop 840).take 60).all (okE 190) = true := by decide +kernel
theorem ck190_900 : ((kL_law.drop 900).take 60).all (okE 190) = true := by decide +kernel
theorem ck190_960 : ((kL_law.drop 960).take 60).all (okE 190) = true := by decide +kernel
theorem ck190_1020 : ((kL_law.drop 1020).take 60).all (okE 190) = true := by decide +kernel
theorem cl190_1020 : (kL_law.drop 1020).all (okE 190) = true := all_cut 60 ck190_1020 (by rw [List.drop_drop]; decide +kernel)
theorem cl190_960 : (kL_law.drop 960).all (okE 190) = true := all_cut 60 ck190_960 (by rw [List.drop_drop]; exact cl190_1020)
theorem cl190_900 : (kL_law.drop 900).all (okE 190) = true := all_cut 60 ck190_900 (by rw [List.drop_drop]; exact cl190_960)
theorem cl190_840 : (kL_law.drop 840).all (okE 190) = true := all_cut 60 ck190_840 (by rw [List.drop_drop]; exact cl190_900)
theorem cl190_780 : (kL_law.drop 780).all (okE 190) = true := all_cut 60 ck190_780 (by rw [List.drop_drop]; exact cl190_840)
theorem cl190_720 : (kL_law.drop 720).all (okE 190) = true := all_cut 60 ck190_720 (by rw [List.drop_drop]; exact cl190_780)
theorem cl190_660 : (kL_law.drop 660).all (okE 190) = true := all_cut 60 ck190_660 (by rw [List.drop_drop]; exact cl190_720)
theorem cl190_600 : (kL_law.drop 600).all (okE 190) = true := all_cut 60 ck190_600 (by rw [List.drop_drop]; exact cl190_660)
theorem cl190_540 : (kL_law.drop 540).all (okE 190) = true := all_cut 60 ck190_540 (by rw [List.drop_drop]; exact cl190_600)
theorem cl190_480 : (kL_law.drop 480).all (okE 190) = true := all_cut 60 ck190_480 (by rw [List.drop_drop]; exact cl190_540)
theorem cl190_420 : (kL_law.drop 420).all (okE 190) = true := all_cut 60 ck190_420 (by rw [List.drop_drop]; exact cl190_480)
theorem cl190_360 : (kL_law.drop 360).all (okE 190) = true := all_cut 60 ck190_360 (by rw [List.drop_drop]; exact cl190_420)
theorem cl190_300 : (kL_law.drop 300).all (okE 190) = true := all_cut 60 ck190_300 (by rw [List.drop_drop]; exact cl190_360)
theorem cl190_240 : (kL_law.drop 240).all (okE 190) = true := all_cut 60 ck190_240 (by rw [List.drop_drop]; exact cl190_300)
theorem cl190_180 : (kL_law.drop 180).all (okE 190) = true := all_cut 60 ck190_180 (by rw [List.drop_drop]; exact cl190_240)
theorem cl190_120 : (kL_law.drop 120).all (okE 190) = true := all_cut 60 ck190_120 (by rw [List.drop_drop]; exact cl190_180)
theorem cl190_60 : (kL_law.drop 60).all (okE 190) = true := all_cut 60 ck190_60 (by rw [List.drop_drop]; exact cl190_120)
theorem cl190_0 : (kL_law.drop 0).all (okE 190) = true := all_cut 60 ck190_0 (by rw [List.drop_drop]; exact cl190_60)
theorem ck190 : (m_code 190).all (okE 190) = true := cl190_0
theorem okE_all : ∀ y, y < 191 → (m_code y).all (okE y) = true := by
  intro y hy
  match y, hy with
  | 0, _ => exact ck0
  | 1, _ => exact ck1
  | 2, _ => exact ck2
  | 3, _ => exact ck3
  | 4, _ => exact ck4
  | 5, _ => exact ck5
  | 6, _ => exact ck6
  | 7, _ => exact ck7
  | 8, _ => exact ck8
  | 9, _ => exact ck9
  | 10, _ => exact ck10
  | 11, _ => exact ck11
  | 12, _ => exact ck12
  | 13, _ => exact ck13
  | 14, _ => exact ck14
  | 15, _ => exact ck15
  | 16, _ => exact ck16
  | 17, _ => exact ck17
  | 18, _ => exact ck18
  | 19, _ => exact ck19
  | 20, _ => exact ck20
  | 21, _ => exact ck21
  | 22, _ => exact ck22
  | 23, _ => exact ck23
  | 24, _ => exact ck24
  | 25, _ => exact ck25
  | 26, _ => exact ck26
  | 27, _ => exact ck27
  | 28, _ => exact ck28
  | 29, _ => exact ck29
  | 30, _ => exact ck30
  | 31, _ => exact ck31
  | 32, _ => exact ck32
  | 33, _ => exact ck33
  | 34, _ => exact ck34
  | 35, _ => exact ck35
  | 36, _ => exact ck36
  | 37, _ => exact ck37
  | 38, _ => exact ck38
  | 39, _ => exact ck39
  | 40, _ => exact ck40
  | 41, _ => exact ck41
  | 42, _ => exact ck42
  | 43, _ => exact ck43
  | 44, _ => exact ck44
  | 45, _ => exact ck45
  | 46, _ => exact ck46
  | 47, _ => exact ck47
  | 48, _ => exact ck48
  | 49, _ => exact ck49
  | 50, _ => exact ck50
  | 51, _ => exact ck51
  | 52, _ => exact ck52
  | 53, _ => exact ck53
  | 54, _ => exact ck54
  | 55, _ => exact ck55
  | 56, _ => exact ck56
  | 57, _ => exact ck57
  | 58, _ => exact ck58
  | 59, _ => exact ck59
  | 60, _ => exact ck60
  | 61, _ => exact ck61
  | 62, _ => exact ck62
  | 63, _ => exact ck63
  | 64, _ => exact ck64
  | 65, _ => exact ck65
  | 66, _ => exact ck66
  | 67, _ => exact ck67
  | 68, _ => exact ck68
  | 69, _ => exact ck69
  | 70, _ => exact ck70
  | 71, _ => exact ck71
  | 72, _ => exact ck72
  | 73, _ => exact ck73
  | 74, _ => exact ck74
  | 75, _ => exact ck75
  | 76, _ => exact ck76
  | 77, _ => exact ck77
  | 78, _ => exact ck78
  | 79, _ => exact ck79
  | 80, _ => exact ck80
  | 81, _ => exact ck81
  | 82, _ => exact ck82
  | 83, _ => exact ck83
  | 84, _ => exact ck84
  | 85, _ => exact ck85
  | 86, _ => exact ck86
  | 87, _ => exact ck87
  | 88, _ => exact ck88
  | 89, _ => exact ck89
  | 90, _ => exact ck90
  | 91, _ => exact ck91
  | 92, _ => exact ck92
  | 93, _ => exact ck93
  | 94, _ => exact ck94
  | 95, _ => exact ck95
  | 96, _ => exact ck96
  | 97, _ => exact ck97
  | 98, _ => exact ck98
  | 99, _ => exact ck99
  | 100, _ => exact ck100
  | 101, _ => exact ck101
  | 102, _ => exact ck102
  | 103, _ => exact ck103
  | 104, _ => exact ck104
  | 105, _ => exact ck105
  | 106, _ => exact ck106
  | 107, _ => exact ck107
  | 108, _ => exact ck108
  | 109, _ => exact ck109
  | 110, _ => exact ck110
  | 111, _ => exact ck111
  | 112, _ => exact ck112
  | 113, _ => exact ck113
  | 114, _ => exact ck114
  | 115, _ => exact ck115
  | 116, _ => exact ck116
  | 117, _ => exact ck117
  | 118, _ => exact ck118
  | 119, _ => exact ck119
  | 120, _ => exact ck120
  | 121, _ => exact ck121
  | 122, _ => exact ck122
  | 123, _ => exact ck123
  | 124, _ => exact ck124
  | 125, _ => exact ck125
  | 126, _ => exact ck126
  | 127, _ => exact ck127
  | 128, _ => exact ck128
  | 129, _ => exact ck129
  | 130, _ => exact ck130
  | 131, _ => exact ck131
  | 132, _ => exact ck132
  | 133, _ => exact ck133
  | 134, _ => exact ck134
  | 135, _ => exact ck135
  | 136, _ => exact ck136
  | 137, _ => exact ck137
  | 138, _ => exact ck138
  | 139, _ => exact ck139
  | 140, _ => exact ck140
  | 141, _ => exact ck141
  | 142, _ => exact ck142
  | 143, _ => exact ck143
  | 144, _ => exact ck144
  | 145, _ => exact ck145
  | 146, _ => exact ck146
  | 147, _ => exact ck147
  | 148, _ => exact ck148
  | 149, _ => exact ck149
  | 150, _ => exact ck150
  | 151, _ => exact ck151
  | 152, _ => exact ck152
  | 153, _ => exact ck153
  | 154, _ => exact ck154
  | 155, _ => exact ck155
  | 156, _ => exact ck156
  | 157, _ => exact ck157
  | 158, _ => exact ck158
  | 159, _ => exact ck159
  | 160, _ => exact ck160
  | 161, _ => exact ck161
  | 162, _ => exact ck162
  | 163, _ => exact ck163
  | 164, _ => exact ck164
  | 165, _ => exact ck165
  | 166, _ => exact ck166
  | 167, _ => exact ck167
  | 168, _ => exact ck168
  | 169, _ => exact ck169
  | 170, _ => exact ck170
  | 171, _ => exact ck171
  | 172, _ => exact ck172
  | 173, _ => exact ck173
  | 174, _ => exact ck174
  | 175, _ => exact ck175
  | 176, _ => exact ck176
  | 177, _ => exact ck177
  | 178, _ => exact ck178
  | 179, _ => exact ck179
  | 180, _ => exact ck180
  | 181, _ => exact ck181
  | 182, _ => exact ck182
  | 183, _ => exact ck183
  | 184, _ => exact ck184
  | 185, _ => exact ck185
  | 186, _ => exact ck186
  | 187, _ => exact ck187
  | 188, _ => exact ck188
  | 189, _ => exact ck189
  | 190, _ => exact ck190
  | n + 191, h => exact absurd h (by omega)
theorem okM_all : ∀ y, y < 190 → okM y = true := by
  intro y hy
  match y, hy with
  | 0, _ => exact cm0
  | 1, _ => exact cm1
  | 2, _ => exact cm2
  | 3, _ => exact cm3
  | 4, _ => exact cm4
  | 5, _ => exact cm5
  | 6, _ => exact cm6
  | 7, _ => exact cm7
  | 8, _ => exact cm8
  | 9, _ => exact cm9
  | 10, _ => exact cm10
  | 11, _ => exact cm11
  | 12, _ => exact cm12
  | 13, _ => exact cm13
  | 14, _ => exact cm14
  | 15, _ => exact cm15
  | 16, _ => exact cm16
  | 17, _ => exact cm17
  | 18, _ => exact cm18
  | 19, _ => exact cm19
  | 20, _ => exact cm20
  | 21, _ => exact cm21
  | 22, _ => exact cm22
  | 23, _ => exact cm23
  | 24, _ => exact cm24
  | 25, _ => exact cm25
  | 26, _ => exact cm26
  | 27, _ => exact cm27
  | 28, _ => exact cm28
  | 29, _ => exact cm29
  | 30, _ => exact cm30
  | 31, _ => exact cm31
  | 32, _ => exact cm32
  | 33, _ => exact cm33
  | 34, _ => exact cm34
  | 35, _ => exact cm35
  | 36, _ => exact cm36
  | 37, _ => exact cm37
  | 38, _ => exact cm38
  | 39, _ => exact cm39
  | 40, _ => exact cm40
  | 41, _ => exact cm41
  | 42, _ => exact cm42
  | 43, _ => exact cm43
  | 44, _ => exact cm44
  | 45, _ => exact cm45
  | 46, _ => exact cm46
  | 47, _ => exact cm47
  | 48, _ => exact cm48
  | 49, _ => exact cm49
  | 50, _ => exact cm50
  | 51, _ => exact cm51
  | 52, _ => exact cm52
  | 53, _ => exact cm53
  | 54, _ => exact cm54
  | 55, _ => exact cm55
  | 56, _ => exact cm56
  | 57, _ => exact cm57
  | 58, _ => exact cm58
  | 59, _ => exact cm59
  | 60, _ => exact cm60
  | 61, _ => exact cm61
  | 62, _ => exact cm62
  | 63, _ => exact cm63
  | 64, _ => exact cm64
  | 65, _ => exact cm65
  | 66, _ => exact cm66
  | 67, _ => exact cm67
  | 68, _ => exact cm68
  | 69, _ => exact cm69
  | 70, _ => exact cm70
  | 71, _ => exact cm71
  | 72, _ => exact cm72
  | 73, _ => exact cm73
  | 74, _ => exact cm74
  | 75, _ => exact cm75
  | 76, _ => exact cm76
  | 77, _ => exact cm77
  | 78, _ => exact cm78
  | 79, _ => exact cm79
  | 80, _ => exact cm80
  | 81, _ => exact cm81
  | 82, _ => exact cm82
  | 83, _ => exact cm83
  | 84, _ => exact cm84
  | 85, _ => exact cm85
  | 86, _ => exact cm86
  | 87, _ => exact cm87
  | 88, _ => exact cm88
  | 89, _ => exact cm89
  | 90, _ => exact cm90
  | 91, _ => exact cm91
  | 92, _ => exact cm92
  | 93, _ => exact cm93
  | 94, _ => exact cm94
  | 95, _ => exact cm95
  | 96, _ => exact cm96
  | 97, _ => exact cm97
  | 98, _ => exact cm98
  | 99, _ => exact cm99
  | 100, _ => exact cm100
  | 101, _ => exact cm101
  | 102, _ => exact cm102
  | 103, _ => exact cm103
  | 104, _ => exact cm104
  | 105, _ => exact cm105
  | 106, _ => exact cm106
  | 107, _ => exact cm107
  | 108, _ => exact cm108
  | 109, _ => exact cm109
  | 110, _ => exact cm110
  | 111, _ => exact cm111
  | 112, _ => exact cm112
  | 113, _ => exact cm113
  | 114, _ => exact cm114
  | 115, _ => exact cm115
  | 116, _ => exact cm116
  | 117, _ => exact cm117
  | 118, _ => exact cm118
  | 119, _ => exact cm119
  | 120, _ => exact cm120
  | 121, _ => exact cm121
  | 122, _ => exact cm122
  | 123, _ => exact cm123
  | 124, _ => exact cm124
  | 125, _ => exact cm125
  | 126, _ => exact cm126
  | 127, _ => exact cm127
  | 128, _ => exact cm128
  | 129, _ => exact cm129
  | 130, _ => exact cm130
  | 131, _ => exact cm131
  | 132, _ => exact cm132
  | 133, _ => exact cm133
  | 134, _ => exact cm134
  | 135, _ => exact cm135
  | 136, _ => exact cm136
  | 137, _ => exact cm137
  | 138, _ => exact cm138
  | 139, _ => exact cm139
  | 140, _ => exact cm140
  | 141, _ => exact cm141
  | 142, _ => exact cm142
  | 143, _ => exact cm143
  | 144, _ => exact cm144
  | 145, _ => exact cm145
  | 146, _ => exact cm146
  | 147, _ => exact cm147
  | 148, _ => exact cm148
  | 149, _ => exact cm149
  | 150, _ => exact cm150
  | 151, _ => exact cm151
  | 152, _ => exact cm152
  | 153, _ => exact cm153
  | 154, _ => exact cm154
  | 155, _ => exact cm155
  | 156, _ => exact cm156
  | 157, _ => exact cm157
  | 158, _ => exact cm158
  | 159, _ => exact cm159
  | 160, _ => exact cm160
  | 161, _ => exact cm161
  | 162, _ => exact cm162
  | 163, _ => exact cm163
  | 164, _ => exact cm164
  | 165, _ => exact cm165
  | 166, _ => exact cm166
  | 167, _ => exact cm167
  | 168, _ => exact cm168
  | 169, _ => exact cm169
  | 170, _ => exact cm170
  | 171, _ => exact cm171
  | 172, _ => exact cm172
  | 173, _ => exact cm173
  | 174, _ => exact cm174
  | 175, _ => exact cm175
  | 176, _ => exact cm176
  | 177, _ => exact cm177
  | 178, _ => exact cm178
  | 179, _ => exact cm179
  | 180, _ => exact cm180
  | 181, _ => exact cm181
  | 182, _ => exact cm182
  | 183, _ => exact cm183
  | 184, _ => exact cm184
  | 185, _ => exact cm185
  | 186, _ => exact cm186
  | 187, _ => exact cm187
  | 188, _ => exact cm188
  | 189, _ => exact cm189
  | n + 190, h => exact absurd h (by omega)

-- ===== PART A: goes FIRST, ahead of the names: the tables' words, and 'selects' of the private methods out of them =====
/-- a private method of a class that the tables say can be made, by its rows of tables_1 -/
def lw_okq (q : MethodName × Nat) : Prop := (q.1.cls ≠ "java/lang/invoke/MethodHandle" ∧ q.1.cls ≠ "java/lang/invoke/VarHandle") ∧ Cond.instantiable q.1.cls q.2 ∈ tables_1 ∧ Cond.privateMethod q.1 ∈ tables_1 ∧ Cond.instanceMethod q.1 ∈ tables_1
theorem lw_p0 : lw_okq (⟨"ConvolutionBench", "faulted", "(I)I"⟩, 13) := ⟨⟨by decide +kernel, by decide +kernel⟩, List.mem_of_getElem? (i := 14) (by decide +kernel), List.mem_of_getElem? (i := 241) (by decide +kernel), List.mem_of_getElem? (i := 242) (by decide +kernel)⟩
theorem lw_p1 : lw_okq (⟨"ConvolutionBench", "entryOf", "(LConvolutionBench$Row;I)J"⟩, 13) := ⟨⟨by decide +kernel, by decide +kernel⟩, List.mem_of_getElem? (i := 14) (by decide +kernel), List.mem_of_getElem? (i := 298) (by decide +kernel), List.mem_of_getElem? (i := 299) (by decide +kernel)⟩
theorem lw_p2 : lw_okq (⟨"ConvolutionBench", "faultedLong", "(I)J"⟩, 13) := ⟨⟨by decide +kernel, by decide +kernel⟩, List.mem_of_getElem? (i := 14) (by decide +kernel), List.mem_of_getElem? (i := 302) (by decide +kernel), List.mem_of_getElem? (i := 303) (by decide +kernel)⟩
theorem lw_p3 : lw_okq (⟨"ConvolutionBench$Products", "keepSum", "(I)V"⟩, 9) := ⟨⟨by decide +kernel, by decide +kernel⟩, List.mem_of_getElem? (i := 99) (by decide +kernel), List.mem_of_getElem? (i := 444) (by decide +kernel), List.mem_of_getElem? (i := 445) (by decide +kernel)⟩
theorem lw_p4 : lw_okq (⟨"ConvolutionBench$FastProduct", "spread", "([JIJ)V"⟩, 3) := ⟨⟨by decide +kernel, by decide +kernel⟩, List.mem_of_getElem? (i := 120) (by decide +kernel), List.mem_of_getElem? (i := 462) (by decide +kernel), List.mem_of_getElem? (i := 463) (by decide +kernel)⟩
theorem lw_p5 : lw_okq (⟨"ConvolutionBench$FastProduct", "joinHalves", "([JIIJ)V"⟩, 3) := ⟨⟨by decide +kernel, by decide +kernel⟩, List.mem_of_getElem? (i := 120) (by decide +kernel), List.mem_of_getElem? (i := 470) (by decide +kernel), List.mem_of_getElem? (i := 471) (by decide +kernel)⟩
theorem lw_p6 : lw_okq (⟨"ConvolutionBench$Products", "join", "(JJJ)V"⟩, 9) := ⟨⟨by decide +kernel, by decide +kernel⟩, List.mem_of_getElem? (i := 99) (by decide +kernel), List.mem_of_getElem? (i := 486) (by decide +kernel), List.mem_of_getElem? (i := 487) (by decide +kernel)⟩
theorem lw_p7 : lw_okq (⟨"ConvolutionBench$Polynomials", "fillWhole", "(ILConvolutionBench$Prime;)V"⟩, 3) := ⟨⟨by decide +kernel, by decide +kernel⟩, List.mem_of_getElem? (i := 26) (by decide +kernel), List.mem_of_getElem? (i := 621) (by decide +kernel), List.mem_of_getElem? (i := 622) (by decide +kernel)⟩
theorem lw_p8 : lw_okq (⟨"ConvolutionBench$Polynomials", "leaveOut", "(JILConvolutionBench$Prime;)V"⟩, 3) := ⟨⟨by decide +kernel, by decide +kernel⟩, List.mem_of_getElem? (i := 26) (by decide +kernel), List.mem_of_getElem? (i := 625) (by decide +kernel), List.mem_of_getElem? (i := 626) (by decide +kernel)⟩
theorem lw_p9 : lw_okq (⟨"ConvolutionBench$Doubles", "load", "(LConvolutionBench$Row;[D[Z)V"⟩, 5) := ⟨⟨by decide +kernel, by decide +kernel⟩, List.mem_of_getElem? (i := 43) (by decide +kernel), List.mem_of_getElem? (i := 657) (by decide +kernel), List.mem_of_getElem? (i := 658) (by decide +kernel)⟩
theorem lw_p10 : lw_okq (⟨"ConvolutionBench$Doubles", "fromBits", "(J)D"⟩, 5) := ⟨⟨by decide +kernel, by decide +kernel⟩, List.mem_of_getElem? (i := 43) (by decide +kernel), List.mem_of_getElem? (i := 663) (by decide +kernel), List.mem_of_getElem? (i := 664) (by decide +kernel)⟩
theorem lw_p11 : lw_okq (⟨"ConvolutionBench$Doubles", "scaled", "(DI)D"⟩, 5) := ⟨⟨by decide +kernel, by decide +kernel⟩, List.mem_of_getElem? (i := 43) (by decide +kernel), List.mem_of_getElem? (i := 669) (by decide +kernel), List.mem_of_getElem? (i := 670) (by decide +kernel)⟩
theorem lw_p12 : lw_okq (⟨"ConvolutionBench$Doubles", "entryBits", "(III)J"⟩, 5) := ⟨⟨by decide +kernel, by decide +kernel⟩, List.mem_of_getElem? (i := 43) (by decide +kernel), List.mem_of_getElem? (i := 678) (by decide +kernel), List.mem_of_getElem? (i := 679) (by decide +kernel)⟩
theorem lw_p13 : lw_okq (⟨"ConvolutionBench$Doubles", "toBits", "(D)J"⟩, 5) := ⟨⟨by decide +kernel, by decide +kernel⟩, List.mem_of_getElem? (i := 43) (by decide +kernel), List.mem_of_getElem? (i := 695) (by decide +kernel), List.mem_of_getElem? (i := 696) (by decide +kernel)⟩
theorem lw_p14 : lw_okq (⟨"ConvolutionBench$Doubles", "normalBits", "(D)J"⟩, 5) := ⟨⟨by decide +kernel, by decide +kernel⟩, List.mem_of_getElem? (i := 43) (by decide +kernel), List.mem_of_getElem? (i := 700) (by decide +kernel), List.mem_of_getElem? (i := 701) (by decide +kernel)⟩
theorem lw_p15 : lw_okq (⟨"ConvolutionBenchModel", "fails", "(I)I"⟩, 27) := ⟨⟨by decide +kernel, by decide +kernel⟩, List.mem_of_getElem? (i := 718) (by decide +kernel), List.mem_of_getElem? (i := 817) (by decide +kernel), List.mem_of_getElem? (i := 818) (by decide +kernel)⟩
def lw_privs_1 : List (MethodName × Nat) := [(⟨"ConvolutionBench", "faulted", "(I)I"⟩, 13), (⟨"ConvolutionBench", "entryOf", "(LConvolutionBench$Row;I)J"⟩, 13), (⟨"ConvolutionBench", "faultedLong", "(I)J"⟩, 13), (⟨"ConvolutionBench$Products", "keepSum", "(I)V"⟩, 9), (⟨"ConvolutionBench$FastProduct", "spread", "([JIJ)V"⟩, 3), (⟨"ConvolutionBench$FastProduct", "joinHalves", "([JIIJ)V"⟩, 3), (⟨"ConvolutionBench$Products", "join", "(JJJ)V"⟩, 9), (⟨"ConvolutionBench$Polynomials", "fillWhole", "(ILConvolutionBench$Prime;)V"⟩, 3), (⟨"ConvolutionBench$Polynomials", "leaveOut", "(JILConvolutionBench$Prime;)V"⟩, 3), (⟨"ConvolutionBench$Doubles", "load", "(LConvolutionBench$Row;[D[Z)V"⟩, 5), (⟨"ConvolutionBench$Doubles", "fromBits", "(J)D"⟩, 5), (⟨"ConvolutionBench$Doubles", "scaled", "(DI)D"⟩, 5), (⟨"ConvolutionBench$Doubles", "entryBits", "(III)J"⟩, 5), (⟨"ConvolutionBench$Doubles", "toBits", "(D)J"⟩, 5), (⟨"ConvolutionBench$Doubles", "normalBits", "(D)J"⟩, 5), (⟨"ConvolutionBenchModel", "fails", "(I)I"⟩, 27)]
theorem lw_r1 : ∀ q ∈ lw_privs_1, lw_okq q := List.forall_mem_cons.mpr ⟨lw_p0, List.forall_mem_cons.mpr ⟨lw_p1, List.forall_mem_cons.mpr ⟨lw_p2, List.forall_mem_cons.mpr ⟨lw_p3, List.forall_mem_cons.mpr ⟨lw_p4, List.forall_mem_cons.mpr ⟨lw_p5, List.forall_mem_cons.mpr ⟨lw_p6, List.forall_mem_cons.mpr ⟨lw_p7, List.forall_mem_cons.mpr ⟨lw_p8, List.forall_mem_cons.mpr ⟨lw_p9, List.forall_mem_cons.mpr ⟨lw_p10, List.forall_mem_cons.mpr ⟨lw_p11, List.forall_mem_cons.mpr ⟨lw_p12, List.forall_mem_cons.mpr ⟨lw_p13, List.forall_mem_cons.mpr ⟨lw_p14, List.forall_mem_cons.mpr ⟨lw_p15, fun _ h => absurd h List.not_mem_nil⟩⟩⟩⟩⟩⟩⟩⟩⟩⟩⟩⟩⟩⟩⟩⟩
theorem lw_p16 : lw_okq (⟨"ConvolutionBenchModel", "renew", "(III)I"⟩, 27) := ⟨⟨by decide +kernel, by decide +kernel⟩, List.mem_of_getElem? (i := 718) (by decide +kernel), List.mem_of_getElem? (i := 821) (by decide +kernel), List.mem_of_getElem? (i := 822) (by decide +kernel)⟩
theorem lw_p17 : lw_okq (⟨"ConvolutionBenchModel", "laneOf", "(I)I"⟩, 27) := ⟨⟨by decide +kernel, by decide +kernel⟩, List.mem_of_getElem? (i := 718) (by decide +kernel), List.mem_of_getElem? (i := 833) (by decide +kernel), List.mem_of_getElem? (i := 834) (by decide +kernel)⟩
theorem lw_p18 : lw_okq (⟨"ConvolutionBenchModel", "count", "(I)I"⟩, 27) := ⟨⟨by decide +kernel, by decide +kernel⟩, List.mem_of_getElem? (i := 718) (by decide +kernel), List.mem_of_getElem? (i := 837) (by decide +kernel), List.mem_of_getElem? (i := 838) (by decide +kernel)⟩
theorem lw_p19 : lw_okq (⟨"ConvolutionBenchModel", "entry", "(II)J"⟩, 27) := ⟨⟨by decide +kernel, by decide +kernel⟩, List.mem_of_getElem? (i := 718) (by decide +kernel), List.mem_of_getElem? (i := 858) (by decide +kernel), List.mem_of_getElem? (i := 859) (by decide +kernel)⟩
theorem lw_p20 : lw_okq (⟨"ConvolutionBenchModel", "keepEntries", "(I)V"⟩, 27) := ⟨⟨by decide +kernel, by decide +kernel⟩, List.mem_of_getElem? (i := 718) (by decide +kernel), List.mem_of_getElem? (i := 870) (by decide +kernel), List.mem_of_getElem? (i := 871) (by decide +kernel)⟩
theorem lw_p21 : lw_okq (⟨"ConvolutionBenchModel", "transformed", "(II)V"⟩, 27) := ⟨⟨by decide +kernel, by decide +kernel⟩, List.mem_of_getElem? (i := 718) (by decide +kernel), List.mem_of_getElem? (i := 906) (by decide +kernel), List.mem_of_getElem? (i := 907) (by decide +kernel)⟩
theorem lw_p22 : lw_okq (⟨"ConvolutionBenchModel", "against", "(II)I"⟩, 27) := ⟨⟨by decide +kernel, by decide +kernel⟩, List.mem_of_getElem? (i := 718) (by decide +kernel), List.mem_of_getElem? (i := 933) (by decide +kernel), List.mem_of_getElem? (i := 934) (by decide +kernel)⟩
theorem lw_p23 : lw_okq (⟨"ConvolutionBenchModel", "greatest", "(I)J"⟩, 27) := ⟨⟨by decide +kernel, by decide +kernel⟩, List.mem_of_getElem? (i := 718) (by decide +kernel), List.mem_of_getElem? (i := 937) (by decide +kernel), List.mem_of_getElem? (i := 938) (by decide +kernel)⟩
theorem lw_p24 : lw_okq (⟨"ConvolutionBenchModel", "clearProduct", "(I)V"⟩, 27) := ⟨⟨by decide +kernel, by decide +kernel⟩, List.mem_of_getElem? (i := 718) (by decide +kernel), List.mem_of_getElem? (i := 941) (by decide +kernel), List.mem_of_getElem? (i := 942) (by decide +kernel)⟩
theorem lw_p25 : lw_okq (⟨"ConvolutionBenchModel", "add", "(IJ)V"⟩, 27) := ⟨⟨by decide +kernel, by decide +kernel⟩, List.mem_of_getElem? (i := 718) (by decide +kernel), List.mem_of_getElem? (i := 945) (by decide +kernel), List.mem_of_getElem? (i := 946) (by decide +kernel)⟩
theorem lw_p26 : lw_okq (⟨"ConvolutionBenchModel", "againstOne", "(I)I"⟩, 27) := ⟨⟨by decide +kernel, by decide +kernel⟩, List.mem_of_getElem? (i := 718) (by decide +kernel), List.mem_of_getElem? (i := 990) (by decide +kernel), List.mem_of_getElem? (i := 991) (by decide +kernel)⟩
theorem lw_p27 : lw_okq (⟨"ConvolutionBenchModel", "take", "([JIJ)V"⟩, 27) := ⟨⟨by decide +kernel, by decide +kernel⟩, List.mem_of_getElem? (i := 718) (by decide +kernel), List.mem_of_getElem? (i := 994) (by decide +kernel), List.mem_of_getElem? (i := 995) (by decide +kernel)⟩
theorem lw_p28 : lw_okq (⟨"ConvolutionBenchModel", "keep", "(I)I"⟩, 27) := ⟨⟨by decide +kernel, by decide +kernel⟩, List.mem_of_getElem? (i := 718) (by decide +kernel), List.mem_of_getElem? (i := 998) (by decide +kernel), List.mem_of_getElem? (i := 999) (by decide +kernel)⟩
theorem lw_p29 : lw_okq (⟨"ConvolutionBenchModel", "againstTwo", "(II)I"⟩, 27) := ⟨⟨by decide +kernel, by decide +kernel⟩, List.mem_of_getElem? (i := 718) (by decide +kernel), List.mem_of_getElem? (i := 1010) (by decide +kernel), List.mem_of_getElem? (i := 1011) (by decide +kernel)⟩
theorem lw_p30 : lw_okq (⟨"ConvolutionBenchModel", "realOf", "(III)J"⟩, 27) := ⟨⟨by decide +kernel, by decide +kernel⟩, List.mem_of_getElem? (i := 718) (by decide +kernel), List.mem_of_getElem? (i := 1042) (by decide +kernel), List.mem_of_getElem? (i := 1043) (by decide +kernel)⟩
def lw_privs_2 : List (MethodName × Nat) := [(⟨"ConvolutionBenchModel", "renew", "(III)I"⟩, 27), (⟨"ConvolutionBenchModel", "laneOf", "(I)I"⟩, 27), (⟨"ConvolutionBenchModel", "count", "(I)I"⟩, 27), (⟨"ConvolutionBenchModel", "entry", "(II)J"⟩, 27), (⟨"ConvolutionBenchModel", "keepEntries", "(I)V"⟩, 27), (⟨"ConvolutionBenchModel", "transformed", "(II)V"⟩, 27), (⟨"ConvolutionBenchModel", "against", "(II)I"⟩, 27), (⟨"ConvolutionBenchModel", "greatest", "(I)J"⟩, 27), (⟨"ConvolutionBenchModel", "clearProduct", "(I)V"⟩, 27), (⟨"ConvolutionBenchModel", "add", "(IJ)V"⟩, 27), (⟨"ConvolutionBenchModel", "againstOne", "(I)I"⟩, 27), (⟨"ConvolutionBenchModel", "take", "([JIJ)V"⟩, 27), (⟨"ConvolutionBenchModel", "keep", "(I)I"⟩, 27), (⟨"ConvolutionBenchModel", "againstTwo", "(II)I"⟩, 27), (⟨"ConvolutionBenchModel", "realOf", "(III)J"⟩, 27)]
theorem lw_r2 : ∀ q ∈ lw_privs_2, lw_okq q := List.forall_mem_cons.mpr ⟨lw_p16, List.forall_mem_cons.mpr ⟨lw_p17, List.forall_mem_cons.mpr ⟨lw_p18, List.forall_mem_cons.mpr ⟨lw_p19, List.forall_mem_cons.mpr ⟨lw_p20, List.forall_mem_cons.mpr ⟨lw_p21, List.forall_mem_cons.mpr ⟨lw_p22, List.forall_mem_cons.mpr ⟨lw_p23, List.forall_mem_cons.mpr ⟨lw_p24, List.forall_mem_cons.mpr ⟨lw_p25, List.forall_mem_cons.mpr ⟨lw_p26, List.forall_mem_cons.mpr ⟨lw_p27, List.forall_mem_cons.mpr ⟨lw_p28, List.forall_mem_cons.mpr ⟨lw_p29, List.forall_mem_cons.mpr ⟨lw_p30, fun _ h => absurd h List.not_mem_nil⟩⟩⟩⟩⟩⟩⟩⟩⟩⟩⟩⟩⟩⟩⟩
def lw_privs : List (MethodName × Nat) := lw_privs_1 ++ (lw_privs_2)
def lw_tbl : List Cond := k2_sels lw_privs ++ tables_1
theorem lw_privs_ok : ∀ q ∈ lw_privs, lw_okq q := by
  show ∀ q ∈ lw_privs_1 ++ (lw_privs_2), lw_okq q
  exact List.forall_mem_append.mpr ⟨lw_r1, lw_r2⟩
/-- the streams that the claim lets the run draw from -/
abbrev lw_cs : List Choice := [Jvm.Choice.named "NaN.bits", Jvm.Choice.named "NaN.copy"]
theorem lw_bits : nanBits ∈ lw_cs := by first | decide | exact List.mem_cons_self | simp [lw_cs, nanBits]

def RX0 : String := "ConvolutionBench$Doubles"
def TX0 : u_T := fun k => match k with
  | 0 => ("ConvolutionBench$Doubles", "powers", "[D", true)
  | 1 => ("ConvolutionBench$Doubles", "left", "[D", true)
  | 2 => ("ConvolutionBench$Doubles", "right", "[D", true)
  | 3 => ("ConvolutionBench$Doubles", "leftNone", "[Z", true)
  | _ => ("ConvolutionBench$Doubles", "rightNone", "[Z", true)
def tyX0 : Nat → FieldType := fun k => match k with
  | 0 => .array .double
  | 1 => .array .double
  | 2 => .array .double
  | 3 => .array .boolean
  | _ => .array .boolean
abbrev wsX00 : List Cond := u_ws RX0 TX0 5
theorem nmX0 : ∀ a, a < 5 → ∀ b, b < 5 → a ≠ b → (TX0 a).2.1 ≠ (TX0 b).2.1 := by decide +kernel
theorem tyX0_ok : ∀ k, k < 5 → parseFieldDescriptor (TX0 k).2.2.1 = some (tyX0 k) := by decide +kernel
abbrev cX0_init : ByteArray := prog_2_method_1_code
def yX0_init : MethodName := ⟨RX0, "<init>", "()V"⟩
abbrev cX0_isNone : ByteArray := prog_2_method_2_code
def yX0_isNone : MethodName := ⟨RX0, "isNone", "(J)Z"⟩
abbrev cX0_product : ByteArray := prog_2_method_3_code
def yX0_product : MethodName := ⟨RX0, "product", "(LConvolutionBench$Row;LConvolutionBench$Row;LConvolutionBench$Shelf;)V"⟩
abbrev cX0_load : ByteArray := prog_2_method_4_code
def yX0_load : MethodName := ⟨RX0, "load", "(LConvolutionBench$Row;[D[Z)V"⟩
abbrev cX0_entryBits : ByteArray := prog_2_method_5_code
def yX0_entryBits : MethodName := ⟨RX0, "entryBits", "(III)J"⟩
abbrev cX0_isNoProduct : ByteArray := prog_2_method_6_code
def yX0_isNoProduct : MethodName := ⟨RX0, "isNoProduct", "(DD)Z"⟩
abbrev cX0_isNoSum : ByteArray := prog_2_method_7_code
def yX0_isNoSum : MethodName := ⟨RX0, "isNoSum", "(DD)Z"⟩
abbrev cX0_isInfinite : ByteArray := prog_2_method_8_code
def yX0_isInfinite : MethodName := ⟨RX0, "isInfinite", "(D)Z"⟩
abbrev cX0_fromBits : ByteArray := prog_2_method_9_code
def yX0_fromBits : MethodName := ⟨RX0, "fromBits", "(J)D"⟩
abbrev cX0_toBits : ByteArray := prog_2_method_10_code
def yX0_toBits : MethodName := ⟨RX0, "toBits", "(D)J"⟩
abbrev cX0_normalBits : ByteArray := prog_2_method_11_code
def yX0_normalBits : MethodName := ⟨RX0, "normalBits", "(D)J"⟩
abbrev cX0_scaled : ByteArray := prog_2_method_12_code
def yX0_scaled : MethodName := ⟨RX0, "scaled", "(DI)D"⟩
def RX1 : String := "ConvolutionBench$FastProduct"
def TX1 : u_T := fun k => match k with
  | 0 => ("ConvolutionBench$FastProduct", "prime", "LConvolutionBench$Prime;", true)
  | 1 => ("ConvolutionBench$FastProduct", "result", "[J", true)
  | _ => ("ConvolutionBench$FastProduct", "other", "[J", true)
def tyX1 : Nat → FieldType := fun k => match k with
  | 0 => .object "ConvolutionBench$Prime"
  | 1 => .array .long
  | _ => .array .long
abbrev wsX10 : List Cond := u_ws RX1 TX1 3
theorem nmX1 : ∀ a, a < 3 → ∀ b, b < 3 → a ≠ b → (TX1 a).2.1 ≠ (TX1 b).2.1 := by decide +kernel
theorem tyX1_ok : ∀ k, k < 3 → parseFieldDescriptor (TX1 k).2.2.1 = some (tyX1 k) := by decide +kernel
abbrev cX1_init : ByteArray := prog_3_method_1_code
def yX1_init : MethodName := ⟨RX1, "<init>", "(LConvolutionBench$Prime;)V"⟩
abbrev cX1_run : ByteArray := prog_3_method_2_code
def yX1_run : MethodName := ⟨RX1, "run", "(LConvolutionBench$Row;LConvolutionBench$Row;)V"⟩
abbrev cX1_spread : ByteArray := prog_3_method_3_code
def yX1_spread : MethodName := ⟨RX1, "spread", "([JIJ)V"⟩
abbrev cX1_joinHalves : ByteArray := prog_3_method_4_code
def yX1_joinHalves : MethodName := ⟨RX1, "joinHalves", "([JIIJ)V"⟩
abbrev cX1_swapByBits : ByteArray := prog_3_method_5_code
def yX1_swapByBits : MethodName := ⟨RX1, "swapByBits", "([JI)V"⟩
def RX2 : String := "ConvolutionBench$Polynomials"
def TX2 : u_T := fun k => match k with
  | 0 => ("ConvolutionBench$Polynomials", "first", "[J", true)
  | 1 => ("ConvolutionBench$Polynomials", "second", "[J", true)
  | _ => ("ConvolutionBench$Polynomials", "whole", "[J", true)
def tyX2 : Nat → FieldType := fun k => match k with
  | 0 => .array .long
  | 1 => .array .long
  | _ => .array .long
abbrev wsX20 : List Cond := u_ws RX2 TX2 3
theorem nmX2 : ∀ a, a < 3 → ∀ b, b < 3 → a ≠ b → (TX2 a).2.1 ≠ (TX2 b).2.1 := by decide +kernel
theorem tyX2_ok : ∀ k, k < 3 → parseFieldDescriptor (TX2 k).2.2.1 = some (tyX2 k) := by decide +kernel
abbrev cX2_init : ByteArray := prog_4_method_1_code
def yX2_init : MethodName := ⟨RX2, "<init>", "()V"⟩
abbrev cX2_timesTransform : ByteArray := prog_4_method_2_code
def yX2_timesTransform : MethodName := ⟨RX2, "timesTransform", "(LConvolutionBench$Row;LConvolutionBench$Prime;LConvolutionBench$Shelf;)V"⟩
abbrev cX2_transformBack : ByteArray := prog_4_method_3_code
def yX2_transformBack : MethodName := ⟨RX2, "transformBack", "(LConvolutionBench$Shelf;LConvolutionBench$Prime;LConvolutionBench$Row;)V"⟩
abbrev cX2_raise : ByteArray := prog_4_method_4_code
def yX2_raise : MethodName := ⟨RX2, "raise", "(LConvolutionBench$Row;LConvolutionBench$Prime;ILConvolutionBench$Shelf;)V"⟩
abbrev cX2_multiplyShort : ByteArray := prog_4_method_5_code
def yX2_multiplyShort : MethodName := ⟨RX2, "multiplyShort", "([J[JILConvolutionBench$Prime;)V"⟩
abbrev cX2_invert : ByteArray := prog_4_method_6_code
def yX2_invert : MethodName := ⟨RX2, "invert", "(LConvolutionBench$Row;LConvolutionBench$Prime;LConvolutionBench$Shelf;)V"⟩
abbrev cX2_part : ByteArray := prog_4_method_7_code
def yX2_part : MethodName := ⟨RX2, "part", "(LConvolutionBench$Row;LConvolutionBench$Row;LConvolutionBench$Prime;LConvolutionBench$Shelf;LConvolutionBench$Shelf;)V"⟩
abbrev cX2_valuesAt : ByteArray := prog_4_method_8_code
def yX2_valuesAt : MethodName := ⟨RX2, "valuesAt", "(LConvolutionBench$Row;LConvolutionBench$Row;LConvolutionBench$Prime;LConvolutionBench$Shelf;)V"⟩
abbrev cX2_through : ByteArray := prog_4_method_9_code
def yX2_through : MethodName := ⟨RX2, "through", "(LConvolutionBench$Row;LConvolutionBench$Row;LConvolutionBench$Prime;LConvolutionBench$Shelf;)V"⟩
abbrev cX2_fillWhole : ByteArray := prog_4_method_10_code
def yX2_fillWhole : MethodName := ⟨RX2, "fillWhole", "(ILConvolutionBench$Prime;)V"⟩
abbrev cX2_leaveOut : ByteArray := prog_4_method_11_code
def yX2_leaveOut : MethodName := ⟨RX2, "leaveOut", "(JILConvolutionBench$Prime;)V"⟩
def RX3 : String := "ConvolutionBench$Prime"
def TX3 : u_T := fun k => match k with
  | _ => ("ConvolutionBench$Prime", "modulus", "J", true)
def tyX3 : Nat → FieldType := fun k => match k with
  | _ => .long
abbrev wsX30 : List Cond := u_ws RX3 TX3 1
theorem nmX3 : ∀ a, a < 1 → ∀ b, b < 1 → a ≠ b → (TX3 a).2.1 ≠ (TX3 b).2.1 := by decide +kernel
theorem tyX3_ok : ∀ k, k < 1 → parseFieldDescriptor (TX3 k).2.2.1 = some (tyX3 k) := by decide +kernel
abbrev cX3_init : ByteArray := prog_5_method_1_code
def yX3_init : MethodName := ⟨RX3, "<init>", "(J)V"⟩
abbrev cX3_reduced : ByteArray := prog_5_method_2_code
def yX3_reduced : MethodName := ⟨RX3, "reduced", "(J)J"⟩
abbrev cX3_product : ByteArray := prog_5_method_3_code
def yX3_product : MethodName := ⟨RX3, "product", "(JJ)J"⟩
abbrev cX3_sum : ByteArray := prog_5_method_4_code
def yX3_sum : MethodName := ⟨RX3, "sum", "(JJ)J"⟩
abbrev cX3_difference : ByteArray := prog_5_method_5_code
def yX3_difference : MethodName := ⟨RX3, "difference", "(JJ)J"⟩
abbrev cX3_raised : ByteArray := prog_5_method_6_code
def yX3_raised : MethodName := ⟨RX3, "raised", "(JJ)J"⟩
abbrev cX3_reciprocal : ByteArray := prog_5_method_7_code
def yX3_reciprocal : MethodName := ⟨RX3, "reciprocal", "(J)J"⟩
abbrev cX3_hasRoot : ByteArray := prog_5_method_8_code
def yX3_hasRoot : MethodName := ⟨RX3, "hasRoot", "(I)Z"⟩
abbrev cX3_rootFor : ByteArray := prog_5_method_9_code
def yX3_rootFor : MethodName := ⟨RX3, "rootFor", "(I)J"⟩
abbrev cX3_load : ByteArray := prog_5_method_10_code
def yX3_load : MethodName := ⟨RX3, "load", "(LConvolutionBench$Row;[J)V"⟩
abbrev cX3_valueAt : ByteArray := prog_5_method_11_code
def yX3_valueAt : MethodName := ⟨RX3, "valueAt", "([JIJ)J"⟩
abbrev cX3_degreeOf : ByteArray := prog_5_method_12_code
def yX3_degreeOf : MethodName := ⟨RX3, "degreeOf", "(LConvolutionBench$Row;)I"⟩
abbrev cX3_anyAlike : ByteArray := prog_5_method_13_code
def yX3_anyAlike : MethodName := ⟨RX3, "anyAlike", "(LConvolutionBench$Row;)Z"⟩
def RX4 : String := "ConvolutionBench$Products"
def TX4 : u_T := fun k => match k with
  | 0 => ("ConvolutionBench$Products", "upper", "[J", true)
  | 1 => ("ConvolutionBench$Products", "lower", "[J", true)
  | 2 => ("ConvolutionBench$Products", "count", "I", false)
  | 3 => ("ConvolutionBench$Products", "sum", "LConvolutionBench$Wide;", true)
  | 4 => ("ConvolutionBench$Products", "over0", "LConvolutionBench$FastProduct;", true)
  | 5 => ("ConvolutionBench$Products", "over1", "LConvolutionBench$FastProduct;", true)
  | 6 => ("ConvolutionBench$Products", "over2", "LConvolutionBench$FastProduct;", true)
  | 7 => ("ConvolutionBench$Products", "inverse0Over1", "J", true)
  | _ => ("ConvolutionBench$Products", "inverse01Over2", "J", true)
def tyX4 : Nat → FieldType := fun k => match k with
  | 0 => .array .long
  | 1 => .array .long
  | 2 => .int
  | 3 => .object "ConvolutionBench$Wide"
  | 4 => .object "ConvolutionBench$FastProduct"
  | 5 => .object "ConvolutionBench$FastProduct"
  | 6 => .object "ConvolutionBench$FastProduct"
  | 7 => .long
  | _ => .long
abbrev wsX40 : List Cond := u_ws RX4 TX4 9
theorem nmX4 : ∀ a, a < 9 → ∀ b, b < 9 → a ≠ b → (TX4 a).2.1 ≠ (TX4 b).2.1 := by decide +kernel
theorem tyX4_ok : ∀ k, k < 9 → parseFieldDescriptor (TX4 k).2.2.1 = some (tyX4 k) := by decide +kernel
abbrev cX4_init : ByteArray := prog_6_method_1_code
def yX4_init : MethodName := ⟨RX4, "<init>", "(LConvolutionBench$Prime;LConvolutionBench$Prime;LConvolutionBench$Prime;)V"⟩
abbrev cX4_has : ByteArray := prog_6_method_2_code
def yX4_has : MethodName := ⟨RX4, "has", "(I)Z"⟩
abbrev cX4_anyBelowZero : ByteArray := prog_6_method_3_code
def yX4_anyBelowZero : MethodName := ⟨RX4, "anyBelowZero", "()Z"⟩
abbrev cX4_keepSum : ByteArray := prog_6_method_4_code
def yX4_keepSum : MethodName := ⟨RX4, "keepSum", "(I)V"⟩
abbrev cX4_byPlainSums : ByteArray := prog_6_method_5_code
def yX4_byPlainSums : MethodName := ⟨RX4, "byPlainSums", "(LConvolutionBench$Row;LConvolutionBench$Row;)V"⟩
abbrev cX4_fitsOnePrime : ByteArray := prog_6_method_6_code
def yX4_fitsOnePrime : MethodName := ⟨RX4, "fitsOnePrime", "(LConvolutionBench$Row;LConvolutionBench$Row;)Z"⟩
abbrev cX4_byOnePrime : ByteArray := prog_6_method_7_code
def yX4_byOnePrime : MethodName := ⟨RX4, "byOnePrime", "(LConvolutionBench$Row;LConvolutionBench$Row;)V"⟩
abbrev cX4_byThreePrimes : ByteArray := prog_6_method_8_code
def yX4_byThreePrimes : MethodName := ⟨RX4, "byThreePrimes", "(LConvolutionBench$Row;LConvolutionBench$Row;)V"⟩
abbrev cX4_join : ByteArray := prog_6_method_9_code
def yX4_join : MethodName := ⟨RX4, "join", "(JJJ)V"⟩
abbrev cX4_around : ByteArray := prog_6_method_10_code
def yX4_around : MethodName := ⟨RX4, "around", "(LConvolutionBench$Row;LConvolutionBench$Row;I)V"⟩
abbrev cX4_alongside : ByteArray := prog_6_method_11_code
def yX4_alongside : MethodName := ⟨RX4, "alongside", "(LConvolutionBench$Row;LConvolutionBench$Row;)V"⟩
abbrev cX4_windows : ByteArray := prog_6_method_12_code
def yX4_windows : MethodName := ⟨RX4, "windows", "(LConvolutionBench$Row;I)V"⟩
abbrev cX4_digitsInto : ByteArray := prog_6_method_13_code
def yX4_digitsInto : MethodName := ⟨RX4, "digitsInto", "([JI)I"⟩
def RX5 : String := "ConvolutionBench$Row"
def TX5 : u_T := fun k => match k with
  | 0 => ("ConvolutionBench$Row", "lane", "I", true)
  | _ => ("ConvolutionBench$Row", "cells", "[J", true)
def tyX5 : Nat → FieldType := fun k => match k with
  | 0 => .int
  | _ => .array .long
abbrev wsX50 : List Cond := u_ws RX5 TX5 2
theorem nmX5 : ∀ a, a < 2 → ∀ b, b < 2 → a ≠ b → (TX5 a).2.1 ≠ (TX5 b).2.1 := by decide +kernel
theorem tyX5_ok : ∀ k, k < 2 → parseFieldDescriptor (TX5 k).2.2.1 = some (tyX5 k) := by decide +kernel
abbrev cX5_init : ByteArray := prog_7_method_1_code
def yX5_init : MethodName := ⟨RX5, "<init>", "(II)V"⟩
abbrev cX5_size : ByteArray := prog_7_method_2_code
def yX5_size : MethodName := ⟨RX5, "size", "()I"⟩
abbrev cX5_has : ByteArray := prog_7_method_3_code
def yX5_has : MethodName := ⟨RX5, "has", "(I)Z"⟩
abbrev cX5_narrowed : ByteArray := prog_7_method_4_code
def yX5_narrowed : MethodName := ⟨RX5, "narrowed", "(J)J"⟩
abbrev cX5_flip : ByteArray := prog_7_method_5_code
def yX5_flip : MethodName := ⟨RX5, "flip", "(II)V"⟩
abbrev cX5_turn : ByteArray := prog_7_method_6_code
def yX5_turn : MethodName := ⟨RX5, "turn", "(I)V"⟩
abbrev cX5_greatestSize : ByteArray := prog_7_method_7_code
def yX5_greatestSize : MethodName := ⟨RX5, "greatestSize", "()J"⟩
def RX6 : String := "ConvolutionBench$Shelf"
def TX6 : u_T := fun k => match k with
  | 0 => ("ConvolutionBench$Shelf", "cells", "[J", true)
  | _ => ("ConvolutionBench$Shelf", "count", "I", false)
def tyX6 : Nat → FieldType := fun k => match k with
  | 0 => .array .long
  | _ => .int
abbrev wsX60 : List Cond := u_ws RX6 TX6 2
theorem nmX6 : ∀ a, a < 2 → ∀ b, b < 2 → a ≠ b → (TX6 a).2.1 ≠ (TX6 b).2.1 := by decide +kernel
theorem tyX6_ok : ∀ k, k < 2 → parseFieldDescriptor (TX6 k).2.2.1 = some (tyX6 k) := by decide +kernel
abbrev cX6_init : ByteArray := prog_8_method_1_code
def yX6_init : MethodName := ⟨RX6, "<init>", "(I)V"⟩
abbrev cX6_get : ByteArray := prog_8_method_2_code
def yX6_get : MethodName := ⟨RX6, "get", "(IJ)J"⟩
def RX7 : String := "ConvolutionBench$Wide"
def TX7 : u_T := fun k => match k with
  | 0 => ("ConvolutionBench$Wide", "upper", "J", false)
  | _ => ("ConvolutionBench$Wide", "lower", "J", false)
def tyX7 : Nat → FieldType := fun k => match k with
  | 0 => .long
  | _ => .long
abbrev wsX70 : List Cond := u_ws RX7 TX7 2
theorem nmX7 : ∀ a, a < 2 → ∀ b, b < 2 → a ≠ b → (TX7 a).2.1 ≠ (TX7 b).2.1 := by decide +kernel
theorem tyX7_ok : ∀ k, k < 2 → parseFieldDescriptor (TX7 k).2.2.1 = some (tyX7 k) := by decide +kernel
abbrev cX7_init : ByteArray := prog_9_method_1_code
def yX7_init : MethodName := ⟨RX7, "<init>", "()V"⟩
abbrev cX7_clear : ByteArray := prog_9_method_2_code
def yX7_clear : MethodName := ⟨RX7, "clear", "()V"⟩
abbrev cX7_add : ByteArray := prog_9_method_3_code
def yX7_add : MethodName := ⟨RX7, "add", "(J)V"⟩
abbrev cX7_addPair : ByteArray := prog_9_method_4_code
def yX7_addPair : MethodName := ⟨RX7, "addPair", "(JJ)V"⟩
abbrev cX7_addProduct : ByteArray := prog_9_method_5_code
def yX7_addProduct : MethodName := ⟨RX7, "addProduct", "(JJ)V"⟩
abbrev cX7_takeDigit : ByteArray := prog_9_method_6_code
def yX7_takeDigit : MethodName := ⟨RX7, "takeDigit", "(I)J"⟩
def RX8 : String := "ConvolutionBench"
def TX8 : u_T := fun k => match k with
  | 0 => ("ConvolutionBench", "places", "[LConvolutionBench$Row;", true)
  | 1 => ("ConvolutionBench", "primes", "[LConvolutionBench$Prime;", true)
  | 2 => ("ConvolutionBench", "products", "LConvolutionBench$Products;", true)
  | 3 => ("ConvolutionBench", "polynomials", "LConvolutionBench$Polynomials;", true)
  | 4 => ("ConvolutionBench", "doubles", "LConvolutionBench$Doubles;", true)
  | 5 => ("ConvolutionBench", "spectrum", "LConvolutionBench$Shelf;", true)
  | 6 => ("ConvolutionBench", "residues", "LConvolutionBench$Shelf;", true)
  | 7 => ("ConvolutionBench", "rests", "LConvolutionBench$Shelf;", true)
  | 8 => ("ConvolutionBench", "fits", "LConvolutionBench$Shelf;", true)
  | 9 => ("ConvolutionBench", "reals", "LConvolutionBench$Shelf;", true)
  | 10 => ("ConvolutionBench", "digits", "[J", true)
  | 11 => ("ConvolutionBench", "spectrumPrime", "I", false)
  | _ => ("ConvolutionBench", "latestFault", "I", false)
def tyX8 : Nat → FieldType := fun k => match k with
  | 0 => .array (.object "ConvolutionBench$Row")
  | 1 => .array (.object "ConvolutionBench$Prime")
  | 2 => .object "ConvolutionBench$Products"
  | 3 => .object "ConvolutionBench$Polynomials"
  | 4 => .object "ConvolutionBench$Doubles"
  | 5 => .object "ConvolutionBench$Shelf"
  | 6 => .object "ConvolutionBench$Shelf"
  | 7 => .object "ConvolutionBench$Shelf"
  | 8 => .object "ConvolutionBench$Shelf"
  | 9 => .object "ConvolutionBench$Shelf"
  | 10 => .array .long
  | 11 => .int
  | _ => .int
abbrev wsX80 : List Cond := u_ws RX8 TX8 13
theorem nmX8 : ∀ a, a < 13 → ∀ b, b < 13 → a ≠ b → (TX8 a).2.1 ≠ (TX8 b).2.1 := by decide +kernel
theorem tyX8_ok : ∀ k, k < 13 → parseFieldDescriptor (TX8 k).2.2.1 = some (tyX8 k) := by decide +kernel
abbrev cX8_init : ByteArray := prog_1_method_1_code
def yX8_init : MethodName := ⟨RX8, "<init>", "()V"⟩
abbrev cX8_row : ByteArray := prog_1_method_2_code
def yX8_row : MethodName := ⟨RX8, "row", "(III)I"⟩
abbrev cX8_share : ByteArray := prog_1_method_3_code
def yX8_share : MethodName := ⟨RX8, "share", "(II)I"⟩
abbrev cX8_kind : ByteArray := prog_1_method_4_code
def yX8_kind : MethodName := ⟨RX8, "kind", "(II)I"⟩
abbrev cX8_put : ByteArray := prog_1_method_5_code
def yX8_put : MethodName := ⟨RX8, "put", "(IIJ)I"⟩
abbrev cX8_at : ByteArray := prog_1_method_6_code
def yX8_at : MethodName := ⟨RX8, "at", "(II)J"⟩
abbrev cX8_as : ByteArray := prog_1_method_7_code
def yX8_as : MethodName := ⟨RX8, "as", "(III)J"⟩
abbrev cX8_reverse : ByteArray := prog_1_method_8_code
def yX8_reverse : MethodName := ⟨RX8, "reverse", "(I)I"⟩
abbrev cX8_shift : ByteArray := prog_1_method_9_code
def yX8_shift : MethodName := ⟨RX8, "shift", "(II)I"⟩
abbrev cX8_root : ByteArray := prog_1_method_10_code
def yX8_root : MethodName := ⟨RX8, "root", "(II)J"⟩
abbrev cX8_transform : ByteArray := prog_1_method_11_code
def yX8_transform : MethodName := ⟨RX8, "transform", "(II)I"⟩
abbrev cX8_times : ByteArray := prog_1_method_12_code
def yX8_times : MethodName := ⟨RX8, "times", "(I)I"⟩
abbrev cX8_value : ByteArray := prog_1_method_13_code
def yX8_value : MethodName := ⟨RX8, "value", "(I)J"⟩
abbrev cX8_inverse : ByteArray := prog_1_method_14_code
def yX8_inverse : MethodName := ⟨RX8, "inverse", "(I)I"⟩
abbrev cX8_multiply : ByteArray := prog_1_method_15_code
def yX8_multiply : MethodName := ⟨RX8, "multiply", "(III)I"⟩
abbrev cX8_circular : ByteArray := prog_1_method_16_code
def yX8_circular : MethodName := ⟨RX8, "circular", "(III)I"⟩
abbrev cX8_correlate : ByteArray := prog_1_method_17_code
def yX8_correlate : MethodName := ⟨RX8, "correlate", "(II)I"⟩
abbrev cX8_slide : ByteArray := prog_1_method_18_code
def yX8_slide : MethodName := ⟨RX8, "slide", "(II)I"⟩
abbrev cX8_high : ByteArray := prog_1_method_19_code
def yX8_high : MethodName := ⟨RX8, "high", "(I)J"⟩
abbrev cX8_low : ByteArray := prog_1_method_20_code
def yX8_low : MethodName := ⟨RX8, "low", "(I)J"⟩
abbrev cX8_carry : ByteArray := prog_1_method_21_code
def yX8_carry : MethodName := ⟨RX8, "carry", "(II)I"⟩
abbrev cX8_cost : ByteArray := prog_1_method_22_code
def yX8_cost : MethodName := ⟨RX8, "cost", "(III)I"⟩
abbrev cX8_plan : ByteArray := prog_1_method_23_code
def yX8_plan : MethodName := ⟨RX8, "plan", "(II)I"⟩
abbrev cX8_power : ByteArray := prog_1_method_24_code
def yX8_power : MethodName := ⟨RX8, "power", "(IIII)I"⟩
abbrev cX8_series : ByteArray := prog_1_method_25_code
def yX8_series : MethodName := ⟨RX8, "series", "(III)I"⟩
abbrev cX8_divide : ByteArray := prog_1_method_26_code
def yX8_divide : MethodName := ⟨RX8, "divide", "(III)I"⟩
abbrev cX8_evaluate : ByteArray := prog_1_method_27_code
def yX8_evaluate : MethodName := ⟨RX8, "evaluate", "(III)I"⟩
abbrev cX8_interpolate : ByteArray := prog_1_method_28_code
def yX8_interpolate : MethodName := ⟨RX8, "interpolate", "(III)I"⟩
abbrev cX8_residue : ByteArray := prog_1_method_29_code
def yX8_residue : MethodName := ⟨RX8, "residue", "(I)J"⟩
abbrev cX8_rest : ByteArray := prog_1_method_30_code
def yX8_rest : MethodName := ⟨RX8, "rest", "(I)J"⟩
abbrev cX8_match : ByteArray := prog_1_method_31_code
def yX8_match : MethodName := ⟨RX8, "match", "(IIJ)I"⟩
abbrev cX8_matchAt : ByteArray := prog_1_method_32_code
def yX8_matchAt : MethodName := ⟨RX8, "matchAt", "(I)I"⟩
abbrev cX8_real : ByteArray := prog_1_method_33_code
def yX8_real : MethodName := ⟨RX8, "real", "(II)I"⟩
abbrev cX8_realAt : ByteArray := prog_1_method_34_code
def yX8_realAt : MethodName := ⟨RX8, "realAt", "(I)J"⟩
abbrev cX8_fault : ByteArray := prog_1_method_35_code
def yX8_fault : MethodName := ⟨RX8, "fault", "()I"⟩
abbrev cX8_told : ByteArray := prog_1_method_36_code
def yX8_told : MethodName := ⟨RX8, "told", "(I)I"⟩
abbrev cX8_faulted : ByteArray := prog_1_method_37_code
def yX8_faulted : MethodName := ⟨RX8, "faulted", "(I)I"⟩
abbrev cX8_faultedLong : ByteArray := prog_1_method_38_code
def yX8_faultedLong : MethodName := ⟨RX8, "faultedLong", "(I)J"⟩
abbrev cX8_entryOf : ByteArray := prog_1_method_39_code
def yX8_entryOf : MethodName := ⟨RX8, "entryOf", "(LConvolutionBench$Row;I)J"⟩
abbrev cX8_isPlace : ByteArray := prog_1_method_40_code
def yX8_isPlace : MethodName := ⟨RX8, "isPlace", "(I)Z"⟩
abbrev cX8_isPrime : ByteArray := prog_1_method_41_code
def yX8_isPrime : MethodName := ⟨RX8, "isPrime", "(I)Z"⟩
abbrev cX8_isLane : ByteArray := prog_1_method_42_code
def yX8_isLane : MethodName := ⟨RX8, "isLane", "(I)Z"⟩
abbrev cX8_isWay : ByteArray := prog_1_method_43_code
def yX8_isWay : MethodName := ⟨RX8, "isWay", "(I)Z"⟩
abbrev cX8_isCount : ByteArray := prog_1_method_44_code
def yX8_isCount : MethodName := ⟨RX8, "isCount", "(I)Z"⟩
abbrev cX8_isFit : ByteArray := prog_1_method_45_code
def yX8_isFit : MethodName := ⟨RX8, "isFit", "(LConvolutionBench$Row;LConvolutionBench$Row;IJ)Z"⟩
abbrev cX8_costOf : ByteArray := prog_1_method_46_code
def yX8_costOf : MethodName := ⟨RX8, "costOf", "(III)I"⟩
abbrev cX8_exponentFor : ByteArray := prog_1_method_47_code
def yX8_exponentFor : MethodName := ⟨RX8, "exponentFor", "(I)I"⟩
def RX9 : String := "ConvolutionBenchModel"
def TX9 : u_T := fun k => match k with
  | 0 => ("ConvolutionBenchModel", "fault", "I", false)
  | 1 => ("ConvolutionBenchModel", "rowOf", "[I", true)
  | 2 => ("ConvolutionBenchModel", "lane", "[I", true)
  | 3 => ("ConvolutionBenchModel", "many", "[I", true)
  | 4 => ("ConvolutionBenchModel", "entries", "[J", true)
  | 5 => ("ConvolutionBenchModel", "spectrumMany", "I", false)
  | 6 => ("ConvolutionBenchModel", "spectrumPrime", "I", false)
  | 7 => ("ConvolutionBenchModel", "spectrum", "[J", true)
  | 8 => ("ConvolutionBenchModel", "productMany", "I", false)
  | 9 => ("ConvolutionBenchModel", "upper", "[J", true)
  | 10 => ("ConvolutionBenchModel", "lower", "[J", true)
  | 11 => ("ConvolutionBenchModel", "residueMany", "I", false)
  | 12 => ("ConvolutionBenchModel", "residues", "[J", true)
  | 13 => ("ConvolutionBenchModel", "restMany", "I", false)
  | 14 => ("ConvolutionBenchModel", "rests", "[J", true)
  | 15 => ("ConvolutionBenchModel", "fitMany", "I", false)
  | 16 => ("ConvolutionBenchModel", "fits", "[I", true)
  | 17 => ("ConvolutionBenchModel", "realMany", "I", false)
  | 18 => ("ConvolutionBenchModel", "reals", "[J", true)
  | 19 => ("ConvolutionBenchModel", "draft", "[J", true)
  | 20 => ("ConvolutionBenchModel", "values", "[J", true)
  | 21 => ("ConvolutionBenchModel", "digits", "[I", true)
  | 22 => ("ConvolutionBenchModel", "carried", "[J", true)
  | 23 => ("ConvolutionBenchModel", "one", "[J", true)
  | 24 => ("ConvolutionBenchModel", "two", "[J", true)
  | 25 => ("ConvolutionBenchModel", "out", "[J", true)
  | _ => ("ConvolutionBenchModel", "basis", "[J", true)
def tyX9 : Nat → FieldType := fun k => match k with
  | 0 => .int
  | 1 => .array .int
  | 2 => .array .int
  | 3 => .array .int
  | 4 => .array .long
  | 5 => .int
  | 6 => .int
  | 7 => .array .long
  | 8 => .int
  | 9 => .array .long
  | 10 => .array .long
  | 11 => .int
  | 12 => .array .long
  | 13 => .int
  | 14 => .array .long
  | 15 => .int
  | 16 => .array .int
  | 17 => .int
  | 18 => .array .long
  | 19 => .array .long
  | 20 => .array .long
  | 21 => .array .int
  | 22 => .array .long
  | 23 => .array .long
  | 24 => .array .long
  | 25 => .array .long
  | _ => .array .long
abbrev wsX90 : List Cond := u_ws RX9 TX9 27
theorem nmX9 : ∀ a, a < 27 → ∀ b, b < 27 → a ≠ b → (TX9 a).2.1 ≠ (TX9 b).2.1 := by decide +kernel
theorem tyX9_ok : ∀ k, k < 27 → parseFieldDescriptor (TX9 k).2.2.1 = some (tyX9 k) := by decide +kernel
abbrev cX9_init : ByteArray := prog_11_method_1_code
def yX9_init : MethodName := ⟨RX9, "<init>", "()V"⟩
abbrev cX9_fails : ByteArray := prog_11_method_3_code
def yX9_fails : MethodName := ⟨RX9, "fails", "(I)I"⟩
abbrev cX9_within : ByteArray := prog_11_method_4_code
def yX9_within : MethodName := ⟨RX9, "within", "(III)Z"⟩
abbrev cX9_isPlace : ByteArray := prog_11_method_5_code
def yX9_isPlace : MethodName := ⟨RX9, "isPlace", "(I)Z"⟩
abbrev cX9_isPrime : ByteArray := prog_11_method_6_code
def yX9_isPrime : MethodName := ⟨RX9, "isPrime", "(I)Z"⟩
abbrev cX9_prime : ByteArray := prog_11_method_7_code
def yX9_prime : MethodName := ⟨RX9, "prime", "(I)J"⟩
abbrev cX9_renew : ByteArray := prog_11_method_8_code
def yX9_renew : MethodName := ⟨RX9, "renew", "(III)I"⟩
abbrev cX9_entry : ByteArray := prog_11_method_9_code
def yX9_entry : MethodName := ⟨RX9, "entry", "(II)J"⟩
abbrev cX9_count : ByteArray := prog_11_method_10_code
def yX9_count : MethodName := ⟨RX9, "count", "(I)I"⟩
abbrev cX9_laneOf : ByteArray := prog_11_method_11_code
def yX9_laneOf : MethodName := ⟨RX9, "laneOf", "(I)I"⟩
abbrev cX9_row : ByteArray := prog_11_method_12_code
def yX9_row : MethodName := ⟨RX9, "row", "(III)I"⟩
abbrev cX9_share : ByteArray := prog_11_method_13_code
def yX9_share : MethodName := ⟨RX9, "share", "(II)I"⟩
abbrev cX9_kind : ByteArray := prog_11_method_14_code
def yX9_kind : MethodName := ⟨RX9, "kind", "(II)I"⟩
abbrev cX9_isNumber : ByteArray := prog_11_method_15_code
def yX9_isNumber : MethodName := ⟨RX9, "isNumber", "(J)Z"⟩
abbrev cX9_comes : ByteArray := prog_11_method_16_code
def yX9_comes : MethodName := ⟨RX9, "comes", "(IJ)J"⟩
abbrev cX9_put : ByteArray := prog_11_method_17_code
def yX9_put : MethodName := ⟨RX9, "put", "(IIJ)I"⟩
abbrev cX9_at : ByteArray := prog_11_method_18_code
def yX9_at : MethodName := ⟨RX9, "at", "(II)J"⟩
abbrev cX9_as : ByteArray := prog_11_method_19_code
def yX9_as : MethodName := ⟨RX9, "as", "(III)J"⟩
abbrev cX9_keepEntries : ByteArray := prog_11_method_20_code
def yX9_keepEntries : MethodName := ⟨RX9, "keepEntries", "(I)V"⟩
abbrev cX9_reverse : ByteArray := prog_11_method_21_code
def yX9_reverse : MethodName := ⟨RX9, "reverse", "(I)I"⟩
abbrev cX9_shift : ByteArray := prog_11_method_22_code
def yX9_shift : MethodName := ⟨RX9, "shift", "(II)I"⟩
abbrev cX9_residueOf : ByteArray := prog_11_method_23_code
def yX9_residueOf : MethodName := ⟨RX9, "residueOf", "(JJ)J"⟩
abbrev cX9_powerOf : ByteArray := prog_11_method_24_code
def yX9_powerOf : MethodName := ⟨RX9, "powerOf", "(JJJ)J"⟩
abbrev cX9_inverseOf : ByteArray := prog_11_method_25_code
def yX9_inverseOf : MethodName := ⟨RX9, "inverseOf", "(JJ)J"⟩
abbrev cX9_rootOf : ByteArray := prog_11_method_26_code
def yX9_rootOf : MethodName := ⟨RX9, "rootOf", "(II)J"⟩
abbrev cX9_hasRoot : ByteArray := prog_11_method_27_code
def yX9_hasRoot : MethodName := ⟨RX9, "hasRoot", "(II)Z"⟩
abbrev cX9_root : ByteArray := prog_11_method_28_code
def yX9_root : MethodName := ⟨RX9, "root", "(II)J"⟩
abbrev cX9_transformed : ByteArray := prog_11_method_29_code
def yX9_transformed : MethodName := ⟨RX9, "transformed", "(II)V"⟩
abbrev cX9_transform : ByteArray := prog_11_method_30_code
def yX9_transform : MethodName := ⟨RX9, "transform", "(II)I"⟩
abbrev cX9_times : ByteArray := prog_11_method_31_code
def yX9_times : MethodName := ⟨RX9, "times", "(I)I"⟩
abbrev cX9_value : ByteArray := prog_11_method_32_code
def yX9_value : MethodName := ⟨RX9, "value", "(I)J"⟩
abbrev cX9_inverse : ByteArray := prog_11_method_33_code
def yX9_inverse : MethodName := ⟨RX9, "inverse", "(I)I"⟩
abbrev cX9_clearProduct : ByteArray := prog_11_method_34_code
def yX9_clearProduct : MethodName := ⟨RX9, "clearProduct", "(I)V"⟩
abbrev cX9_add : ByteArray := prog_11_method_35_code
def yX9_add : MethodName := ⟨RX9, "add", "(IJ)V"⟩
abbrev cX9_against : ByteArray := prog_11_method_36_code
def yX9_against : MethodName := ⟨RX9, "against", "(II)I"⟩
abbrev cX9_greatest : ByteArray := prog_11_method_37_code
def yX9_greatest : MethodName := ⟨RX9, "greatest", "(I)J"⟩
abbrev cX9_multiply : ByteArray := prog_11_method_38_code
def yX9_multiply : MethodName := ⟨RX9, "multiply", "(III)I"⟩
abbrev cX9_circular : ByteArray := prog_11_method_39_code
def yX9_circular : MethodName := ⟨RX9, "circular", "(III)I"⟩
abbrev cX9_correlate : ByteArray := prog_11_method_40_code
def yX9_correlate : MethodName := ⟨RX9, "correlate", "(II)I"⟩
abbrev cX9_slide : ByteArray := prog_11_method_41_code
def yX9_slide : MethodName := ⟨RX9, "slide", "(II)I"⟩
abbrev cX9_high : ByteArray := prog_11_method_42_code
def yX9_high : MethodName := ⟨RX9, "high", "(I)J"⟩
abbrev cX9_low : ByteArray := prog_11_method_43_code
def yX9_low : MethodName := ⟨RX9, "low", "(I)J"⟩
abbrev cX9_carry : ByteArray := prog_11_method_44_code
def yX9_carry : MethodName := ⟨RX9, "carry", "(II)I"⟩
abbrev cX9_costOf : ByteArray := prog_11_method_45_code
def yX9_costOf : MethodName := ⟨RX9, "costOf", "(III)I"⟩
abbrev cX9_cost : ByteArray := prog_11_method_46_code
def yX9_cost : MethodName := ⟨RX9, "cost", "(III)I"⟩
abbrev cX9_plan : ByteArray := prog_11_method_47_code
def yX9_plan : MethodName := ⟨RX9, "plan", "(II)I"⟩
abbrev cX9_take : ByteArray := prog_11_method_48_code
def yX9_take : MethodName := ⟨RX9, "take", "([JIJ)V"⟩
abbrev cX9_againstOne : ByteArray := prog_11_method_49_code
def yX9_againstOne : MethodName := ⟨RX9, "againstOne", "(I)I"⟩
abbrev cX9_againstTwo : ByteArray := prog_11_method_50_code
def yX9_againstTwo : MethodName := ⟨RX9, "againstTwo", "(II)I"⟩
abbrev cX9_keep : ByteArray := prog_11_method_51_code
def yX9_keep : MethodName := ⟨RX9, "keep", "(I)I"⟩
abbrev cX9_power : ByteArray := prog_11_method_52_code
def yX9_power : MethodName := ⟨RX9, "power", "(IIII)I"⟩
abbrev cX9_series : ByteArray := prog_11_method_53_code
def yX9_series : MethodName := ⟨RX9, "series", "(III)I"⟩
abbrev cX9_divide : ByteArray := prog_11_method_54_code
def yX9_divide : MethodName := ⟨RX9, "divide", "(III)I"⟩
abbrev cX9_evaluate : ByteArray := prog_11_method_55_code
def yX9_evaluate : MethodName := ⟨RX9, "evaluate", "(III)I"⟩
abbrev cX9_interpolate : ByteArray := prog_11_method_56_code
def yX9_interpolate : MethodName := ⟨RX9, "interpolate", "(III)I"⟩
abbrev cX9_residue : ByteArray := prog_11_method_57_code
def yX9_residue : MethodName := ⟨RX9, "residue", "(I)J"⟩
abbrev cX9_rest : ByteArray := prog_11_method_58_code
def yX9_rest : MethodName := ⟨RX9, "rest", "(I)J"⟩
abbrev cX9_match : ByteArray := prog_11_method_59_code
def yX9_match : MethodName := ⟨RX9, "match", "(IIJ)I"⟩
abbrev cX9_matchAt : ByteArray := prog_11_method_60_code
def yX9_matchAt : MethodName := ⟨RX9, "matchAt", "(I)I"⟩
abbrev cX9_isNone : ByteArray := prog_11_method_61_code
def yX9_isNone : MethodName := ⟨RX9, "isNone", "(DD)Z"⟩
abbrev cX9_realOf : ByteArray := prog_11_method_62_code
def yX9_realOf : MethodName := ⟨RX9, "realOf", "(III)J"⟩
abbrev cX9_real : ByteArray := prog_11_method_63_code
def yX9_real : MethodName := ⟨RX9, "real", "(II)I"⟩
abbrev cX9_realAt : ByteArray := prog_11_method_64_code
def yX9_realAt : MethodName := ⟨RX9, "realAt", "(I)J"⟩
abbrev cX9_fault : ByteArray := prog_11_method_65_code
def yX9_fault : MethodName := ⟨RX9, "fault", "()I"⟩
abbrev cX9_told : ByteArray := prog_11_method_66_code
def yX9_told : MethodName := ⟨RX9, "told", "(I)I"⟩
def RJxe99ae : String := "java/lang/Double"
def TJxe99ae : u_T := fun k => match k with
  | _ => ("", "", "", false)
def tyJxe99ae : Nat → FieldType := fun k => match k with
  | _ => .int
abbrev wsJxe99ae0 : List Cond := u_ws RJxe99ae TJxe99ae 0
theorem nmJxe99ae : ∀ a, a < 0 → ∀ b, b < 0 → a ≠ b → (TJxe99ae a).2.1 ≠ (TJxe99ae b).2.1 := by decide +kernel
theorem tyJxe99ae_ok : ∀ k, k < 0 → parseFieldDescriptor (TJxe99ae k).2.2.1 = some (tyJxe99ae k) := by decide +kernel
abbrev cJxe99ae_isNaN_b9ae7 : ByteArray := prog_12_method_6_code
def yJxe99ae_isNaN_b9ae7 : MethodName := ⟨RJxe99ae, "isNaN", "(D)Z"⟩
abbrev cJxe99ae_doubleToLongBits_ccdee : ByteArray := prog_12_method_23_code
def yJxe99ae_doubleToLongBits_ccdee : MethodName := ⟨RJxe99ae, "doubleToLongBits", "(D)J"⟩
def RJ9 : String := "java/lang/Math"
def TJ9 : u_T := fun k => match k with
  | _ => ("", "", "", false)
def tyJ9 : Nat → FieldType := fun k => match k with
  | _ => .int
abbrev wsJ90 : List Cond := u_ws RJ9 TJ9 0
theorem nmJ9 : ∀ a, a < 0 → ∀ b, b < 0 → a ≠ b → (TJ9 a).2.1 ≠ (TJ9 b).2.1 := by decide +kernel
theorem tyJ9_ok : ∀ k, k < 0 → parseFieldDescriptor (TJ9 k).2.2.1 = some (tyJ9 k) := by decide +kernel
abbrev cJ9_floorMod_7cf53 : ByteArray := prog_13_method_50_code
def yJ9_floorMod_7cf53 : MethodName := ⟨RJ9, "floorMod", "(II)I"⟩
abbrev cJ9_floorMod_f86c9 : ByteArray := prog_13_method_52_code
def yJ9_floorMod_f86c9 : MethodName := ⟨RJ9, "floorMod", "(JJ)J"⟩
abbrev cJ9_abs_0f7a4 : ByteArray := prog_13_method_59_code
def yJ9_abs_0f7a4 : MethodName := ⟨RJ9, "abs", "(I)I"⟩
abbrev cJ9_abs_067f4 : ByteArray := prog_13_method_61_code
def yJ9_abs_067f4 : MethodName := ⟨RJ9, "abs", "(J)J"⟩
abbrev cJ9_max_7cf53 : ByteArray := prog_13_method_65_code
def yJ9_max_7cf53 : MethodName := ⟨RJ9, "max", "(II)I"⟩
abbrev cJ9_max_f86c9 : ByteArray := prog_13_method_66_code
def yJ9_max_f86c9 : MethodName := ⟨RJ9, "max", "(JJ)J"⟩
abbrev cJ9_min_7cf53 : ByteArray := prog_13_method_69_code
def yJ9_min_7cf53 : MethodName := ⟨RJ9, "min", "(II)I"⟩
def RL : String := "ConvolutionBenchLaw"
abbrev cL_law : ByteArray := code
def yL_law : MethodName := ⟨RL, "law", "([I)Z"⟩

theorem fL_law_0 : ft 190 0 = some (.new 7, 8, 0, 44, .null) := by decide +kernel
theorem gL_law_0 {L : List (Option Value)} {st : List Value} {H : HP} {Q : Option Value → HP → Prop} : Go 190 0 L st H Q ↔ Go 190 3 L (.ref H.1 :: st) (hnew H (cO 8 [.null, .null, .null, .null, .null, .null, .null, .null, .null, .null, .null, .int 0, .int 0]) 13) Q := G_new fL_law_0 (by decide +kernel)
theorem fL_law_3 : ft 190 3 = some (.dup, 0, 0, 0, .null) := by decide +kernel
theorem gL_law_3 {L : List (Option Value)} {u : Nat} {st : List Value} {H : HP} {Q : Option Value → HP → Prop} : Go 190 3 L (.ref u :: st) H Q ↔ Go 190 4 L (.ref u :: .ref u :: st) H Q := G_dup fL_law_3 rfl
theorem fL_law_4 : ft 190 4 = some (.invokespecial 9, 69, 0, 46, .null) := by decide +kernel
theorem gL_law_4 {L : List (Option Value)} {p : Nat}  {r0 : Nat} {H : HP} {Q : Option Value → HP → Prop} : Go 190 4 L (.ref p :: [.ref r0]) H Q ↔ Go 69 0 [some (.ref p)] [] H (Cont 190 7 L [.ref r0] Q) := G_cI (n := 0) (N := 1) (as := []) (st := [.ref r0]) fL_law_4 (by decide +kernel) rfl (Nat.le_of_ble_eq_true rfl) (Nat.le_of_ble_eq_true rfl) rfl
theorem fL_law_7 : ft 190 7 = some (.astore_n 1, 0, 0, 0, .null) := by decide +kernel
theorem gL_law_7 {l0 l1 l2 l3 : Option Value} {u : Nat} {st : List Value} {H : HP} {Q : Option Value → HP → Prop} : Go 190 7 [l0, l1, l2, l3] (.ref u :: st) H Q ↔ Go 190 8 [l0, some (.ref u), l2, l3] st H Q := G_astore_n fL_law_7 rfl
theorem gL_law_7N {l0 l1 l2 l3 : Option Value} {st : List Value} {H : HP} {Q : Option Value → HP → Prop} : Go 190 7 [l0, l1, l2, l3] (.null :: st) H Q ↔ Go 190 8 [l0, some .null, l2, l3] st H Q := G_astore_nN fL_law_7 rfl
theorem fL_law_8 : ft 190 8 = some (.new 10, 9, 0, 748, .null) := by decide +kernel
theorem gL_law_8 {L : List (Option Value)} {st : List Value} {H : HP} {Q : Option Value → HP → Prop} : Go 190 8 L st H Q ↔ Go 190 11 L (.ref H.1 :: st) (hnew H (cO 9 [.int 0, .null, .null, .null, .null, .int 0, .int 0, .null, .int 0, .null, .null, .int 0, .null, .int 0, .null, .int 0, .null, .int 0, .null, .null, .null, .null, .null, .null, .null, .null, .null]) 27) Q := G_new fL_law_8 (by decide +kernel)
theorem fL_law_11 : ft 190 11 = some (.dup, 0, 0, 0, .null) := by decide +kernel
theorem gL_law_11 {L : List (Option Value)} {u : Nat} {st : List Value} {H : HP} {Q : Option Value → HP → Prop} : Go 190 11 L (.ref u :: st) H Q ↔ Go 190 12 L (.ref u :: .ref u :: st) H Q := G_dup fL_law_11 rfl
theorem fL_law_12 : ft 190 12 = some (.invokespecial 12, 116, 0, 750, .null) := by decide +kernel
theorem gL_law_12 {L : List (Option Value)} {p : Nat}  {r0 : Nat} {H : HP} {Q : Option Value → HP → Prop} : Go 190 12 L (.ref p :: [.ref r0]) H Q ↔ Go 116 0 [some (.ref p)] [] H (Cont 190 15 L [.ref r0] Q) := G_cI (n := 0) (N := 1) (as := []) (st := [.ref r0]) fL_law_12 (by decide +kernel) rfl (Nat.le_of_ble_eq_true rfl) (Nat.le_of_ble_eq_true rfl) rfl
theorem fL_law_15 : ft 190 15 = some (.astore_n 2, 0, 0, 0, .null) := by decide +kernel
theorem gL_law_15 {l0 l1 l2 l3 : Option Value} {u : Nat} {st : List Value} {H : HP} {Q : Option Value → HP → Prop} : Go 190 15 [l0, l1, l2, l3] (.ref u :: st) H Q ↔ Go 190 16 [l0, l1, some (.ref u), l3] st H Q := G_astore_n fL_law_15 rfl
theorem gL_law_15N {l0 l1 l2 l3 : Option Value} {st : List Value} {H : HP} {Q : Option Value → HP → Prop} : Go 190 15 [l0, l1, l2, l3] (.null :: st) H Q ↔ Go 190 16 [l0, l1, some .null, l3] st H Q := G_astore_nN fL_law_15 rfl
theorem fL_law_16 : ft 190 16 = some (.iconst 0, 0, 0, 0, .null) := by decide +kernel
theorem gL_law_16 {L : List (Option Value)} {st : List Value} {H : HP} {Q : Option Value → HP → Prop} : Go 190 16 L st H Q ↔ Go 190 17 L (vi 0 :: st) H Q := G_iconst fL_law_16
theorem fL_law_17 : ft 190 17 = some (.istore_n 3, 0, 0, 0, .null) := by decide +kernel
theorem gL_law_17 {l0 l1 l2 l3 : Option Value} {u : Int32} {st : List Value} {H : HP} {Q : Option Value → HP → Prop} : Go 190 17 [l0, l1, l2, l3] (.int u :: st) H Q ↔ Go 190 18 [l0, l1, l2, some (.int u)] st H Q := G_istore_n fL_law_17 rfl
theorem fL_law_18 : ft 190 18 = some (.iload_n 3, 0, 0, 0, .null) := by decide +kernel
theorem gL_law_18 {l0 l1 l2 : Option Value} {u : Int32} {st : List Value} {H : HP} {Q : Option Value → HP → Prop} : Go 190 18 [l0, l1, l2, some (.int u)] st H Q ↔ Go 190 19 [l0, l1, l2, some (.int u)] (.int u :: st) H Q := G_iload_n fL_law_18 rfl
theorem fL_law_19 : ft 190 19 = some (.aload_n 0, 0, 0, 0, .null) := by decide +kernel
theorem gL_law_19 {l1 l2 l3 : Option Value} {u : Nat} {st : List Value} {H : HP} {Q : Option Value → HP → Prop} : Go 190 19 [some (.ref u), l1, l2, l3] st H Q ↔ Go 190 20 [some (.ref u), l1, l2, l3] (.ref u :: st) H Q := G_aload_n fL_law_19 rfl
theorem fL_law_20 : ft 190 20 = some (.arraylength, 0, 0, 0, .null) := by decide +kernel
theorem gL_law_20 {L : List (Option Value)} {p : Nat} {st : List Value} {H : HP} {Q : Option Value → HP → Prop} : Go 190 20 L (.ref p :: st) H Q ↔ Rd (aN' (hget H p)) 190 21 L st H Q := G_alen fL_law_20
theorem fL_law_21 : ft 190 21 = some (.iconst 5, 0, 0, 0, .null) := by decide +kernel
theorem gL_law_21 {L : List (Option Value)} {st : List Value} {H : HP} {Q : Option Value → HP → Prop} : Go 190 21 L st H Q ↔ Go 190 22 L (vi 5 :: st) H Q := G_iconst fL_law_21
theorem fL_law_22 : ft 190 22 = some (.isub, 0, 0, 0, .null) := by decide +kernel
theorem gL_law_22 {L : List (Option Value)} {a b : Int} {st : List Value} {H : HP} {Q : Option Value → HP → Prop} : Go 190 22 L (vi b :: vi a :: st) H Q ↔ Go 190 23 L (vi (a - b) :: st) H Q := G_isub fL_law_22
theorem fL_law_23 : ft 190 23 = some (.if_icmp .gt 1395, 0, 0, 0, .null) := by decide +kernel
theorem gL_law_23T {L : List (Option Value)} {a b : Int} (c : (-2147483648 ≤ a ∧ a ≤ 2147483647 ∧ -2147483648 ≤ b ∧ b ≤ 2147483647) ∧ b < a) {st : List Value} {H : HP} {Q : Option Value → HP → Prop} : Go 190 23 L (vi b :: vi a :: st) H Q ↔ Go 190 1418 L st H Q := G_icT fL_law_23 (by decide) c
theorem gL_law_23F {L : List (Option Value)} {a b : Int} (c : (-2147483648 ≤ a ∧ a ≤ 2147483647 ∧ -2147483648 ≤ b ∧ b ≤ 2147483647) ∧ ¬ (b < a)) {st : List Value} {H : HP} {Q : Option Value → HP → Prop} : Go 190 23 L (vi b :: vi a :: st) H Q ↔ Go 190 26 L st H Q := G_icF (tg := 1418) fL_law_23 (by decide) c
theorem fL_law_26 : ft 190 26 = some (.aload_n 0, 0, 0, 0, .null) := by decide +kernel
theorem gL_law_26 {l1 l2 l3 : Option Value} {u : Nat} {st : List Value} {H : HP} {Q : Option Value → HP → Prop} : Go 190 26 [some (.ref u), l1, l2, l3] st H Q ↔ Go 190 27 [some (.ref u), l1, l2, l3] (.ref u :: st) H Q := G_aload_n fL_law_26 rfl
theorem fL_law_27 : ft 190 27 = some (.iload_n 3, 0, 0, 0, .null) := by decide +kernel
theorem gL_law_27 {l0 l1 l2 : Option Value} {u : Int32} {st : List Value} {H : HP} {Q : Option Value → HP → Prop} : Go 190 27 [l0, l1, l2, some (.int u)] st H Q ↔ Go 190 28 [l0, l1, l2, some (.int u)] (.int u :: st) H Q := G_iload_n fL_law_27 rfl
theorem fL_law_28 : ft 190 28 = some (.iaload, 0, 0, 0, .null) := by decide +kernel
theorem gL_law_28 {L : List (Option Value)} {p : Nat} {a : Int} {st : List Value} {H : HP} {Q : Option Value → HP → Prop} : Go 190 28 L (vi a :: .ref p :: st) H Q ↔ Rd (aJ' (hget H p) a) 190 29 L st H Q := G_iald fL_law_28
theorem fL_law_29 : ft 190 29 = some (.bipush 63, 0, 0, 0, .null) := by decide +kernel
theorem gL_law_29 {L : List (Option Value)} {st : List Value} {H : HP} {Q : Option Value → HP → Prop} : Go 190 29 L st H Q ↔ Go 190 31 L (vi 63 :: st) H Q := G_bipush fL_law_29 (by decide)
theorem fL_law_31 : ft 190 31 = some (.iand, 0, 0, 0, .null) := by decide +kernel
theorem gL_law_31 {L : List (Option Value)} {a b : Int} {st : List Value} {H : HP} {Q : Option Value → HP → Prop} : Go 190 31 L (vi b :: vi a :: st) H Q ↔ Go 190 32 L (vi (jAnd a b) :: st) H Q := G_iand fL_law_31
theorem fL_law_32 : ft 190 32 = some (.tableswitch 1380 0 34 #[156, 199, 232, 265, 338, 372, 416, 439, 472, 506, 539, 562, 586, 609, 652, 695, 728, 761, 785, 809, 842, 885, 918, 971, 1014, 1057, 1100, 1143, 1167, 1191, 1264, 1287, 1320, 1344, 1357], 0, 0, 0, .null) := by decide +kernel
theorem gL_law_32O {L : List (Option Value)} {a : Int} (c : (-2147483648 ≤ a ∧ a ≤ 2147483647) ∧ (a < 0 ∨ 34 < a)) {st : List Value} {H : HP} {Q : Option Value → HP → Prop} : Go 190 32 L (vi a :: st) H Q ↔ Go 190 1412 L st H Q := G_swO fL_law_32 (by decide) c
theorem gL_law_32_0 {L : List (Option Value)} {a : Int} (c : a = 0) {st : List Value} {H : HP} {Q : Option Value → HP → Prop} : Go 190 32 L (vi a :: st) H Q ↔ Go 190 188 L st H Q := G_swI (i := 156) (j := 0) fL_law_32 (by decide) (by decide) (by decide) c
theorem gL_law_32_1 {L : List (Option Value)} {a : Int} (c : a = 1) {st : List Value} {H : HP} {Q : Option Value → HP → Prop} : Go 190 32 L (vi a :: st) H Q ↔ Go 190 231 L st H Q := G_swI (i := 199) (j := 1) fL_law_32 (by decide) (by decide) (by decide) c
theorem gL_law_32_2 {L : List (Option Value)} {a : Int} (c : a = 2) {st : List Value} {H : HP} {Q : Option Value → HP → Prop} : Go 190 32 L (vi a :: st) H Q ↔ Go 190 264 L st H Q := G_swI (i := 232) (j := 2) fL_law_32 (by decide) (by decide) (by decide) c
theorem gL_law_32_3 {L : List (Option Value)} {a : Int} (c : a = 3) {st : List Value} {H : HP} {Q : Option Value → HP → Prop} : Go 190 32 L (vi a :: st) H Q ↔ Go 190 297 L st H Q := G_swI (i := 265) (j := 3) fL_law_32 (by decide) (by decide) (by decide) c
theorem gL_law_32_4 {L : List (Option Value)} {a : Int} (c : a = 4) {st : List Value} {H : HP} {Q : Option Value → HP → Prop} : Go 190 32 L (vi a :: st) H Q ↔ Go 190 370 L st H Q := G_swI (i := 338) (j := 4) fL_law_32 (by decide) (by decide) (by decide) c
theorem gL_law_32_5 {L : List (Option Value)} {a : Int} (c : a = 5) {st : List Value} {H : HP} {Q : Option Value → HP → Prop} : Go 190 32 L (vi a :: st) H Q ↔ Go 190 404 L st H Q := G_swI (i := 372) (j := 5) fL_law_32 (by decide) (by decide) (by decide) c
theorem gL_law_32_6 {L : List (Option Value)} {a : Int} (c : a = 6) {st : List Value} {H : HP} {Q : Option Value → HP → Prop} : Go 190 32 L (vi a :: st) H Q ↔ Go 190 448 L st H Q := G_swI (i := 416) (j := 6) fL_law_32 (by decide) (by decide) (by decide) c
theorem gL_law_32_7 {L : List (Option Value)} {a : Int} (c : a = 7) {st : List Value} {H : HP} {Q : Option Value → HP → Prop} : Go 190 32 L (vi a :: st) H Q ↔ Go 190 471 L st H Q := G_swI (i := 439) (j := 7) fL_law_32 (by decide) (by decide) (by decide) c
theorem gL_law_32_8 {L : List (Option Value)} {a : Int} (c : a = 8) {st : List Value} {H : HP} {Q : Option Value → HP → Prop} : Go 190 32 L (vi a :: st) H Q ↔ Go 190 504 L st H Q := G_swI (i := 472) (j := 8) fL_law_32 (by decide) (by decide) (by decide) c
theorem gL_law_32_9 {L : List (Option Value)} {a : Int} (c : a = 9) {st : List Value} {H : HP} {Q : Option Value → HP → Prop} : Go 190 32 L (vi a :: st) H Q ↔ Go 190 538 L st H Q := G_swI (i := 506) (j := 9) fL_law_32 (by decide) (by decide) (by decide) c
theorem gL_law_32_10 {L : List (Option Value)} {a : Int} (c : a = 10) {st : List Value} {H : HP} {Q : Option Value → HP → Prop} : Go 190 32 L (vi a :: st) H Q ↔ Go 190 571 L st H Q := G_swI (i := 539) (j := 10) fL_law_32 (by decide) (by decide) (by decide) c
theorem gL_law_32_11 {L : List (Option Value)} {a : Int} (c : a = 11) {st : List Value} {H : HP} {Q : Option Value → HP → Prop} : Go 190 32 L (vi a :: st) H Q ↔ Go 190 594 L st H Q := G_swI (i := 562) (j := 11) fL_law_32 (by decide) (by decide) (by decide) c
theorem gL_law_32_12 {L : List (Option Value)} {a : Int} (c : a = 12) {st : List Value} {H : HP} {Q : Option Value → HP → Prop} : Go 190 32 L (vi a :: st) H Q ↔ Go 190 618 L st H Q := G_swI (i := 586) (j := 12) fL_law_32 (by decide) (by decide) (by decide) c
theorem gL_law_32_13 {L : List (Option Value)} {a : Int} (c : a = 13) {st : List Value} {H : HP} {Q : Option Value → HP → Prop} : Go 190 32 L (vi a :: st) H Q ↔ Go 190 641 L st H Q := G_swI (i := 609) (j := 13) fL_law_32 (by decide) (by decide) (by decide) c
theorem gL_law_32_14 {L : List (Option Value)} {a : Int} (c : a = 14) {st : List Value} {H : HP} {Q : Option Value → HP → Prop} : Go 190 32 L (vi a :: st) H Q ↔ Go 190 684 L st H Q := G_swI (i := 652) (j := 14) fL_law_32 (by decide) (by decide) (by decide) c
theorem gL_law_32_15 {L : List (Option Value)} {a : Int} (c : a = 15) {st : List Value} {H : HP} {Q : Option Value → HP → Prop} : Go 190 32 L (vi a :: st) H Q ↔ Go 190 727 L st H Q := G_swI (i := 695) (j := 15) fL_law_32 (by decide) (by decide) (by decide) c
theorem gL_law_32_16 {L : List (Option Value)} {a : Int} (c : a = 16) {st : List Value} {H : HP} {Q : Option Value → HP → Prop} : Go 190 32 L (vi a :: st) H Q ↔ Go 190 760 L st H Q := G_swI (i := 728) (j := 16) fL_law_32 (by decide) (by decide) (by decide) c
theorem gL_law_32_17 {L : List (Option Value)} {a : Int} (c : a = 17) {st : List Value} {H : HP} {Q : Option Value → HP → Prop} : Go 190 32 L (vi a :: st) H Q ↔ Go 190 793 L st H Q := G_swI (i := 761) (j := 17) fL_law_32 (by decide) (by decide) (by decide) c
theorem gL_law_32_18 {L : List (Option Value)} {a : Int} (c : a = 18) {st : List Value} {H : HP} {Q : Option Value → HP → Prop} : Go 190 32 L (vi a :: st) H Q ↔ Go 190 817 L st H Q := G_swI (i := 785) (j := 18) fL_law_32 (by decide) (by decide) (by decide) c
theorem gL_law_32_19 {L : List (Option Value)} {a : Int} (c : a = 19) {st : List Value} {H : HP} {Q : Option Value → HP → Prop} : Go 190 32 L (vi a :: st) H Q ↔ Go 190 841 L st H Q := G_swI (i := 809) (j := 19) fL_law_32 (by decide) (by decide) (by decide) c
theorem gL_law_32_20 {L : List (Option Value)} {a : Int} (c : a = 20) {st : List Value} {H : HP} {Q : Option Value → HP → Prop} : Go 190 32 L (vi a :: st) H Q ↔ Go 190 874 L st H Q := G_swI (i := 842) (j := 20) fL_law_32 (by decide) (by decide) (by decide) c
theorem gL_law_32_21 {L : List (Option Value)} {a : Int} (c : a = 21) {st : List Value} {H : HP} {Q : Option Value → HP → Prop} : Go 190 32 L (vi a :: st) H Q ↔ Go 190 917 L st H Q := G_swI (i := 885) (j := 21) fL_law_32 (by decide) (by decide) (by decide) c
theorem gL_law_32_22 {L : List (Option Value)} {a : Int} (c : a = 22) {st : List Value} {H : HP} {Q : Option Value → HP → Prop} : Go 190 32 L (vi a :: st) H Q ↔ Go 190 950 L st H Q := G_swI (i := 918) (j := 22) fL_law_32 (by decide) (by decide) (by decide) c
theorem gL_law_32_23 {L : List (Option Value)} {a : Int} (c : a = 23) {st : List Value} {H : HP} {Q : Option Value → HP → Prop} : Go 190 32 L (vi a :: st) H Q ↔ Go 190 1003 L st H Q := G_swI (i := 971) (j := 23) fL_law_32 (by decide) (by decide) (by decide) c
theorem gL_law_32_24 {L : List (Option Value)} {a : Int} (c : a = 24) {st : List Value} {H : HP} {Q : Option Value → HP → Prop} : Go 190 32 L (vi a :: st) H Q ↔ Go 190 1046 L st H Q := G_swI (i := 1014) (j := 24) fL_law_32 (by decide) (by decide) (by decide) c
theorem gL_law_32_25 {L : List (Option Value)} {a : Int} (c : a = 25) {st : List Value} {H : HP} {Q : Option Value → HP → Prop} : Go 190 32 L (vi a :: st) H Q ↔ Go 190 1089 L st H Q := G_swI (i := 1057) (j := 25) fL_law_32 (by decide) (by decide) (by decide) c
theorem gL_law_32_26 {L : List (Option Value)} {a : Int} (c : a = 26) {st : List Value} {H : HP} {Q : Option Value → HP → Prop} : Go 190 32 L (vi a :: st) H Q ↔ Go 190 1132 L st H Q := G_swI (i := 1100) (j := 26) fL_law_32 (by decide) (by decide) (by decide) c
theorem gL_law_32_27 {L : List (Option Value)} {a : Int} (c : a = 27) {st : List Value} {H : HP} {Q : Option Value → HP → Prop} : Go 190 32 L (vi a :: st) H Q ↔ Go 190 1175 L st H Q := G_swI (i := 1143) (j := 27) fL_law_32 (by decide) (by decide) (by decide) c
theorem gL_law_32_28 {L : List (Option Value)} {a : Int} (c : a = 28) {st : List Value} {H : HP} {Q : Option Value → HP → Prop} : Go 190 32 L (vi a :: st) H Q ↔ Go 190 1199 L st H Q := G_swI (i := 1167) (j := 28) fL_law_32 (by decide) (by decide) (by decide) c
theorem gL_law_32_29 {L : List (Option Value)} {a : Int} (c : a = 29) {st : List Value} {H : HP} {Q : Option Value → HP → Prop} : Go 190 32 L (vi a :: st) H Q ↔ Go 190 1223 L st H Q := G_swI (i := 1191) (j := 29) fL_law_32 (by decide) (by decide) (by decide) c
theorem gL_law_32_30 {L : List (Option Value)} {a : Int} (c : a = 30) {st : List Value} {H : HP} {Q : Option Value → HP → Prop} : Go 190 32 L (vi a :: st) H Q ↔ Go 190 1296 L st H Q := G_swI (i := 1264) (j := 30) fL_law_32 (by decide) (by decide) (by decide) c
theorem gL_law_32_31 {L : List (Option Value)} {a : Int} (c : a = 31) {st : List Value} {H : HP} {Q : Option Value → HP → Prop} : Go 190 32 L (vi a :: st) H Q ↔ Go 190 1319 L st H Q := G_swI (i := 1287) (j := 31) fL_law_32 (by decide) (by decide) (by decide) c
theorem gL_law_32_32 {L : List (Option Value)} {a : Int} (c : a = 32) {st : List Value} {H : HP} {Q : Option Value → HP → Prop} : Go 190 32 L (vi a :: st) H Q ↔ Go 190 1352 L st H Q := G_swI (i := 1320) (j := 32) fL_law_32 (by decide) (by decide) (by decide) c
theorem gL_law_32_33 {L : List (Option Value)} {a : Int} (c : a = 33) {st : List Value} {H : HP} {Q : Option Value → HP → Prop} : Go 190 32 L (vi a :: st) H Q ↔ Go 190 1376 L st H Q := G_swI (i := 1344) (j := 33) fL_law_32 (by decide) (by decide) (by decide) c
theorem gL_law_32_34 {L : List (Option Value)} {a : Int} (c : a = 34) {st : List Value} {H : HP} {Q : Option Value → HP → Prop} : Go 190 32 L (vi a :: st) H Q ↔ Go 190 1389 L st H Q := G_swI (i := 1357) (j := 34) fL_law_32 (by decide) (by decide) (by decide) c
theorem fL_law_188 : ft 190 188 = some (.aload_n 1, 0, 0, 0, .null) := by decide +kernel
theorem gL_law_188 {l0 l2 l3 : Option Value} {u : Nat} {st : List Value} {H : HP} {Q : Option Value → HP → Prop} : Go 190 188 [l0, some (.ref u), l2, l3] st H Q ↔ Go 190 189 [l0, some (.ref u), l2, l3] (.ref u :: st) H Q := G_aload_n fL_law_188 rfl
theorem gL_law_188N {l0 l2 l3 : Option Value} {st : List Value} {H : HP} {Q : Option Value → HP → Prop} : Go 190 188 [l0, some .null, l2, l3] st H Q ↔ Go 190 189 [l0, some .null, l2, l3] (.null :: st) H Q := G_aload_nN fL_law_188 rfl
theorem fL_law_189 : ft 190 189 = some (.aload_n 0, 0, 0, 0, .null) := by decide +kernel
theorem gL_law_189 {l1 l2 l3 : Option Value} {u : Nat} {st : List Value} {H : HP} {Q : Option Value → HP → Prop} : Go 190 189 [some (.ref u), l1, l2, l3] st H Q ↔ Go 190 190 [some (.ref u), l1, l2, l3] (.ref u :: st) H Q := G_aload_n fL_law_189 rfl
theorem fL_law_190 : ft 190 190 = some (.iload_n 3, 0, 0, 0, .null) := by decide +kernel
theorem gL_law_190 {l0 l1 l2 : Option Value} {u : Int32} {st : List Value} {H : HP} {Q : Option Value → HP → Prop} : Go 190 190 [l0, l1, l2, some (.int u)] st H Q ↔ Go 190 191 [l0, l1, l2, some (.int u)] (.int u :: st) H Q := G_iload_n fL_law_190 rfl
theorem fL_law_191 : ft 190 191 = some (.iconst 1, 0, 0, 0, .null) := by decide +kernel
theorem gL_law_191 {L : List (Option Value)} {st : List Value} {H : HP} {Q : Option Value → HP → Prop} : Go 190 191 L st H Q ↔ Go 190 192 L (vi 1 :: st) H Q := G_iconst fL_law_191
theorem fL_law_192 : ft 190 192 = some (.iadd, 0, 0, 0, .null) := by decide +kernel
theorem gL_law_192 {L : List (Option Value)} {a b : Int} {st : List Value} {H : HP} {Q : Option Value → HP → Prop} : Go 190 192 L (vi b :: vi a :: st) H Q ↔ Go 190 193 L (vi (a + b) :: st) H Q := G_iadd fL_law_192
theorem fL_law_193 : ft 190 193 = some (.iaload, 0, 0, 0, .null) := by decide +kernel
theorem gL_law_193 {L : List (Option Value)} {p : Nat} {a : Int} {st : List Value} {H : HP} {Q : Option Value → HP → Prop} : Go 190 193 L (vi a :: .ref p :: st) H Q ↔ Rd (aJ' (hget H p) a) 190 194 L st H Q := G_iald fL_law_193
theorem fL_law_194 : ft 190 194 = some (.aload_n 0, 0, 0, 0, .null) := by decide +kernel
theorem gL_law_194 {l1 l2 l3 : Option Value} {u : Nat} {st : List Value} {H : HP} {Q : Option Value → HP → Prop} : Go 190 194 [some (.ref u), l1, l2, l3] st H Q ↔ Go 190 195 [some (.ref u), l1, l2, l3] (.ref u :: st) H Q := G_aload_n fL_law_194 rfl
theorem fL_law_195 : ft 190 195 = some (.iload_n 3, 0, 0, 0, .null) := by decide +kernel
theorem gL_law_195 {l0 l1 l2 : Option Value} {u : Int32} {st : List Value} {H : HP} {Q : Option Value → HP → Prop} : Go 190 195 [l0, l1, l2, some (.int u)] st H Q ↔ Go 190 196 [l0, l1, l2, some (.int u)] (.int u :: st) H Q := G_iload_n fL_law_195 rfl
theorem fL_law_196 : ft 190 196 = some (.iconst 2, 0, 0, 0, .null) := by decide +kernel
theorem gL_law_196 {L : List (Option Value)} {st : List Value} {H : HP} {Q : Option Value → HP → Prop} : Go 190 196 L st H Q ↔ Go 190 197 L (vi 2 :: st) H Q := G_iconst fL_law_196
theorem fL_law_197 : ft 190 197 = some (.iadd, 0, 0, 0, .null) := by decide +kernel
theorem gL_law_197 {L : List (Option Value)} {a b : Int} {st : List Value} {H : HP} {Q : Option Value → HP → Prop} : Go 190 197 L (vi b :: vi a :: st) H Q ↔ Go 190 198 L (vi (a + b) :: st) H Q := G_iadd fL_law_197
theorem fL_law_198 : ft 190 198 = some (.iaload, 0, 0, 0, .null) := by decide +kernel
theorem gL_law_198 {L : List (Option Value)} {p : Nat} {a : Int} {st : List Value} {H : HP} {Q : Option Value → HP → Prop} : Go 190 198 L (vi a :: .ref p :: st) H Q ↔ Rd (aJ' (hget H p) a) 190 199 L st H Q := G_iald fL_law_198
theorem fL_law_199 : ft 190 199 = some (.aload_n 0, 0, 0, 0, .null) := by decide +kernel
theorem gL_law_199 {l1 l2 l3 : Option Value} {u : Nat} {st : List Value} {H : HP} {Q : Option Value → HP → Prop} : Go 190 199 [some (.ref u), l1, l2, l3] st H Q ↔ Go 190 200 [some (.ref u), l1, l2, l3] (.ref u :: st) H Q := G_aload_n fL_law_199 rfl
theorem fL_law_200 : ft 190 200 = some (.iload_n 3, 0, 0, 0, .null) := by decide +kernel
theorem gL_law_200 {l0 l1 l2 : Option Value} {u : Int32} {st : List Value} {H : HP} {Q : Option Value → HP → Prop} : Go 190 200 [l0, l1, l2, some (.int u)] st H Q ↔ Go 190 201 [l0, l1, l2, some (.int u)] (.int u :: st) H Q := G_iload_n fL_law_200 rfl
theorem fL_law_201 : ft 190 201 = some (.iconst 3, 0, 0, 0, .null) := by decide +kernel
theorem gL_law_201 {L : List (Option Value)} {st : List Value} {H : HP} {Q : Option Value → HP → Prop} : Go 190 201 L st H Q ↔ Go 190 202 L (vi 3 :: st) H Q := G_iconst fL_law_201
theorem fL_law_202 : ft 190 202 = some (.iadd, 0, 0, 0, .null) := by decide +kernel
theorem gL_law_202 {L : List (Option Value)} {a b : Int} {st : List Value} {H : HP} {Q : Option Value → HP → Prop} : Go 190 202 L (vi b :: vi a :: st) H Q ↔ Go 190 203 L (vi (a + b) :: st) H Q := G_iadd fL_law_202
theorem fL_law_203 : ft 190 203 = some (.iaload, 0, 0, 0, .null) := by decide +kernel
theorem gL_law_203 {L : List (Option Value)} {p : Nat} {a : Int} {st : List Value} {H : HP} {Q : Option Value → HP → Prop} : Go 190 203 L (vi a :: .ref p :: st) H Q ↔ Rd (aJ' (hget H p) a) 190 204 L st H Q := G_iald fL_law_203
theorem fL_law_204 : ft 190 204 = some (.invokevirtual 13, 70, 0, 261, .null) := by decide +kernel
theorem gL_law_204 {L : List (Option Value)} {p : Nat} {a0 : Int32} {a1 : Int32} {a2 : Int32}  {H : HP} {Q : Option Value → HP → Prop} : Go 190 204 L (.int a2 :: .int a1 :: .int a0 :: .ref p :: []) H Q ↔ (iso 8 (hget H p) = true ∧ Go 70 0 [some (.ref p), some (.int a0), some (.int a1), some (.int a2)] [] H (Cont 190 207 L [] Q)) := G_cV (n := 3) (N := 4) (as := [.int a2, .int a1, .int a0]) (st := []) fL_law_204 (by decide +kernel) rfl (Nat.le_of_ble_eq_true rfl) (Nat.le_of_ble_eq_true rfl) rfl
theorem fL_law_207 : ft 190 207 = some (.aload_n 2, 0, 0, 0, .null) := by decide +kernel
theorem gL_law_207 {l0 l1 l3 : Option Value} {u : Nat} {st : List Value} {H : HP} {Q : Option Value → HP → Prop} : Go 190 207 [l0, l1, some (.ref u), l3] st H Q ↔ Go 190 208 [l0, l1, some (.ref u), l3] (.ref u :: st) H Q := G_aload_n fL_law_207 rfl
theorem gL_law_207N {l0 l1 l3 : Option Value} {st : List Value} {H : HP} {Q : Option Value → HP → Prop} : Go 190 207 [l0, l1, some .null, l3] st H Q ↔ Go 190 208 [l0, l1, some .null, l3] (.null :: st) H Q := G_aload_nN fL_law_207 rfl
theorem fL_law_208 : ft 190 208 = some (.aload_n 0, 0, 0, 0, .null) := by decide +kernel
theorem gL_law_208 {l1 l2 l3 : Option Value} {u : Nat} {st : List Value} {H : HP} {Q : Option Value → HP → Prop} : Go 190 208 [some (.ref u), l1, l2, l3] st H Q ↔ Go 190 209 [some (.ref u), l1, l2, l3] (.ref u :: st) H Q := G_aload_n fL_law_208 rfl
theorem fL_law_209 : ft 190 209 = some (.iload_n 3, 0, 0, 0, .null) := by decide +kernel
theorem gL_law_209 {l0 l1 l2 : Option Value} {u : Int32} {st : List Value} {H : HP} {Q : Option Value → HP → Prop} : Go 190 209 [l0, l1, l2, some (.int u)] st H Q ↔ Go 190 210 [l0, l1, l2, some (.int u)] (.int u :: st) H Q := G_iload_n fL_law_209 rfl
theorem fL_law_210 : ft 190 210 = some (.iconst 1, 0, 0, 0, .null) := by decide +kernel
theorem gL_law_210 {L : List (Option Value)} {st : List Value} {H : HP} {Q : Option Value → HP → Prop} : Go 190 210 L st H Q ↔ Go 190 211 L (vi 1 :: st) H Q := G_iconst fL_law_210
theorem fL_law_211 : ft 190 211 = some (.iadd, 0, 0, 0, .null) := by decide +kernel
theorem gL_law_211 {L : List (Option Value)} {a b : Int} {st : List Value} {H : HP} {Q : Option Value → HP → Prop} : Go 190 211 L (vi b :: vi a :: st) H Q ↔ Go 190 212 L (vi (a + b) :: st) H Q := G_iadd fL_law_211
theorem fL_law_212 : ft 190 212 = some (.iaload, 0, 0, 0, .null) := by decide +kernel
theorem gL_law_212 {L : List (Option Value)} {p : Nat} {a : Int} {st : List Value} {H : HP} {Q : Option Value → HP → Prop} : Go 190 212 L (vi a :: .ref p :: st) H Q ↔ Rd (aJ' (hget H p) a) 190 213 L st H Q := G_iald fL_law_212
theorem fL_law_213 : ft 190 213 = some (.aload_n 0, 0, 0, 0, .null) := by decide +kernel
theorem gL_law_213 {l1 l2 l3 : Option Value} {u : Nat} {st : List Value} {H : HP} {Q : Option Value → HP → Prop} : Go 190 213 [some (.ref u), l1, l2, l3] st H Q ↔ Go 190 214 [some (.ref u), l1, l2, l3] (.ref u :: st) H Q := G_aload_n fL_law_213 rfl
theorem fL_law_214 : ft 190 214 = some (.iload_n 3, 0, 0, 0, .null) := by decide +kernel
theorem gL_law_214 {l0 l1 l2 : Option Value} {u : Int32} {st : List Value} {H : HP} {Q : Option Value → HP → Prop} : Go 190 214 [l0, l1, l2, some (.int u)] st H Q ↔ Go 190 215 [l0, l1, l2, some (.int u)] (.int u :: st) H Q := G_iload_n fL_law_214 rfl
theorem fL_law_215 : ft 190 215 = some (.iconst 2, 0, 0, 0, .null) := by decide +kernel
theorem gL_law_215 {L : List (Option Value)} {st : List Value} {H : HP} {Q : Option Value → HP → Prop} : Go 190 215 L st H Q ↔ Go 190 216 L (vi 2 :: st) H Q := G_iconst fL_law_215
theorem fL_law_216 : ft 190 216 = some (.iadd, 0, 0, 0, .null) := by decide +kernel
theorem gL_law_216 {L : List (Option Value)} {a b : Int} {st : List Value} {H : HP} {Q : Option Value → HP → Prop} : Go 190 216 L (vi b :: vi a :: st) H Q ↔ Go 190 217 L (vi (a + b) :: st) H Q := G_iadd fL_law_216
theorem fL_law_217 : ft 190 217 = some (.iaload, 0, 0, 0, .null) := by decide +kernel
theorem gL_law_217 {L : List (Option Value)} {p : Nat} {a : Int} {st : List Value} {H : HP} {Q : Option Value → HP → Prop} : Go 190 217 L (vi a :: .ref p :: st) H Q ↔ Rd (aJ' (hget H p) a) 190 218 L st H Q := G_iald fL_law_217
theorem fL_law_218 : ft 190 218 = some (.aload_n 0, 0, 0, 0, .null) := by decide +kernel
theorem gL_law_218 {l1 l2 l3 : Option Value} {u : Nat} {st : List Value} {H : HP} {Q : Option Value → HP → Prop} : Go 190 218 [some (.ref u), l1, l2, l3] st H Q ↔ Go 190 219 [some (.ref u), l1, l2, l3] (.ref u :: st) H Q := G_aload_n fL_law_218 rfl
theorem fL_law_219 : ft 190 219 = some (.iload_n 3, 0, 0, 0, .null) := by decide +kernel
theorem gL_law_219 {l0 l1 l2 : Option Value} {u : Int32} {st : List Value} {H : HP} {Q : Option Value → HP → Prop} : Go 190 219 [l0, l1, l2, some (.int u)] st H Q ↔ Go 190 220 [l0, l1, l2, some (.int u)] (.int u :: st) H Q := G_iload_n fL_law_219 rfl
theorem fL_law_220 : ft 190 220 = some (.iconst 3, 0, 0, 0, .null) := by decide +kernel
theorem gL_law_220 {L : List (Option Value)} {st : List Value} {H : HP} {Q : Option Value → HP → Prop} : Go 190 220 L st H Q ↔ Go 190 221 L (vi 3 :: st) H Q := G_iconst fL_law_220
theorem fL_law_221 : ft 190 221 = some (.iadd, 0, 0, 0, .null) := by decide +kernel
theorem gL_law_221 {L : List (Option Value)} {a b : Int} {st : List Value} {H : HP} {Q : Option Value → HP → Prop} : Go 190 221 L (vi b :: vi a :: st) H Q ↔ Go 190 222 L (vi (a + b) :: st) H Q := G_iadd fL_law_221
theorem fL_law_222 : ft 190 222 = some (.iaload, 0, 0, 0, .null) := by decide +kernel
theorem gL_law_222 {L : List (Option Value)} {p : Nat} {a : Int} {st : List Value} {H : HP} {Q : Option Value → HP → Prop} : Go 190 222 L (vi a :: .ref p :: st) H Q ↔ Rd (aJ' (hget H p) a) 190 223 L st H Q := G_iald fL_law_222
theorem fL_law_223 : ft 190 223 = some (.invokevirtual 17, 126, 0, 837, .null) := by decide +kernel
theorem gL_law_223 {L : List (Option Value)} {p : Nat} {a0 : Int32} {a1 : Int32} {a2 : Int32} {r0 : Int32} {H : HP} {Q : Option Value → HP → Prop} : Go 190 223 L (.int a2 :: .int a1 :: .int a0 :: .ref p :: [.int r0]) H Q ↔ (iso 9 (hget H p) = true ∧ Go 126 0 [some (.ref p), some (.int a0), some (.int a1), some (.int a2)] [] H (Cont 190 226 L [.int r0] Q)) := G_cV (n := 3) (N := 4) (as := [.int a2, .int a1, .int a0]) (st := [.int r0]) fL_law_223 (by decide +kernel) rfl (Nat.le_of_ble_eq_true rfl) (Nat.le_of_ble_eq_true rfl) rfl
theorem fL_law_226 : ft 190 226 = some (.if_icmp .eq 1186, 0, 0, 0, .null) := by decide +kernel
theorem gL_law_226T {L : List (Option Value)} {a b : Int} (c : (-2147483648 ≤ a ∧ a ≤ 2147483647 ∧ -2147483648 ≤ b ∧ b ≤ 2147483647) ∧ a = b) {st : List Value} {H : HP} {Q : Option Value → HP → Prop} : Go 190 226 L (vi b :: vi a :: st) H Q ↔ Go 190 1412 L st H Q := G_icT fL_law_226 (by decide) c
theorem gL_law_226F {L : List (Option Value)} {a b : Int} (c : (-2147483648 ≤ a ∧ a ≤ 2147483647 ∧ -2147483648 ≤ b ∧ b ≤ 2147483647) ∧ ¬ (a = b)) {st : List Value} {H : HP} {Q : Option Value → HP → Prop} : Go 190 226 L (vi b :: vi a :: st) H Q ↔ Go 190 229 L st H Q := G_icF (tg := 1412) fL_law_226 (by decide) c
theorem fL_law_229 : ft 190 229 = some (.iconst 0, 0, 0, 0, .null) := by decide +kernel
theorem gL_law_229 {L : List (Option Value)} {st : List Value} {H : HP} {Q : Option Value → HP → Prop} : Go 190 229 L st H Q ↔ Go 190 230 L (vi 0 :: st) H Q := G_iconst fL_law_229
theorem fL_law_230 : ft 190 230 = some (.ireturn, 0, 0, 0, .null) := by decide +kernel
theorem gL_law_230 {L : List (Option Value)} {a : Int} (c : a = 0 ∨ a = 1) {H : HP} {Q : Option Value → HP → Prop} : Go 190 230 L [vi a] H Q ↔ Q (some (vi a)) H := G_zret fL_law_230 (by decide +kernel) c
theorem fL_law_231 : ft 190 231 = some (.aload_n 1, 0, 0, 0, .null) := by decide +kernel
theorem gL_law_231 {l0 l2 l3 : Option Value} {u : Nat} {st : List Value} {H : HP} {Q : Option Value → HP → Prop} : Go 190 231 [l0, some (.ref u), l2, l3] st H Q ↔ Go 190 232 [l0, some (.ref u), l2, l3] (.ref u :: st) H Q := G_aload_n fL_law_231 rfl
theorem gL_law_231N {l0 l2 l3 : Option Value} {st : List Value} {H : HP} {Q : Option Value → HP → Prop} : Go 190 231 [l0, some .null, l2, l3] st H Q ↔ Go 190 232 [l0, some .null, l2, l3] (.null :: st) H Q := G_aload_nN fL_law_231 rfl
theorem fL_law_232 : ft 190 232 = some (.aload_n 0, 0, 0, 0, .null) := by decide +kernel
theorem gL_law_232 {l1 l2 l3 : Option Value} {u : Nat} {st : List Value} {H : HP} {Q : Option Value → HP → Prop} : Go 190 232 [some (.ref u), l1, l2, l3] st H Q ↔ Go 190 233 [some (.ref u), l1, l2, l3] (.ref u :: st) H Q := G_aload_n fL_law_232 rfl
theorem fL_law_233 : ft 190 233 = some (.iload_n 3, 0, 0, 0, .null) := by decide +kernel
theorem gL_law_233 {l0 l1 l2 : Option Value} {u : Int32} {st : List Value} {H : HP} {Q : Option Value → HP → Prop} : Go 190 233 [l0, l1, l2, some (.int u)] st H Q ↔ Go 190 234 [l0, l1, l2, some (.int u)] (.int u :: st) H Q := G_iload_n fL_law_233 rfl
theorem fL_law_234 : ft 190 234 = some (.iconst 1, 0, 0, 0, .null) := by decide +kernel
theorem gL_law_234 {L : List (Option Value)} {st : List Value} {H : HP} {Q : Option Value → HP → Prop} : Go 190 234 L st H Q ↔ Go 190 235 L (vi 1 :: st) H Q := G_iconst fL_law_234
theorem fL_law_235 : ft 190 235 = some (.iadd, 0, 0, 0, .null) := by decide +kernel
theorem gL_law_235 {L : List (Option Value)} {a b : Int} {st : List Value} {H : HP} {Q : Option Value → HP → Prop} : Go 190 235 L (vi b :: vi a :: st) H Q ↔ Go 190 236 L (vi (a + b) :: st) H Q := G_iadd fL_law_235
theorem fL_law_236 : ft 190 236 = some (.iaload, 0, 0, 0, .null) := by decide +kernel
theorem gL_law_236 {L : List (Option Value)} {p : Nat} {a : Int} {st : List Value} {H : HP} {Q : Option Value → HP → Prop} : Go 190 236 L (vi a :: .ref p :: st) H Q ↔ Rd (aJ' (hget H p) a) 190 237 L st H Q := G_iald fL_law_236
theorem fL_law_237 : ft 190 237 = some (.aload_n 0, 0, 0, 0, .null) := by decide +kernel
theorem gL_law_237 {l1 l2 l3 : Option Value} {u : Nat} {st : List Value} {H : HP} {Q : Option Value → HP → Prop} : Go 190 237 [some (.ref u), l1, l2, l3] st H Q ↔ Go 190 238 [some (.ref u), l1, l2, l3] (.ref u :: st) H Q := G_aload_n fL_law_237 rfl
theorem fL_law_238 : ft 190 238 = some (.iload_n 3, 0, 0, 0, .null) := by decide +kernel
theorem gL_law_238 {l0 l1 l2 : Option Value} {u : Int32} {st : List Value} {H : HP} {Q : Option Value → HP → Prop} : Go 190 238 [l0, l1, l2, some (.int u)] st H Q ↔ Go 190 239 [l0, l1, l2, some (.int u)] (.int u :: st) H Q := G_iload_n fL_law_238 rfl
theorem fL_law_239 : ft 190 239 = some (.iconst 2, 0, 0, 0, .null) := by decide +kernel
theorem gL_law_239 {L : List (Option Value)} {st : List Value} {H : HP} {Q : Option Value → HP → Prop} : Go 190 239 L st H Q ↔ Go 190 240 L (vi 2 :: st) H Q := G_iconst fL_law_239
theorem fL_law_240 : ft 190 240 = some (.iadd, 0, 0, 0, .null) := by decide +kernel
theorem gL_law_240 {L : List (Option Value)} {a b : Int} {st : List Value} {H : HP} {Q : Option Value → HP → Prop} : Go 190 240 L (vi b :: vi a :: st) H Q ↔ Go 190 241 L (vi (a + b) :: st) H Q := G_iadd fL_law_240
theorem fL_law_241 : ft 190 241 = some (.iaload, 0, 0, 0, .null) := by decide +kernel
theorem gL_law_241 {L : List (Option Value)} {p : Nat} {a : Int} {st : List Value} {H : HP} {Q : Option Value → HP → Prop} : Go 190 241 L (vi a :: .ref p :: st) H Q ↔ Rd (aJ' (hget H p) a) 190 242 L st H Q := G_iald fL_law_241
theorem fL_law_242 : ft 190 242 = some (.invokevirtual 18, 71, 0, 294, .null) := by decide +kernel
theorem gL_law_242 {L : List (Option Value)} {p : Nat} {a0 : Int32} {a1 : Int32}  {H : HP} {Q : Option Value → HP → Prop} : Go 190 242 L (.int a1 :: .int a0 :: .ref p :: []) H Q ↔ (iso 8 (hget H p) = true ∧ Go 71 0 [some (.ref p), some (.int a0), some (.int a1)] [] H (Cont 190 245 L [] Q)) := G_cV (n := 2) (N := 3) (as := [.int a1, .int a0]) (st := []) fL_law_242 (by decide +kernel) rfl (Nat.le_of_ble_eq_true rfl) (Nat.le_of_ble_eq_true rfl) rfl
theorem fL_law_245 : ft 190 245 = some (.aload_n 2, 0, 0, 0, .null) := by decide +kernel
theorem gL_law_245 {l0 l1 l3 : Option Value} {u : Nat} {st : List Value} {H : HP} {Q : Option Value → HP → Prop} : Go 190 245 [l0, l1, some (.ref u), l3] st H Q ↔ Go 190 246 [l0, l1, some (.ref u), l3] (.ref u :: st) H Q := G_aload_n fL_law_245 rfl
theorem gL_law_245N {l0 l1 l3 : Option Value} {st : List Value} {H : HP} {Q : Option Value → HP → Prop} : Go 190 245 [l0, l1, some .null, l3] st H Q ↔ Go 190 246 [l0, l1, some .null, l3] (.null :: st) H Q := G_aload_nN fL_law_245 rfl
theorem fL_law_246 : ft 190 246 = some (.aload_n 0, 0, 0, 0, .null) := by decide +kernel
theorem gL_law_246 {l1 l2 l3 : Option Value} {u : Nat} {st : List Value} {H : HP} {Q : Option Value → HP → Prop} : Go 190 246 [some (.ref u), l1, l2, l3] st H Q ↔ Go 190 247 [some (.ref u), l1, l2, l3] (.ref u :: st) H Q := G_aload_n fL_law_246 rfl
theorem fL_law_247 : ft 190 247 = some (.iload_n 3, 0, 0, 0, .null) := by decide +kernel
theorem gL_law_247 {l0 l1 l2 : Option Value} {u : Int32} {st : List Value} {H : HP} {Q : Option Value → HP → Prop} : Go 190 247 [l0, l1, l2, some (.int u)] st H Q ↔ Go 190 248 [l0, l1, l2, some (.int u)] (.int u :: st) H Q := G_iload_n fL_law_247 rfl
theorem fL_law_248 : ft 190 248 = some (.iconst 1, 0, 0, 0, .null) := by decide +kernel
theorem gL_law_248 {L : List (Option Value)} {st : List Value} {H : HP} {Q : Option Value → HP → Prop} : Go 190 248 L st H Q ↔ Go 190 249 L (vi 1 :: st) H Q := G_iconst fL_law_248
theorem fL_law_249 : ft 190 249 = some (.iadd, 0, 0, 0, .null) := by decide +kernel
theorem gL_law_249 {L : List (Option Value)} {a b : Int} {st : List Value} {H : HP} {Q : Option Value → HP → Prop} : Go 190 249 L (vi b :: vi a :: st) H Q ↔ Go 190 250 L (vi (a + b) :: st) H Q := G_iadd fL_law_249
theorem fL_law_250 : ft 190 250 = some (.iaload, 0, 0, 0, .null) := by decide +kernel
theorem gL_law_250 {L : List (Option Value)} {p : Nat} {a : Int} {st : List Value} {H : HP} {Q : Option Value → HP → Prop} : Go 190 250 L (vi a :: .ref p :: st) H Q ↔ Rd (aJ' (hget H p) a) 190 251 L st H Q := G_iald fL_law_250
theorem fL_law_251 : ft 190 251 = some (.aload_n 0, 0, 0, 0, .null) := by decide +kernel
theorem gL_law_251 {l1 l2 l3 : Option Value} {u : Nat} {st : List Value} {H : HP} {Q : Option Value → HP → Prop} : Go 190 251 [some (.ref u), l1, l2, l3] st H Q ↔ Go 190 252 [some (.ref u), l1, l2, l3] (.ref u :: st) H Q := G_aload_n fL_law_251 rfl
theorem fL_law_252 : ft 190 252 = some (.iload_n 3, 0, 0, 0, .null) := by decide +kernel
theorem gL_law_252 {l0 l1 l2 : Option Value} {u : Int32} {st : List Value} {H : HP} {Q : Option Value → HP → Prop} : Go 190 252 [l0, l1, l2, some (.int u)] st H Q ↔ Go 190 253 [l0, l1, l2, some (.int u)] (.int u :: st) H Q := G_iload_n fL_law_252 rfl
theorem fL_law_253 : ft 190 253 = some (.iconst 2, 0, 0, 0, .null) := by decide +kernel
theorem gL_law_253 {L : List (Option Value)} {st : List Value} {H : HP} {Q : Option Value → HP → Prop} : Go 190 253 L st H Q ↔ Go 190 254 L (vi 2 :: st) H Q := G_iconst fL_law_253
theorem fL_law_254 : ft 190 254 = some (.iadd, 0, 0, 0, .null) := by decide +kernel
theorem gL_law_254 {L : List (Option Value)} {a b : Int} {st : List Value} {H : HP} {Q : Option Value → HP → Prop} : Go 190 254 L (vi b :: vi a :: st) H Q ↔ Go 190 255 L (vi (a + b) :: st) H Q := G_iadd fL_law_254
theorem fL_law_255 : ft 190 255 = some (.iaload, 0, 0, 0, .null) := by decide +kernel
theorem gL_law_255 {L : List (Option Value)} {p : Nat} {a : Int} {st : List Value} {H : HP} {Q : Option Value → HP → Prop} : Go 190 255 L (vi a :: .ref p :: st) H Q ↔ Rd (aJ' (hget H p) a) 190 256 L st H Q := G_iald fL_law_255
theorem fL_law_256 : ft 190 256 = some (.invokevirtual 22, 127, 0, 855, .null) := by decide +kernel
theorem gL_law_256 {L : List (Option Value)} {p : Nat} {a0 : Int32} {a1 : Int32} {r0 : Int32} {H : HP} {Q : Option Value → HP → Prop} : Go 190 256 L (.int a1 :: .int a0 :: .ref p :: [.int r0]) H Q ↔ (iso 9 (hget H p) = true ∧ Go 127 0 [some (.ref p), some (.int a0), some (.int a1)] [] H (Cont 190 259 L [.int r0] Q)) := G_cV (n := 2) (N := 3) (as := [.int a1, .int a0]) (st := [.int r0]) fL_law_256 (by decide +kernel) rfl (Nat.le_of_ble_eq_true rfl) (Nat.le_of_ble_eq_true rfl) rfl
theorem fL_law_259 : ft 190 259 = some (.if_icmp .eq 1153, 0, 0, 0, .null) := by decide +kernel
theorem gL_law_259T {L : List (Option Value)} {a b : Int} (c : (-2147483648 ≤ a ∧ a ≤ 2147483647 ∧ -2147483648 ≤ b ∧ b ≤ 2147483647) ∧ a = b) {st : List Value} {H : HP} {Q : Option Value → HP → Prop} : Go 190 259 L (vi b :: vi a :: st) H Q ↔ Go 190 1412 L st H Q := G_icT fL_law_259 (by decide) c
theorem gL_law_259F {L : List (Option Value)} {a b : Int} (c : (-2147483648 ≤ a ∧ a ≤ 2147483647 ∧ -2147483648 ≤ b ∧ b ≤ 2147483647) ∧ ¬ (a = b)) {st : List Value} {H : HP} {Q : Option Value → HP → Prop} : Go 190 259 L (vi b :: vi a :: st) H Q ↔ Go 190 262 L st H Q := G_icF (tg := 1412) fL_law_259 (by decide) c
theorem fL_law_262 : ft 190 262 = some (.iconst 0, 0, 0, 0, .null) := by decide +kernel
theorem gL_law_262 {L : List (Option Value)} {st : List Value} {H : HP} {Q : Option Value → HP → Prop} : Go 190 262 L st H Q ↔ Go 190 263 L (vi 0 :: st) H Q := G_iconst fL_law_262
theorem fL_law_263 : ft 190 263 = some (.ireturn, 0, 0, 0, .null) := by decide +kernel
theorem gL_law_263 {L : List (Option Value)} {a : Int} (c : a = 0 ∨ a = 1) {H : HP} {Q : Option Value → HP → Prop} : Go 190 263 L [vi a] H Q ↔ Q (some (vi a)) H := G_zret fL_law_263 (by decide +kernel) c
theorem fL_law_264 : ft 190 264 = some (.aload_n 1, 0, 0, 0, .null) := by decide +kernel
theorem gL_law_264 {l0 l2 l3 : Option Value} {u : Nat} {st : List Value} {H : HP} {Q : Option Value → HP → Prop} : Go 190 264 [l0, some (.ref u), l2, l3] st H Q ↔ Go 190 265 [l0, some (.ref u), l2, l3] (.ref u :: st) H Q := G_aload_n fL_law_264 rfl
theorem gL_law_264N {l0 l2 l3 : Option Value} {st : List Value} {H : HP} {Q : Option Value → HP → Prop} : Go 190 264 [l0, some .null, l2, l3] st H Q ↔ Go 190 265 [l0, some .null, l2, l3] (.null :: st) H Q := G_aload_nN fL_law_264 rfl
theorem fL_law_265 : ft 190 265 = some (.aload_n 0, 0, 0, 0, .null) := by decide +kernel
theorem gL_law_265 {l1 l2 l3 : Option Value} {u : Nat} {st : List Value} {H : HP} {Q : Option Value → HP → Prop} : Go 190 265 [some (.ref u), l1, l2, l3] st H Q ↔ Go 190 266 [some (.ref u), l1, l2, l3] (.ref u :: st) H Q := G_aload_n fL_law_265 rfl
theorem fL_law_266 : ft 190 266 = some (.iload_n 3, 0, 0, 0, .null) := by decide +kernel
theorem gL_law_266 {l0 l1 l2 : Option Value} {u : Int32} {st : List Value} {H : HP} {Q : Option Value → HP → Prop} : Go 190 266 [l0, l1, l2, some (.int u)] st H Q ↔ Go 190 267 [l0, l1, l2, some (.int u)] (.int u :: st) H Q := G_iload_n fL_law_266 rfl
theorem fL_law_267 : ft 190 267 = some (.iconst 1, 0, 0, 0, .null) := by decide +kernel
theorem gL_law_267 {L : List (Option Value)} {st : List Value} {H : HP} {Q : Option Value → HP → Prop} : Go 190 267 L st H Q ↔ Go 190 268 L (vi 1 :: st) H Q := G_iconst fL_law_267
theorem fL_law_268 : ft 190 268 = some (.iadd, 0, 0, 0, .null) := by decide +kernel
theorem gL_law_268 {L : List (Option Value)} {a b : Int} {st : List Value} {H : HP} {Q : Option Value → HP → Prop} : Go 190 268 L (vi b :: vi a :: st) H Q ↔ Go 190 269 L (vi (a + b) :: st) H Q := G_iadd fL_law_268
theorem fL_law_269 : ft 190 269 = some (.iaload, 0, 0, 0, .null) := by decide +kernel
theorem gL_law_269 {L : List (Option Value)} {p : Nat} {a : Int} {st : List Value} {H : HP} {Q : Option Value → HP → Prop} : Go 190 269 L (vi a :: .ref p :: st) H Q ↔ Rd (aJ' (hget H p) a) 190 270 L st H Q := G_iald fL_law_269
theorem fL_law_270 : ft 190 270 = some (.aload_n 0, 0, 0, 0, .null) := by decide +kernel
theorem gL_law_270 {l1 l2 l3 : Option Value} {u : Nat} {st : List Value} {H : HP} {Q : Option Value → HP → Prop} : Go 190 270 [some (.ref u), l1, l2, l3] st H Q ↔ Go 190 271 [some (.ref u), l1, l2, l3] (.ref u :: st) H Q := G_aload_n fL_law_270 rfl
theorem fL_law_271 : ft 190 271 = some (.iload_n 3, 0, 0, 0, .null) := by decide +kernel
theorem gL_law_271 {l0 l1 l2 : Option Value} {u : Int32} {st : List Value} {H : HP} {Q : Option Value → HP → Prop} : Go 190 271 [l0, l1, l2, some (.int u)] st H Q ↔ Go 190 272 [l0, l1, l2, some (.int u)] (.int u :: st) H Q := G_iload_n fL_law_271 rfl
theorem fL_law_272 : ft 190 272 = some (.iconst 2, 0, 0, 0, .null) := by decide +kernel
theorem gL_law_272 {L : List (Option Value)} {st : List Value} {H : HP} {Q : Option Value → HP → Prop} : Go 190 272 L st H Q ↔ Go 190 273 L (vi 2 :: st) H Q := G_iconst fL_law_272
theorem fL_law_273 : ft 190 273 = some (.iadd, 0, 0, 0, .null) := by decide +kernel
theorem gL_law_273 {L : List (Option Value)} {a b : Int} {st : List Value} {H : HP} {Q : Option Value → HP → Prop} : Go 190 273 L (vi b :: vi a :: st) H Q ↔ Go 190 274 L (vi (a + b) :: st) H Q := G_iadd fL_law_273
theorem fL_law_274 : ft 190 274 = some (.iaload, 0, 0, 0, .null) := by decide +kernel
theorem gL_law_274 {L : List (Option Value)} {p : Nat} {a : Int} {st : List Value} {H : HP} {Q : Option Value → HP → Prop} : Go 190 274 L (vi a :: .ref p :: st) H Q ↔ Rd (aJ' (hget H p) a) 190 275 L st H Q := G_iald fL_law_274
theorem fL_law_275 : ft 190 275 = some (.invokevirtual 23, 72, 0, 298, .null) := by decide +kernel
theorem gL_law_275 {L : List (Option Value)} {p : Nat} {a0 : Int32} {a1 : Int32}  {H : HP} {Q : Option Value → HP → Prop} : Go 190 275 L (.int a1 :: .int a0 :: .ref p :: []) H Q ↔ (iso 8 (hget H p) = true ∧ Go 72 0 [some (.ref p), some (.int a0), some (.int a1), none] [] H (Cont 190 278 L [] Q)) := G_cV (n := 2) (N := 4) (as := [.int a1, .int a0]) (st := []) fL_law_275 (by decide +kernel) rfl (Nat.le_of_ble_eq_true rfl) (Nat.le_of_ble_eq_true rfl) rfl
theorem fL_law_278 : ft 190 278 = some (.aload_n 2, 0, 0, 0, .null) := by decide +kernel
theorem gL_law_278 {l0 l1 l3 : Option Value} {u : Nat} {st : List Value} {H : HP} {Q : Option Value → HP → Prop} : Go 190 278 [l0, l1, some (.ref u), l3] st H Q ↔ Go 190 279 [l0, l1, some (.ref u), l3] (.ref u :: st) H Q := G_aload_n fL_law_278 rfl
theorem gL_law_278N {l0 l1 l3 : Option Value} {st : List Value} {H : HP} {Q : Option Value → HP → Prop} : Go 190 278 [l0, l1, some .null, l3] st H Q ↔ Go 190 279 [l0, l1, some .null, l3] (.null :: st) H Q := G_aload_nN fL_law_278 rfl
theorem fL_law_279 : ft 190 279 = some (.aload_n 0, 0, 0, 0, .null) := by decide +kernel
theorem gL_law_279 {l1 l2 l3 : Option Value} {u : Nat} {st : List Value} {H : HP} {Q : Option Value → HP → Prop} : Go 190 279 [some (.ref u), l1, l2, l3] st H Q ↔ Go 190 280 [some (.ref u), l1, l2, l3] (.ref u :: st) H Q := G_aload_n fL_law_279 rfl
theorem fL_law_280 : ft 190 280 = some (.iload_n 3, 0, 0, 0, .null) := by decide +kernel
theorem gL_law_280 {l0 l1 l2 : Option Value} {u : Int32} {st : List Value} {H : HP} {Q : Option Value → HP → Prop} : Go 190 280 [l0, l1, l2, some (.int u)] st H Q ↔ Go 190 281 [l0, l1, l2, some (.int u)] (.int u :: st) H Q := G_iload_n fL_law_280 rfl
theorem fL_law_281 : ft 190 281 = some (.iconst 1, 0, 0, 0, .null) := by decide +kernel
theorem gL_law_281 {L : List (Option Value)} {st : List Value} {H : HP} {Q : Option Value → HP → Prop} : Go 190 281 L st H Q ↔ Go 190 282 L (vi 1 :: st) H Q := G_iconst fL_law_281
theorem fL_law_282 : ft 190 282 = some (.iadd, 0, 0, 0, .null) := by decide +kernel
theorem gL_law_282 {L : List (Option Value)} {a b : Int} {st : List Value} {H : HP} {Q : Option Value → HP → Prop} : Go 190 282 L (vi b :: vi a :: st) H Q ↔ Go 190 283 L (vi (a + b) :: st) H Q := G_iadd fL_law_282
theorem fL_law_283 : ft 190 283 = some (.iaload, 0, 0, 0, .null) := by decide +kernel
theorem gL_law_283 {L : List (Option Value)} {p : Nat} {a : Int} {st : List Value} {H : HP} {Q : Option Value → HP → Prop} : Go 190 283 L (vi a :: .ref p :: st) H Q ↔ Rd (aJ' (hget H p) a) 190 284 L st H Q := G_iald fL_law_283
theorem fL_law_284 : ft 190 284 = some (.aload_n 0, 0, 0, 0, .null) := by decide +kernel
theorem gL_law_284 {l1 l2 l3 : Option Value} {u : Nat} {st : List Value} {H : HP} {Q : Option Value → HP → Prop} : Go 190 284 [some (.ref u), l1, l2, l3] st H Q ↔ Go 190 285 [some (.ref u), l1, l2, l3] (.ref u :: st) H Q := G_aload_n fL_law_284 rfl
theorem fL_law_285 : ft 190 285 = some (.iload_n 3, 0, 0, 0, .null) := by decide +kernel
theorem gL_law_285 {l0 l1 l2 : Option Value} {u : Int32} {st : List Value} {H : HP} {Q : Option Value → HP → Prop} : Go 190 285 [l0, l1, l2, some (.int u)] st H Q ↔ Go 190 286 [l0, l1, l2, some (.int u)] (.int u :: st) H Q := G_iload_n fL_law_285 rfl
theorem fL_law_286 : ft 190 286 = some (.iconst 2, 0, 0, 0, .null) := by decide +kernel
theorem gL_law_286 {L : List (Option Value)} {st : List Value} {H : HP} {Q : Option Value → HP → Prop} : Go 190 286 L st H Q ↔ Go 190 287 L (vi 2 :: st) H Q := G_iconst fL_law_286
theorem fL_law_287 : ft 190 287 = some (.iadd, 0, 0, 0, .null) := by decide +kernel
theorem gL_law_287 {L : List (Option Value)} {a b : Int} {st : List Value} {H : HP} {Q : Option Value → HP → Prop} : Go 190 287 L (vi b :: vi a :: st) H Q ↔ Go 190 288 L (vi (a + b) :: st) H Q := G_iadd fL_law_287
theorem fL_law_288 : ft 190 288 = some (.iaload, 0, 0, 0, .null) := by decide +kernel
theorem gL_law_288 {L : List (Option Value)} {p : Nat} {a : Int} {st : List Value} {H : HP} {Q : Option Value → HP → Prop} : Go 190 288 L (vi a :: .ref p :: st) H Q ↔ Rd (aJ' (hget H p) a) 190 289 L st H Q := G_iald fL_law_288
theorem fL_law_289 : ft 190 289 = some (.invokevirtual 26, 128, 0, 859, .null) := by decide +kernel
theorem gL_law_289 {L : List (Option Value)} {p : Nat} {a0 : Int32} {a1 : Int32} {r0 : Int32} {H : HP} {Q : Option Value → HP → Prop} : Go 190 289 L (.int a1 :: .int a0 :: .ref p :: [.int r0]) H Q ↔ (iso 9 (hget H p) = true ∧ Go 128 0 [some (.ref p), some (.int a0), some (.int a1)] [] H (Cont 190 292 L [.int r0] Q)) := G_cV (n := 2) (N := 3) (as := [.int a1, .int a0]) (st := [.int r0]) fL_law_289 (by decide +kernel) rfl (Nat.le_of_ble_eq_true rfl) (Nat.le_of_ble_eq_true rfl) rfl
theorem fL_law_292 : ft 190 292 = some (.if_icmp .eq 1120, 0, 0, 0, .null) := by decide +kernel
theorem gL_law_292T {L : List (Option Value)} {a b : Int} (c : (-2147483648 ≤ a ∧ a ≤ 2147483647 ∧ -2147483648 ≤ b ∧ b ≤ 2147483647) ∧ a = b) {st : List Value} {H : HP} {Q : Option Value → HP → Prop} : Go 190 292 L (vi b :: vi a :: st) H Q ↔ Go 190 1412 L st H Q := G_icT fL_law_292 (by decide) c
theorem gL_law_292F {L : List (Option Value)} {a b : Int} (c : (-2147483648 ≤ a ∧ a ≤ 2147483647 ∧ -2147483648 ≤ b ∧ b ≤ 2147483647) ∧ ¬ (a = b)) {st : List Value} {H : HP} {Q : Option Value → HP → Prop} : Go 190 292 L (vi b :: vi a :: st) H Q ↔ Go 190 295 L st H Q := G_icF (tg := 1412) fL_law_292 (by decide) c
theorem fL_law_295 : ft 190 295 = some (.iconst 0, 0, 0, 0, .null) := by decide +kernel
theorem gL_law_295 {L : List (Option Value)} {st : List Value} {H : HP} {Q : Option Value → HP → Prop} : Go 190 295 L st H Q ↔ Go 190 296 L (vi 0 :: st) H Q := G_iconst fL_law_295
theorem fL_law_296 : ft 190 296 = some (.ireturn, 0, 0, 0, .null) := by decide +kernel
theorem gL_law_296 {L : List (Option Value)} {a : Int} (c : a = 0 ∨ a = 1) {H : HP} {Q : Option Value → HP → Prop} : Go 190 296 L [vi a] H Q ↔ Q (some (vi a)) H := G_zret fL_law_296 (by decide +kernel) c
theorem fL_law_297 : ft 190 297 = some (.aload_n 1, 0, 0, 0, .null) := by decide +kernel
theorem gL_law_297 {l0 l2 l3 : Option Value} {u : Nat} {st : List Value} {H : HP} {Q : Option Value → HP → Prop} : Go 190 297 [l0, some (.ref u), l2, l3] st H Q ↔ Go 190 298 [l0, some (.ref u), l2, l3] (.ref u :: st) H Q := G_aload_n fL_law_297 rfl
theorem gL_law_297N {l0 l2 l3 : Option Value} {st : List Value} {H : HP} {Q : Option Value → HP → Prop} : Go 190 297 [l0, some .null, l2, l3] st H Q ↔ Go 190 298 [l0, some .null, l2, l3] (.null :: st) H Q := G_aload_nN fL_law_297 rfl
theorem fL_law_298 : ft 190 298 = some (.aload_n 0, 0, 0, 0, .null) := by decide +kernel
theorem gL_law_298 {l1 l2 l3 : Option Value} {u : Nat} {st : List Value} {H : HP} {Q : Option Value → HP → Prop} : Go 190 298 [some (.ref u), l1, l2, l3] st H Q ↔ Go 190 299 [some (.ref u), l1, l2, l3] (.ref u :: st) H Q := G_aload_n fL_law_298 rfl
theorem fL_law_299 : ft 190 299 = some (.iload_n 3, 0, 0, 0, .null) := by decide +kernel
theorem gL_law_299 {l0 l1 l2 : Option Value} {u : Int32} {st : List Value} {H : HP} {Q : Option Value → HP → Prop} : Go 190 299 [l0, l1, l2, some (.int u)] st H Q ↔ Go 190 300 [l0, l1, l2, some (.int u)] (.int u :: st) H Q := G_iload_n fL_law_299 rfl
theorem fL_law_300 : ft 190 300 = some (.iconst 1, 0, 0, 0, .null) := by decide +kernel
theorem gL_law_300 {L : List (Option Value)} {st : List Value} {H : HP} {Q : Option Value → HP → Prop} : Go 190 300 L st H Q ↔ Go 190 301 L (vi 1 :: st) H Q := G_iconst fL_law_300
theorem fL_law_301 : ft 190 301 = some (.iadd, 0, 0, 0, .null) := by decide +kernel
theorem gL_law_301 {L : List (Option Value)} {a b : Int} {st : List Value} {H : HP} {Q : Option Value → HP → Prop} : Go 190 301 L (vi b :: vi a :: st) H Q ↔ Go 190 302 L (vi (a + b) :: st) H Q := G_iadd fL_law_301
theorem fL_law_302 : ft 190 302 = some (.iaload, 0, 0, 0, .null) := by decide +kernel
theorem gL_law_302 {L : List (Option Value)} {p : Nat} {a : Int} {st : List Value} {H : HP} {Q : Option Value → HP → Prop} : Go 190 302 L (vi a :: .ref p :: st) H Q ↔ Rd (aJ' (hget H p) a) 190 303 L st H Q := G_iald fL_law_302
theorem fL_law_303 : ft 190 303 = some (.aload_n 0, 0, 0, 0, .null) := by decide +kernel
theorem gL_law_303 {l1 l2 l3 : Option Value} {u : Nat} {st : List Value} {H : HP} {Q : Option Value → HP → Prop} : Go 190 303 [some (.ref u), l1, l2, l3] st H Q ↔ Go 190 304 [some (.ref u), l1, l2, l3] (.ref u :: st) H Q := G_aload_n fL_law_303 rfl
theorem fL_law_304 : ft 190 304 = some (.iload_n 3, 0, 0, 0, .null) := by decide +kernel
theorem gL_law_304 {l0 l1 l2 : Option Value} {u : Int32} {st : List Value} {H : HP} {Q : Option Value → HP → Prop} : Go 190 304 [l0, l1, l2, some (.int u)] st H Q ↔ Go 190 305 [l0, l1, l2, some (.int u)] (.int u :: st) H Q := G_iload_n fL_law_304 rfl
theorem fL_law_305 : ft 190 305 = some (.iconst 2, 0, 0, 0, .null) := by decide +kernel
theorem gL_law_305 {L : List (Option Value)} {st : List Value} {H : HP} {Q : Option Value → HP → Prop} : Go 190 305 L st H Q ↔ Go 190 306 L (vi 2 :: st) H Q := G_iconst fL_law_305
theorem fL_law_306 : ft 190 306 = some (.iadd, 0, 0, 0, .null) := by decide +kernel
theorem gL_law_306 {L : List (Option Value)} {a b : Int} {st : List Value} {H : HP} {Q : Option Value → HP → Prop} : Go 190 306 L (vi b :: vi a :: st) H Q ↔ Go 190 307 L (vi (a + b) :: st) H Q := G_iadd fL_law_306
theorem fL_law_307 : ft 190 307 = some (.iaload, 0, 0, 0, .null) := by decide +kernel
theorem gL_law_307 {L : List (Option Value)} {p : Nat} {a : Int} {st : List Value} {H : HP} {Q : Option Value → HP → Prop} : Go 190 307 L (vi a :: .ref p :: st) H Q ↔ Rd (aJ' (hget H p) a) 190 308 L st H Q := G_iald fL_law_307
theorem fL_law_308 : ft 190 308 = some (.aload_n 0, 0, 0, 0, .null) := by decide +kernel
theorem gL_law_308 {l1 l2 l3 : Option Value} {u : Nat} {st : List Value} {H : HP} {Q : Option Value → HP → Prop} : Go 190 308 [some (.ref u), l1, l2, l3] st H Q ↔ Go 190 309 [some (.ref u), l1, l2, l3] (.ref u :: st) H Q := G_aload_n fL_law_308 rfl
theorem fL_law_309 : ft 190 309 = some (.iload_n 3, 0, 0, 0, .null) := by decide +kernel
theorem gL_law_309 {l0 l1 l2 : Option Value} {u : Int32} {st : List Value} {H : HP} {Q : Option Value → HP → Prop} : Go 190 309 [l0, l1, l2, some (.int u)] st H Q ↔ Go 190 310 [l0, l1, l2, some (.int u)] (.int u :: st) H Q := G_iload_n fL_law_309 rfl
theorem fL_law_310 : ft 190 310 = some (.iconst 3, 0, 0, 0, .null) := by decide +kernel
theorem gL_law_310 {L : List (Option Value)} {st : List Value} {H : HP} {Q : Option Value → HP → Prop} : Go 190 310 L st H Q ↔ Go 190 311 L (vi 3 :: st) H Q := G_iconst fL_law_310
theorem fL_law_311 : ft 190 311 = some (.iadd, 0, 0, 0, .null) := by decide +kernel
theorem gL_law_311 {L : List (Option Value)} {a b : Int} {st : List Value} {H : HP} {Q : Option Value → HP → Prop} : Go 190 311 L (vi b :: vi a :: st) H Q ↔ Go 190 312 L (vi (a + b) :: st) H Q := G_iadd fL_law_311
theorem fL_law_312 : ft 190 312 = some (.iaload, 0, 0, 0, .null) := by decide +kernel
theorem gL_law_312 {L : List (Option Value)} {p : Nat} {a : Int} {st : List Value} {H : HP} {Q : Option Value → HP → Prop} : Go 190 312 L (vi a :: .ref p :: st) H Q ↔ Rd (aJ' (hget H p) a) 190 313 L st H Q := G_iald fL_law_312
theorem fL_law_313 : ft 190 313 = some (.i2l, 0, 0, 0, .null) := by decide +kernel
theorem gL_law_313 {L : List (Option Value)} {a : Int} (c : -2147483648 ≤ a ∧ a ≤ 2147483647) {st : List Value} {H : HP} {Q : Option Value → HP → Prop} : Go 190 313 L (vi a :: st) H Q ↔ Go 190 314 L (vl a :: st) H Q := G_i2l fL_law_313 c
theorem fL_law_314 : ft 190 314 = some (.bipush 32, 0, 0, 0, .null) := by decide +kernel
theorem gL_law_314 {L : List (Option Value)} {st : List Value} {H : HP} {Q : Option Value → HP → Prop} : Go 190 314 L st H Q ↔ Go 190 316 L (vi 32 :: st) H Q := G_bipush fL_law_314 (by decide)
theorem fL_law_316 : ft 190 316 = some (.lshl, 0, 0, 0, .null) := by decide +kernel
theorem gL_law_316 {L : List (Option Value)} {a b : Int} {st : List Value} {H : HP} {Q : Option Value → HP → Prop} : Go 190 316 L (vi b :: vl a :: st) H Q ↔ Go 190 317 L (vl (bShl a b) :: st) H Q := G_lshl fL_law_316
theorem fL_law_317 : ft 190 317 = some (.aload_n 0, 0, 0, 0, .null) := by decide +kernel
theorem gL_law_317 {l1 l2 l3 : Option Value} {u : Nat} {st : List Value} {H : HP} {Q : Option Value → HP → Prop} : Go 190 317 [some (.ref u), l1, l2, l3] st H Q ↔ Go 190 318 [some (.ref u), l1, l2, l3] (.ref u :: st) H Q := G_aload_n fL_law_317 rfl
theorem fL_law_318 : ft 190 318 = some (.iload_n 3, 0, 0, 0, .null) := by decide +kernel
theorem gL_law_318 {l0 l1 l2 : Option Value} {u : Int32} {st : List Value} {H : HP} {Q : Option Value → HP → Prop} : Go 190 318 [l0, l1, l2, some (.int u)] st H Q ↔ Go 190 319 [l0, l1, l2, some (.int u)] (.int u :: st) H Q := G_iload_n fL_law_318 rfl
theorem fL_law_319 : ft 190 319 = some (.iconst 4, 0, 0, 0, .null) := by decide +kernel
theorem gL_law_319 {L : List (Option Value)} {st : List Value} {H : HP} {Q : Option Value → HP → Prop} : Go 190 319 L st H Q ↔ Go 190 320 L (vi 4 :: st) H Q := G_iconst fL_law_319
theorem fL_law_320 : ft 190 320 = some (.iadd, 0, 0, 0, .null) := by decide +kernel
theorem gL_law_320 {L : List (Option Value)} {a b : Int} {st : List Value} {H : HP} {Q : Option Value → HP → Prop} : Go 190 320 L (vi b :: vi a :: st) H Q ↔ Go 190 321 L (vi (a + b) :: st) H Q := G_iadd fL_law_320
theorem fL_law_321 : ft 190 321 = some (.iaload, 0, 0, 0, .null) := by decide +kernel
theorem gL_law_321 {L : List (Option Value)} {p : Nat} {a : Int} {st : List Value} {H : HP} {Q : Option Value → HP → Prop} : Go 190 321 L (vi a :: .ref p :: st) H Q ↔ Rd (aJ' (hget H p) a) 190 322 L st H Q := G_iald fL_law_321
theorem fL_law_322 : ft 190 322 = some (.i2l, 0, 0, 0, .null) := by decide +kernel
theorem gL_law_322 {L : List (Option Value)} {a : Int} (c : -2147483648 ≤ a ∧ a ≤ 2147483647) {st : List Value} {H : HP} {Q : Option Value → HP → Prop} : Go 190 322 L (vi a :: st) H Q ↔ Go 190 323 L (vl a :: st) H Q := G_i2l fL_law_322 c
theorem fL_law_323 : ft 190 323 = some (.ldc2_w 27, 0, 0, 1105, .long (4294967295)) := by decide +kernel
theorem gL_law_323 {L : List (Option Value)} {st : List Value} {H : HP} {Q : Option Value → HP → Prop} : Go 190 323 L st H Q ↔ Go 190 326 L (vl (4294967295) :: st) H Q := G_ldcl fL_law_323 (by decide +kernel)
theorem fL_law_326 : ft 190 326 = some (.land, 0, 0, 0, .null) := by decide +kernel
theorem gL_law_326 {L : List (Option Value)} {a b : Int} {st : List Value} {H : HP} {Q : Option Value → HP → Prop} : Go 190 326 L (vl b :: vl a :: st) H Q ↔ Go 190 327 L (vl (bAnd a b) :: st) H Q := G_land fL_law_326
theorem fL_law_327 : ft 190 327 = some (.lor, 0, 0, 0, .null) := by decide +kernel
theorem gL_law_327 {L : List (Option Value)} {a b : Int} {st : List Value} {H : HP} {Q : Option Value → HP → Prop} : Go 190 327 L (vl b :: vl a :: st) H Q ↔ Go 190 328 L (vl (bOr a b) :: st) H Q := G_lor fL_law_327
theorem fL_law_328 : ft 190 328 = some (.invokevirtual 29, 73, 0, 306, .null) := by decide +kernel
theorem gL_law_328 {L : List (Option Value)} {p : Nat} {a0 : Int32} {a1 : Int32} {a2 : Int64}  {H : HP} {Q : Option Value → HP → Prop} : Go 190 328 L (.long a2 :: .int a1 :: .int a0 :: .ref p :: []) H Q ↔ (iso 8 (hget H p) = true ∧ Go 73 0 [some (.ref p), some (.int a0), some (.int a1), some (.long a2), none, none] [] H (Cont 190 331 L [] Q)) := G_cV (n := 3) (N := 6) (as := [.long a2, .int a1, .int a0]) (st := []) fL_law_328 (by decide +kernel) rfl (Nat.le_of_ble_eq_true rfl) (Nat.le_of_ble_eq_true rfl) rfl
theorem fL_law_331 : ft 190 331 = some (.aload_n 2, 0, 0, 0, .null) := by decide +kernel
theorem gL_law_331 {l0 l1 l3 : Option Value} {u : Nat} {st : List Value} {H : HP} {Q : Option Value → HP → Prop} : Go 190 331 [l0, l1, some (.ref u), l3] st H Q ↔ Go 190 332 [l0, l1, some (.ref u), l3] (.ref u :: st) H Q := G_aload_n fL_law_331 rfl
theorem gL_law_331N {l0 l1 l3 : Option Value} {st : List Value} {H : HP} {Q : Option Value → HP → Prop} : Go 190 331 [l0, l1, some .null, l3] st H Q ↔ Go 190 332 [l0, l1, some .null, l3] (.null :: st) H Q := G_aload_nN fL_law_331 rfl
theorem fL_law_332 : ft 190 332 = some (.aload_n 0, 0, 0, 0, .null) := by decide +kernel
theorem gL_law_332 {l1 l2 l3 : Option Value} {u : Nat} {st : List Value} {H : HP} {Q : Option Value → HP → Prop} : Go 190 332 [some (.ref u), l1, l2, l3] st H Q ↔ Go 190 333 [some (.ref u), l1, l2, l3] (.ref u :: st) H Q := G_aload_n fL_law_332 rfl
theorem fL_law_333 : ft 190 333 = some (.iload_n 3, 0, 0, 0, .null) := by decide +kernel
theorem gL_law_333 {l0 l1 l2 : Option Value} {u : Int32} {st : List Value} {H : HP} {Q : Option Value → HP → Prop} : Go 190 333 [l0, l1, l2, some (.int u)] st H Q ↔ Go 190 334 [l0, l1, l2, some (.int u)] (.int u :: st) H Q := G_iload_n fL_law_333 rfl
theorem fL_law_334 : ft 190 334 = some (.iconst 1, 0, 0, 0, .null) := by decide +kernel
theorem gL_law_334 {L : List (Option Value)} {st : List Value} {H : HP} {Q : Option Value → HP → Prop} : Go 190 334 L st H Q ↔ Go 190 335 L (vi 1 :: st) H Q := G_iconst fL_law_334
theorem fL_law_335 : ft 190 335 = some (.iadd, 0, 0, 0, .null) := by decide +kernel
theorem gL_law_335 {L : List (Option Value)} {a b : Int} {st : List Value} {H : HP} {Q : Option Value → HP → Prop} : Go 190 335 L (vi b :: vi a :: st) H Q ↔ Go 190 336 L (vi (a + b) :: st) H Q := G_iadd fL_law_335
theorem fL_law_336 : ft 190 336 = some (.iaload, 0, 0, 0, .null) := by decide +kernel
theorem gL_law_336 {L : List (Option Value)} {p : Nat} {a : Int} {st : List Value} {H : HP} {Q : Option Value → HP → Prop} : Go 190 336 L (vi a :: .ref p :: st) H Q ↔ Rd (aJ' (hget H p) a) 190 337 L st H Q := G_iald fL_law_336
theorem fL_law_337 : ft 190 337 = some (.aload_n 0, 0, 0, 0, .null) := by decide +kernel
theorem gL_law_337 {l1 l2 l3 : Option Value} {u : Nat} {st : List Value} {H : HP} {Q : Option Value → HP → Prop} : Go 190 337 [some (.ref u), l1, l2, l3] st H Q ↔ Go 190 338 [some (.ref u), l1, l2, l3] (.ref u :: st) H Q := G_aload_n fL_law_337 rfl
theorem fL_law_338 : ft 190 338 = some (.iload_n 3, 0, 0, 0, .null) := by decide +kernel
theorem gL_law_338 {l0 l1 l2 : Option Value} {u : Int32} {st : List Value} {H : HP} {Q : Option Value → HP → Prop} : Go 190 338 [l0, l1, l2, some (.int u)] st H Q ↔ Go 190 339 [l0, l1, l2, some (.int u)] (.int u :: st) H Q := G_iload_n fL_law_338 rfl
theorem fL_law_339 : ft 190 339 = some (.iconst 2, 0, 0, 0, .null) := by decide +kernel
theorem gL_law_339 {L : List (Option Value)} {st : List Value} {H : HP} {Q : Option Value → HP → Prop} : Go 190 339 L st H Q ↔ Go 190 340 L (vi 2 :: st) H Q := G_iconst fL_law_339
theorem fL_law_340 : ft 190 340 = some (.iadd, 0, 0, 0, .null) := by decide +kernel
theorem gL_law_340 {L : List (Option Value)} {a b : Int} {st : List Value} {H : HP} {Q : Option Value → HP → Prop} : Go 190 340 L (vi b :: vi a :: st) H Q ↔ Go 190 341 L (vi (a + b) :: st) H Q := G_iadd fL_law_340
theorem fL_law_341 : ft 190 341 = some (.iaload, 0, 0, 0, .null) := by decide +kernel
theorem gL_law_341 {L : List (Option Value)} {p : Nat} {a : Int} {st : List Value} {H : HP} {Q : Option Value → HP → Prop} : Go 190 341 L (vi a :: .ref p :: st) H Q ↔ Rd (aJ' (hget H p) a) 190 342 L st H Q := G_iald fL_law_341
theorem fL_law_342 : ft 190 342 = some (.aload_n 0, 0, 0, 0, .null) := by decide +kernel
theorem gL_law_342 {l1 l2 l3 : Option Value} {u : Nat} {st : List Value} {H : HP} {Q : Option Value → HP → Prop} : Go 190 342 [some (.ref u), l1, l2, l3] st H Q ↔ Go 190 343 [some (.ref u), l1, l2, l3] (.ref u :: st) H Q := G_aload_n fL_law_342 rfl
theorem fL_law_343 : ft 190 343 = some (.iload_n 3, 0, 0, 0, .null) := by decide +kernel
theorem gL_law_343 {l0 l1 l2 : Option Value} {u : Int32} {st : List Value} {H : HP} {Q : Option Value → HP → Prop} : Go 190 343 [l0, l1, l2, some (.int u)] st H Q ↔ Go 190 344 [l0, l1, l2, some (.int u)] (.int u :: st) H Q := G_iload_n fL_law_343 rfl
theorem fL_law_344 : ft 190 344 = some (.iconst 3, 0, 0, 0, .null) := by decide +kernel
theorem gL_law_344 {L : List (Option Value)} {st : List Value} {H : HP} {Q : Option Value → HP → Prop} : Go 190 344 L st H Q ↔ Go 190 345 L (vi 3 :: st) H Q := G_iconst fL_law_344
theorem fL_law_345 : ft 190 345 = some (.iadd, 0, 0, 0, .null) := by decide +kernel
theorem gL_law_345 {L : List (Option Value)} {a b : Int} {st : List Value} {H : HP} {Q : Option Value → HP → Prop} : Go 190 345 L (vi b :: vi a :: st) H Q ↔ Go 190 346 L (vi (a + b) :: st) H Q := G_iadd fL_law_345
theorem fL_law_346 : ft 190 346 = some (.iaload, 0, 0, 0, .null) := by decide +kernel
theorem gL_law_346 {L : List (Option Value)} {p : Nat} {a : Int} {st : List Value} {H : HP} {Q : Option Value → HP → Prop} : Go 190 346 L (vi a :: .ref p :: st) H Q ↔ Rd (aJ' (hget H p) a) 190 347 L st H Q := G_iald fL_law_346
theorem fL_law_347 : ft 190 347 = some (.i2l, 0, 0, 0, .null) := by decide +kernel
theorem gL_law_347 {L : List (Option Value)} {a : Int} (c : -2147483648 ≤ a ∧ a ≤ 2147483647) {st : List Value} {H : HP} {Q : Option Value → HP → Prop} : Go 190 347 L (vi a :: st) H Q ↔ Go 190 348 L (vl a :: st) H Q := G_i2l fL_law_347 c
theorem fL_law_348 : ft 190 348 = some (.bipush 32, 0, 0, 0, .null) := by decide +kernel
theorem gL_law_348 {L : List (Option Value)} {st : List Value} {H : HP} {Q : Option Value → HP → Prop} : Go 190 348 L st H Q ↔ Go 190 350 L (vi 32 :: st) H Q := G_bipush fL_law_348 (by decide)
theorem fL_law_350 : ft 190 350 = some (.lshl, 0, 0, 0, .null) := by decide +kernel
theorem gL_law_350 {L : List (Option Value)} {a b : Int} {st : List Value} {H : HP} {Q : Option Value → HP → Prop} : Go 190 350 L (vi b :: vl a :: st) H Q ↔ Go 190 351 L (vl (bShl a b) :: st) H Q := G_lshl fL_law_350
theorem fL_law_351 : ft 190 351 = some (.aload_n 0, 0, 0, 0, .null) := by decide +kernel
theorem gL_law_351 {l1 l2 l3 : Option Value} {u : Nat} {st : List Value} {H : HP} {Q : Option Value → HP → Prop} : Go 190 351 [some (.ref u), l1, l2, l3] st H Q ↔ Go 190 352 [some (.ref u), l1, l2, l3] (.ref u :: st) H Q := G_aload_n fL_law_351 rfl
theorem fL_law_352 : ft 190 352 = some (.iload_n 3, 0, 0, 0, .null) := by decide +kernel
theorem gL_law_352 {l0 l1 l2 : Option Value} {u : Int32} {st : List Value} {H : HP} {Q : Option Value → HP → Prop} : Go 190 352 [l0, l1, l2, some (.int u)] st H Q ↔ Go 190 353 [l0, l1, l2, some (.int u)] (.int u :: st) H Q := G_iload_n fL_law_352 rfl
theorem fL_law_353 : ft 190 353 = some (.iconst 4, 0, 0, 0, .null) := by decide +kernel
theorem gL_law_353 {L : List (Option Value)} {st : List Value} {H : HP} {Q : Option Value → HP → Prop} : Go 190 353 L st H Q ↔ Go 190 354 L (vi 4 :: st) H Q := G_iconst fL_law_353
theorem fL_law_354 : ft 190 354 = some (.iadd, 0, 0, 0, .null) := by decide +kernel
theorem gL_law_354 {L : List (Option Value)} {a b : Int} {st : List Value} {H : HP} {Q : Option Value → HP → Prop} : Go 190 354 L (vi b :: vi a :: st) H Q ↔ Go 190 355 L (vi (a + b) :: st) H Q := G_iadd fL_law_354
theorem fL_law_355 : ft 190 355 = some (.iaload, 0, 0, 0, .null) := by decide +kernel
theorem gL_law_355 {L : List (Option Value)} {p : Nat} {a : Int} {st : List Value} {H : HP} {Q : Option Value → HP → Prop} : Go 190 355 L (vi a :: .ref p :: st) H Q ↔ Rd (aJ' (hget H p) a) 190 356 L st H Q := G_iald fL_law_355
theorem fL_law_356 : ft 190 356 = some (.i2l, 0, 0, 0, .null) := by decide +kernel
theorem gL_law_356 {L : List (Option Value)} {a : Int} (c : -2147483648 ≤ a ∧ a ≤ 2147483647) {st : List Value} {H : HP} {Q : Option Value → HP → Prop} : Go 190 356 L (vi a :: st) H Q ↔ Go 190 357 L (vl a :: st) H Q := G_i2l fL_law_356 c
theorem fL_law_357 : ft 190 357 = some (.ldc2_w 27, 0, 0, 1105, .long (4294967295)) := by decide +kernel
theorem gL_law_357 {L : List (Option Value)} {st : List Value} {H : HP} {Q : Option Value → HP → Prop} : Go 190 357 L st H Q ↔ Go 190 360 L (vl (4294967295) :: st) H Q := G_ldcl fL_law_357 (by decide +kernel)
theorem fL_law_360 : ft 190 360 = some (.land, 0, 0, 0, .null) := by decide +kernel
theorem gL_law_360 {L : List (Option Value)} {a b : Int} {st : List Value} {H : HP} {Q : Option Value → HP → Prop} : Go 190 360 L (vl b :: vl a :: st) H Q ↔ Go 190 361 L (vl (bAnd a b) :: st) H Q := G_land fL_law_360
theorem fL_law_361 : ft 190 361 = some (.lor, 0, 0, 0, .null) := by decide +kernel
theorem gL_law_361 {L : List (Option Value)} {a b : Int} {st : List Value} {H : HP} {Q : Option Value → HP → Prop} : Go 190 361 L (vl b :: vl a :: st) H Q ↔ Go 190 362 L (vl (bOr a b) :: st) H Q := G_lor fL_law_361
theorem fL_law_362 : ft 190 362 = some (.invokevirtual 33, 131, 0, 871, .null) := by decide +kernel
theorem gL_law_362 {L : List (Option Value)} {p : Nat} {a0 : Int32} {a1 : Int32} {a2 : Int64} {r0 : Int32} {H : HP} {Q : Option Value → HP → Prop} : Go 190 362 L (.long a2 :: .int a1 :: .int a0 :: .ref p :: [.int r0]) H Q ↔ (iso 9 (hget H p) = true ∧ Go 131 0 [some (.ref p), some (.int a0), some (.int a1), some (.long a2), none] [] H (Cont 190 365 L [.int r0] Q)) := G_cV (n := 3) (N := 5) (as := [.long a2, .int a1, .int a0]) (st := [.int r0]) fL_law_362 (by decide +kernel) rfl (Nat.le_of_ble_eq_true rfl) (Nat.le_of_ble_eq_true rfl) rfl
theorem fL_law_365 : ft 190 365 = some (.if_icmp .eq 1047, 0, 0, 0, .null) := by decide +kernel
theorem gL_law_365T {L : List (Option Value)} {a b : Int} (c : (-2147483648 ≤ a ∧ a ≤ 2147483647 ∧ -2147483648 ≤ b ∧ b ≤ 2147483647) ∧ a = b) {st : List Value} {H : HP} {Q : Option Value → HP → Prop} : Go 190 365 L (vi b :: vi a :: st) H Q ↔ Go 190 1412 L st H Q := G_icT fL_law_365 (by decide) c
theorem gL_law_365F {L : List (Option Value)} {a b : Int} (c : (-2147483648 ≤ a ∧ a ≤ 2147483647 ∧ -2147483648 ≤ b ∧ b ≤ 2147483647) ∧ ¬ (a = b)) {st : List Value} {H : HP} {Q : Option Value → HP → Prop} : Go 190 365 L (vi b :: vi a :: st) H Q ↔ Go 190 368 L st H Q := G_icF (tg := 1412) fL_law_365 (by decide) c
theorem fL_law_368 : ft 190 368 = some (.iconst 0, 0, 0, 0, .null) := by decide +kernel
theorem gL_law_368 {L : List (Option Value)} {st : List Value} {H : HP} {Q : Option Value → HP → Prop} : Go 190 368 L st H Q ↔ Go 190 369 L (vi 0 :: st) H Q := G_iconst fL_law_368
theorem fL_law_369 : ft 190 369 = some (.ireturn, 0, 0, 0, .null) := by decide +kernel
theorem gL_law_369 {L : List (Option Value)} {a : Int} (c : a = 0 ∨ a = 1) {H : HP} {Q : Option Value → HP → Prop} : Go 190 369 L [vi a] H Q ↔ Q (some (vi a)) H := G_zret fL_law_369 (by decide +kernel) c
theorem fL_law_370 : ft 190 370 = some (.aload_n 1, 0, 0, 0, .null) := by decide +kernel
theorem gL_law_370 {l0 l2 l3 : Option Value} {u : Nat} {st : List Value} {H : HP} {Q : Option Value → HP → Prop} : Go 190 370 [l0, some (.ref u), l2, l3] st H Q ↔ Go 190 371 [l0, some (.ref u), l2, l3] (.ref u :: st) H Q := G_aload_n fL_law_370 rfl
theorem gL_law_370N {l0 l2 l3 : Option Value} {st : List Value} {H : HP} {Q : Option Value → HP → Prop} : Go 190 370 [l0, some .null, l2, l3] st H Q ↔ Go 190 371 [l0, some .null, l2, l3] (.null :: st) H Q := G_aload_nN fL_law_370 rfl
theorem fL_law_371 : ft 190 371 = some (.aload_n 0, 0, 0, 0, .null) := by decide +kernel
theorem gL_law_371 {l1 l2 l3 : Option Value} {u : Nat} {st : List Value} {H : HP} {Q : Option Value → HP → Prop} : Go 190 371 [some (.ref u), l1, l2, l3] st H Q ↔ Go 190 372 [some (.ref u), l1, l2, l3] (.ref u :: st) H Q := G_aload_n fL_law_371 rfl
theorem fL_law_372 : ft 190 372 = some (.iload_n 3, 0, 0, 0, .null) := by decide +kernel
theorem gL_law_372 {l0 l1 l2 : Option Value} {u : Int32} {st : List Value} {H : HP} {Q : Option Value → HP → Prop} : Go 190 372 [l0, l1, l2, some (.int u)] st H Q ↔ Go 190 373 [l0, l1, l2, some (.int u)] (.int u :: st) H Q := G_iload_n fL_law_372 rfl
theorem fL_law_373 : ft 190 373 = some (.iconst 1, 0, 0, 0, .null) := by decide +kernel
theorem gL_law_373 {L : List (Option Value)} {st : List Value} {H : HP} {Q : Option Value → HP → Prop} : Go 190 373 L st H Q ↔ Go 190 374 L (vi 1 :: st) H Q := G_iconst fL_law_373
theorem fL_law_374 : ft 190 374 = some (.iadd, 0, 0, 0, .null) := by decide +kernel
theorem gL_law_374 {L : List (Option Value)} {a b : Int} {st : List Value} {H : HP} {Q : Option Value → HP → Prop} : Go 190 374 L (vi b :: vi a :: st) H Q ↔ Go 190 375 L (vi (a + b) :: st) H Q := G_iadd fL_law_374
theorem fL_law_375 : ft 190 375 = some (.iaload, 0, 0, 0, .null) := by decide +kernel
theorem gL_law_375 {L : List (Option Value)} {p : Nat} {a : Int} {st : List Value} {H : HP} {Q : Option Value → HP → Prop} : Go 190 375 L (vi a :: .ref p :: st) H Q ↔ Rd (aJ' (hget H p) a) 190 376 L st H Q := G_iald fL_law_375
theorem fL_law_376 : ft 190 376 = some (.aload_n 0, 0, 0, 0, .null) := by decide +kernel
theorem gL_law_376 {l1 l2 l3 : Option Value} {u : Nat} {st : List Value} {H : HP} {Q : Option Value → HP → Prop} : Go 190 376 [some (.ref u), l1, l2, l3] st H Q ↔ Go 190 377 [some (.ref u), l1, l2, l3] (.ref u :: st) H Q := G_aload_n fL_law_376 rfl
theorem fL_law_377 : ft 190 377 = some (.iload_n 3, 0, 0, 0, .null) := by decide +kernel
theorem gL_law_377 {l0 l1 l2 : Option Value} {u : Int32} {st : List Value} {H : HP} {Q : Option Value → HP → Prop} : Go 190 377 [l0, l1, l2, some (.int u)] st H Q ↔ Go 190 378 [l0, l1, l2, some (.int u)] (.int u :: st) H Q := G_iload_n fL_law_377 rfl
theorem fL_law_378 : ft 190 378 = some (.iconst 2, 0, 0, 0, .null) := by decide +kernel
theorem gL_law_378 {L : List (Option Value)} {st : List Value} {H : HP} {Q : Option Value → HP → Prop} : Go 190 378 L st H Q ↔ Go 190 379 L (vi 2 :: st) H Q := G_iconst fL_law_378
theorem fL_law_379 : ft 190 379 = some (.iadd, 0, 0, 0, .null) := by decide +kernel
theorem gL_law_379 {L : List (Option Value)} {a b : Int} {st : List Value} {H : HP} {Q : Option Value → HP → Prop} : Go 190 379 L (vi b :: vi a :: st) H Q ↔ Go 190 380 L (vi (a + b) :: st) H Q := G_iadd fL_law_379
theorem fL_law_380 : ft 190 380 = some (.iaload, 0, 0, 0, .null) := by decide +kernel
theorem gL_law_380 {L : List (Option Value)} {p : Nat} {a : Int} {st : List Value} {H : HP} {Q : Option Value → HP → Prop} : Go 190 380 L (vi a :: .ref p :: st) H Q ↔ Rd (aJ' (hget H p) a) 190 381 L st H Q := G_iald fL_law_380
theorem fL_law_381 : ft 190 381 = some (.invokevirtual 34, 74, 0, 324, .null) := by decide +kernel
theorem gL_law_381 {L : List (Option Value)} {p : Nat} {a0 : Int32} {a1 : Int32}  {H : HP} {Q : Option Value → HP → Prop} : Go 190 381 L (.int a1 :: .int a0 :: .ref p :: []) H Q ↔ (iso 8 (hget H p) = true ∧ Go 74 0 [some (.ref p), some (.int a0), some (.int a1)] [] H (Cont 190 384 L [] Q)) := G_cV (n := 2) (N := 3) (as := [.int a1, .int a0]) (st := []) fL_law_381 (by decide +kernel) rfl (Nat.le_of_ble_eq_true rfl) (Nat.le_of_ble_eq_true rfl) rfl
theorem fL_law_384 : ft 190 384 = some (.aload_n 2, 0, 0, 0, .null) := by decide +kernel
theorem gL_law_384 {l0 l1 l3 : Option Value} {u : Nat} {st : List Value} {H : HP} {Q : Option Value → HP → Prop} : Go 190 384 [l0, l1, some (.ref u), l3] st H Q ↔ Go 190 385 [l0, l1, some (.ref u), l3] (.ref u :: st) H Q := G_aload_n fL_law_384 rfl
theorem gL_law_384N {l0 l1 l3 : Option Value} {st : List Value} {H : HP} {Q : Option Value → HP → Prop} : Go 190 384 [l0, l1, some .null, l3] st H Q ↔ Go 190 385 [l0, l1, some .null, l3] (.null :: st) H Q := G_aload_nN fL_law_384 rfl
theorem fL_law_385 : ft 190 385 = some (.aload_n 0, 0, 0, 0, .null) := by decide +kernel
theorem gL_law_385 {l1 l2 l3 : Option Value} {u : Nat} {st : List Value} {H : HP} {Q : Option Value → HP → Prop} : Go 190 385 [some (.ref u), l1, l2, l3] st H Q ↔ Go 190 386 [some (.ref u), l1, l2, l3] (.ref u :: st) H Q := G_aload_n fL_law_385 rfl
theorem fL_law_386 : ft 190 386 = some (.iload_n 3, 0, 0, 0, .null) := by decide +kernel
theorem gL_law_386 {l0 l1 l2 : Option Value} {u : Int32} {st : List Value} {H : HP} {Q : Option Value → HP → Prop} : Go 190 386 [l0, l1, l2, some (.int u)] st H Q ↔ Go 190 387 [l0, l1, l2, some (.int u)] (.int u :: st) H Q := G_iload_n fL_law_386 rfl
theorem fL_law_387 : ft 190 387 = some (.iconst 1, 0, 0, 0, .null) := by decide +kernel
theorem gL_law_387 {L : List (Option Value)} {st : List Value} {H : HP} {Q : Option Value → HP → Prop} : Go 190 387 L st H Q ↔ Go 190 388 L (vi 1 :: st) H Q := G_iconst fL_law_387
theorem fL_law_388 : ft 190 388 = some (.iadd, 0, 0, 0, .null) := by decide +kernel
theorem gL_law_388 {L : List (Option Value)} {a b : Int} {st : List Value} {H : HP} {Q : Option Value → HP → Prop} : Go 190 388 L (vi b :: vi a :: st) H Q ↔ Go 190 389 L (vi (a + b) :: st) H Q := G_iadd fL_law_388
theorem fL_law_389 : ft 190 389 = some (.iaload, 0, 0, 0, .null) := by decide +kernel
theorem gL_law_389 {L : List (Option Value)} {p : Nat} {a : Int} {st : List Value} {H : HP} {Q : Option Value → HP → Prop} : Go 190 389 L (vi a :: .ref p :: st) H Q ↔ Rd (aJ' (hget H p) a) 190 390 L st H Q := G_iald fL_law_389
theorem fL_law_390 : ft 190 390 = some (.aload_n 0, 0, 0, 0, .null) := by decide +kernel
theorem gL_law_390 {l1 l2 l3 : Option Value} {u : Nat} {st : List Value} {H : HP} {Q : Option Value → HP → Prop} : Go 190 390 [some (.ref u), l1, l2, l3] st H Q ↔ Go 190 391 [some (.ref u), l1, l2, l3] (.ref u :: st) H Q := G_aload_n fL_law_390 rfl
theorem fL_law_391 : ft 190 391 = some (.iload_n 3, 0, 0, 0, .null) := by decide +kernel
theorem gL_law_391 {l0 l1 l2 : Option Value} {u : Int32} {st : List Value} {H : HP} {Q : Option Value → HP → Prop} : Go 190 391 [l0, l1, l2, some (.int u)] st H Q ↔ Go 190 392 [l0, l1, l2, some (.int u)] (.int u :: st) H Q := G_iload_n fL_law_391 rfl
theorem fL_law_392 : ft 190 392 = some (.iconst 2, 0, 0, 0, .null) := by decide +kernel
theorem gL_law_392 {L : List (Option Value)} {st : List Value} {H : HP} {Q : Option Value → HP → Prop} : Go 190 392 L st H Q ↔ Go 190 393 L (vi 2 :: st) H Q := G_iconst fL_law_392
theorem fL_law_393 : ft 190 393 = some (.iadd, 0, 0, 0, .null) := by decide +kernel
theorem gL_law_393 {L : List (Option Value)} {a b : Int} {st : List Value} {H : HP} {Q : Option Value → HP → Prop} : Go 190 393 L (vi b :: vi a :: st) H Q ↔ Go 190 394 L (vi (a + b) :: st) H Q := G_iadd fL_law_393
theorem fL_law_394 : ft 190 394 = some (.iaload, 0, 0, 0, .null) := by decide +kernel
theorem gL_law_394 {L : List (Option Value)} {p : Nat} {a : Int} {st : List Value} {H : HP} {Q : Option Value → HP → Prop} : Go 190 394 L (vi a :: .ref p :: st) H Q ↔ Rd (aJ' (hget H p) a) 190 395 L st H Q := G_iald fL_law_394
theorem fL_law_395 : ft 190 395 = some (.invokevirtual 38, 132, 0, 884, .null) := by decide +kernel
theorem gL_law_395 {L : List (Option Value)} {p : Nat} {a0 : Int32} {a1 : Int32} {r0 : Int64} {H : HP} {Q : Option Value → HP → Prop} : Go 190 395 L (.int a1 :: .int a0 :: .ref p :: [.long r0]) H Q ↔ (iso 9 (hget H p) = true ∧ Go 132 0 [some (.ref p), some (.int a0), some (.int a1)] [] H (Cont 190 398 L [.long r0] Q)) := G_cV (n := 2) (N := 3) (as := [.int a1, .int a0]) (st := [.long r0]) fL_law_395 (by decide +kernel) rfl (Nat.le_of_ble_eq_true rfl) (Nat.le_of_ble_eq_true rfl) rfl
theorem fL_law_398 : ft 190 398 = some (.lcmp, 0, 0, 0, .null) := by decide +kernel
theorem fL_law_398' : ft 190 399 = some (.ifCond .eq 1013, 0, 0, 0, .null) := by decide +kernel
theorem gL_law_398T {L : List (Option Value)} {a b : Int} (c : (-9223372036854775808 ≤ a ∧ a ≤ 9223372036854775807 ∧ -9223372036854775808 ≤ b ∧ b ≤ 9223372036854775807) ∧ a = b) {st : List Value} {H : HP} {Q : Option Value → HP → Prop} : Go 190 398 L (vl b :: vl a :: st) H Q ↔ Go 190 1412 L st H Q := G_lcT fL_law_398 fL_law_398' (by decide) c
theorem gL_law_398F {L : List (Option Value)} {a b : Int} (c : (-9223372036854775808 ≤ a ∧ a ≤ 9223372036854775807 ∧ -9223372036854775808 ≤ b ∧ b ≤ 9223372036854775807) ∧ ¬ (a = b)) {st : List Value} {H : HP} {Q : Option Value → HP → Prop} : Go 190 398 L (vl b :: vl a :: st) H Q ↔ Go 190 402 L st H Q := G_lcF (tg := 1412) fL_law_398 fL_law_398' (by decide) c
theorem fL_law_399 : ft 190 399 = some (.ifCond .eq 1013, 0, 0, 0, .null) := by decide +kernel
theorem gL_law_399T {L : List (Option Value)} {a : Int} (c : (-2147483648 ≤ a ∧ a ≤ 2147483647) ∧ a = 0) {st : List Value} {H : HP} {Q : Option Value → HP → Prop} : Go 190 399 L (vi a :: st) H Q ↔ Go 190 1412 L st H Q := G_ifT fL_law_399 (by decide) c
theorem gL_law_399F {L : List (Option Value)} {a : Int} (c : (-2147483648 ≤ a ∧ a ≤ 2147483647) ∧ ¬ (a = 0)) {st : List Value} {H : HP} {Q : Option Value → HP → Prop} : Go 190 399 L (vi a :: st) H Q ↔ Go 190 402 L st H Q := G_ifF (tg := 1412) fL_law_399 (by decide) c
theorem fL_law_402 : ft 190 402 = some (.iconst 0, 0, 0, 0, .null) := by decide +kernel
theorem gL_law_402 {L : List (Option Value)} {st : List Value} {H : HP} {Q : Option Value → HP → Prop} : Go 190 402 L st H Q ↔ Go 190 403 L (vi 0 :: st) H Q := G_iconst fL_law_402
theorem fL_law_403 : ft 190 403 = some (.ireturn, 0, 0, 0, .null) := by decide +kernel
theorem gL_law_403 {L : List (Option Value)} {a : Int} (c : a = 0 ∨ a = 1) {H : HP} {Q : Option Value → HP → Prop} : Go 190 403 L [vi a] H Q ↔ Q (some (vi a)) H := G_zret fL_law_403 (by decide +kernel) c
theorem fL_law_404 : ft 190 404 = some (.aload_n 1, 0, 0, 0, .null) := by decide +kernel
theorem gL_law_404 {l0 l2 l3 : Option Value} {u : Nat} {st : List Value} {H : HP} {Q : Option Value → HP → Prop} : Go 190 404 [l0, some (.ref u), l2, l3] st H Q ↔ Go 190 405 [l0, some (.ref u), l2, l3] (.ref u :: st) H Q := G_aload_n fL_law_404 rfl
theorem gL_law_404N {l0 l2 l3 : Option Value} {st : List Value} {H : HP} {Q : Option Value → HP → Prop} : Go 190 404 [l0, some .null, l2, l3] st H Q ↔ Go 190 405 [l0, some .null, l2, l3] (.null :: st) H Q := G_aload_nN fL_law_404 rfl
theorem fL_law_405 : ft 190 405 = some (.aload_n 0, 0, 0, 0, .null) := by decide +kernel
theorem gL_law_405 {l1 l2 l3 : Option Value} {u : Nat} {st : List Value} {H : HP} {Q : Option Value → HP → Prop} : Go 190 405 [some (.ref u), l1, l2, l3] st H Q ↔ Go 190 406 [some (.ref u), l1, l2, l3] (.ref u :: st) H Q := G_aload_n fL_law_405 rfl
theorem fL_law_406 : ft 190 406 = some (.iload_n 3, 0, 0, 0, .null) := by decide +kernel
theorem gL_law_406 {l0 l1 l2 : Option Value} {u : Int32} {st : List Value} {H : HP} {Q : Option Value → HP → Prop} : Go 190 406 [l0, l1, l2, some (.int u)] st H Q ↔ Go 190 407 [l0, l1, l2, some (.int u)] (.int u :: st) H Q := G_iload_n fL_law_406 rfl
theorem fL_law_407 : ft 190 407 = some (.iconst 1, 0, 0, 0, .null) := by decide +kernel
theorem gL_law_407 {L : List (Option Value)} {st : List Value} {H : HP} {Q : Option Value → HP → Prop} : Go 190 407 L st H Q ↔ Go 190 408 L (vi 1 :: st) H Q := G_iconst fL_law_407
theorem fL_law_408 : ft 190 408 = some (.iadd, 0, 0, 0, .null) := by decide +kernel
theorem gL_law_408 {L : List (Option Value)} {a b : Int} {st : List Value} {H : HP} {Q : Option Value → HP → Prop} : Go 190 408 L (vi b :: vi a :: st) H Q ↔ Go 190 409 L (vi (a + b) :: st) H Q := G_iadd fL_law_408
theorem fL_law_409 : ft 190 409 = some (.iaload, 0, 0, 0, .null) := by decide +kernel
theorem gL_law_409 {L : List (Option Value)} {p : Nat} {a : Int} {st : List Value} {H : HP} {Q : Option Value → HP → Prop} : Go 190 409 L (vi a :: .ref p :: st) H Q ↔ Rd (aJ' (hget H p) a) 190 410 L st H Q := G_iald fL_law_409
theorem fL_law_410 : ft 190 410 = some (.aload_n 0, 0, 0, 0, .null) := by decide +kernel
theorem gL_law_410 {l1 l2 l3 : Option Value} {u : Nat} {st : List Value} {H : HP} {Q : Option Value → HP → Prop} : Go 190 410 [some (.ref u), l1, l2, l3] st H Q ↔ Go 190 411 [some (.ref u), l1, l2, l3] (.ref u :: st) H Q := G_aload_n fL_law_410 rfl
theorem fL_law_411 : ft 190 411 = some (.iload_n 3, 0, 0, 0, .null) := by decide +kernel
theorem gL_law_411 {l0 l1 l2 : Option Value} {u : Int32} {st : List Value} {H : HP} {Q : Option Value → HP → Prop} : Go 190 411 [l0, l1, l2, some (.int u)] st H Q ↔ Go 190 412 [l0, l1, l2, some (.int u)] (.int u :: st) H Q := G_iload_n fL_law_411 rfl
theorem fL_law_412 : ft 190 412 = some (.iconst 2, 0, 0, 0, .null) := by decide +kernel
theorem gL_law_412 {L : List (Option Value)} {st : List Value} {H : HP} {Q : Option Value → HP → Prop} : Go 190 412 L st H Q ↔ Go 190 413 L (vi 2 :: st) H Q := G_iconst fL_law_412
theorem fL_law_413 : ft 190 413 = some (.iadd, 0, 0, 0, .null) := by decide +kernel
theorem gL_law_413 {L : List (Option Value)} {a b : Int} {st : List Value} {H : HP} {Q : Option Value → HP → Prop} : Go 190 413 L (vi b :: vi a :: st) H Q ↔ Go 190 414 L (vi (a + b) :: st) H Q := G_iadd fL_law_413
theorem fL_law_414 : ft 190 414 = some (.iaload, 0, 0, 0, .null) := by decide +kernel
theorem gL_law_414 {L : List (Option Value)} {p : Nat} {a : Int} {st : List Value} {H : HP} {Q : Option Value → HP → Prop} : Go 190 414 L (vi a :: .ref p :: st) H Q ↔ Rd (aJ' (hget H p) a) 190 415 L st H Q := G_iald fL_law_414
theorem fL_law_415 : ft 190 415 = some (.aload_n 0, 0, 0, 0, .null) := by decide +kernel
theorem gL_law_415 {l1 l2 l3 : Option Value} {u : Nat} {st : List Value} {H : HP} {Q : Option Value → HP → Prop} : Go 190 415 [some (.ref u), l1, l2, l3] st H Q ↔ Go 190 416 [some (.ref u), l1, l2, l3] (.ref u :: st) H Q := G_aload_n fL_law_415 rfl
theorem fL_law_416 : ft 190 416 = some (.iload_n 3, 0, 0, 0, .null) := by decide +kernel
theorem gL_law_416 {l0 l1 l2 : Option Value} {u : Int32} {st : List Value} {H : HP} {Q : Option Value → HP → Prop} : Go 190 416 [l0, l1, l2, some (.int u)] st H Q ↔ Go 190 417 [l0, l1, l2, some (.int u)] (.int u :: st) H Q := G_iload_n fL_law_416 rfl
theorem fL_law_417 : ft 190 417 = some (.iconst 3, 0, 0, 0, .null) := by decide +kernel
theorem gL_law_417 {L : List (Option Value)} {st : List Value} {H : HP} {Q : Option Value → HP → Prop} : Go 190 417 L st H Q ↔ Go 190 418 L (vi 3 :: st) H Q := G_iconst fL_law_417
theorem fL_law_418 : ft 190 418 = some (.iadd, 0, 0, 0, .null) := by decide +kernel
theorem gL_law_418 {L : List (Option Value)} {a b : Int} {st : List Value} {H : HP} {Q : Option Value → HP → Prop} : Go 190 418 L (vi b :: vi a :: st) H Q ↔ Go 190 419 L (vi (a + b) :: st) H Q := G_iadd fL_law_418
theorem fL_law_419 : ft 190 419 = some (.iaload, 0, 0, 0, .null) := by decide +kernel
theorem gL_law_419 {L : List (Option Value)} {p : Nat} {a : Int} {st : List Value} {H : HP} {Q : Option Value → HP → Prop} : Go 190 419 L (vi a :: .ref p :: st) H Q ↔ Rd (aJ' (hget H p) a) 190 420 L st H Q := G_iald fL_law_419
theorem fL_law_420 : ft 190 420 = some (.invokevirtual 39, 75, 0, 336, .null) := by decide +kernel
theorem gL_law_420 {L : List (Option Value)} {p : Nat} {a0 : Int32} {a1 : Int32} {a2 : Int32}  {H : HP} {Q : Option Value → HP → Prop} : Go 190 420 L (.int a2 :: .int a1 :: .int a0 :: .ref p :: []) H Q ↔ (iso 8 (hget H p) = true ∧ Go 75 0 [some (.ref p), some (.int a0), some (.int a1), some (.int a2), none] [] H (Cont 190 423 L [] Q)) := G_cV (n := 3) (N := 5) (as := [.int a2, .int a1, .int a0]) (st := []) fL_law_420 (by decide +kernel) rfl (Nat.le_of_ble_eq_true rfl) (Nat.le_of_ble_eq_true rfl) rfl
theorem fL_law_423 : ft 190 423 = some (.aload_n 2, 0, 0, 0, .null) := by decide +kernel
theorem gL_law_423 {l0 l1 l3 : Option Value} {u : Nat} {st : List Value} {H : HP} {Q : Option Value → HP → Prop} : Go 190 423 [l0, l1, some (.ref u), l3] st H Q ↔ Go 190 424 [l0, l1, some (.ref u), l3] (.ref u :: st) H Q := G_aload_n fL_law_423 rfl
theorem gL_law_423N {l0 l1 l3 : Option Value} {st : List Value} {H : HP} {Q : Option Value → HP → Prop} : Go 190 423 [l0, l1, some .null, l3] st H Q ↔ Go 190 424 [l0, l1, some .null, l3] (.null :: st) H Q := G_aload_nN fL_law_423 rfl
theorem fL_law_424 : ft 190 424 = some (.aload_n 0, 0, 0, 0, .null) := by decide +kernel
theorem gL_law_424 {l1 l2 l3 : Option Value} {u : Nat} {st : List Value} {H : HP} {Q : Option Value → HP → Prop} : Go 190 424 [some (.ref u), l1, l2, l3] st H Q ↔ Go 190 425 [some (.ref u), l1, l2, l3] (.ref u :: st) H Q := G_aload_n fL_law_424 rfl
theorem fL_law_425 : ft 190 425 = some (.iload_n 3, 0, 0, 0, .null) := by decide +kernel
theorem gL_law_425 {l0 l1 l2 : Option Value} {u : Int32} {st : List Value} {H : HP} {Q : Option Value → HP → Prop} : Go 190 425 [l0, l1, l2, some (.int u)] st H Q ↔ Go 190 426 [l0, l1, l2, some (.int u)] (.int u :: st) H Q := G_iload_n fL_law_425 rfl
theorem fL_law_426 : ft 190 426 = some (.iconst 1, 0, 0, 0, .null) := by decide +kernel
theorem gL_law_426 {L : List (Option Value)} {st : List Value} {H : HP} {Q : Option Value → HP → Prop} : Go 190 426 L st H Q ↔ Go 190 427 L (vi 1 :: st) H Q := G_iconst fL_law_426
theorem fL_law_427 : ft 190 427 = some (.iadd, 0, 0, 0, .null) := by decide +kernel
theorem gL_law_427 {L : List (Option Value)} {a b : Int} {st : List Value} {H : HP} {Q : Option Value → HP → Prop} : Go 190 427 L (vi b :: vi a :: st) H Q ↔ Go 190 428 L (vi (a + b) :: st) H Q := G_iadd fL_law_427
theorem fL_law_428 : ft 190 428 = some (.iaload, 0, 0, 0, .null) := by decide +kernel
theorem gL_law_428 {L : List (Option Value)} {p : Nat} {a : Int} {st : List Value} {H : HP} {Q : Option Value → HP → Prop} : Go 190 428 L (vi a :: .ref p :: st) H Q ↔ Rd (aJ' (hget H p) a) 190 429 L st H Q := G_iald fL_law_428
theorem fL_law_429 : ft 190 429 = some (.aload_n 0, 0, 0, 0, .null) := by decide +kernel
theorem gL_law_429 {l1 l2 l3 : Option Value} {u : Nat} {st : List Value} {H : HP} {Q : Option Value → HP → Prop} : Go 190 429 [some (.ref u), l1, l2, l3] st H Q ↔ Go 190 430 [some (.ref u), l1, l2, l3] (.ref u :: st) H Q := G_aload_n fL_law_429 rfl
theorem fL_law_430 : ft 190 430 = some (.iload_n 3, 0, 0, 0, .null) := by decide +kernel
theorem gL_law_430 {l0 l1 l2 : Option Value} {u : Int32} {st : List Value} {H : HP} {Q : Option Value → HP → Prop} : Go 190 430 [l0, l1, l2, some (.int u)] st H Q ↔ Go 190 431 [l0, l1, l2, some (.int u)] (.int u :: st) H Q := G_iload_n fL_law_430 rfl
theorem fL_law_431 : ft 190 431 = some (.iconst 2, 0, 0, 0, .null) := by decide +kernel
theorem gL_law_431 {L : List (Option Value)} {st : List Value} {H : HP} {Q : Option Value → HP → Prop} : Go 190 431 L st H Q ↔ Go 190 432 L (vi 2 :: st) H Q := G_iconst fL_law_431
theorem fL_law_432 : ft 190 432 = some (.iadd, 0, 0, 0, .null) := by decide +kernel
theorem gL_law_432 {L : List (Option Value)} {a b : Int} {st : List Value} {H : HP} {Q : Option Value → HP → Prop} : Go 190 432 L (vi b :: vi a :: st) H Q ↔ Go 190 433 L (vi (a + b) :: st) H Q := G_iadd fL_law_432
theorem fL_law_433 : ft 190 433 = some (.iaload, 0, 0, 0, .null) := by decide +kernel
theorem gL_law_433 {L : List (Option Value)} {p : Nat} {a : Int} {st : List Value} {H : HP} {Q : Option Value → HP → Prop} : Go 190 433 L (vi a :: .ref p :: st) H Q ↔ Rd (aJ' (hget H p) a) 190 434 L st H Q := G_iald fL_law_433
theorem fL_law_434 : ft 190 434 = some (.aload_n 0, 0, 0, 0, .null) := by decide +kernel
theorem gL_law_434 {l1 l2 l3 : Option Value} {u : Nat} {st : List Value} {H : HP} {Q : Option Value → HP → Prop} : Go 190 434 [some (.ref u), l1, l2, l3] st H Q ↔ Go 190 435 [some (.ref u), l1, l2, l3] (.ref u :: st) H Q := G_aload_n fL_law_434 rfl
theorem fL_law_435 : ft 190 435 = some (.iload_n 3, 0, 0, 0, .null) := by decide +kernel
theorem gL_law_435 {l0 l1 l2 : Option Value} {u : Int32} {st : List Value} {H : HP} {Q : Option Value → HP → Prop} : Go 190 435 [l0, l1, l2, some (.int u)] st H Q ↔ Go 190 436 [l0, l1, l2, some (.int u)] (.int u :: st) H Q := G_iload_n fL_law_435 rfl
theorem fL_law_436 : ft 190 436 = some (.iconst 3, 0, 0, 0, .null) := by decide +kernel
theorem gL_law_436 {L : List (Option Value)} {st : List Value} {H : HP} {Q : Option Value → HP → Prop} : Go 190 436 L st H Q ↔ Go 190 437 L (vi 3 :: st) H Q := G_iconst fL_law_436
theorem fL_law_437 : ft 190 437 = some (.iadd, 0, 0, 0, .null) := by decide +kernel
theorem gL_law_437 {L : List (Option Value)} {a b : Int} {st : List Value} {H : HP} {Q : Option Value → HP → Prop} : Go 190 437 L (vi b :: vi a :: st) H Q ↔ Go 190 438 L (vi (a + b) :: st) H Q := G_iadd fL_law_437
theorem fL_law_438 : ft 190 438 = some (.iaload, 0, 0, 0, .null) := by decide +kernel
theorem gL_law_438 {L : List (Option Value)} {p : Nat} {a : Int} {st : List Value} {H : HP} {Q : Option Value → HP → Prop} : Go 190 438 L (vi a :: .ref p :: st) H Q ↔ Rd (aJ' (hget H p) a) 190 439 L st H Q := G_iald fL_law_438
theorem fL_law_439 : ft 190 439 = some (.invokevirtual 43, 133, 0, 892, .null) := by decide +kernel
theorem gL_law_439 {L : List (Option Value)} {p : Nat} {a0 : Int32} {a1 : Int32} {a2 : Int32} {r0 : Int64} {H : HP} {Q : Option Value → HP → Prop} : Go 190 439 L (.int a2 :: .int a1 :: .int a0 :: .ref p :: [.long r0]) H Q ↔ (iso 9 (hget H p) = true ∧ Go 133 0 [some (.ref p), some (.int a0), some (.int a1), some (.int a2)] [] H (Cont 190 442 L [.long r0] Q)) := G_cV (n := 3) (N := 4) (as := [.int a2, .int a1, .int a0]) (st := [.long r0]) fL_law_439 (by decide +kernel) rfl (Nat.le_of_ble_eq_true rfl) (Nat.le_of_ble_eq_true rfl) rfl
theorem fL_law_442 : ft 190 442 = some (.lcmp, 0, 0, 0, .null) := by decide +kernel
theorem fL_law_442' : ft 190 443 = some (.ifCond .eq 969, 0, 0, 0, .null) := by decide +kernel
theorem gL_law_442T {L : List (Option Value)} {a b : Int} (c : (-9223372036854775808 ≤ a ∧ a ≤ 9223372036854775807 ∧ -9223372036854775808 ≤ b ∧ b ≤ 9223372036854775807) ∧ a = b) {st : List Value} {H : HP} {Q : Option Value → HP → Prop} : Go 190 442 L (vl b :: vl a :: st) H Q ↔ Go 190 1412 L st H Q := G_lcT fL_law_442 fL_law_442' (by decide) c
theorem gL_law_442F {L : List (Option Value)} {a b : Int} (c : (-9223372036854775808 ≤ a ∧ a ≤ 9223372036854775807 ∧ -9223372036854775808 ≤ b ∧ b ≤ 9223372036854775807) ∧ ¬ (a = b)) {st : List Value} {H : HP} {Q : Option Value → HP → Prop} : Go 190 442 L (vl b :: vl a :: st) H Q ↔ Go 190 446 L st H Q := G_lcF (tg := 1412) fL_law_442 fL_law_442' (by decide) c
theorem fL_law_443 : ft 190 443 = some (.ifCond .eq 969, 0, 0, 0, .null) := by decide +kernel
theorem gL_law_443T {L : List (Option Value)} {a : Int} (c : (-2147483648 ≤ a ∧ a ≤ 2147483647) ∧ a = 0) {st : List Value} {H : HP} {Q : Option Value → HP → Prop} : Go 190 443 L (vi a :: st) H Q ↔ Go 190 1412 L st H Q := G_ifT fL_law_443 (by decide) c
theorem gL_law_443F {L : List (Option Value)} {a : Int} (c : (-2147483648 ≤ a ∧ a ≤ 2147483647) ∧ ¬ (a = 0)) {st : List Value} {H : HP} {Q : Option Value → HP → Prop} : Go 190 443 L (vi a :: st) H Q ↔ Go 190 446 L st H Q := G_ifF (tg := 1412) fL_law_443 (by decide) c
theorem fL_law_446 : ft 190 446 = some (.iconst 0, 0, 0, 0, .null) := by decide +kernel
theorem gL_law_446 {L : List (Option Value)} {st : List Value} {H : HP} {Q : Option Value → HP → Prop} : Go 190 446 L st H Q ↔ Go 190 447 L (vi 0 :: st) H Q := G_iconst fL_law_446
theorem fL_law_447 : ft 190 447 = some (.ireturn, 0, 0, 0, .null) := by decide +kernel
theorem gL_law_447 {L : List (Option Value)} {a : Int} (c : a = 0 ∨ a = 1) {H : HP} {Q : Option Value → HP → Prop} : Go 190 447 L [vi a] H Q ↔ Q (some (vi a)) H := G_zret fL_law_447 (by decide +kernel) c
theorem fL_law_448 : ft 190 448 = some (.aload_n 1, 0, 0, 0, .null) := by decide +kernel
theorem gL_law_448 {l0 l2 l3 : Option Value} {u : Nat} {st : List Value} {H : HP} {Q : Option Value → HP → Prop} : Go 190 448 [l0, some (.ref u), l2, l3] st H Q ↔ Go 190 449 [l0, some (.ref u), l2, l3] (.ref u :: st) H Q := G_aload_n fL_law_448 rfl
theorem gL_law_448N {l0 l2 l3 : Option Value} {st : List Value} {H : HP} {Q : Option Value → HP → Prop} : Go 190 448 [l0, some .null, l2, l3] st H Q ↔ Go 190 449 [l0, some .null, l2, l3] (.null :: st) H Q := G_aload_nN fL_law_448 rfl
theorem fL_law_449 : ft 190 449 = some (.aload_n 0, 0, 0, 0, .null) := by decide +kernel
theorem gL_law_449 {l1 l2 l3 : Option Value} {u : Nat} {st : List Value} {H : HP} {Q : Option Value → HP → Prop} : Go 190 449 [some (.ref u), l1, l2, l3] st H Q ↔ Go 190 450 [some (.ref u), l1, l2, l3] (.ref u :: st) H Q := G_aload_n fL_law_449 rfl
theorem fL_law_450 : ft 190 450 = some (.iload_n 3, 0, 0, 0, .null) := by decide +kernel
theorem gL_law_450 {l0 l1 l2 : Option Value} {u : Int32} {st : List Value} {H : HP} {Q : Option Value → HP → Prop} : Go 190 450 [l0, l1, l2, some (.int u)] st H Q ↔ Go 190 451 [l0, l1, l2, some (.int u)] (.int u :: st) H Q := G_iload_n fL_law_450 rfl
theorem fL_law_451 : ft 190 451 = some (.iconst 1, 0, 0, 0, .null) := by decide +kernel
theorem gL_law_451 {L : List (Option Value)} {st : List Value} {H : HP} {Q : Option Value → HP → Prop} : Go 190 451 L st H Q ↔ Go 190 452 L (vi 1 :: st) H Q := G_iconst fL_law_451
theorem fL_law_452 : ft 190 452 = some (.iadd, 0, 0, 0, .null) := by decide +kernel
theorem gL_law_452 {L : List (Option Value)} {a b : Int} {st : List Value} {H : HP} {Q : Option Value → HP → Prop} : Go 190 452 L (vi b :: vi a :: st) H Q ↔ Go 190 453 L (vi (a + b) :: st) H Q := G_iadd fL_law_452
theorem fL_law_453 : ft 190 453 = some (.iaload, 0, 0, 0, .null) := by decide +kernel
theorem gL_law_453 {L : List (Option Value)} {p : Nat} {a : Int} {st : List Value} {H : HP} {Q : Option Value → HP → Prop} : Go 190 453 L (vi a :: .ref p :: st) H Q ↔ Rd (aJ' (hget H p) a) 190 454 L st H Q := G_iald fL_law_453
theorem fL_law_454 : ft 190 454 = some (.invokevirtual 44, 76, 0, 340, .null) := by decide +kernel
theorem gL_law_454 {L : List (Option Value)} {p : Nat} {a0 : Int32}  {H : HP} {Q : Option Value → HP → Prop} : Go 190 454 L (.int a0 :: .ref p :: []) H Q ↔ (iso 8 (hget H p) = true ∧ Go 76 0 [some (.ref p), some (.int a0), none] [] H (Cont 190 457 L [] Q)) := G_cV (n := 1) (N := 3) (as := [.int a0]) (st := []) fL_law_454 (by decide +kernel) rfl (Nat.le_of_ble_eq_true rfl) (Nat.le_of_ble_eq_true rfl) rfl
theorem fL_law_457 : ft 190 457 = some (.aload_n 2, 0, 0, 0, .null) := by decide +kernel
theorem gL_law_457 {l0 l1 l3 : Option Value} {u : Nat} {st : List Value} {H : HP} {Q : Option Value → HP → Prop} : Go 190 457 [l0, l1, some (.ref u), l3] st H Q ↔ Go 190 458 [l0, l1, some (.ref u), l3] (.ref u :: st) H Q := G_aload_n fL_law_457 rfl
theorem gL_law_457N {l0 l1 l3 : Option Value} {st : List Value} {H : HP} {Q : Option Value → HP → Prop} : Go 190 457 [l0, l1, some .null, l3] st H Q ↔ Go 190 458 [l0, l1, some .null, l3] (.null :: st) H Q := G_aload_nN fL_law_457 rfl
theorem fL_law_458 : ft 190 458 = some (.aload_n 0, 0, 0, 0, .null) := by decide +kernel
theorem gL_law_458 {l1 l2 l3 : Option Value} {u : Nat} {st : List Value} {H : HP} {Q : Option Value → HP → Prop} : Go 190 458 [some (.ref u), l1, l2, l3] st H Q ↔ Go 190 459 [some (.ref u), l1, l2, l3] (.ref u :: st) H Q := G_aload_n fL_law_458 rfl
theorem fL_law_459 : ft 190 459 = some (.iload_n 3, 0, 0, 0, .null) := by decide +kernel
theorem gL_law_459 {l0 l1 l2 : Option Value} {u : Int32} {st : List Value} {H : HP} {Q : Option Value → HP → Prop} : Go 190 459 [l0, l1, l2, some (.int u)] st H Q ↔ Go 190 460 [l0, l1, l2, some (.int u)] (.int u :: st) H Q := G_iload_n fL_law_459 rfl
theorem fL_law_460 : ft 190 460 = some (.iconst 1, 0, 0, 0, .null) := by decide +kernel
theorem gL_law_460 {L : List (Option Value)} {st : List Value} {H : HP} {Q : Option Value → HP → Prop} : Go 190 460 L st H Q ↔ Go 190 461 L (vi 1 :: st) H Q := G_iconst fL_law_460
theorem fL_law_461 : ft 190 461 = some (.iadd, 0, 0, 0, .null) := by decide +kernel
theorem gL_law_461 {L : List (Option Value)} {a b : Int} {st : List Value} {H : HP} {Q : Option Value → HP → Prop} : Go 190 461 L (vi b :: vi a :: st) H Q ↔ Go 190 462 L (vi (a + b) :: st) H Q := G_iadd fL_law_461
theorem fL_law_462 : ft 190 462 = some (.iaload, 0, 0, 0, .null) := by decide +kernel
theorem gL_law_462 {L : List (Option Value)} {p : Nat} {a : Int} {st : List Value} {H : HP} {Q : Option Value → HP → Prop} : Go 190 462 L (vi a :: .ref p :: st) H Q ↔ Rd (aJ' (hget H p) a) 190 463 L st H Q := G_iald fL_law_462
theorem fL_law_463 : ft 190 463 = some (.invokevirtual 48, 135, 0, 896, .null) := by decide +kernel
theorem gL_law_463 {L : List (Option Value)} {p : Nat} {a0 : Int32} {r0 : Int32} {H : HP} {Q : Option Value → HP → Prop} : Go 190 463 L (.int a0 :: .ref p :: [.int r0]) H Q ↔ (iso 9 (hget H p) = true ∧ Go 135 0 [some (.ref p), some (.int a0), none] [] H (Cont 190 466 L [.int r0] Q)) := G_cV (n := 1) (N := 3) (as := [.int a0]) (st := [.int r0]) fL_law_463 (by decide +kernel) rfl (Nat.le_of_ble_eq_true rfl) (Nat.le_of_ble_eq_true rfl) rfl
theorem fL_law_466 : ft 190 466 = some (.if_icmp .eq 946, 0, 0, 0, .null) := by decide +kernel
theorem gL_law_466T {L : List (Option Value)} {a b : Int} (c : (-2147483648 ≤ a ∧ a ≤ 2147483647 ∧ -2147483648 ≤ b ∧ b ≤ 2147483647) ∧ a = b) {st : List Value} {H : HP} {Q : Option Value → HP → Prop} : Go 190 466 L (vi b :: vi a :: st) H Q ↔ Go 190 1412 L st H Q := G_icT fL_law_466 (by decide) c
theorem gL_law_466F {L : List (Option Value)} {a b : Int} (c : (-2147483648 ≤ a ∧ a ≤ 2147483647 ∧ -2147483648 ≤ b ∧ b ≤ 2147483647) ∧ ¬ (a = b)) {st : List Value} {H : HP} {Q : Option Value → HP → Prop} : Go 190 466 L (vi b :: vi a :: st) H Q ↔ Go 190 469 L st H Q := G_icF (tg := 1412) fL_law_466 (by decide) c
theorem fL_law_469 : ft 190 469 = some (.iconst 0, 0, 0, 0, .null) := by decide +kernel
theorem gL_law_469 {L : List (Option Value)} {st : List Value} {H : HP} {Q : Option Value → HP → Prop} : Go 190 469 L st H Q ↔ Go 190 470 L (vi 0 :: st) H Q := G_iconst fL_law_469
theorem fL_law_470 : ft 190 470 = some (.ireturn, 0, 0, 0, .null) := by decide +kernel
theorem gL_law_470 {L : List (Option Value)} {a : Int} (c : a = 0 ∨ a = 1) {H : HP} {Q : Option Value → HP → Prop} : Go 190 470 L [vi a] H Q ↔ Q (some (vi a)) H := G_zret fL_law_470 (by decide +kernel) c
theorem fL_law_471 : ft 190 471 = some (.aload_n 1, 0, 0, 0, .null) := by decide +kernel
theorem gL_law_471 {l0 l2 l3 : Option Value} {u : Nat} {st : List Value} {H : HP} {Q : Option Value → HP → Prop} : Go 190 471 [l0, some (.ref u), l2, l3] st H Q ↔ Go 190 472 [l0, some (.ref u), l2, l3] (.ref u :: st) H Q := G_aload_n fL_law_471 rfl
theorem gL_law_471N {l0 l2 l3 : Option Value} {st : List Value} {H : HP} {Q : Option Value → HP → Prop} : Go 190 471 [l0, some .null, l2, l3] st H Q ↔ Go 190 472 [l0, some .null, l2, l3] (.null :: st) H Q := G_aload_nN fL_law_471 rfl
theorem fL_law_472 : ft 190 472 = some (.aload_n 0, 0, 0, 0, .null) := by decide +kernel
theorem gL_law_472 {l1 l2 l3 : Option Value} {u : Nat} {st : List Value} {H : HP} {Q : Option Value → HP → Prop} : Go 190 472 [some (.ref u), l1, l2, l3] st H Q ↔ Go 190 473 [some (.ref u), l1, l2, l3] (.ref u :: st) H Q := G_aload_n fL_law_472 rfl
theorem fL_law_473 : ft 190 473 = some (.iload_n 3, 0, 0, 0, .null) := by decide +kernel
theorem gL_law_473 {l0 l1 l2 : Option Value} {u : Int32} {st : List Value} {H : HP} {Q : Option Value → HP → Prop} : Go 190 473 [l0, l1, l2, some (.int u)] st H Q ↔ Go 190 474 [l0, l1, l2, some (.int u)] (.int u :: st) H Q := G_iload_n fL_law_473 rfl
theorem fL_law_474 : ft 190 474 = some (.iconst 1, 0, 0, 0, .null) := by decide +kernel
theorem gL_law_474 {L : List (Option Value)} {st : List Value} {H : HP} {Q : Option Value → HP → Prop} : Go 190 474 L st H Q ↔ Go 190 475 L (vi 1 :: st) H Q := G_iconst fL_law_474
theorem fL_law_475 : ft 190 475 = some (.iadd, 0, 0, 0, .null) := by decide +kernel
theorem gL_law_475 {L : List (Option Value)} {a b : Int} {st : List Value} {H : HP} {Q : Option Value → HP → Prop} : Go 190 475 L (vi b :: vi a :: st) H Q ↔ Go 190 476 L (vi (a + b) :: st) H Q := G_iadd fL_law_475
theorem fL_law_476 : ft 190 476 = some (.iaload, 0, 0, 0, .null) := by decide +kernel
theorem gL_law_476 {L : List (Option Value)} {p : Nat} {a : Int} {st : List Value} {H : HP} {Q : Option Value → HP → Prop} : Go 190 476 L (vi a :: .ref p :: st) H Q ↔ Rd (aJ' (hget H p) a) 190 477 L st H Q := G_iald fL_law_476
theorem fL_law_477 : ft 190 477 = some (.aload_n 0, 0, 0, 0, .null) := by decide +kernel
theorem gL_law_477 {l1 l2 l3 : Option Value} {u : Nat} {st : List Value} {H : HP} {Q : Option Value → HP → Prop} : Go 190 477 [some (.ref u), l1, l2, l3] st H Q ↔ Go 190 478 [some (.ref u), l1, l2, l3] (.ref u :: st) H Q := G_aload_n fL_law_477 rfl
theorem fL_law_478 : ft 190 478 = some (.iload_n 3, 0, 0, 0, .null) := by decide +kernel
theorem gL_law_478 {l0 l1 l2 : Option Value} {u : Int32} {st : List Value} {H : HP} {Q : Option Value → HP → Prop} : Go 190 478 [l0, l1, l2, some (.int u)] st H Q ↔ Go 190 479 [l0, l1, l2, some (.int u)] (.int u :: st) H Q := G_iload_n fL_law_478 rfl
theorem fL_law_479 : ft 190 479 = some (.iconst 2, 0, 0, 0, .null) := by decide +kernel
theorem gL_law_479 {L : List (Option Value)} {st : List Value} {H : HP} {Q : Option Value → HP → Prop} : Go 190 479 L st H Q ↔ Go 190 480 L (vi 2 :: st) H Q := G_iconst fL_law_479
theorem fL_law_480 : ft 190 480 = some (.iadd, 0, 0, 0, .null) := by decide +kernel
theorem gL_law_480 {L : List (Option Value)} {a b : Int} {st : List Value} {H : HP} {Q : Option Value → HP → Prop} : Go 190 480 L (vi b :: vi a :: st) H Q ↔ Go 190 481 L (vi (a + b) :: st) H Q := G_iadd fL_law_480
theorem fL_law_481 : ft 190 481 = some (.iaload, 0, 0, 0, .null) := by decide +kernel
theorem gL_law_481 {L : List (Option Value)} {p : Nat} {a : Int} {st : List Value} {H : HP} {Q : Option Value → HP → Prop} : Go 190 481 L (vi a :: .ref p :: st) H Q ↔ Rd (aJ' (hget H p) a) 190 482 L st H Q := G_iald fL_law_481
theorem fL_law_482 : ft 190 482 = some (.invokevirtual 49, 77, 0, 354, .null) := by decide +kernel
theorem gL_law_482 {L : List (Option Value)} {p : Nat} {a0 : Int32} {a1 : Int32}  {H : HP} {Q : Option Value → HP → Prop} : Go 190 482 L (.int a1 :: .int a0 :: .ref p :: []) H Q ↔ (iso 8 (hget H p) = true ∧ Go 77 0 [some (.ref p), some (.int a0), some (.int a1), none] [] H (Cont 190 485 L [] Q)) := G_cV (n := 2) (N := 4) (as := [.int a1, .int a0]) (st := []) fL_law_482 (by decide +kernel) rfl (Nat.le_of_ble_eq_true rfl) (Nat.le_of_ble_eq_true rfl) rfl
theorem fL_law_485 : ft 190 485 = some (.aload_n 2, 0, 0, 0, .null) := by decide +kernel
theorem gL_law_485 {l0 l1 l3 : Option Value} {u : Nat} {st : List Value} {H : HP} {Q : Option Value → HP → Prop} : Go 190 485 [l0, l1, some (.ref u), l3] st H Q ↔ Go 190 486 [l0, l1, some (.ref u), l3] (.ref u :: st) H Q := G_aload_n fL_law_485 rfl
theorem gL_law_485N {l0 l1 l3 : Option Value} {st : List Value} {H : HP} {Q : Option Value → HP → Prop} : Go 190 485 [l0, l1, some .null, l3] st H Q ↔ Go 190 486 [l0, l1, some .null, l3] (.null :: st) H Q := G_aload_nN fL_law_485 rfl
theorem fL_law_486 : ft 190 486 = some (.aload_n 0, 0, 0, 0, .null) := by decide +kernel
theorem gL_law_486 {l1 l2 l3 : Option Value} {u : Nat} {st : List Value} {H : HP} {Q : Option Value → HP → Prop} : Go 190 486 [some (.ref u), l1, l2, l3] st H Q ↔ Go 190 487 [some (.ref u), l1, l2, l3] (.ref u :: st) H Q := G_aload_n fL_law_486 rfl
theorem fL_law_487 : ft 190 487 = some (.iload_n 3, 0, 0, 0, .null) := by decide +kernel
theorem gL_law_487 {l0 l1 l2 : Option Value} {u : Int32} {st : List Value} {H : HP} {Q : Option Value → HP → Prop} : Go 190 487 [l0, l1, l2, some (.int u)] st H Q ↔ Go 190 488 [l0, l1, l2, some (.int u)] (.int u :: st) H Q := G_iload_n fL_law_487 rfl
theorem fL_law_488 : ft 190 488 = some (.iconst 1, 0, 0, 0, .null) := by decide +kernel
theorem gL_law_488 {L : List (Option Value)} {st : List Value} {H : HP} {Q : Option Value → HP → Prop} : Go 190 488 L st H Q ↔ Go 190 489 L (vi 1 :: st) H Q := G_iconst fL_law_488
theorem fL_law_489 : ft 190 489 = some (.iadd, 0, 0, 0, .null) := by decide +kernel
theorem gL_law_489 {L : List (Option Value)} {a b : Int} {st : List Value} {H : HP} {Q : Option Value → HP → Prop} : Go 190 489 L (vi b :: vi a :: st) H Q ↔ Go 190 490 L (vi (a + b) :: st) H Q := G_iadd fL_law_489
theorem fL_law_490 : ft 190 490 = some (.iaload, 0, 0, 0, .null) := by decide +kernel
theorem gL_law_490 {L : List (Option Value)} {p : Nat} {a : Int} {st : List Value} {H : HP} {Q : Option Value → HP → Prop} : Go 190 490 L (vi a :: .ref p :: st) H Q ↔ Rd (aJ' (hget H p) a) 190 491 L st H Q := G_iald fL_law_490
theorem fL_law_491 : ft 190 491 = some (.aload_n 0, 0, 0, 0, .null) := by decide +kernel
theorem gL_law_491 {l1 l2 l3 : Option Value} {u : Nat} {st : List Value} {H : HP} {Q : Option Value → HP → Prop} : Go 190 491 [some (.ref u), l1, l2, l3] st H Q ↔ Go 190 492 [some (.ref u), l1, l2, l3] (.ref u :: st) H Q := G_aload_n fL_law_491 rfl
theorem fL_law_492 : ft 190 492 = some (.iload_n 3, 0, 0, 0, .null) := by decide +kernel
theorem gL_law_492 {l0 l1 l2 : Option Value} {u : Int32} {st : List Value} {H : HP} {Q : Option Value → HP → Prop} : Go 190 492 [l0, l1, l2, some (.int u)] st H Q ↔ Go 190 493 [l0, l1, l2, some (.int u)] (.int u :: st) H Q := G_iload_n fL_law_492 rfl
theorem fL_law_493 : ft 190 493 = some (.iconst 2, 0, 0, 0, .null) := by decide +kernel
theorem gL_law_493 {L : List (Option Value)} {st : List Value} {H : HP} {Q : Option Value → HP → Prop} : Go 190 493 L st H Q ↔ Go 190 494 L (vi 2 :: st) H Q := G_iconst fL_law_493
theorem fL_law_494 : ft 190 494 = some (.iadd, 0, 0, 0, .null) := by decide +kernel
theorem gL_law_494 {L : List (Option Value)} {a b : Int} {st : List Value} {H : HP} {Q : Option Value → HP → Prop} : Go 190 494 L (vi b :: vi a :: st) H Q ↔ Go 190 495 L (vi (a + b) :: st) H Q := G_iadd fL_law_494
theorem fL_law_495 : ft 190 495 = some (.iaload, 0, 0, 0, .null) := by decide +kernel
theorem gL_law_495 {L : List (Option Value)} {p : Nat} {a : Int} {st : List Value} {H : HP} {Q : Option Value → HP → Prop} : Go 190 495 L (vi a :: .ref p :: st) H Q ↔ Rd (aJ' (hget H p) a) 190 496 L st H Q := G_iald fL_law_495
theorem fL_law_496 : ft 190 496 = some (.invokevirtual 52, 136, 0, 904, .null) := by decide +kernel
theorem gL_law_496 {L : List (Option Value)} {p : Nat} {a0 : Int32} {a1 : Int32} {r0 : Int32} {H : HP} {Q : Option Value → HP → Prop} : Go 190 496 L (.int a1 :: .int a0 :: .ref p :: [.int r0]) H Q ↔ (iso 9 (hget H p) = true ∧ Go 136 0 [some (.ref p), some (.int a0), some (.int a1), none, none] [] H (Cont 190 499 L [.int r0] Q)) := G_cV (n := 2) (N := 5) (as := [.int a1, .int a0]) (st := [.int r0]) fL_law_496 (by decide +kernel) rfl (Nat.le_of_ble_eq_true rfl) (Nat.le_of_ble_eq_true rfl) rfl
theorem fL_law_499 : ft 190 499 = some (.if_icmp .eq 913, 0, 0, 0, .null) := by decide +kernel
theorem gL_law_499T {L : List (Option Value)} {a b : Int} (c : (-2147483648 ≤ a ∧ a ≤ 2147483647 ∧ -2147483648 ≤ b ∧ b ≤ 2147483647) ∧ a = b) {st : List Value} {H : HP} {Q : Option Value → HP → Prop} : Go 190 499 L (vi b :: vi a :: st) H Q ↔ Go 190 1412 L st H Q := G_icT fL_law_499 (by decide) c
theorem gL_law_499F {L : List (Option Value)} {a b : Int} (c : (-2147483648 ≤ a ∧ a ≤ 2147483647 ∧ -2147483648 ≤ b ∧ b ≤ 2147483647) ∧ ¬ (a = b)) {st : List Value} {H : HP} {Q : Option Value → HP → Prop} : Go 190 499 L (vi b :: vi a :: st) H Q ↔ Go 190 502 L st H Q := G_icF (tg := 1412) fL_law_499 (by decide) c
theorem fL_law_502 : ft 190 502 = some (.iconst 0, 0, 0, 0, .null) := by decide +kernel
theorem gL_law_502 {L : List (Option Value)} {st : List Value} {H : HP} {Q : Option Value → HP → Prop} : Go 190 502 L st H Q ↔ Go 190 503 L (vi 0 :: st) H Q := G_iconst fL_law_502
theorem fL_law_503 : ft 190 503 = some (.ireturn, 0, 0, 0, .null) := by decide +kernel
theorem gL_law_503 {L : List (Option Value)} {a : Int} (c : a = 0 ∨ a = 1) {H : HP} {Q : Option Value → HP → Prop} : Go 190 503 L [vi a] H Q ↔ Q (some (vi a)) H := G_zret fL_law_503 (by decide +kernel) c
theorem fL_law_504 : ft 190 504 = some (.aload_n 1, 0, 0, 0, .null) := by decide +kernel
theorem gL_law_504 {l0 l2 l3 : Option Value} {u : Nat} {st : List Value} {H : HP} {Q : Option Value → HP → Prop} : Go 190 504 [l0, some (.ref u), l2, l3] st H Q ↔ Go 190 505 [l0, some (.ref u), l2, l3] (.ref u :: st) H Q := G_aload_n fL_law_504 rfl
theorem gL_law_504N {l0 l2 l3 : Option Value} {st : List Value} {H : HP} {Q : Option Value → HP → Prop} : Go 190 504 [l0, some .null, l2, l3] st H Q ↔ Go 190 505 [l0, some .null, l2, l3] (.null :: st) H Q := G_aload_nN fL_law_504 rfl
theorem fL_law_505 : ft 190 505 = some (.aload_n 0, 0, 0, 0, .null) := by decide +kernel
theorem gL_law_505 {l1 l2 l3 : Option Value} {u : Nat} {st : List Value} {H : HP} {Q : Option Value → HP → Prop} : Go 190 505 [some (.ref u), l1, l2, l3] st H Q ↔ Go 190 506 [some (.ref u), l1, l2, l3] (.ref u :: st) H Q := G_aload_n fL_law_505 rfl
theorem fL_law_506 : ft 190 506 = some (.iload_n 3, 0, 0, 0, .null) := by decide +kernel
theorem gL_law_506 {l0 l1 l2 : Option Value} {u : Int32} {st : List Value} {H : HP} {Q : Option Value → HP → Prop} : Go 190 506 [l0, l1, l2, some (.int u)] st H Q ↔ Go 190 507 [l0, l1, l2, some (.int u)] (.int u :: st) H Q := G_iload_n fL_law_506 rfl
theorem fL_law_507 : ft 190 507 = some (.iconst 1, 0, 0, 0, .null) := by decide +kernel
theorem gL_law_507 {L : List (Option Value)} {st : List Value} {H : HP} {Q : Option Value → HP → Prop} : Go 190 507 L st H Q ↔ Go 190 508 L (vi 1 :: st) H Q := G_iconst fL_law_507
theorem fL_law_508 : ft 190 508 = some (.iadd, 0, 0, 0, .null) := by decide +kernel
theorem gL_law_508 {L : List (Option Value)} {a b : Int} {st : List Value} {H : HP} {Q : Option Value → HP → Prop} : Go 190 508 L (vi b :: vi a :: st) H Q ↔ Go 190 509 L (vi (a + b) :: st) H Q := G_iadd fL_law_508
theorem fL_law_509 : ft 190 509 = some (.iaload, 0, 0, 0, .null) := by decide +kernel
theorem gL_law_509 {L : List (Option Value)} {p : Nat} {a : Int} {st : List Value} {H : HP} {Q : Option Value → HP → Prop} : Go 190 509 L (vi a :: .ref p :: st) H Q ↔ Rd (aJ' (hget H p) a) 190 510 L st H Q := G_iald fL_law_509
theorem fL_law_510 : ft 190 510 = some (.aload_n 0, 0, 0, 0, .null) := by decide +kernel
theorem gL_law_510 {l1 l2 l3 : Option Value} {u : Nat} {st : List Value} {H : HP} {Q : Option Value → HP → Prop} : Go 190 510 [some (.ref u), l1, l2, l3] st H Q ↔ Go 190 511 [some (.ref u), l1, l2, l3] (.ref u :: st) H Q := G_aload_n fL_law_510 rfl
theorem fL_law_511 : ft 190 511 = some (.iload_n 3, 0, 0, 0, .null) := by decide +kernel
theorem gL_law_511 {l0 l1 l2 : Option Value} {u : Int32} {st : List Value} {H : HP} {Q : Option Value → HP → Prop} : Go 190 511 [l0, l1, l2, some (.int u)] st H Q ↔ Go 190 512 [l0, l1, l2, some (.int u)] (.int u :: st) H Q := G_iload_n fL_law_511 rfl
theorem fL_law_512 : ft 190 512 = some (.iconst 2, 0, 0, 0, .null) := by decide +kernel
theorem gL_law_512 {L : List (Option Value)} {st : List Value} {H : HP} {Q : Option Value → HP → Prop} : Go 190 512 L st H Q ↔ Go 190 513 L (vi 2 :: st) H Q := G_iconst fL_law_512
theorem fL_law_513 : ft 190 513 = some (.iadd, 0, 0, 0, .null) := by decide +kernel
theorem gL_law_513 {L : List (Option Value)} {a b : Int} {st : List Value} {H : HP} {Q : Option Value → HP → Prop} : Go 190 513 L (vi b :: vi a :: st) H Q ↔ Go 190 514 L (vi (a + b) :: st) H Q := G_iadd fL_law_513
theorem fL_law_514 : ft 190 514 = some (.iaload, 0, 0, 0, .null) := by decide +kernel
theorem gL_law_514 {L : List (Option Value)} {p : Nat} {a : Int} {st : List Value} {H : HP} {Q : Option Value → HP → Prop} : Go 190 514 L (vi a :: .ref p :: st) H Q ↔ Rd (aJ' (hget H p) a) 190 515 L st H Q := G_iald fL_law_514
theorem fL_law_515 : ft 190 515 = some (.invokevirtual 53, 78, 0, 366, .null) := by decide +kernel
theorem gL_law_515 {L : List (Option Value)} {p : Nat} {a0 : Int32} {a1 : Int32}  {H : HP} {Q : Option Value → HP → Prop} : Go 190 515 L (.int a1 :: .int a0 :: .ref p :: []) H Q ↔ (iso 8 (hget H p) = true ∧ Go 78 0 [some (.ref p), some (.int a0), some (.int a1)] [] H (Cont 190 518 L [] Q)) := G_cV (n := 2) (N := 3) (as := [.int a1, .int a0]) (st := []) fL_law_515 (by decide +kernel) rfl (Nat.le_of_ble_eq_true rfl) (Nat.le_of_ble_eq_true rfl) rfl
theorem fL_law_518 : ft 190 518 = some (.aload_n 2, 0, 0, 0, .null) := by decide +kernel
theorem gL_law_518 {l0 l1 l3 : Option Value} {u : Nat} {st : List Value} {H : HP} {Q : Option Value → HP → Prop} : Go 190 518 [l0, l1, some (.ref u), l3] st H Q ↔ Go 190 519 [l0, l1, some (.ref u), l3] (.ref u :: st) H Q := G_aload_n fL_law_518 rfl
theorem gL_law_518N {l0 l1 l3 : Option Value} {st : List Value} {H : HP} {Q : Option Value → HP → Prop} : Go 190 518 [l0, l1, some .null, l3] st H Q ↔ Go 190 519 [l0, l1, some .null, l3] (.null :: st) H Q := G_aload_nN fL_law_518 rfl
theorem fL_law_519 : ft 190 519 = some (.aload_n 0, 0, 0, 0, .null) := by decide +kernel
theorem gL_law_519 {l1 l2 l3 : Option Value} {u : Nat} {st : List Value} {H : HP} {Q : Option Value → HP → Prop} : Go 190 519 [some (.ref u), l1, l2, l3] st H Q ↔ Go 190 520 [some (.ref u), l1, l2, l3] (.ref u :: st) H Q := G_aload_n fL_law_519 rfl
theorem fL_law_520 : ft 190 520 = some (.iload_n 3, 0, 0, 0, .null) := by decide +kernel
theorem gL_law_520 {l0 l1 l2 : Option Value} {u : Int32} {st : List Value} {H : HP} {Q : Option Value → HP → Prop} : Go 190 520 [l0, l1, l2, some (.int u)] st H Q ↔ Go 190 521 [l0, l1, l2, some (.int u)] (.int u :: st) H Q := G_iload_n fL_law_520 rfl
theorem fL_law_521 : ft 190 521 = some (.iconst 1, 0, 0, 0, .null) := by decide +kernel
theorem gL_law_521 {L : List (Option Value)} {st : List Value} {H : HP} {Q : Option Value → HP → Prop} : Go 190 521 L st H Q ↔ Go 190 522 L (vi 1 :: st) H Q := G_iconst fL_law_521
theorem fL_law_522 : ft 190 522 = some (.iadd, 0, 0, 0, .null) := by decide +kernel
theorem gL_law_522 {L : List (Option Value)} {a b : Int} {st : List Value} {H : HP} {Q : Option Value → HP → Prop} : Go 190 522 L (vi b :: vi a :: st) H Q ↔ Go 190 523 L (vi (a + b) :: st) H Q := G_iadd fL_law_522
theorem fL_law_523 : ft 190 523 = some (.iaload, 0, 0, 0, .null) := by decide +kernel
theorem gL_law_523 {L : List (Option Value)} {p : Nat} {a : Int} {st : List Value} {H : HP} {Q : Option Value → HP → Prop} : Go 190 523 L (vi a :: .ref p :: st) H Q ↔ Rd (aJ' (hget H p) a) 190 524 L st H Q := G_iald fL_law_523
theorem fL_law_524 : ft 190 524 = some (.aload_n 0, 0, 0, 0, .null) := by decide +kernel
theorem gL_law_524 {l1 l2 l3 : Option Value} {u : Nat} {st : List Value} {H : HP} {Q : Option Value → HP → Prop} : Go 190 524 [some (.ref u), l1, l2, l3] st H Q ↔ Go 190 525 [some (.ref u), l1, l2, l3] (.ref u :: st) H Q := G_aload_n fL_law_524 rfl
theorem fL_law_525 : ft 190 525 = some (.iload_n 3, 0, 0, 0, .null) := by decide +kernel
theorem gL_law_525 {l0 l1 l2 : Option Value} {u : Int32} {st : List Value} {H : HP} {Q : Option Value → HP → Prop} : Go 190 525 [l0, l1, l2, some (.int u)] st H Q ↔ Go 190 526 [l0, l1, l2, some (.int u)] (.int u :: st) H Q := G_iload_n fL_law_525 rfl
theorem fL_law_526 : ft 190 526 = some (.iconst 2, 0, 0, 0, .null) := by decide +kernel
theorem gL_law_526 {L : List (Option Value)} {st : List Value} {H : HP} {Q : Option Value → HP → Prop} : Go 190 526 L st H Q ↔ Go 190 527 L (vi 2 :: st) H Q := G_iconst fL_law_526
theorem fL_law_527 : ft 190 527 = some (.iadd, 0, 0, 0, .null) := by decide +kernel
theorem gL_law_527 {L : List (Option Value)} {a b : Int} {st : List Value} {H : HP} {Q : Option Value → HP → Prop} : Go 190 527 L (vi b :: vi a :: st) H Q ↔ Go 190 528 L (vi (a + b) :: st) H Q := G_iadd fL_law_527
theorem fL_law_528 : ft 190 528 = some (.iaload, 0, 0, 0, .null) := by decide +kernel
theorem gL_law_528 {L : List (Option Value)} {p : Nat} {a : Int} {st : List Value} {H : HP} {Q : Option Value → HP → Prop} : Go 190 528 L (vi a :: .ref p :: st) H Q ↔ Rd (aJ' (hget H p) a) 190 529 L st H Q := G_iald fL_law_528
theorem fL_law_529 : ft 190 529 = some (.invokevirtual 56, 142, 0, 908, .null) := by decide +kernel
theorem gL_law_529 {L : List (Option Value)} {p : Nat} {a0 : Int32} {a1 : Int32} {r0 : Int64} {H : HP} {Q : Option Value → HP → Prop} : Go 190 529 L (.int a1 :: .int a0 :: .ref p :: [.long r0]) H Q ↔ (iso 9 (hget H p) = true ∧ Go 142 0 [some (.ref p), some (.int a0), some (.int a1)] [] H (Cont 190 532 L [.long r0] Q)) := G_cV (n := 2) (N := 3) (as := [.int a1, .int a0]) (st := [.long r0]) fL_law_529 (by decide +kernel) rfl (Nat.le_of_ble_eq_true rfl) (Nat.le_of_ble_eq_true rfl) rfl
theorem fL_law_532 : ft 190 532 = some (.lcmp, 0, 0, 0, .null) := by decide +kernel
theorem fL_law_532' : ft 190 533 = some (.ifCond .eq 879, 0, 0, 0, .null) := by decide +kernel
theorem gL_law_532T {L : List (Option Value)} {a b : Int} (c : (-9223372036854775808 ≤ a ∧ a ≤ 9223372036854775807 ∧ -9223372036854775808 ≤ b ∧ b ≤ 9223372036854775807) ∧ a = b) {st : List Value} {H : HP} {Q : Option Value → HP → Prop} : Go 190 532 L (vl b :: vl a :: st) H Q ↔ Go 190 1412 L st H Q := G_lcT fL_law_532 fL_law_532' (by decide) c
theorem gL_law_532F {L : List (Option Value)} {a b : Int} (c : (-9223372036854775808 ≤ a ∧ a ≤ 9223372036854775807 ∧ -9223372036854775808 ≤ b ∧ b ≤ 9223372036854775807) ∧ ¬ (a = b)) {st : List Value} {H : HP} {Q : Option Value → HP → Prop} : Go 190 532 L (vl b :: vl a :: st) H Q ↔ Go 190 536 L st H Q := G_lcF (tg := 1412) fL_law_532 fL_law_532' (by decide) c
theorem fL_law_533 : ft 190 533 = some (.ifCond .eq 879, 0, 0, 0, .null) := by decide +kernel
theorem gL_law_533T {L : List (Option Value)} {a : Int} (c : (-2147483648 ≤ a ∧ a ≤ 2147483647) ∧ a = 0) {st : List Value} {H : HP} {Q : Option Value → HP → Prop} : Go 190 533 L (vi a :: st) H Q ↔ Go 190 1412 L st H Q := G_ifT fL_law_533 (by decide) c
theorem gL_law_533F {L : List (Option Value)} {a : Int} (c : (-2147483648 ≤ a ∧ a ≤ 2147483647) ∧ ¬ (a = 0)) {st : List Value} {H : HP} {Q : Option Value → HP → Prop} : Go 190 533 L (vi a :: st) H Q ↔ Go 190 536 L st H Q := G_ifF (tg := 1412) fL_law_533 (by decide) c
theorem fL_law_536 : ft 190 536 = some (.iconst 0, 0, 0, 0, .null) := by decide +kernel
theorem gL_law_536 {L : List (Option Value)} {st : List Value} {H : HP} {Q : Option Value → HP → Prop} : Go 190 536 L st H Q ↔ Go 190 537 L (vi 0 :: st) H Q := G_iconst fL_law_536
theorem fL_law_537 : ft 190 537 = some (.ireturn, 0, 0, 0, .null) := by decide +kernel
theorem gL_law_537 {L : List (Option Value)} {a : Int} (c : a = 0 ∨ a = 1) {H : HP} {Q : Option Value → HP → Prop} : Go 190 537 L [vi a] H Q ↔ Q (some (vi a)) H := G_zret fL_law_537 (by decide +kernel) c
theorem fL_law_538 : ft 190 538 = some (.aload_n 1, 0, 0, 0, .null) := by decide +kernel
theorem gL_law_538 {l0 l2 l3 : Option Value} {u : Nat} {st : List Value} {H : HP} {Q : Option Value → HP → Prop} : Go 190 538 [l0, some (.ref u), l2, l3] st H Q ↔ Go 190 539 [l0, some (.ref u), l2, l3] (.ref u :: st) H Q := G_aload_n fL_law_538 rfl
theorem gL_law_538N {l0 l2 l3 : Option Value} {st : List Value} {H : HP} {Q : Option Value → HP → Prop} : Go 190 538 [l0, some .null, l2, l3] st H Q ↔ Go 190 539 [l0, some .null, l2, l3] (.null :: st) H Q := G_aload_nN fL_law_538 rfl
theorem fL_law_539 : ft 190 539 = some (.aload_n 0, 0, 0, 0, .null) := by decide +kernel
theorem gL_law_539 {l1 l2 l3 : Option Value} {u : Nat} {st : List Value} {H : HP} {Q : Option Value → HP → Prop} : Go 190 539 [some (.ref u), l1, l2, l3] st H Q ↔ Go 190 540 [some (.ref u), l1, l2, l3] (.ref u :: st) H Q := G_aload_n fL_law_539 rfl
theorem fL_law_540 : ft 190 540 = some (.iload_n 3, 0, 0, 0, .null) := by decide +kernel
theorem gL_law_540 {l0 l1 l2 : Option Value} {u : Int32} {st : List Value} {H : HP} {Q : Option Value → HP → Prop} : Go 190 540 [l0, l1, l2, some (.int u)] st H Q ↔ Go 190 541 [l0, l1, l2, some (.int u)] (.int u :: st) H Q := G_iload_n fL_law_540 rfl
theorem fL_law_541 : ft 190 541 = some (.iconst 1, 0, 0, 0, .null) := by decide +kernel
theorem gL_law_541 {L : List (Option Value)} {st : List Value} {H : HP} {Q : Option Value → HP → Prop} : Go 190 541 L st H Q ↔ Go 190 542 L (vi 1 :: st) H Q := G_iconst fL_law_541
theorem fL_law_542 : ft 190 542 = some (.iadd, 0, 0, 0, .null) := by decide +kernel
theorem gL_law_542 {L : List (Option Value)} {a b : Int} {st : List Value} {H : HP} {Q : Option Value → HP → Prop} : Go 190 542 L (vi b :: vi a :: st) H Q ↔ Go 190 543 L (vi (a + b) :: st) H Q := G_iadd fL_law_542
theorem fL_law_543 : ft 190 543 = some (.iaload, 0, 0, 0, .null) := by decide +kernel
theorem gL_law_543 {L : List (Option Value)} {p : Nat} {a : Int} {st : List Value} {H : HP} {Q : Option Value → HP → Prop} : Go 190 543 L (vi a :: .ref p :: st) H Q ↔ Rd (aJ' (hget H p) a) 190 544 L st H Q := G_iald fL_law_543
theorem fL_law_544 : ft 190 544 = some (.aload_n 0, 0, 0, 0, .null) := by decide +kernel
theorem gL_law_544 {l1 l2 l3 : Option Value} {u : Nat} {st : List Value} {H : HP} {Q : Option Value → HP → Prop} : Go 190 544 [some (.ref u), l1, l2, l3] st H Q ↔ Go 190 545 [some (.ref u), l1, l2, l3] (.ref u :: st) H Q := G_aload_n fL_law_544 rfl
theorem fL_law_545 : ft 190 545 = some (.iload_n 3, 0, 0, 0, .null) := by decide +kernel
theorem gL_law_545 {l0 l1 l2 : Option Value} {u : Int32} {st : List Value} {H : HP} {Q : Option Value → HP → Prop} : Go 190 545 [l0, l1, l2, some (.int u)] st H Q ↔ Go 190 546 [l0, l1, l2, some (.int u)] (.int u :: st) H Q := G_iload_n fL_law_545 rfl
theorem fL_law_546 : ft 190 546 = some (.iconst 2, 0, 0, 0, .null) := by decide +kernel
theorem gL_law_546 {L : List (Option Value)} {st : List Value} {H : HP} {Q : Option Value → HP → Prop} : Go 190 546 L st H Q ↔ Go 190 547 L (vi 2 :: st) H Q := G_iconst fL_law_546
theorem fL_law_547 : ft 190 547 = some (.iadd, 0, 0, 0, .null) := by decide +kernel
theorem gL_law_547 {L : List (Option Value)} {a b : Int} {st : List Value} {H : HP} {Q : Option Value → HP → Prop} : Go 190 547 L (vi b :: vi a :: st) H Q ↔ Go 190 548 L (vi (a + b) :: st) H Q := G_iadd fL_law_547
theorem fL_law_548 : ft 190 548 = some (.iaload, 0, 0, 0, .null) := by decide +kernel
theorem gL_law_548 {L : List (Option Value)} {p : Nat} {a : Int} {st : List Value} {H : HP} {Q : Option Value → HP → Prop} : Go 190 548 L (vi a :: .ref p :: st) H Q ↔ Rd (aJ' (hget H p) a) 190 549 L st H Q := G_iald fL_law_548
theorem fL_law_549 : ft 190 549 = some (.invokevirtual 57, 79, 0, 385, .null) := by decide +kernel
theorem gL_law_549 {L : List (Option Value)} {p : Nat} {a0 : Int32} {a1 : Int32}  {H : HP} {Q : Option Value → HP → Prop} : Go 190 549 L (.int a1 :: .int a0 :: .ref p :: []) H Q ↔ (iso 8 (hget H p) = true ∧ Go 79 0 [some (.ref p), some (.int a0), some (.int a1), none, none] [] H (Cont 190 552 L [] Q)) := G_cV (n := 2) (N := 5) (as := [.int a1, .int a0]) (st := []) fL_law_549 (by decide +kernel) rfl (Nat.le_of_ble_eq_true rfl) (Nat.le_of_ble_eq_true rfl) rfl
theorem fL_law_552 : ft 190 552 = some (.aload_n 2, 0, 0, 0, .null) := by decide +kernel
theorem gL_law_552 {l0 l1 l3 : Option Value} {u : Nat} {st : List Value} {H : HP} {Q : Option Value → HP → Prop} : Go 190 552 [l0, l1, some (.ref u), l3] st H Q ↔ Go 190 553 [l0, l1, some (.ref u), l3] (.ref u :: st) H Q := G_aload_n fL_law_552 rfl
theorem gL_law_552N {l0 l1 l3 : Option Value} {st : List Value} {H : HP} {Q : Option Value → HP → Prop} : Go 190 552 [l0, l1, some .null, l3] st H Q ↔ Go 190 553 [l0, l1, some .null, l3] (.null :: st) H Q := G_aload_nN fL_law_552 rfl
theorem fL_law_553 : ft 190 553 = some (.aload_n 0, 0, 0, 0, .null) := by decide +kernel
theorem gL_law_553 {l1 l2 l3 : Option Value} {u : Nat} {st : List Value} {H : HP} {Q : Option Value → HP → Prop} : Go 190 553 [some (.ref u), l1, l2, l3] st H Q ↔ Go 190 554 [some (.ref u), l1, l2, l3] (.ref u :: st) H Q := G_aload_n fL_law_553 rfl
theorem fL_law_554 : ft 190 554 = some (.iload_n 3, 0, 0, 0, .null) := by decide +kernel
theorem gL_law_554 {l0 l1 l2 : Option Value} {u : Int32} {st : List Value} {H : HP} {Q : Option Value → HP → Prop} : Go 190 554 [l0, l1, l2, some (.int u)] st H Q ↔ Go 190 555 [l0, l1, l2, some (.int u)] (.int u :: st) H Q := G_iload_n fL_law_554 rfl
theorem fL_law_555 : ft 190 555 = some (.iconst 1, 0, 0, 0, .null) := by decide +kernel
theorem gL_law_555 {L : List (Option Value)} {st : List Value} {H : HP} {Q : Option Value → HP → Prop} : Go 190 555 L st H Q ↔ Go 190 556 L (vi 1 :: st) H Q := G_iconst fL_law_555
theorem fL_law_556 : ft 190 556 = some (.iadd, 0, 0, 0, .null) := by decide +kernel
theorem gL_law_556 {L : List (Option Value)} {a b : Int} {st : List Value} {H : HP} {Q : Option Value → HP → Prop} : Go 190 556 L (vi b :: vi a :: st) H Q ↔ Go 190 557 L (vi (a + b) :: st) H Q := G_iadd fL_law_556
theorem fL_law_557 : ft 190 557 = some (.iaload, 0, 0, 0, .null) := by decide +kernel
theorem gL_law_557 {L : List (Option Value)} {p : Nat} {a : Int} {st : List Value} {H : HP} {Q : Option Value → HP → Prop} : Go 190 557 L (vi a :: .ref p :: st) H Q ↔ Rd (aJ' (hget H p) a) 190 558 L st H Q := G_iald fL_law_557
theorem fL_law_558 : ft 190 558 = some (.aload_n 0, 0, 0, 0, .null) := by decide +kernel
theorem gL_law_558 {l1 l2 l3 : Option Value} {u : Nat} {st : List Value} {H : HP} {Q : Option Value → HP → Prop} : Go 190 558 [some (.ref u), l1, l2, l3] st H Q ↔ Go 190 559 [some (.ref u), l1, l2, l3] (.ref u :: st) H Q := G_aload_n fL_law_558 rfl
theorem fL_law_559 : ft 190 559 = some (.iload_n 3, 0, 0, 0, .null) := by decide +kernel
theorem gL_law_559 {l0 l1 l2 : Option Value} {u : Int32} {st : List Value} {H : HP} {Q : Option Value → HP → Prop} : Go 190 559 [l0, l1, l2, some (.int u)] st H Q ↔ Go 190 560 [l0, l1, l2, some (.int u)] (.int u :: st) H Q := G_iload_n fL_law_559 rfl
theorem fL_law_560 : ft 190 560 = some (.iconst 2, 0, 0, 0, .null) := by decide +kernel
theorem gL_law_560 {L : List (Option Value)} {st : List Value} {H : HP} {Q : Option Value → HP → Prop} : Go 190 560 L st H Q ↔ Go 190 561 L (vi 2 :: st) H Q := G_iconst fL_law_560
theorem fL_law_561 : ft 190 561 = some (.iadd, 0, 0, 0, .null) := by decide +kernel
theorem gL_law_561 {L : List (Option Value)} {a b : Int} {st : List Value} {H : HP} {Q : Option Value → HP → Prop} : Go 190 561 L (vi b :: vi a :: st) H Q ↔ Go 190 562 L (vi (a + b) :: st) H Q := G_iadd fL_law_561
theorem fL_law_562 : ft 190 562 = some (.iaload, 0, 0, 0, .null) := by decide +kernel
theorem gL_law_562 {L : List (Option Value)} {p : Nat} {a : Int} {st : List Value} {H : HP} {Q : Option Value → HP → Prop} : Go 190 562 L (vi a :: .ref p :: st) H Q ↔ Rd (aJ' (hget H p) a) 190 563 L st H Q := G_iald fL_law_562
theorem fL_law_563 : ft 190 563 = some (.invokevirtual 60, 144, 0, 932, .null) := by decide +kernel
theorem gL_law_563 {L : List (Option Value)} {p : Nat} {a0 : Int32} {a1 : Int32} {r0 : Int32} {H : HP} {Q : Option Value → HP → Prop} : Go 190 563 L (.int a1 :: .int a0 :: .ref p :: [.int r0]) H Q ↔ (iso 9 (hget H p) = true ∧ Go 144 0 [some (.ref p), some (.int a0), some (.int a1), none] [] H (Cont 190 566 L [.int r0] Q)) := G_cV (n := 2) (N := 4) (as := [.int a1, .int a0]) (st := [.int r0]) fL_law_563 (by decide +kernel) rfl (Nat.le_of_ble_eq_true rfl) (Nat.le_of_ble_eq_true rfl) rfl
theorem fL_law_566 : ft 190 566 = some (.if_icmp .eq 846, 0, 0, 0, .null) := by decide +kernel
theorem gL_law_566T {L : List (Option Value)} {a b : Int} (c : (-2147483648 ≤ a ∧ a ≤ 2147483647 ∧ -2147483648 ≤ b ∧ b ≤ 2147483647) ∧ a = b) {st : List Value} {H : HP} {Q : Option Value → HP → Prop} : Go 190 566 L (vi b :: vi a :: st) H Q ↔ Go 190 1412 L st H Q := G_icT fL_law_566 (by decide) c
theorem gL_law_566F {L : List (Option Value)} {a b : Int} (c : (-2147483648 ≤ a ∧ a ≤ 2147483647 ∧ -2147483648 ≤ b ∧ b ≤ 2147483647) ∧ ¬ (a = b)) {st : List Value} {H : HP} {Q : Option Value → HP → Prop} : Go 190 566 L (vi b :: vi a :: st) H Q ↔ Go 190 569 L st H Q := G_icF (tg := 1412) fL_law_566 (by decide) c
theorem fL_law_569 : ft 190 569 = some (.iconst 0, 0, 0, 0, .null) := by decide +kernel
theorem gL_law_569 {L : List (Option Value)} {st : List Value} {H : HP} {Q : Option Value → HP → Prop} : Go 190 569 L st H Q ↔ Go 190 570 L (vi 0 :: st) H Q := G_iconst fL_law_569
theorem fL_law_570 : ft 190 570 = some (.ireturn, 0, 0, 0, .null) := by decide +kernel
theorem gL_law_570 {L : List (Option Value)} {a : Int} (c : a = 0 ∨ a = 1) {H : HP} {Q : Option Value → HP → Prop} : Go 190 570 L [vi a] H Q ↔ Q (some (vi a)) H := G_zret fL_law_570 (by decide +kernel) c
theorem fL_law_571 : ft 190 571 = some (.aload_n 1, 0, 0, 0, .null) := by decide +kernel
theorem gL_law_571 {l0 l2 l3 : Option Value} {u : Nat} {st : List Value} {H : HP} {Q : Option Value → HP → Prop} : Go 190 571 [l0, some (.ref u), l2, l3] st H Q ↔ Go 190 572 [l0, some (.ref u), l2, l3] (.ref u :: st) H Q := G_aload_n fL_law_571 rfl
theorem gL_law_571N {l0 l2 l3 : Option Value} {st : List Value} {H : HP} {Q : Option Value → HP → Prop} : Go 190 571 [l0, some .null, l2, l3] st H Q ↔ Go 190 572 [l0, some .null, l2, l3] (.null :: st) H Q := G_aload_nN fL_law_571 rfl
theorem fL_law_572 : ft 190 572 = some (.aload_n 0, 0, 0, 0, .null) := by decide +kernel
theorem gL_law_572 {l1 l2 l3 : Option Value} {u : Nat} {st : List Value} {H : HP} {Q : Option Value → HP → Prop} : Go 190 572 [some (.ref u), l1, l2, l3] st H Q ↔ Go 190 573 [some (.ref u), l1, l2, l3] (.ref u :: st) H Q := G_aload_n fL_law_572 rfl
theorem fL_law_573 : ft 190 573 = some (.iload_n 3, 0, 0, 0, .null) := by decide +kernel
theorem gL_law_573 {l0 l1 l2 : Option Value} {u : Int32} {st : List Value} {H : HP} {Q : Option Value → HP → Prop} : Go 190 573 [l0, l1, l2, some (.int u)] st H Q ↔ Go 190 574 [l0, l1, l2, some (.int u)] (.int u :: st) H Q := G_iload_n fL_law_573 rfl
theorem fL_law_574 : ft 190 574 = some (.iconst 1, 0, 0, 0, .null) := by decide +kernel
theorem gL_law_574 {L : List (Option Value)} {st : List Value} {H : HP} {Q : Option Value → HP → Prop} : Go 190 574 L st H Q ↔ Go 190 575 L (vi 1 :: st) H Q := G_iconst fL_law_574
theorem fL_law_575 : ft 190 575 = some (.iadd, 0, 0, 0, .null) := by decide +kernel
theorem gL_law_575 {L : List (Option Value)} {a b : Int} {st : List Value} {H : HP} {Q : Option Value → HP → Prop} : Go 190 575 L (vi b :: vi a :: st) H Q ↔ Go 190 576 L (vi (a + b) :: st) H Q := G_iadd fL_law_575
theorem fL_law_576 : ft 190 576 = some (.iaload, 0, 0, 0, .null) := by decide +kernel
theorem gL_law_576 {L : List (Option Value)} {p : Nat} {a : Int} {st : List Value} {H : HP} {Q : Option Value → HP → Prop} : Go 190 576 L (vi a :: .ref p :: st) H Q ↔ Rd (aJ' (hget H p) a) 190 577 L st H Q := G_iald fL_law_576
theorem fL_law_577 : ft 190 577 = some (.invokevirtual 61, 80, 0, 411, .null) := by decide +kernel
theorem gL_law_577 {L : List (Option Value)} {p : Nat} {a0 : Int32}  {H : HP} {Q : Option Value → HP → Prop} : Go 190 577 L (.int a0 :: .ref p :: []) H Q ↔ (iso 8 (hget H p) = true ∧ Go 80 0 [some (.ref p), some (.int a0), none] [] H (Cont 190 580 L [] Q)) := G_cV (n := 1) (N := 3) (as := [.int a0]) (st := []) fL_law_577 (by decide +kernel) rfl (Nat.le_of_ble_eq_true rfl) (Nat.le_of_ble_eq_true rfl) rfl
theorem fL_law_580 : ft 190 580 = some (.aload_n 2, 0, 0, 0, .null) := by decide +kernel
theorem gL_law_580 {l0 l1 l3 : Option Value} {u : Nat} {st : List Value} {H : HP} {Q : Option Value → HP → Prop} : Go 190 580 [l0, l1, some (.ref u), l3] st H Q ↔ Go 190 581 [l0, l1, some (.ref u), l3] (.ref u :: st) H Q := G_aload_n fL_law_580 rfl
theorem gL_law_580N {l0 l1 l3 : Option Value} {st : List Value} {H : HP} {Q : Option Value → HP → Prop} : Go 190 580 [l0, l1, some .null, l3] st H Q ↔ Go 190 581 [l0, l1, some .null, l3] (.null :: st) H Q := G_aload_nN fL_law_580 rfl
theorem fL_law_581 : ft 190 581 = some (.aload_n 0, 0, 0, 0, .null) := by decide +kernel
theorem gL_law_581 {l1 l2 l3 : Option Value} {u : Nat} {st : List Value} {H : HP} {Q : Option Value → HP → Prop} : Go 190 581 [some (.ref u), l1, l2, l3] st H Q ↔ Go 190 582 [some (.ref u), l1, l2, l3] (.ref u :: st) H Q := G_aload_n fL_law_581 rfl
theorem fL_law_582 : ft 190 582 = some (.iload_n 3, 0, 0, 0, .null) := by decide +kernel
theorem gL_law_582 {l0 l1 l2 : Option Value} {u : Int32} {st : List Value} {H : HP} {Q : Option Value → HP → Prop} : Go 190 582 [l0, l1, l2, some (.int u)] st H Q ↔ Go 190 583 [l0, l1, l2, some (.int u)] (.int u :: st) H Q := G_iload_n fL_law_582 rfl
theorem fL_law_583 : ft 190 583 = some (.iconst 1, 0, 0, 0, .null) := by decide +kernel
theorem gL_law_583 {L : List (Option Value)} {st : List Value} {H : HP} {Q : Option Value → HP → Prop} : Go 190 583 L st H Q ↔ Go 190 584 L (vi 1 :: st) H Q := G_iconst fL_law_583
theorem fL_law_584 : ft 190 584 = some (.iadd, 0, 0, 0, .null) := by decide +kernel
theorem gL_law_584 {L : List (Option Value)} {a b : Int} {st : List Value} {H : HP} {Q : Option Value → HP → Prop} : Go 190 584 L (vi b :: vi a :: st) H Q ↔ Go 190 585 L (vi (a + b) :: st) H Q := G_iadd fL_law_584
theorem fL_law_585 : ft 190 585 = some (.iaload, 0, 0, 0, .null) := by decide +kernel
theorem gL_law_585 {L : List (Option Value)} {p : Nat} {a : Int} {st : List Value} {H : HP} {Q : Option Value → HP → Prop} : Go 190 585 L (vi a :: .ref p :: st) H Q ↔ Rd (aJ' (hget H p) a) 190 586 L st H Q := G_iald fL_law_585
theorem fL_law_586 : ft 190 586 = some (.invokevirtual 64, 145, 0, 943, .null) := by decide +kernel
theorem gL_law_586 {L : List (Option Value)} {p : Nat} {a0 : Int32} {r0 : Int32} {H : HP} {Q : Option Value → HP → Prop} : Go 190 586 L (.int a0 :: .ref p :: [.int r0]) H Q ↔ (iso 9 (hget H p) = true ∧ Go 145 0 [some (.ref p), some (.int a0), none] [] H (Cont 190 589 L [.int r0] Q)) := G_cV (n := 1) (N := 3) (as := [.int a0]) (st := [.int r0]) fL_law_586 (by decide +kernel) rfl (Nat.le_of_ble_eq_true rfl) (Nat.le_of_ble_eq_true rfl) rfl
theorem fL_law_589 : ft 190 589 = some (.if_icmp .eq 823, 0, 0, 0, .null) := by decide +kernel
theorem gL_law_589T {L : List (Option Value)} {a b : Int} (c : (-2147483648 ≤ a ∧ a ≤ 2147483647 ∧ -2147483648 ≤ b ∧ b ≤ 2147483647) ∧ a = b) {st : List Value} {H : HP} {Q : Option Value → HP → Prop} : Go 190 589 L (vi b :: vi a :: st) H Q ↔ Go 190 1412 L st H Q := G_icT fL_law_589 (by decide) c
theorem gL_law_589F {L : List (Option Value)} {a b : Int} (c : (-2147483648 ≤ a ∧ a ≤ 2147483647 ∧ -2147483648 ≤ b ∧ b ≤ 2147483647) ∧ ¬ (a = b)) {st : List Value} {H : HP} {Q : Option Value → HP → Prop} : Go 190 589 L (vi b :: vi a :: st) H Q ↔ Go 190 592 L st H Q := G_icF (tg := 1412) fL_law_589 (by decide) c
theorem fL_law_592 : ft 190 592 = some (.iconst 0, 0, 0, 0, .null) := by decide +kernel
theorem gL_law_592 {L : List (Option Value)} {st : List Value} {H : HP} {Q : Option Value → HP → Prop} : Go 190 592 L st H Q ↔ Go 190 593 L (vi 0 :: st) H Q := G_iconst fL_law_592
theorem fL_law_593 : ft 190 593 = some (.ireturn, 0, 0, 0, .null) := by decide +kernel
theorem gL_law_593 {L : List (Option Value)} {a : Int} (c : a = 0 ∨ a = 1) {H : HP} {Q : Option Value → HP → Prop} : Go 190 593 L [vi a] H Q ↔ Q (some (vi a)) H := G_zret fL_law_593 (by decide +kernel) c
theorem fL_law_594 : ft 190 594 = some (.aload_n 1, 0, 0, 0, .null) := by decide +kernel
theorem gL_law_594 {l0 l2 l3 : Option Value} {u : Nat} {st : List Value} {H : HP} {Q : Option Value → HP → Prop} : Go 190 594 [l0, some (.ref u), l2, l3] st H Q ↔ Go 190 595 [l0, some (.ref u), l2, l3] (.ref u :: st) H Q := G_aload_n fL_law_594 rfl
theorem gL_law_594N {l0 l2 l3 : Option Value} {st : List Value} {H : HP} {Q : Option Value → HP → Prop} : Go 190 594 [l0, some .null, l2, l3] st H Q ↔ Go 190 595 [l0, some .null, l2, l3] (.null :: st) H Q := G_aload_nN fL_law_594 rfl
theorem fL_law_595 : ft 190 595 = some (.aload_n 0, 0, 0, 0, .null) := by decide +kernel
theorem gL_law_595 {l1 l2 l3 : Option Value} {u : Nat} {st : List Value} {H : HP} {Q : Option Value → HP → Prop} : Go 190 595 [some (.ref u), l1, l2, l3] st H Q ↔ Go 190 596 [some (.ref u), l1, l2, l3] (.ref u :: st) H Q := G_aload_n fL_law_595 rfl
theorem fL_law_596 : ft 190 596 = some (.iload_n 3, 0, 0, 0, .null) := by decide +kernel
theorem gL_law_596 {l0 l1 l2 : Option Value} {u : Int32} {st : List Value} {H : HP} {Q : Option Value → HP → Prop} : Go 190 596 [l0, l1, l2, some (.int u)] st H Q ↔ Go 190 597 [l0, l1, l2, some (.int u)] (.int u :: st) H Q := G_iload_n fL_law_596 rfl
theorem fL_law_597 : ft 190 597 = some (.iconst 1, 0, 0, 0, .null) := by decide +kernel
theorem gL_law_597 {L : List (Option Value)} {st : List Value} {H : HP} {Q : Option Value → HP → Prop} : Go 190 597 L st H Q ↔ Go 190 598 L (vi 1 :: st) H Q := G_iconst fL_law_597
theorem fL_law_598 : ft 190 598 = some (.iadd, 0, 0, 0, .null) := by decide +kernel
theorem gL_law_598 {L : List (Option Value)} {a b : Int} {st : List Value} {H : HP} {Q : Option Value → HP → Prop} : Go 190 598 L (vi b :: vi a :: st) H Q ↔ Go 190 599 L (vi (a + b) :: st) H Q := G_iadd fL_law_598
theorem fL_law_599 : ft 190 599 = some (.iaload, 0, 0, 0, .null) := by decide +kernel
theorem gL_law_599 {L : List (Option Value)} {p : Nat} {a : Int} {st : List Value} {H : HP} {Q : Option Value → HP → Prop} : Go 190 599 L (vi a :: .ref p :: st) H Q ↔ Rd (aJ' (hget H p) a) 190 600 L st H Q := G_iald fL_law_599
theorem fL_law_600 : ft 190 600 = some (.invokevirtual 65, 81, 0, 415, .null) := by decide +kernel
theorem gL_law_600 {L : List (Option Value)} {p : Nat} {a0 : Int32}  {H : HP} {Q : Option Value → HP → Prop} : Go 190 600 L (.int a0 :: .ref p :: []) H Q ↔ (iso 8 (hget H p) = true ∧ Go 81 0 [some (.ref p), some (.int a0)] [] H (Cont 190 603 L [] Q)) := G_cV (n := 1) (N := 2) (as := [.int a0]) (st := []) fL_law_600 (by decide +kernel) rfl (Nat.le_of_ble_eq_true rfl) (Nat.le_of_ble_eq_true rfl) rfl
theorem fL_law_603 : ft 190 603 = some (.aload_n 2, 0, 0, 0, .null) := by decide +kernel
theorem gL_law_603 {l0 l1 l3 : Option Value} {u : Nat} {st : List Value} {H : HP} {Q : Option Value → HP → Prop} : Go 190 603 [l0, l1, some (.ref u), l3] st H Q ↔ Go 190 604 [l0, l1, some (.ref u), l3] (.ref u :: st) H Q := G_aload_n fL_law_603 rfl
theorem gL_law_603N {l0 l1 l3 : Option Value} {st : List Value} {H : HP} {Q : Option Value → HP → Prop} : Go 190 603 [l0, l1, some .null, l3] st H Q ↔ Go 190 604 [l0, l1, some .null, l3] (.null :: st) H Q := G_aload_nN fL_law_603 rfl
theorem fL_law_604 : ft 190 604 = some (.aload_n 0, 0, 0, 0, .null) := by decide +kernel
theorem gL_law_604 {l1 l2 l3 : Option Value} {u : Nat} {st : List Value} {H : HP} {Q : Option Value → HP → Prop} : Go 190 604 [some (.ref u), l1, l2, l3] st H Q ↔ Go 190 605 [some (.ref u), l1, l2, l3] (.ref u :: st) H Q := G_aload_n fL_law_604 rfl
theorem fL_law_605 : ft 190 605 = some (.iload_n 3, 0, 0, 0, .null) := by decide +kernel
theorem gL_law_605 {l0 l1 l2 : Option Value} {u : Int32} {st : List Value} {H : HP} {Q : Option Value → HP → Prop} : Go 190 605 [l0, l1, l2, some (.int u)] st H Q ↔ Go 190 606 [l0, l1, l2, some (.int u)] (.int u :: st) H Q := G_iload_n fL_law_605 rfl
theorem fL_law_606 : ft 190 606 = some (.iconst 1, 0, 0, 0, .null) := by decide +kernel
theorem gL_law_606 {L : List (Option Value)} {st : List Value} {H : HP} {Q : Option Value → HP → Prop} : Go 190 606 L st H Q ↔ Go 190 607 L (vi 1 :: st) H Q := G_iconst fL_law_606
theorem fL_law_607 : ft 190 607 = some (.iadd, 0, 0, 0, .null) := by decide +kernel
theorem gL_law_607 {L : List (Option Value)} {a b : Int} {st : List Value} {H : HP} {Q : Option Value → HP → Prop} : Go 190 607 L (vi b :: vi a :: st) H Q ↔ Go 190 608 L (vi (a + b) :: st) H Q := G_iadd fL_law_607
theorem fL_law_608 : ft 190 608 = some (.iaload, 0, 0, 0, .null) := by decide +kernel
theorem gL_law_608 {L : List (Option Value)} {p : Nat} {a : Int} {st : List Value} {H : HP} {Q : Option Value → HP → Prop} : Go 190 608 L (vi a :: .ref p :: st) H Q ↔ Rd (aJ' (hget H p) a) 190 609 L st H Q := G_iald fL_law_608
theorem fL_law_609 : ft 190 609 = some (.invokevirtual 69, 146, 0, 947, .null) := by decide +kernel
theorem gL_law_609 {L : List (Option Value)} {p : Nat} {a0 : Int32} {r0 : Int64} {H : HP} {Q : Option Value → HP → Prop} : Go 190 609 L (.int a0 :: .ref p :: [.long r0]) H Q ↔ (iso 9 (hget H p) = true ∧ Go 146 0 [some (.ref p), some (.int a0)] [] H (Cont 190 612 L [.long r0] Q)) := G_cV (n := 1) (N := 2) (as := [.int a0]) (st := [.long r0]) fL_law_609 (by decide +kernel) rfl (Nat.le_of_ble_eq_true rfl) (Nat.le_of_ble_eq_true rfl) rfl
theorem fL_law_612 : ft 190 612 = some (.lcmp, 0, 0, 0, .null) := by decide +kernel
theorem fL_law_612' : ft 190 613 = some (.ifCond .eq 799, 0, 0, 0, .null) := by decide +kernel
theorem gL_law_612T {L : List (Option Value)} {a b : Int} (c : (-9223372036854775808 ≤ a ∧ a ≤ 9223372036854775807 ∧ -9223372036854775808 ≤ b ∧ b ≤ 9223372036854775807) ∧ a = b) {st : List Value} {H : HP} {Q : Option Value → HP → Prop} : Go 190 612 L (vl b :: vl a :: st) H Q ↔ Go 190 1412 L st H Q := G_lcT fL_law_612 fL_law_612' (by decide) c
theorem gL_law_612F {L : List (Option Value)} {a b : Int} (c : (-9223372036854775808 ≤ a ∧ a ≤ 9223372036854775807 ∧ -9223372036854775808 ≤ b ∧ b ≤ 9223372036854775807) ∧ ¬ (a = b)) {st : List Value} {H : HP} {Q : Option Value → HP → Prop} : Go 190 612 L (vl b :: vl a :: st) H Q ↔ Go 190 616 L st H Q := G_lcF (tg := 1412) fL_law_612 fL_law_612' (by decide) c
theorem fL_law_613 : ft 190 613 = some (.ifCond .eq 799, 0, 0, 0, .null) := by decide +kernel
theorem gL_law_613T {L : List (Option Value)} {a : Int} (c : (-2147483648 ≤ a ∧ a ≤ 2147483647) ∧ a = 0) {st : List Value} {H : HP} {Q : Option Value → HP → Prop} : Go 190 613 L (vi a :: st) H Q ↔ Go 190 1412 L st H Q := G_ifT fL_law_613 (by decide) c
theorem gL_law_613F {L : List (Option Value)} {a : Int} (c : (-2147483648 ≤ a ∧ a ≤ 2147483647) ∧ ¬ (a = 0)) {st : List Value} {H : HP} {Q : Option Value → HP → Prop} : Go 190 613 L (vi a :: st) H Q ↔ Go 190 616 L st H Q := G_ifF (tg := 1412) fL_law_613 (by decide) c
theorem fL_law_616 : ft 190 616 = some (.iconst 0, 0, 0, 0, .null) := by decide +kernel
theorem gL_law_616 {L : List (Option Value)} {st : List Value} {H : HP} {Q : Option Value → HP → Prop} : Go 190 616 L st H Q ↔ Go 190 617 L (vi 0 :: st) H Q := G_iconst fL_law_616
theorem fL_law_617 : ft 190 617 = some (.ireturn, 0, 0, 0, .null) := by decide +kernel
theorem gL_law_617 {L : List (Option Value)} {a : Int} (c : a = 0 ∨ a = 1) {H : HP} {Q : Option Value → HP → Prop} : Go 190 617 L [vi a] H Q ↔ Q (some (vi a)) H := G_zret fL_law_617 (by decide +kernel) c
theorem fL_law_618 : ft 190 618 = some (.aload_n 1, 0, 0, 0, .null) := by decide +kernel
theorem gL_law_618 {l0 l2 l3 : Option Value} {u : Nat} {st : List Value} {H : HP} {Q : Option Value → HP → Prop} : Go 190 618 [l0, some (.ref u), l2, l3] st H Q ↔ Go 190 619 [l0, some (.ref u), l2, l3] (.ref u :: st) H Q := G_aload_n fL_law_618 rfl
theorem gL_law_618N {l0 l2 l3 : Option Value} {st : List Value} {H : HP} {Q : Option Value → HP → Prop} : Go 190 618 [l0, some .null, l2, l3] st H Q ↔ Go 190 619 [l0, some .null, l2, l3] (.null :: st) H Q := G_aload_nN fL_law_618 rfl
theorem fL_law_619 : ft 190 619 = some (.aload_n 0, 0, 0, 0, .null) := by decide +kernel
theorem gL_law_619 {l1 l2 l3 : Option Value} {u : Nat} {st : List Value} {H : HP} {Q : Option Value → HP → Prop} : Go 190 619 [some (.ref u), l1, l2, l3] st H Q ↔ Go 190 620 [some (.ref u), l1, l2, l3] (.ref u :: st) H Q := G_aload_n fL_law_619 rfl
theorem fL_law_620 : ft 190 620 = some (.iload_n 3, 0, 0, 0, .null) := by decide +kernel
theorem gL_law_620 {l0 l1 l2 : Option Value} {u : Int32} {st : List Value} {H : HP} {Q : Option Value → HP → Prop} : Go 190 620 [l0, l1, l2, some (.int u)] st H Q ↔ Go 190 621 [l0, l1, l2, some (.int u)] (.int u :: st) H Q := G_iload_n fL_law_620 rfl
theorem fL_law_621 : ft 190 621 = some (.iconst 1, 0, 0, 0, .null) := by decide +kernel
theorem gL_law_621 {L : List (Option Value)} {st : List Value} {H : HP} {Q : Option Value → HP → Prop} : Go 190 621 L st H Q ↔ Go 190 622 L (vi 1 :: st) H Q := G_iconst fL_law_621
theorem fL_law_622 : ft 190 622 = some (.iadd, 0, 0, 0, .null) := by decide +kernel
theorem gL_law_622 {L : List (Option Value)} {a b : Int} {st : List Value} {H : HP} {Q : Option Value → HP → Prop} : Go 190 622 L (vi b :: vi a :: st) H Q ↔ Go 190 623 L (vi (a + b) :: st) H Q := G_iadd fL_law_622
theorem fL_law_623 : ft 190 623 = some (.iaload, 0, 0, 0, .null) := by decide +kernel
theorem gL_law_623 {L : List (Option Value)} {p : Nat} {a : Int} {st : List Value} {H : HP} {Q : Option Value → HP → Prop} : Go 190 623 L (vi a :: .ref p :: st) H Q ↔ Rd (aJ' (hget H p) a) 190 624 L st H Q := G_iald fL_law_623
theorem fL_law_624 : ft 190 624 = some (.invokevirtual 70, 82, 0, 424, .null) := by decide +kernel
theorem gL_law_624 {L : List (Option Value)} {p : Nat} {a0 : Int32}  {H : HP} {Q : Option Value → HP → Prop} : Go 190 624 L (.int a0 :: .ref p :: []) H Q ↔ (iso 8 (hget H p) = true ∧ Go 82 0 [some (.ref p), some (.int a0), none] [] H (Cont 190 627 L [] Q)) := G_cV (n := 1) (N := 3) (as := [.int a0]) (st := []) fL_law_624 (by decide +kernel) rfl (Nat.le_of_ble_eq_true rfl) (Nat.le_of_ble_eq_true rfl) rfl
theorem fL_law_627 : ft 190 627 = some (.aload_n 2, 0, 0, 0, .null) := by decide +kernel
theorem gL_law_627 {l0 l1 l3 : Option Value} {u : Nat} {st : List Value} {H : HP} {Q : Option Value → HP → Prop} : Go 190 627 [l0, l1, some (.ref u), l3] st H Q ↔ Go 190 628 [l0, l1, some (.ref u), l3] (.ref u :: st) H Q := G_aload_n fL_law_627 rfl
theorem gL_law_627N {l0 l1 l3 : Option Value} {st : List Value} {H : HP} {Q : Option Value → HP → Prop} : Go 190 627 [l0, l1, some .null, l3] st H Q ↔ Go 190 628 [l0, l1, some .null, l3] (.null :: st) H Q := G_aload_nN fL_law_627 rfl
theorem fL_law_628 : ft 190 628 = some (.aload_n 0, 0, 0, 0, .null) := by decide +kernel
theorem gL_law_628 {l1 l2 l3 : Option Value} {u : Nat} {st : List Value} {H : HP} {Q : Option Value → HP → Prop} : Go 190 628 [some (.ref u), l1, l2, l3] st H Q ↔ Go 190 629 [some (.ref u), l1, l2, l3] (.ref u :: st) H Q := G_aload_n fL_law_628 rfl
theorem fL_law_629 : ft 190 629 = some (.iload_n 3, 0, 0, 0, .null) := by decide +kernel
theorem gL_law_629 {l0 l1 l2 : Option Value} {u : Int32} {st : List Value} {H : HP} {Q : Option Value → HP → Prop} : Go 190 629 [l0, l1, l2, some (.int u)] st H Q ↔ Go 190 630 [l0, l1, l2, some (.int u)] (.int u :: st) H Q := G_iload_n fL_law_629 rfl
theorem fL_law_630 : ft 190 630 = some (.iconst 1, 0, 0, 0, .null) := by decide +kernel
theorem gL_law_630 {L : List (Option Value)} {st : List Value} {H : HP} {Q : Option Value → HP → Prop} : Go 190 630 L st H Q ↔ Go 190 631 L (vi 1 :: st) H Q := G_iconst fL_law_630
theorem fL_law_631 : ft 190 631 = some (.iadd, 0, 0, 0, .null) := by decide +kernel
theorem gL_law_631 {L : List (Option Value)} {a b : Int} {st : List Value} {H : HP} {Q : Option Value → HP → Prop} : Go 190 631 L (vi b :: vi a :: st) H Q ↔ Go 190 632 L (vi (a + b) :: st) H Q := G_iadd fL_law_631
theorem fL_law_632 : ft 190 632 = some (.iaload, 0, 0, 0, .null) := by decide +kernel
theorem gL_law_632 {L : List (Option Value)} {p : Nat} {a : Int} {st : List Value} {H : HP} {Q : Option Value → HP → Prop} : Go 190 632 L (vi a :: .ref p :: st) H Q ↔ Rd (aJ' (hget H p) a) 190 633 L st H Q := G_iald fL_law_632
theorem fL_law_633 : ft 190 633 = some (.invokevirtual 73, 147, 0, 952, .null) := by decide +kernel
theorem gL_law_633 {L : List (Option Value)} {p : Nat} {a0 : Int32} {r0 : Int32} {H : HP} {Q : Option Value → HP → Prop} : Go 190 633 L (.int a0 :: .ref p :: [.int r0]) H Q ↔ (iso 9 (hget H p) = true ∧ Go 147 0 [some (.ref p), some (.int a0), none, none, none, none, none, none, none, none, none, none, none, none, none, none, none, none] [] H (Cont 190 636 L [.int r0] Q)) := G_cV (n := 1) (N := 18) (as := [.int a0]) (st := [.int r0]) fL_law_633 (by decide +kernel) rfl (Nat.le_of_ble_eq_true rfl) (Nat.le_of_ble_eq_true rfl) rfl
theorem fL_law_636 : ft 190 636 = some (.if_icmp .eq 776, 0, 0, 0, .null) := by decide +kernel
theorem gL_law_636T {L : List (Option Value)} {a b : Int} (c : (-2147483648 ≤ a ∧ a ≤ 2147483647 ∧ -2147483648 ≤ b ∧ b ≤ 2147483647) ∧ a = b) {st : List Value} {H : HP} {Q : Option Value → HP → Prop} : Go 190 636 L (vi b :: vi a :: st) H Q ↔ Go 190 1412 L st H Q := G_icT fL_law_636 (by decide) c
theorem gL_law_636F {L : List (Option Value)} {a b : Int} (c : (-2147483648 ≤ a ∧ a ≤ 2147483647 ∧ -2147483648 ≤ b ∧ b ≤ 2147483647) ∧ ¬ (a = b)) {st : List Value} {H : HP} {Q : Option Value → HP → Prop} : Go 190 636 L (vi b :: vi a :: st) H Q ↔ Go 190 639 L st H Q := G_icF (tg := 1412) fL_law_636 (by decide) c
theorem fL_law_639 : ft 190 639 = some (.iconst 0, 0, 0, 0, .null) := by decide +kernel
theorem gL_law_639 {L : List (Option Value)} {st : List Value} {H : HP} {Q : Option Value → HP → Prop} : Go 190 639 L st H Q ↔ Go 190 640 L (vi 0 :: st) H Q := G_iconst fL_law_639
theorem fL_law_640 : ft 190 640 = some (.ireturn, 0, 0, 0, .null) := by decide +kernel
theorem gL_law_640 {L : List (Option Value)} {a : Int} (c : a = 0 ∨ a = 1) {H : HP} {Q : Option Value → HP → Prop} : Go 190 640 L [vi a] H Q ↔ Q (some (vi a)) H := G_zret fL_law_640 (by decide +kernel) c
theorem fL_law_641 : ft 190 641 = some (.aload_n 1, 0, 0, 0, .null) := by decide +kernel
theorem gL_law_641 {l0 l2 l3 : Option Value} {u : Nat} {st : List Value} {H : HP} {Q : Option Value → HP → Prop} : Go 190 641 [l0, some (.ref u), l2, l3] st H Q ↔ Go 190 642 [l0, some (.ref u), l2, l3] (.ref u :: st) H Q := G_aload_n fL_law_641 rfl
theorem gL_law_641N {l0 l2 l3 : Option Value} {st : List Value} {H : HP} {Q : Option Value → HP → Prop} : Go 190 641 [l0, some .null, l2, l3] st H Q ↔ Go 190 642 [l0, some .null, l2, l3] (.null :: st) H Q := G_aload_nN fL_law_641 rfl
theorem fL_law_642 : ft 190 642 = some (.aload_n 0, 0, 0, 0, .null) := by decide +kernel
theorem gL_law_642 {l1 l2 l3 : Option Value} {u : Nat} {st : List Value} {H : HP} {Q : Option Value → HP → Prop} : Go 190 642 [some (.ref u), l1, l2, l3] st H Q ↔ Go 190 643 [some (.ref u), l1, l2, l3] (.ref u :: st) H Q := G_aload_n fL_law_642 rfl
theorem fL_law_643 : ft 190 643 = some (.iload_n 3, 0, 0, 0, .null) := by decide +kernel
theorem gL_law_643 {l0 l1 l2 : Option Value} {u : Int32} {st : List Value} {H : HP} {Q : Option Value → HP → Prop} : Go 190 643 [l0, l1, l2, some (.int u)] st H Q ↔ Go 190 644 [l0, l1, l2, some (.int u)] (.int u :: st) H Q := G_iload_n fL_law_643 rfl
theorem fL_law_644 : ft 190 644 = some (.iconst 1, 0, 0, 0, .null) := by decide +kernel
theorem gL_law_644 {L : List (Option Value)} {st : List Value} {H : HP} {Q : Option Value → HP → Prop} : Go 190 644 L st H Q ↔ Go 190 645 L (vi 1 :: st) H Q := G_iconst fL_law_644
theorem fL_law_645 : ft 190 645 = some (.iadd, 0, 0, 0, .null) := by decide +kernel
theorem gL_law_645 {L : List (Option Value)} {a b : Int} {st : List Value} {H : HP} {Q : Option Value → HP → Prop} : Go 190 645 L (vi b :: vi a :: st) H Q ↔ Go 190 646 L (vi (a + b) :: st) H Q := G_iadd fL_law_645
theorem fL_law_646 : ft 190 646 = some (.iaload, 0, 0, 0, .null) := by decide +kernel
theorem gL_law_646 {L : List (Option Value)} {p : Nat} {a : Int} {st : List Value} {H : HP} {Q : Option Value → HP → Prop} : Go 190 646 L (vi a :: .ref p :: st) H Q ↔ Rd (aJ' (hget H p) a) 190 647 L st H Q := G_iald fL_law_646
theorem fL_law_647 : ft 190 647 = some (.aload_n 0, 0, 0, 0, .null) := by decide +kernel
theorem gL_law_647 {l1 l2 l3 : Option Value} {u : Nat} {st : List Value} {H : HP} {Q : Option Value → HP → Prop} : Go 190 647 [some (.ref u), l1, l2, l3] st H Q ↔ Go 190 648 [some (.ref u), l1, l2, l3] (.ref u :: st) H Q := G_aload_n fL_law_647 rfl
theorem fL_law_648 : ft 190 648 = some (.iload_n 3, 0, 0, 0, .null) := by decide +kernel
theorem gL_law_648 {l0 l1 l2 : Option Value} {u : Int32} {st : List Value} {H : HP} {Q : Option Value → HP → Prop} : Go 190 648 [l0, l1, l2, some (.int u)] st H Q ↔ Go 190 649 [l0, l1, l2, some (.int u)] (.int u :: st) H Q := G_iload_n fL_law_648 rfl
theorem fL_law_649 : ft 190 649 = some (.iconst 2, 0, 0, 0, .null) := by decide +kernel
theorem gL_law_649 {L : List (Option Value)} {st : List Value} {H : HP} {Q : Option Value → HP → Prop} : Go 190 649 L st H Q ↔ Go 190 650 L (vi 2 :: st) H Q := G_iconst fL_law_649
theorem fL_law_650 : ft 190 650 = some (.iadd, 0, 0, 0, .null) := by decide +kernel
theorem gL_law_650 {L : List (Option Value)} {a b : Int} {st : List Value} {H : HP} {Q : Option Value → HP → Prop} : Go 190 650 L (vi b :: vi a :: st) H Q ↔ Go 190 651 L (vi (a + b) :: st) H Q := G_iadd fL_law_650
theorem fL_law_651 : ft 190 651 = some (.iaload, 0, 0, 0, .null) := by decide +kernel
theorem gL_law_651 {L : List (Option Value)} {p : Nat} {a : Int} {st : List Value} {H : HP} {Q : Option Value → HP → Prop} : Go 190 651 L (vi a :: .ref p :: st) H Q ↔ Rd (aJ' (hget H p) a) 190 652 L st H Q := G_iald fL_law_651
theorem fL_law_652 : ft 190 652 = some (.aload_n 0, 0, 0, 0, .null) := by decide +kernel
theorem gL_law_652 {l1 l2 l3 : Option Value} {u : Nat} {st : List Value} {H : HP} {Q : Option Value → HP → Prop} : Go 190 652 [some (.ref u), l1, l2, l3] st H Q ↔ Go 190 653 [some (.ref u), l1, l2, l3] (.ref u :: st) H Q := G_aload_n fL_law_652 rfl
theorem fL_law_653 : ft 190 653 = some (.iload_n 3, 0, 0, 0, .null) := by decide +kernel
theorem gL_law_653 {l0 l1 l2 : Option Value} {u : Int32} {st : List Value} {H : HP} {Q : Option Value → HP → Prop} : Go 190 653 [l0, l1, l2, some (.int u)] st H Q ↔ Go 190 654 [l0, l1, l2, some (.int u)] (.int u :: st) H Q := G_iload_n fL_law_653 rfl
theorem fL_law_654 : ft 190 654 = some (.iconst 3, 0, 0, 0, .null) := by decide +kernel
theorem gL_law_654 {L : List (Option Value)} {st : List Value} {H : HP} {Q : Option Value → HP → Prop} : Go 190 654 L st H Q ↔ Go 190 655 L (vi 3 :: st) H Q := G_iconst fL_law_654
theorem fL_law_655 : ft 190 655 = some (.iadd, 0, 0, 0, .null) := by decide +kernel
theorem gL_law_655 {L : List (Option Value)} {a b : Int} {st : List Value} {H : HP} {Q : Option Value → HP → Prop} : Go 190 655 L (vi b :: vi a :: st) H Q ↔ Go 190 656 L (vi (a + b) :: st) H Q := G_iadd fL_law_655
theorem fL_law_656 : ft 190 656 = some (.iaload, 0, 0, 0, .null) := by decide +kernel
theorem gL_law_656 {L : List (Option Value)} {p : Nat} {a : Int} {st : List Value} {H : HP} {Q : Option Value → HP → Prop} : Go 190 656 L (vi a :: .ref p :: st) H Q ↔ Rd (aJ' (hget H p) a) 190 657 L st H Q := G_iald fL_law_656
theorem fL_law_657 : ft 190 657 = some (.invokevirtual 74, 83, 0, 433, .null) := by decide +kernel
theorem gL_law_657 {L : List (Option Value)} {p : Nat} {a0 : Int32} {a1 : Int32} {a2 : Int32}  {H : HP} {Q : Option Value → HP → Prop} : Go 190 657 L (.int a2 :: .int a1 :: .int a0 :: .ref p :: []) H Q ↔ (iso 8 (hget H p) = true ∧ Go 83 0 [some (.ref p), some (.int a0), some (.int a1), some (.int a2), none, none] [] H (Cont 190 660 L [] Q)) := G_cV (n := 3) (N := 6) (as := [.int a2, .int a1, .int a0]) (st := []) fL_law_657 (by decide +kernel) rfl (Nat.le_of_ble_eq_true rfl) (Nat.le_of_ble_eq_true rfl) rfl
theorem fL_law_660 : ft 190 660 = some (.aload_n 2, 0, 0, 0, .null) := by decide +kernel
theorem gL_law_660 {l0 l1 l3 : Option Value} {u : Nat} {st : List Value} {H : HP} {Q : Option Value → HP → Prop} : Go 190 660 [l0, l1, some (.ref u), l3] st H Q ↔ Go 190 661 [l0, l1, some (.ref u), l3] (.ref u :: st) H Q := G_aload_n fL_law_660 rfl
theorem gL_law_660N {l0 l1 l3 : Option Value} {st : List Value} {H : HP} {Q : Option Value → HP → Prop} : Go 190 660 [l0, l1, some .null, l3] st H Q ↔ Go 190 661 [l0, l1, some .null, l3] (.null :: st) H Q := G_aload_nN fL_law_660 rfl
theorem fL_law_661 : ft 190 661 = some (.aload_n 0, 0, 0, 0, .null) := by decide +kernel
theorem gL_law_661 {l1 l2 l3 : Option Value} {u : Nat} {st : List Value} {H : HP} {Q : Option Value → HP → Prop} : Go 190 661 [some (.ref u), l1, l2, l3] st H Q ↔ Go 190 662 [some (.ref u), l1, l2, l3] (.ref u :: st) H Q := G_aload_n fL_law_661 rfl
theorem fL_law_662 : ft 190 662 = some (.iload_n 3, 0, 0, 0, .null) := by decide +kernel
theorem gL_law_662 {l0 l1 l2 : Option Value} {u : Int32} {st : List Value} {H : HP} {Q : Option Value → HP → Prop} : Go 190 662 [l0, l1, l2, some (.int u)] st H Q ↔ Go 190 663 [l0, l1, l2, some (.int u)] (.int u :: st) H Q := G_iload_n fL_law_662 rfl
theorem fL_law_663 : ft 190 663 = some (.iconst 1, 0, 0, 0, .null) := by decide +kernel
theorem gL_law_663 {L : List (Option Value)} {st : List Value} {H : HP} {Q : Option Value → HP → Prop} : Go 190 663 L st H Q ↔ Go 190 664 L (vi 1 :: st) H Q := G_iconst fL_law_663
theorem fL_law_664 : ft 190 664 = some (.iadd, 0, 0, 0, .null) := by decide +kernel
theorem gL_law_664 {L : List (Option Value)} {a b : Int} {st : List Value} {H : HP} {Q : Option Value → HP → Prop} : Go 190 664 L (vi b :: vi a :: st) H Q ↔ Go 190 665 L (vi (a + b) :: st) H Q := G_iadd fL_law_664
theorem fL_law_665 : ft 190 665 = some (.iaload, 0, 0, 0, .null) := by decide +kernel
theorem gL_law_665 {L : List (Option Value)} {p : Nat} {a : Int} {st : List Value} {H : HP} {Q : Option Value → HP → Prop} : Go 190 665 L (vi a :: .ref p :: st) H Q ↔ Rd (aJ' (hget H p) a) 190 666 L st H Q := G_iald fL_law_665
theorem fL_law_666 : ft 190 666 = some (.aload_n 0, 0, 0, 0, .null) := by decide +kernel
theorem gL_law_666 {l1 l2 l3 : Option Value} {u : Nat} {st : List Value} {H : HP} {Q : Option Value → HP → Prop} : Go 190 666 [some (.ref u), l1, l2, l3] st H Q ↔ Go 190 667 [some (.ref u), l1, l2, l3] (.ref u :: st) H Q := G_aload_n fL_law_666 rfl
theorem fL_law_667 : ft 190 667 = some (.iload_n 3, 0, 0, 0, .null) := by decide +kernel
theorem gL_law_667 {l0 l1 l2 : Option Value} {u : Int32} {st : List Value} {H : HP} {Q : Option Value → HP → Prop} : Go 190 667 [l0, l1, l2, some (.int u)] st H Q ↔ Go 190 668 [l0, l1, l2, some (.int u)] (.int u :: st) H Q := G_iload_n fL_law_667 rfl
theorem fL_law_668 : ft 190 668 = some (.iconst 2, 0, 0, 0, .null) := by decide +kernel
theorem gL_law_668 {L : List (Option Value)} {st : List Value} {H : HP} {Q : Option Value → HP → Prop} : Go 190 668 L st H Q ↔ Go 190 669 L (vi 2 :: st) H Q := G_iconst fL_law_668
theorem fL_law_669 : ft 190 669 = some (.iadd, 0, 0, 0, .null) := by decide +kernel
theorem gL_law_669 {L : List (Option Value)} {a b : Int} {st : List Value} {H : HP} {Q : Option Value → HP → Prop} : Go 190 669 L (vi b :: vi a :: st) H Q ↔ Go 190 670 L (vi (a + b) :: st) H Q := G_iadd fL_law_669
theorem fL_law_670 : ft 190 670 = some (.iaload, 0, 0, 0, .null) := by decide +kernel
theorem gL_law_670 {L : List (Option Value)} {p : Nat} {a : Int} {st : List Value} {H : HP} {Q : Option Value → HP → Prop} : Go 190 670 L (vi a :: .ref p :: st) H Q ↔ Rd (aJ' (hget H p) a) 190 671 L st H Q := G_iald fL_law_670
theorem fL_law_671 : ft 190 671 = some (.aload_n 0, 0, 0, 0, .null) := by decide +kernel
theorem gL_law_671 {l1 l2 l3 : Option Value} {u : Nat} {st : List Value} {H : HP} {Q : Option Value → HP → Prop} : Go 190 671 [some (.ref u), l1, l2, l3] st H Q ↔ Go 190 672 [some (.ref u), l1, l2, l3] (.ref u :: st) H Q := G_aload_n fL_law_671 rfl
theorem fL_law_672 : ft 190 672 = some (.iload_n 3, 0, 0, 0, .null) := by decide +kernel
theorem gL_law_672 {l0 l1 l2 : Option Value} {u : Int32} {st : List Value} {H : HP} {Q : Option Value → HP → Prop} : Go 190 672 [l0, l1, l2, some (.int u)] st H Q ↔ Go 190 673 [l0, l1, l2, some (.int u)] (.int u :: st) H Q := G_iload_n fL_law_672 rfl
theorem fL_law_673 : ft 190 673 = some (.iconst 3, 0, 0, 0, .null) := by decide +kernel
theorem gL_law_673 {L : List (Option Value)} {st : List Value} {H : HP} {Q : Option Value → HP → Prop} : Go 190 673 L st H Q ↔ Go 190 674 L (vi 3 :: st) H Q := G_iconst fL_law_673
theorem fL_law_674 : ft 190 674 = some (.iadd, 0, 0, 0, .null) := by decide +kernel
theorem gL_law_674 {L : List (Option Value)} {a b : Int} {st : List Value} {H : HP} {Q : Option Value → HP → Prop} : Go 190 674 L (vi b :: vi a :: st) H Q ↔ Go 190 675 L (vi (a + b) :: st) H Q := G_iadd fL_law_674
theorem fL_law_675 : ft 190 675 = some (.iaload, 0, 0, 0, .null) := by decide +kernel
theorem gL_law_675 {L : List (Option Value)} {p : Nat} {a : Int} {st : List Value} {H : HP} {Q : Option Value → HP → Prop} : Go 190 675 L (vi a :: .ref p :: st) H Q ↔ Rd (aJ' (hget H p) a) 190 676 L st H Q := G_iald fL_law_675
theorem fL_law_676 : ft 190 676 = some (.invokevirtual 77, 152, 0, 959, .null) := by decide +kernel
theorem gL_law_676 {L : List (Option Value)} {p : Nat} {a0 : Int32} {a1 : Int32} {a2 : Int32} {r0 : Int32} {H : HP} {Q : Option Value → HP → Prop} : Go 190 676 L (.int a2 :: .int a1 :: .int a0 :: .ref p :: [.int r0]) H Q ↔ (iso 9 (hget H p) = true ∧ Go 152 0 [some (.ref p), some (.int a0), some (.int a1), some (.int a2), none, none, none, none, none] [] H (Cont 190 679 L [.int r0] Q)) := G_cV (n := 3) (N := 9) (as := [.int a2, .int a1, .int a0]) (st := [.int r0]) fL_law_676 (by decide +kernel) rfl (Nat.le_of_ble_eq_true rfl) (Nat.le_of_ble_eq_true rfl) rfl
theorem fL_law_679 : ft 190 679 = some (.if_icmp .eq 733, 0, 0, 0, .null) := by decide +kernel
theorem gL_law_679T {L : List (Option Value)} {a b : Int} (c : (-2147483648 ≤ a ∧ a ≤ 2147483647 ∧ -2147483648 ≤ b ∧ b ≤ 2147483647) ∧ a = b) {st : List Value} {H : HP} {Q : Option Value → HP → Prop} : Go 190 679 L (vi b :: vi a :: st) H Q ↔ Go 190 1412 L st H Q := G_icT fL_law_679 (by decide) c
theorem gL_law_679F {L : List (Option Value)} {a b : Int} (c : (-2147483648 ≤ a ∧ a ≤ 2147483647 ∧ -2147483648 ≤ b ∧ b ≤ 2147483647) ∧ ¬ (a = b)) {st : List Value} {H : HP} {Q : Option Value → HP → Prop} : Go 190 679 L (vi b :: vi a :: st) H Q ↔ Go 190 682 L st H Q := G_icF (tg := 1412) fL_law_679 (by decide) c
theorem fL_law_682 : ft 190 682 = some (.iconst 0, 0, 0, 0, .null) := by decide +kernel
theorem gL_law_682 {L : List (Option Value)} {st : List Value} {H : HP} {Q : Option Value → HP → Prop} : Go 190 682 L st H Q ↔ Go 190 683 L (vi 0 :: st) H Q := G_iconst fL_law_682
theorem fL_law_683 : ft 190 683 = some (.ireturn, 0, 0, 0, .null) := by decide +kernel
theorem gL_law_683 {L : List (Option Value)} {a : Int} (c : a = 0 ∨ a = 1) {H : HP} {Q : Option Value → HP → Prop} : Go 190 683 L [vi a] H Q ↔ Q (some (vi a)) H := G_zret fL_law_683 (by decide +kernel) c
theorem fL_law_684 : ft 190 684 = some (.aload_n 1, 0, 0, 0, .null) := by decide +kernel
theorem gL_law_684 {l0 l2 l3 : Option Value} {u : Nat} {st : List Value} {H : HP} {Q : Option Value → HP → Prop} : Go 190 684 [l0, some (.ref u), l2, l3] st H Q ↔ Go 190 685 [l0, some (.ref u), l2, l3] (.ref u :: st) H Q := G_aload_n fL_law_684 rfl
theorem gL_law_684N {l0 l2 l3 : Option Value} {st : List Value} {H : HP} {Q : Option Value → HP → Prop} : Go 190 684 [l0, some .null, l2, l3] st H Q ↔ Go 190 685 [l0, some .null, l2, l3] (.null :: st) H Q := G_aload_nN fL_law_684 rfl
theorem fL_law_685 : ft 190 685 = some (.aload_n 0, 0, 0, 0, .null) := by decide +kernel
theorem gL_law_685 {l1 l2 l3 : Option Value} {u : Nat} {st : List Value} {H : HP} {Q : Option Value → HP → Prop} : Go 190 685 [some (.ref u), l1, l2, l3] st H Q ↔ Go 190 686 [some (.ref u), l1, l2, l3] (.ref u :: st) H Q := G_aload_n fL_law_685 rfl
theorem fL_law_686 : ft 190 686 = some (.iload_n 3, 0, 0, 0, .null) := by decide +kernel
theorem gL_law_686 {l0 l1 l2 : Option Value} {u : Int32} {st : List Value} {H : HP} {Q : Option Value → HP → Prop} : Go 190 686 [l0, l1, l2, some (.int u)] st H Q ↔ Go 190 687 [l0, l1, l2, some (.int u)] (.int u :: st) H Q := G_iload_n fL_law_686 rfl
theorem fL_law_687 : ft 190 687 = some (.iconst 1, 0, 0, 0, .null) := by decide +kernel
theorem gL_law_687 {L : List (Option Value)} {st : List Value} {H : HP} {Q : Option Value → HP → Prop} : Go 190 687 L st H Q ↔ Go 190 688 L (vi 1 :: st) H Q := G_iconst fL_law_687
theorem fL_law_688 : ft 190 688 = some (.iadd, 0, 0, 0, .null) := by decide +kernel
theorem gL_law_688 {L : List (Option Value)} {a b : Int} {st : List Value} {H : HP} {Q : Option Value → HP → Prop} : Go 190 688 L (vi b :: vi a :: st) H Q ↔ Go 190 689 L (vi (a + b) :: st) H Q := G_iadd fL_law_688
theorem fL_law_689 : ft 190 689 = some (.iaload, 0, 0, 0, .null) := by decide +kernel
theorem gL_law_689 {L : List (Option Value)} {p : Nat} {a : Int} {st : List Value} {H : HP} {Q : Option Value → HP → Prop} : Go 190 689 L (vi a :: .ref p :: st) H Q ↔ Rd (aJ' (hget H p) a) 190 690 L st H Q := G_iald fL_law_689
theorem fL_law_690 : ft 190 690 = some (.aload_n 0, 0, 0, 0, .null) := by decide +kernel
theorem gL_law_690 {l1 l2 l3 : Option Value} {u : Nat} {st : List Value} {H : HP} {Q : Option Value → HP → Prop} : Go 190 690 [some (.ref u), l1, l2, l3] st H Q ↔ Go 190 691 [some (.ref u), l1, l2, l3] (.ref u :: st) H Q := G_aload_n fL_law_690 rfl
theorem fL_law_691 : ft 190 691 = some (.iload_n 3, 0, 0, 0, .null) := by decide +kernel
theorem gL_law_691 {l0 l1 l2 : Option Value} {u : Int32} {st : List Value} {H : HP} {Q : Option Value → HP → Prop} : Go 190 691 [l0, l1, l2, some (.int u)] st H Q ↔ Go 190 692 [l0, l1, l2, some (.int u)] (.int u :: st) H Q := G_iload_n fL_law_691 rfl
theorem fL_law_692 : ft 190 692 = some (.iconst 2, 0, 0, 0, .null) := by decide +kernel
theorem gL_law_692 {L : List (Option Value)} {st : List Value} {H : HP} {Q : Option Value → HP → Prop} : Go 190 692 L st H Q ↔ Go 190 693 L (vi 2 :: st) H Q := G_iconst fL_law_692
theorem fL_law_693 : ft 190 693 = some (.iadd, 0, 0, 0, .null) := by decide +kernel
theorem gL_law_693 {L : List (Option Value)} {a b : Int} {st : List Value} {H : HP} {Q : Option Value → HP → Prop} : Go 190 693 L (vi b :: vi a :: st) H Q ↔ Go 190 694 L (vi (a + b) :: st) H Q := G_iadd fL_law_693
theorem fL_law_694 : ft 190 694 = some (.iaload, 0, 0, 0, .null) := by decide +kernel
theorem gL_law_694 {L : List (Option Value)} {p : Nat} {a : Int} {st : List Value} {H : HP} {Q : Option Value → HP → Prop} : Go 190 694 L (vi a :: .ref p :: st) H Q ↔ Rd (aJ' (hget H p) a) 190 695 L st H Q := G_iald fL_law_694
theorem fL_law_695 : ft 190 695 = some (.aload_n 0, 0, 0, 0, .null) := by decide +kernel
theorem gL_law_695 {l1 l2 l3 : Option Value} {u : Nat} {st : List Value} {H : HP} {Q : Option Value → HP → Prop} : Go 190 695 [some (.ref u), l1, l2, l3] st H Q ↔ Go 190 696 [some (.ref u), l1, l2, l3] (.ref u :: st) H Q := G_aload_n fL_law_695 rfl
theorem fL_law_696 : ft 190 696 = some (.iload_n 3, 0, 0, 0, .null) := by decide +kernel
theorem gL_law_696 {l0 l1 l2 : Option Value} {u : Int32} {st : List Value} {H : HP} {Q : Option Value → HP → Prop} : Go 190 696 [l0, l1, l2, some (.int u)] st H Q ↔ Go 190 697 [l0, l1, l2, some (.int u)] (.int u :: st) H Q := G_iload_n fL_law_696 rfl
theorem fL_law_697 : ft 190 697 = some (.iconst 3, 0, 0, 0, .null) := by decide +kernel
theorem gL_law_697 {L : List (Option Value)} {st : List Value} {H : HP} {Q : Option Value → HP → Prop} : Go 190 697 L st H Q ↔ Go 190 698 L (vi 3 :: st) H Q := G_iconst fL_law_697
theorem fL_law_698 : ft 190 698 = some (.iadd, 0, 0, 0, .null) := by decide +kernel
theorem gL_law_698 {L : List (Option Value)} {a b : Int} {st : List Value} {H : HP} {Q : Option Value → HP → Prop} : Go 190 698 L (vi b :: vi a :: st) H Q ↔ Go 190 699 L (vi (a + b) :: st) H Q := G_iadd fL_law_698
theorem fL_law_699 : ft 190 699 = some (.iaload, 0, 0, 0, .null) := by decide +kernel
theorem gL_law_699 {L : List (Option Value)} {p : Nat} {a : Int} {st : List Value} {H : HP} {Q : Option Value → HP → Prop} : Go 190 699 L (vi a :: .ref p :: st) H Q ↔ Rd (aJ' (hget H p) a) 190 700 L st H Q := G_iald fL_law_699
theorem fL_law_700 : ft 190 700 = some (.invokevirtual 78, 84, 0, 529, .null) := by decide +kernel
theorem gL_law_700 {L : List (Option Value)} {p : Nat} {a0 : Int32} {a1 : Int32} {a2 : Int32}  {H : HP} {Q : Option Value → HP → Prop} : Go 190 700 L (.int a2 :: .int a1 :: .int a0 :: .ref p :: []) H Q ↔ (iso 8 (hget H p) = true ∧ Go 84 0 [some (.ref p), some (.int a0), some (.int a1), some (.int a2), none, none] [] H (Cont 190 703 L [] Q)) := G_cV (n := 3) (N := 6) (as := [.int a2, .int a1, .int a0]) (st := []) fL_law_700 (by decide +kernel) rfl (Nat.le_of_ble_eq_true rfl) (Nat.le_of_ble_eq_true rfl) rfl
theorem fL_law_703 : ft 190 703 = some (.aload_n 2, 0, 0, 0, .null) := by decide +kernel
theorem gL_law_703 {l0 l1 l3 : Option Value} {u : Nat} {st : List Value} {H : HP} {Q : Option Value → HP → Prop} : Go 190 703 [l0, l1, some (.ref u), l3] st H Q ↔ Go 190 704 [l0, l1, some (.ref u), l3] (.ref u :: st) H Q := G_aload_n fL_law_703 rfl
theorem gL_law_703N {l0 l1 l3 : Option Value} {st : List Value} {H : HP} {Q : Option Value → HP → Prop} : Go 190 703 [l0, l1, some .null, l3] st H Q ↔ Go 190 704 [l0, l1, some .null, l3] (.null :: st) H Q := G_aload_nN fL_law_703 rfl
theorem fL_law_704 : ft 190 704 = some (.aload_n 0, 0, 0, 0, .null) := by decide +kernel
theorem gL_law_704 {l1 l2 l3 : Option Value} {u : Nat} {st : List Value} {H : HP} {Q : Option Value → HP → Prop} : Go 190 704 [some (.ref u), l1, l2, l3] st H Q ↔ Go 190 705 [some (.ref u), l1, l2, l3] (.ref u :: st) H Q := G_aload_n fL_law_704 rfl
theorem fL_law_705 : ft 190 705 = some (.iload_n 3, 0, 0, 0, .null) := by decide +kernel
theorem gL_law_705 {l0 l1 l2 : Option Value} {u : Int32} {st : List Value} {H : HP} {Q : Option Value → HP → Prop} : Go 190 705 [l0, l1, l2, some (.int u)] st H Q ↔ Go 190 706 [l0, l1, l2, some (.int u)] (.int u :: st) H Q := G_iload_n fL_law_705 rfl
theorem fL_law_706 : ft 190 706 = some (.iconst 1, 0, 0, 0, .null) := by decide +kernel
theorem gL_law_706 {L : List (Option Value)} {st : List Value} {H : HP} {Q : Option Value → HP → Prop} : Go 190 706 L st H Q ↔ Go 190 707 L (vi 1 :: st) H Q := G_iconst fL_law_706
theorem fL_law_707 : ft 190 707 = some (.iadd, 0, 0, 0, .null) := by decide +kernel
theorem gL_law_707 {L : List (Option Value)} {a b : Int} {st : List Value} {H : HP} {Q : Option Value → HP → Prop} : Go 190 707 L (vi b :: vi a :: st) H Q ↔ Go 190 708 L (vi (a + b) :: st) H Q := G_iadd fL_law_707
theorem fL_law_708 : ft 190 708 = some (.iaload, 0, 0, 0, .null) := by decide +kernel
theorem gL_law_708 {L : List (Option Value)} {p : Nat} {a : Int} {st : List Value} {H : HP} {Q : Option Value → HP → Prop} : Go 190 708 L (vi a :: .ref p :: st) H Q ↔ Rd (aJ' (hget H p) a) 190 709 L st H Q := G_iald fL_law_708
theorem fL_law_709 : ft 190 709 = some (.aload_n 0, 0, 0, 0, .null) := by decide +kernel
theorem gL_law_709 {l1 l2 l3 : Option Value} {u : Nat} {st : List Value} {H : HP} {Q : Option Value → HP → Prop} : Go 190 709 [some (.ref u), l1, l2, l3] st H Q ↔ Go 190 710 [some (.ref u), l1, l2, l3] (.ref u :: st) H Q := G_aload_n fL_law_709 rfl
theorem fL_law_710 : ft 190 710 = some (.iload_n 3, 0, 0, 0, .null) := by decide +kernel
theorem gL_law_710 {l0 l1 l2 : Option Value} {u : Int32} {st : List Value} {H : HP} {Q : Option Value → HP → Prop} : Go 190 710 [l0, l1, l2, some (.int u)] st H Q ↔ Go 190 711 [l0, l1, l2, some (.int u)] (.int u :: st) H Q := G_iload_n fL_law_710 rfl
theorem fL_law_711 : ft 190 711 = some (.iconst 2, 0, 0, 0, .null) := by decide +kernel
theorem gL_law_711 {L : List (Option Value)} {st : List Value} {H : HP} {Q : Option Value → HP → Prop} : Go 190 711 L st H Q ↔ Go 190 712 L (vi 2 :: st) H Q := G_iconst fL_law_711
theorem fL_law_712 : ft 190 712 = some (.iadd, 0, 0, 0, .null) := by decide +kernel
theorem gL_law_712 {L : List (Option Value)} {a b : Int} {st : List Value} {H : HP} {Q : Option Value → HP → Prop} : Go 190 712 L (vi b :: vi a :: st) H Q ↔ Go 190 713 L (vi (a + b) :: st) H Q := G_iadd fL_law_712
theorem fL_law_713 : ft 190 713 = some (.iaload, 0, 0, 0, .null) := by decide +kernel
theorem gL_law_713 {L : List (Option Value)} {p : Nat} {a : Int} {st : List Value} {H : HP} {Q : Option Value → HP → Prop} : Go 190 713 L (vi a :: .ref p :: st) H Q ↔ Rd (aJ' (hget H p) a) 190 714 L st H Q := G_iald fL_law_713
theorem fL_law_714 : ft 190 714 = some (.aload_n 0, 0, 0, 0, .null) := by decide +kernel
theorem gL_law_714 {l1 l2 l3 : Option Value} {u : Nat} {st : List Value} {H : HP} {Q : Option Value → HP → Prop} : Go 190 714 [some (.ref u), l1, l2, l3] st H Q ↔ Go 190 715 [some (.ref u), l1, l2, l3] (.ref u :: st) H Q := G_aload_n fL_law_714 rfl
theorem fL_law_715 : ft 190 715 = some (.iload_n 3, 0, 0, 0, .null) := by decide +kernel
theorem gL_law_715 {l0 l1 l2 : Option Value} {u : Int32} {st : List Value} {H : HP} {Q : Option Value → HP → Prop} : Go 190 715 [l0, l1, l2, some (.int u)] st H Q ↔ Go 190 716 [l0, l1, l2, some (.int u)] (.int u :: st) H Q := G_iload_n fL_law_715 rfl
theorem fL_law_716 : ft 190 716 = some (.iconst 3, 0, 0, 0, .null) := by decide +kernel
theorem gL_law_716 {L : List (Option Value)} {st : List Value} {H : HP} {Q : Option Value → HP → Prop} : Go 190 716 L st H Q ↔ Go 190 717 L (vi 3 :: st) H Q := G_iconst fL_law_716
theorem fL_law_717 : ft 190 717 = some (.iadd, 0, 0, 0, .null) := by decide +kernel
theorem gL_law_717 {L : List (Option Value)} {a b : Int} {st : List Value} {H : HP} {Q : Option Value → HP → Prop} : Go 190 717 L (vi b :: vi a :: st) H Q ↔ Go 190 718 L (vi (a + b) :: st) H Q := G_iadd fL_law_717
theorem fL_law_718 : ft 190 718 = some (.iaload, 0, 0, 0, .null) := by decide +kernel
theorem gL_law_718 {L : List (Option Value)} {p : Nat} {a : Int} {st : List Value} {H : HP} {Q : Option Value → HP → Prop} : Go 190 718 L (vi a :: .ref p :: st) H Q ↔ Rd (aJ' (hget H p) a) 190 719 L st H Q := G_iald fL_law_718
theorem fL_law_719 : ft 190 719 = some (.invokevirtual 81, 153, 0, 980, .null) := by decide +kernel
theorem gL_law_719 {L : List (Option Value)} {p : Nat} {a0 : Int32} {a1 : Int32} {a2 : Int32} {r0 : Int32} {H : HP} {Q : Option Value → HP → Prop} : Go 190 719 L (.int a2 :: .int a1 :: .int a0 :: .ref p :: [.int r0]) H Q ↔ (iso 9 (hget H p) = true ∧ Go 153 0 [some (.ref p), some (.int a0), some (.int a1), some (.int a2), none, none, none] [] H (Cont 190 722 L [.int r0] Q)) := G_cV (n := 3) (N := 7) (as := [.int a2, .int a1, .int a0]) (st := [.int r0]) fL_law_719 (by decide +kernel) rfl (Nat.le_of_ble_eq_true rfl) (Nat.le_of_ble_eq_true rfl) rfl
theorem fL_law_722 : ft 190 722 = some (.if_icmp .eq 690, 0, 0, 0, .null) := by decide +kernel
theorem gL_law_722T {L : List (Option Value)} {a b : Int} (c : (-2147483648 ≤ a ∧ a ≤ 2147483647 ∧ -2147483648 ≤ b ∧ b ≤ 2147483647) ∧ a = b) {st : List Value} {H : HP} {Q : Option Value → HP → Prop} : Go 190 722 L (vi b :: vi a :: st) H Q ↔ Go 190 1412 L st H Q := G_icT fL_law_722 (by decide) c
theorem gL_law_722F {L : List (Option Value)} {a b : Int} (c : (-2147483648 ≤ a ∧ a ≤ 2147483647 ∧ -2147483648 ≤ b ∧ b ≤ 2147483647) ∧ ¬ (a = b)) {st : List Value} {H : HP} {Q : Option Value → HP → Prop} : Go 190 722 L (vi b :: vi a :: st) H Q ↔ Go 190 725 L st H Q := G_icF (tg := 1412) fL_law_722 (by decide) c
theorem fL_law_725 : ft 190 725 = some (.iconst 0, 0, 0, 0, .null) := by decide +kernel
theorem gL_law_725 {L : List (Option Value)} {st : List Value} {H : HP} {Q : Option Value → HP → Prop} : Go 190 725 L st H Q ↔ Go 190 726 L (vi 0 :: st) H Q := G_iconst fL_law_725
theorem fL_law_726 : ft 190 726 = some (.ireturn, 0, 0, 0, .null) := by decide +kernel
theorem gL_law_726 {L : List (Option Value)} {a : Int} (c : a = 0 ∨ a = 1) {H : HP} {Q : Option Value → HP → Prop} : Go 190 726 L [vi a] H Q ↔ Q (some (vi a)) H := G_zret fL_law_726 (by decide +kernel) c
theorem fL_law_727 : ft 190 727 = some (.aload_n 1, 0, 0, 0, .null) := by decide +kernel
theorem gL_law_727 {l0 l2 l3 : Option Value} {u : Nat} {st : List Value} {H : HP} {Q : Option Value → HP → Prop} : Go 190 727 [l0, some (.ref u), l2, l3] st H Q ↔ Go 190 728 [l0, some (.ref u), l2, l3] (.ref u :: st) H Q := G_aload_n fL_law_727 rfl
theorem gL_law_727N {l0 l2 l3 : Option Value} {st : List Value} {H : HP} {Q : Option Value → HP → Prop} : Go 190 727 [l0, some .null, l2, l3] st H Q ↔ Go 190 728 [l0, some .null, l2, l3] (.null :: st) H Q := G_aload_nN fL_law_727 rfl
theorem fL_law_728 : ft 190 728 = some (.aload_n 0, 0, 0, 0, .null) := by decide +kernel
theorem gL_law_728 {l1 l2 l3 : Option Value} {u : Nat} {st : List Value} {H : HP} {Q : Option Value → HP → Prop} : Go 190 728 [some (.ref u), l1, l2, l3] st H Q ↔ Go 190 729 [some (.ref u), l1, l2, l3] (.ref u :: st) H Q := G_aload_n fL_law_728 rfl
theorem fL_law_729 : ft 190 729 = some (.iload_n 3, 0, 0, 0, .null) := by decide +kernel
theorem gL_law_729 {l0 l1 l2 : Option Value} {u : Int32} {st : List Value} {H : HP} {Q : Option Value → HP → Prop} : Go 190 729 [l0, l1, l2, some (.int u)] st H Q ↔ Go 190 730 [l0, l1, l2, some (.int u)] (.int u :: st) H Q := G_iload_n fL_law_729 rfl
theorem fL_law_730 : ft 190 730 = some (.iconst 1, 0, 0, 0, .null) := by decide +kernel
theorem gL_law_730 {L : List (Option Value)} {st : List Value} {H : HP} {Q : Option Value → HP → Prop} : Go 190 730 L st H Q ↔ Go 190 731 L (vi 1 :: st) H Q := G_iconst fL_law_730
theorem fL_law_731 : ft 190 731 = some (.iadd, 0, 0, 0, .null) := by decide +kernel
theorem gL_law_731 {L : List (Option Value)} {a b : Int} {st : List Value} {H : HP} {Q : Option Value → HP → Prop} : Go 190 731 L (vi b :: vi a :: st) H Q ↔ Go 190 732 L (vi (a + b) :: st) H Q := G_iadd fL_law_731
theorem fL_law_732 : ft 190 732 = some (.iaload, 0, 0, 0, .null) := by decide +kernel
theorem gL_law_732 {L : List (Option Value)} {p : Nat} {a : Int} {st : List Value} {H : HP} {Q : Option Value → HP → Prop} : Go 190 732 L (vi a :: .ref p :: st) H Q ↔ Rd (aJ' (hget H p) a) 190 733 L st H Q := G_iald fL_law_732
theorem fL_law_733 : ft 190 733 = some (.aload_n 0, 0, 0, 0, .null) := by decide +kernel
theorem gL_law_733 {l1 l2 l3 : Option Value} {u : Nat} {st : List Value} {H : HP} {Q : Option Value → HP → Prop} : Go 190 733 [some (.ref u), l1, l2, l3] st H Q ↔ Go 190 734 [some (.ref u), l1, l2, l3] (.ref u :: st) H Q := G_aload_n fL_law_733 rfl
theorem fL_law_734 : ft 190 734 = some (.iload_n 3, 0, 0, 0, .null) := by decide +kernel
theorem gL_law_734 {l0 l1 l2 : Option Value} {u : Int32} {st : List Value} {H : HP} {Q : Option Value → HP → Prop} : Go 190 734 [l0, l1, l2, some (.int u)] st H Q ↔ Go 190 735 [l0, l1, l2, some (.int u)] (.int u :: st) H Q := G_iload_n fL_law_734 rfl
theorem fL_law_735 : ft 190 735 = some (.iconst 2, 0, 0, 0, .null) := by decide +kernel
theorem gL_law_735 {L : List (Option Value)} {st : List Value} {H : HP} {Q : Option Value → HP → Prop} : Go 190 735 L st H Q ↔ Go 190 736 L (vi 2 :: st) H Q := G_iconst fL_law_735
theorem fL_law_736 : ft 190 736 = some (.iadd, 0, 0, 0, .null) := by decide +kernel
theorem gL_law_736 {L : List (Option Value)} {a b : Int} {st : List Value} {H : HP} {Q : Option Value → HP → Prop} : Go 190 736 L (vi b :: vi a :: st) H Q ↔ Go 190 737 L (vi (a + b) :: st) H Q := G_iadd fL_law_736
theorem fL_law_737 : ft 190 737 = some (.iaload, 0, 0, 0, .null) := by decide +kernel
theorem gL_law_737 {L : List (Option Value)} {p : Nat} {a : Int} {st : List Value} {H : HP} {Q : Option Value → HP → Prop} : Go 190 737 L (vi a :: .ref p :: st) H Q ↔ Rd (aJ' (hget H p) a) 190 738 L st H Q := G_iald fL_law_737
theorem fL_law_738 : ft 190 738 = some (.invokevirtual 82, 85, 0, 538, .null) := by decide +kernel
theorem gL_law_738 {L : List (Option Value)} {p : Nat} {a0 : Int32} {a1 : Int32}  {H : HP} {Q : Option Value → HP → Prop} : Go 190 738 L (.int a1 :: .int a0 :: .ref p :: []) H Q ↔ (iso 8 (hget H p) = true ∧ Go 85 0 [some (.ref p), some (.int a0), some (.int a1), none, none] [] H (Cont 190 741 L [] Q)) := G_cV (n := 2) (N := 5) (as := [.int a1, .int a0]) (st := []) fL_law_738 (by decide +kernel) rfl (Nat.le_of_ble_eq_true rfl) (Nat.le_of_ble_eq_true rfl) rfl
theorem fL_law_741 : ft 190 741 = some (.aload_n 2, 0, 0, 0, .null) := by decide +kernel
theorem gL_law_741 {l0 l1 l3 : Option Value} {u : Nat} {st : List Value} {H : HP} {Q : Option Value → HP → Prop} : Go 190 741 [l0, l1, some (.ref u), l3] st H Q ↔ Go 190 742 [l0, l1, some (.ref u), l3] (.ref u :: st) H Q := G_aload_n fL_law_741 rfl
theorem gL_law_741N {l0 l1 l3 : Option Value} {st : List Value} {H : HP} {Q : Option Value → HP → Prop} : Go 190 741 [l0, l1, some .null, l3] st H Q ↔ Go 190 742 [l0, l1, some .null, l3] (.null :: st) H Q := G_aload_nN fL_law_741 rfl
theorem fL_law_742 : ft 190 742 = some (.aload_n 0, 0, 0, 0, .null) := by decide +kernel
theorem gL_law_742 {l1 l2 l3 : Option Value} {u : Nat} {st : List Value} {H : HP} {Q : Option Value → HP → Prop} : Go 190 742 [some (.ref u), l1, l2, l3] st H Q ↔ Go 190 743 [some (.ref u), l1, l2, l3] (.ref u :: st) H Q := G_aload_n fL_law_742 rfl
theorem fL_law_743 : ft 190 743 = some (.iload_n 3, 0, 0, 0, .null) := by decide +kernel
theorem gL_law_743 {l0 l1 l2 : Option Value} {u : Int32} {st : List Value} {H : HP} {Q : Option Value → HP → Prop} : Go 190 743 [l0, l1, l2, some (.int u)] st H Q ↔ Go 190 744 [l0, l1, l2, some (.int u)] (.int u :: st) H Q := G_iload_n fL_law_743 rfl
theorem fL_law_744 : ft 190 744 = some (.iconst 1, 0, 0, 0, .null) := by decide +kernel
theorem gL_law_744 {L : List (Option Value)} {st : List Value} {H : HP} {Q : Option Value → HP → Prop} : Go 190 744 L st H Q ↔ Go 190 745 L (vi 1 :: st) H Q := G_iconst fL_law_744
theorem fL_law_745 : ft 190 745 = some (.iadd, 0, 0, 0, .null) := by decide +kernel
theorem gL_law_745 {L : List (Option Value)} {a b : Int} {st : List Value} {H : HP} {Q : Option Value → HP → Prop} : Go 190 745 L (vi b :: vi a :: st) H Q ↔ Go 190 746 L (vi (a + b) :: st) H Q := G_iadd fL_law_745
theorem fL_law_746 : ft 190 746 = some (.iaload, 0, 0, 0, .null) := by decide +kernel
theorem gL_law_746 {L : List (Option Value)} {p : Nat} {a : Int} {st : List Value} {H : HP} {Q : Option Value → HP → Prop} : Go 190 746 L (vi a :: .ref p :: st) H Q ↔ Rd (aJ' (hget H p) a) 190 747 L st H Q := G_iald fL_law_746
theorem fL_law_747 : ft 190 747 = some (.aload_n 0, 0, 0, 0, .null) := by decide +kernel
theorem gL_law_747 {l1 l2 l3 : Option Value} {u : Nat} {st : List Value} {H : HP} {Q : Option Value → HP → Prop} : Go 190 747 [some (.ref u), l1, l2, l3] st H Q ↔ Go 190 748 [some (.ref u), l1, l2, l3] (.ref u :: st) H Q := G_aload_n fL_law_747 rfl
theorem fL_law_748 : ft 190 748 = some (.iload_n 3, 0, 0, 0, .null) := by decide +kernel
theorem gL_law_748 {l0 l1 l2 : Option Value} {u : Int32} {st : List Value} {H : HP} {Q : Option Value → HP → Prop} : Go 190 748 [l0, l1, l2, some (.int u)] st H Q ↔ Go 190 749 [l0, l1, l2, some (.int u)] (.int u :: st) H Q := G_iload_n fL_law_748 rfl
theorem fL_law_749 : ft 190 749 = some (.iconst 2, 0, 0, 0, .null) := by decide +kernel
theorem gL_law_749 {L : List (Option Value)} {st : List Value} {H : HP} {Q : Option Value → HP → Prop} : Go 190 749 L st H Q ↔ Go 190 750 L (vi 2 :: st) H Q := G_iconst fL_law_749
theorem fL_law_750 : ft 190 750 = some (.iadd, 0, 0, 0, .null) := by decide +kernel
theorem gL_law_750 {L : List (Option Value)} {a b : Int} {st : List Value} {H : HP} {Q : Option Value → HP → Prop} : Go 190 750 L (vi b :: vi a :: st) H Q ↔ Go 190 751 L (vi (a + b) :: st) H Q := G_iadd fL_law_750
theorem fL_law_751 : ft 190 751 = some (.iaload, 0, 0, 0, .null) := by decide +kernel
theorem gL_law_751 {L : List (Option Value)} {p : Nat} {a : Int} {st : List Value} {H : HP} {Q : Option Value → HP → Prop} : Go 190 751 L (vi a :: .ref p :: st) H Q ↔ Rd (aJ' (hget H p) a) 190 752 L st H Q := G_iald fL_law_751
theorem fL_law_752 : ft 190 752 = some (.invokevirtual 85, 154, 0, 984, .null) := by decide +kernel
theorem gL_law_752 {L : List (Option Value)} {p : Nat} {a0 : Int32} {a1 : Int32} {r0 : Int32} {H : HP} {Q : Option Value → HP → Prop} : Go 190 752 L (.int a1 :: .int a0 :: .ref p :: [.int r0]) H Q ↔ (iso 9 (hget H p) = true ∧ Go 154 0 [some (.ref p), some (.int a0), some (.int a1), none, none, none, none, none] [] H (Cont 190 755 L [.int r0] Q)) := G_cV (n := 2) (N := 8) (as := [.int a1, .int a0]) (st := [.int r0]) fL_law_752 (by decide +kernel) rfl (Nat.le_of_ble_eq_true rfl) (Nat.le_of_ble_eq_true rfl) rfl
theorem fL_law_755 : ft 190 755 = some (.if_icmp .eq 657, 0, 0, 0, .null) := by decide +kernel
theorem gL_law_755T {L : List (Option Value)} {a b : Int} (c : (-2147483648 ≤ a ∧ a ≤ 2147483647 ∧ -2147483648 ≤ b ∧ b ≤ 2147483647) ∧ a = b) {st : List Value} {H : HP} {Q : Option Value → HP → Prop} : Go 190 755 L (vi b :: vi a :: st) H Q ↔ Go 190 1412 L st H Q := G_icT fL_law_755 (by decide) c
theorem gL_law_755F {L : List (Option Value)} {a b : Int} (c : (-2147483648 ≤ a ∧ a ≤ 2147483647 ∧ -2147483648 ≤ b ∧ b ≤ 2147483647) ∧ ¬ (a = b)) {st : List Value} {H : HP} {Q : Option Value → HP → Prop} : Go 190 755 L (vi b :: vi a :: st) H Q ↔ Go 190 758 L st H Q := G_icF (tg := 1412) fL_law_755 (by decide) c
theorem fL_law_758 : ft 190 758 = some (.iconst 0, 0, 0, 0, .null) := by decide +kernel
theorem gL_law_758 {L : List (Option Value)} {st : List Value} {H : HP} {Q : Option Value → HP → Prop} : Go 190 758 L st H Q ↔ Go 190 759 L (vi 0 :: st) H Q := G_iconst fL_law_758
theorem fL_law_759 : ft 190 759 = some (.ireturn, 0, 0, 0, .null) := by decide +kernel
theorem gL_law_759 {L : List (Option Value)} {a : Int} (c : a = 0 ∨ a = 1) {H : HP} {Q : Option Value → HP → Prop} : Go 190 759 L [vi a] H Q ↔ Q (some (vi a)) H := G_zret fL_law_759 (by decide +kernel) c
theorem fL_law_760 : ft 190 760 = some (.aload_n 1, 0, 0, 0, .null) := by decide +kernel
theorem gL_law_760 {l0 l2 l3 : Option Value} {u : Nat} {st : List Value} {H : HP} {Q : Option Value → HP → Prop} : Go 190 760 [l0, some (.ref u), l2, l3] st H Q ↔ Go 190 761 [l0, some (.ref u), l2, l3] (.ref u :: st) H Q := G_aload_n fL_law_760 rfl
theorem gL_law_760N {l0 l2 l3 : Option Value} {st : List Value} {H : HP} {Q : Option Value → HP → Prop} : Go 190 760 [l0, some .null, l2, l3] st H Q ↔ Go 190 761 [l0, some .null, l2, l3] (.null :: st) H Q := G_aload_nN fL_law_760 rfl
theorem fL_law_761 : ft 190 761 = some (.aload_n 0, 0, 0, 0, .null) := by decide +kernel
theorem gL_law_761 {l1 l2 l3 : Option Value} {u : Nat} {st : List Value} {H : HP} {Q : Option Value → HP → Prop} : Go 190 761 [some (.ref u), l1, l2, l3] st H Q ↔ Go 190 762 [some (.ref u), l1, l2, l3] (.ref u :: st) H Q := G_aload_n fL_law_761 rfl
theorem fL_law_762 : ft 190 762 = some (.iload_n 3, 0, 0, 0, .null) := by decide +kernel
theorem gL_law_762 {l0 l1 l2 : Option Value} {u : Int32} {st : List Value} {H : HP} {Q : Option Value → HP → Prop} : Go 190 762 [l0, l1, l2, some (.int u)] st H Q ↔ Go 190 763 [l0, l1, l2, some (.int u)] (.int u :: st) H Q := G_iload_n fL_law_762 rfl
theorem fL_law_763 : ft 190 763 = some (.iconst 1, 0, 0, 0, .null) := by decide +kernel
theorem gL_law_763 {L : List (Option Value)} {st : List Value} {H : HP} {Q : Option Value → HP → Prop} : Go 190 763 L st H Q ↔ Go 190 764 L (vi 1 :: st) H Q := G_iconst fL_law_763
theorem fL_law_764 : ft 190 764 = some (.iadd, 0, 0, 0, .null) := by decide +kernel
theorem gL_law_764 {L : List (Option Value)} {a b : Int} {st : List Value} {H : HP} {Q : Option Value → HP → Prop} : Go 190 764 L (vi b :: vi a :: st) H Q ↔ Go 190 765 L (vi (a + b) :: st) H Q := G_iadd fL_law_764
theorem fL_law_765 : ft 190 765 = some (.iaload, 0, 0, 0, .null) := by decide +kernel
theorem gL_law_765 {L : List (Option Value)} {p : Nat} {a : Int} {st : List Value} {H : HP} {Q : Option Value → HP → Prop} : Go 190 765 L (vi a :: .ref p :: st) H Q ↔ Rd (aJ' (hget H p) a) 190 766 L st H Q := G_iald fL_law_765
theorem fL_law_766 : ft 190 766 = some (.aload_n 0, 0, 0, 0, .null) := by decide +kernel
theorem gL_law_766 {l1 l2 l3 : Option Value} {u : Nat} {st : List Value} {H : HP} {Q : Option Value → HP → Prop} : Go 190 766 [some (.ref u), l1, l2, l3] st H Q ↔ Go 190 767 [some (.ref u), l1, l2, l3] (.ref u :: st) H Q := G_aload_n fL_law_766 rfl
theorem fL_law_767 : ft 190 767 = some (.iload_n 3, 0, 0, 0, .null) := by decide +kernel
theorem gL_law_767 {l0 l1 l2 : Option Value} {u : Int32} {st : List Value} {H : HP} {Q : Option Value → HP → Prop} : Go 190 767 [l0, l1, l2, some (.int u)] st H Q ↔ Go 190 768 [l0, l1, l2, some (.int u)] (.int u :: st) H Q := G_iload_n fL_law_767 rfl
theorem fL_law_768 : ft 190 768 = some (.iconst 2, 0, 0, 0, .null) := by decide +kernel
theorem gL_law_768 {L : List (Option Value)} {st : List Value} {H : HP} {Q : Option Value → HP → Prop} : Go 190 768 L st H Q ↔ Go 190 769 L (vi 2 :: st) H Q := G_iconst fL_law_768
theorem fL_law_769 : ft 190 769 = some (.iadd, 0, 0, 0, .null) := by decide +kernel
theorem gL_law_769 {L : List (Option Value)} {a b : Int} {st : List Value} {H : HP} {Q : Option Value → HP → Prop} : Go 190 769 L (vi b :: vi a :: st) H Q ↔ Go 190 770 L (vi (a + b) :: st) H Q := G_iadd fL_law_769
theorem fL_law_770 : ft 190 770 = some (.iaload, 0, 0, 0, .null) := by decide +kernel
theorem gL_law_770 {L : List (Option Value)} {p : Nat} {a : Int} {st : List Value} {H : HP} {Q : Option Value → HP → Prop} : Go 190 770 L (vi a :: .ref p :: st) H Q ↔ Rd (aJ' (hget H p) a) 190 771 L st H Q := G_iald fL_law_770
theorem fL_law_771 : ft 190 771 = some (.invokevirtual 86, 86, 0, 546, .null) := by decide +kernel
theorem gL_law_771 {L : List (Option Value)} {p : Nat} {a0 : Int32} {a1 : Int32}  {H : HP} {Q : Option Value → HP → Prop} : Go 190 771 L (.int a1 :: .int a0 :: .ref p :: []) H Q ↔ (iso 8 (hget H p) = true ∧ Go 86 0 [some (.ref p), some (.int a0), some (.int a1), none] [] H (Cont 190 774 L [] Q)) := G_cV (n := 2) (N := 4) (as := [.int a1, .int a0]) (st := []) fL_law_771 (by decide +kernel) rfl (Nat.le_of_ble_eq_true rfl) (Nat.le_of_ble_eq_true rfl) rfl
theorem fL_law_774 : ft 190 774 = some (.aload_n 2, 0, 0, 0, .null) := by decide +kernel
theorem gL_law_774 {l0 l1 l3 : Option Value} {u : Nat} {st : List Value} {H : HP} {Q : Option Value → HP → Prop} : Go 190 774 [l0, l1, some (.ref u), l3] st H Q ↔ Go 190 775 [l0, l1, some (.ref u), l3] (.ref u :: st) H Q := G_aload_n fL_law_774 rfl
theorem gL_law_774N {l0 l1 l3 : Option Value} {st : List Value} {H : HP} {Q : Option Value → HP → Prop} : Go 190 774 [l0, l1, some .null, l3] st H Q ↔ Go 190 775 [l0, l1, some .null, l3] (.null :: st) H Q := G_aload_nN fL_law_774 rfl
theorem fL_law_775 : ft 190 775 = some (.aload_n 0, 0, 0, 0, .null) := by decide +kernel
theorem gL_law_775 {l1 l2 l3 : Option Value} {u : Nat} {st : List Value} {H : HP} {Q : Option Value → HP → Prop} : Go 190 775 [some (.ref u), l1, l2, l3] st H Q ↔ Go 190 776 [some (.ref u), l1, l2, l3] (.ref u :: st) H Q := G_aload_n fL_law_775 rfl
theorem fL_law_776 : ft 190 776 = some (.iload_n 3, 0, 0, 0, .null) := by decide +kernel
theorem gL_law_776 {l0 l1 l2 : Option Value} {u : Int32} {st : List Value} {H : HP} {Q : Option Value → HP → Prop} : Go 190 776 [l0, l1, l2, some (.int u)] st H Q ↔ Go 190 777 [l0, l1, l2, some (.int u)] (.int u :: st) H Q := G_iload_n fL_law_776 rfl
theorem fL_law_777 : ft 190 777 = some (.iconst 1, 0, 0, 0, .null) := by decide +kernel
theorem gL_law_777 {L : List (Option Value)} {st : List Value} {H : HP} {Q : Option Value → HP → Prop} : Go 190 777 L st H Q ↔ Go 190 778 L (vi 1 :: st) H Q := G_iconst fL_law_777
theorem fL_law_778 : ft 190 778 = some (.iadd, 0, 0, 0, .null) := by decide +kernel
theorem gL_law_778 {L : List (Option Value)} {a b : Int} {st : List Value} {H : HP} {Q : Option Value → HP → Prop} : Go 190 778 L (vi b :: vi a :: st) H Q ↔ Go 190 779 L (vi (a + b) :: st) H Q := G_iadd fL_law_778
theorem fL_law_779 : ft 190 779 = some (.iaload, 0, 0, 0, .null) := by decide +kernel
theorem gL_law_779 {L : List (Option Value)} {p : Nat} {a : Int} {st : List Value} {H : HP} {Q : Option Value → HP → Prop} : Go 190 779 L (vi a :: .ref p :: st) H Q ↔ Rd (aJ' (hget H p) a) 190 780 L st H Q := G_iald fL_law_779
theorem fL_law_780 : ft 190 780 = some (.aload_n 0, 0, 0, 0, .null) := by decide +kernel
theorem gL_law_780 {l1 l2 l3 : Option Value} {u : Nat} {st : List Value} {H : HP} {Q : Option Value → HP → Prop} : Go 190 780 [some (.ref u), l1, l2, l3] st H Q ↔ Go 190 781 [some (.ref u), l1, l2, l3] (.ref u :: st) H Q := G_aload_n fL_law_780 rfl
theorem fL_law_781 : ft 190 781 = some (.iload_n 3, 0, 0, 0, .null) := by decide +kernel
theorem gL_law_781 {l0 l1 l2 : Option Value} {u : Int32} {st : List Value} {H : HP} {Q : Option Value → HP → Prop} : Go 190 781 [l0, l1, l2, some (.int u)] st H Q ↔ Go 190 782 [l0, l1, l2, some (.int u)] (.int u :: st) H Q := G_iload_n fL_law_781 rfl
theorem fL_law_782 : ft 190 782 = some (.iconst 2, 0, 0, 0, .null) := by decide +kernel
theorem gL_law_782 {L : List (Option Value)} {st : List Value} {H : HP} {Q : Option Value → HP → Prop} : Go 190 782 L st H Q ↔ Go 190 783 L (vi 2 :: st) H Q := G_iconst fL_law_782
theorem fL_law_783 : ft 190 783 = some (.iadd, 0, 0, 0, .null) := by decide +kernel
theorem gL_law_783 {L : List (Option Value)} {a b : Int} {st : List Value} {H : HP} {Q : Option Value → HP → Prop} : Go 190 783 L (vi b :: vi a :: st) H Q ↔ Go 190 784 L (vi (a + b) :: st) H Q := G_iadd fL_law_783
theorem fL_law_784 : ft 190 784 = some (.iaload, 0, 0, 0, .null) := by decide +kernel
theorem gL_law_784 {L : List (Option Value)} {p : Nat} {a : Int} {st : List Value} {H : HP} {Q : Option Value → HP → Prop} : Go 190 784 L (vi a :: .ref p :: st) H Q ↔ Rd (aJ' (hget H p) a) 190 785 L st H Q := G_iald fL_law_784
theorem fL_law_785 : ft 190 785 = some (.invokevirtual 89, 155, 0, 988, .null) := by decide +kernel
theorem gL_law_785 {L : List (Option Value)} {p : Nat} {a0 : Int32} {a1 : Int32} {r0 : Int32} {H : HP} {Q : Option Value → HP → Prop} : Go 190 785 L (.int a1 :: .int a0 :: .ref p :: [.int r0]) H Q ↔ (iso 9 (hget H p) = true ∧ Go 155 0 [some (.ref p), some (.int a0), some (.int a1), none, none] [] H (Cont 190 788 L [.int r0] Q)) := G_cV (n := 2) (N := 5) (as := [.int a1, .int a0]) (st := [.int r0]) fL_law_785 (by decide +kernel) rfl (Nat.le_of_ble_eq_true rfl) (Nat.le_of_ble_eq_true rfl) rfl
theorem fL_law_788 : ft 190 788 = some (.if_icmp .eq 624, 0, 0, 0, .null) := by decide +kernel
theorem gL_law_788T {L : List (Option Value)} {a b : Int} (c : (-2147483648 ≤ a ∧ a ≤ 2147483647 ∧ -2147483648 ≤ b ∧ b ≤ 2147483647) ∧ a = b) {st : List Value} {H : HP} {Q : Option Value → HP → Prop} : Go 190 788 L (vi b :: vi a :: st) H Q ↔ Go 190 1412 L st H Q := G_icT fL_law_788 (by decide) c
theorem gL_law_788F {L : List (Option Value)} {a b : Int} (c : (-2147483648 ≤ a ∧ a ≤ 2147483647 ∧ -2147483648 ≤ b ∧ b ≤ 2147483647) ∧ ¬ (a = b)) {st : List Value} {H : HP} {Q : Option Value → HP → Prop} : Go 190 788 L (vi b :: vi a :: st) H Q ↔ Go 190 791 L st H Q := G_icF (tg := 1412) fL_law_788 (by decide) c
theorem fL_law_791 : ft 190 791 = some (.iconst 0, 0, 0, 0, .null) := by decide +kernel
theorem gL_law_791 {L : List (Option Value)} {st : List Value} {H : HP} {Q : Option Value → HP → Prop} : Go 190 791 L st H Q ↔ Go 190 792 L (vi 0 :: st) H Q := G_iconst fL_law_791
theorem fL_law_792 : ft 190 792 = some (.ireturn, 0, 0, 0, .null) := by decide +kernel
theorem gL_law_792 {L : List (Option Value)} {a : Int} (c : a = 0 ∨ a = 1) {H : HP} {Q : Option Value → HP → Prop} : Go 190 792 L [vi a] H Q ↔ Q (some (vi a)) H := G_zret fL_law_792 (by decide +kernel) c
theorem fL_law_793 : ft 190 793 = some (.aload_n 1, 0, 0, 0, .null) := by decide +kernel
theorem gL_law_793 {l0 l2 l3 : Option Value} {u : Nat} {st : List Value} {H : HP} {Q : Option Value → HP → Prop} : Go 190 793 [l0, some (.ref u), l2, l3] st H Q ↔ Go 190 794 [l0, some (.ref u), l2, l3] (.ref u :: st) H Q := G_aload_n fL_law_793 rfl
theorem gL_law_793N {l0 l2 l3 : Option Value} {st : List Value} {H : HP} {Q : Option Value → HP → Prop} : Go 190 793 [l0, some .null, l2, l3] st H Q ↔ Go 190 794 [l0, some .null, l2, l3] (.null :: st) H Q := G_aload_nN fL_law_793 rfl
theorem fL_law_794 : ft 190 794 = some (.aload_n 0, 0, 0, 0, .null) := by decide +kernel
theorem gL_law_794 {l1 l2 l3 : Option Value} {u : Nat} {st : List Value} {H : HP} {Q : Option Value → HP → Prop} : Go 190 794 [some (.ref u), l1, l2, l3] st H Q ↔ Go 190 795 [some (.ref u), l1, l2, l3] (.ref u :: st) H Q := G_aload_n fL_law_794 rfl
theorem fL_law_795 : ft 190 795 = some (.iload_n 3, 0, 0, 0, .null) := by decide +kernel
theorem gL_law_795 {l0 l1 l2 : Option Value} {u : Int32} {st : List Value} {H : HP} {Q : Option Value → HP → Prop} : Go 190 795 [l0, l1, l2, some (.int u)] st H Q ↔ Go 190 796 [l0, l1, l2, some (.int u)] (.int u :: st) H Q := G_iload_n fL_law_795 rfl
theorem fL_law_796 : ft 190 796 = some (.iconst 1, 0, 0, 0, .null) := by decide +kernel
theorem gL_law_796 {L : List (Option Value)} {st : List Value} {H : HP} {Q : Option Value → HP → Prop} : Go 190 796 L st H Q ↔ Go 190 797 L (vi 1 :: st) H Q := G_iconst fL_law_796
theorem fL_law_797 : ft 190 797 = some (.iadd, 0, 0, 0, .null) := by decide +kernel
theorem gL_law_797 {L : List (Option Value)} {a b : Int} {st : List Value} {H : HP} {Q : Option Value → HP → Prop} : Go 190 797 L (vi b :: vi a :: st) H Q ↔ Go 190 798 L (vi (a + b) :: st) H Q := G_iadd fL_law_797
theorem fL_law_798 : ft 190 798 = some (.iaload, 0, 0, 0, .null) := by decide +kernel
theorem gL_law_798 {L : List (Option Value)} {p : Nat} {a : Int} {st : List Value} {H : HP} {Q : Option Value → HP → Prop} : Go 190 798 L (vi a :: .ref p :: st) H Q ↔ Rd (aJ' (hget H p) a) 190 799 L st H Q := G_iald fL_law_798
theorem fL_law_799 : ft 190 799 = some (.invokevirtual 90, 87, 0, 554, .null) := by decide +kernel
theorem gL_law_799 {L : List (Option Value)} {p : Nat} {a0 : Int32}  {H : HP} {Q : Option Value → HP → Prop} : Go 190 799 L (.int a0 :: .ref p :: []) H Q ↔ (iso 8 (hget H p) = true ∧ Go 87 0 [some (.ref p), some (.int a0)] [] H (Cont 190 802 L [] Q)) := G_cV (n := 1) (N := 2) (as := [.int a0]) (st := []) fL_law_799 (by decide +kernel) rfl (Nat.le_of_ble_eq_true rfl) (Nat.le_of_ble_eq_true rfl) rfl
theorem fL_law_802 : ft 190 802 = some (.aload_n 2, 0, 0, 0, .null) := by decide +kernel
theorem gL_law_802 {l0 l1 l3 : Option Value} {u : Nat} {st : List Value} {H : HP} {Q : Option Value → HP → Prop} : Go 190 802 [l0, l1, some (.ref u), l3] st H Q ↔ Go 190 803 [l0, l1, some (.ref u), l3] (.ref u :: st) H Q := G_aload_n fL_law_802 rfl
theorem gL_law_802N {l0 l1 l3 : Option Value} {st : List Value} {H : HP} {Q : Option Value → HP → Prop} : Go 190 802 [l0, l1, some .null, l3] st H Q ↔ Go 190 803 [l0, l1, some .null, l3] (.null :: st) H Q := G_aload_nN fL_law_802 rfl
theorem fL_law_803 : ft 190 803 = some (.aload_n 0, 0, 0, 0, .null) := by decide +kernel
theorem gL_law_803 {l1 l2 l3 : Option Value} {u : Nat} {st : List Value} {H : HP} {Q : Option Value → HP → Prop} : Go 190 803 [some (.ref u), l1, l2, l3] st H Q ↔ Go 190 804 [some (.ref u), l1, l2, l3] (.ref u :: st) H Q := G_aload_n fL_law_803 rfl
theorem fL_law_804 : ft 190 804 = some (.iload_n 3, 0, 0, 0, .null) := by decide +kernel
theorem gL_law_804 {l0 l1 l2 : Option Value} {u : Int32} {st : List Value} {H : HP} {Q : Option Value → HP → Prop} : Go 190 804 [l0, l1, l2, some (.int u)] st H Q ↔ Go 190 805 [l0, l1, l2, some (.int u)] (.int u :: st) H Q := G_iload_n fL_law_804 rfl
theorem fL_law_805 : ft 190 805 = some (.iconst 1, 0, 0, 0, .null) := by decide +kernel
theorem gL_law_805 {L : List (Option Value)} {st : List Value} {H : HP} {Q : Option Value → HP → Prop} : Go 190 805 L st H Q ↔ Go 190 806 L (vi 1 :: st) H Q := G_iconst fL_law_805
theorem fL_law_806 : ft 190 806 = some (.iadd, 0, 0, 0, .null) := by decide +kernel
theorem gL_law_806 {L : List (Option Value)} {a b : Int} {st : List Value} {H : HP} {Q : Option Value → HP → Prop} : Go 190 806 L (vi b :: vi a :: st) H Q ↔ Go 190 807 L (vi (a + b) :: st) H Q := G_iadd fL_law_806
theorem fL_law_807 : ft 190 807 = some (.iaload, 0, 0, 0, .null) := by decide +kernel
theorem gL_law_807 {L : List (Option Value)} {p : Nat} {a : Int} {st : List Value} {H : HP} {Q : Option Value → HP → Prop} : Go 190 807 L (vi a :: .ref p :: st) H Q ↔ Rd (aJ' (hget H p) a) 190 808 L st H Q := G_iald fL_law_807
theorem fL_law_808 : ft 190 808 = some (.invokevirtual 93, 156, 0, 992, .null) := by decide +kernel
theorem gL_law_808 {L : List (Option Value)} {p : Nat} {a0 : Int32} {r0 : Int64} {H : HP} {Q : Option Value → HP → Prop} : Go 190 808 L (.int a0 :: .ref p :: [.long r0]) H Q ↔ (iso 9 (hget H p) = true ∧ Go 156 0 [some (.ref p), some (.int a0)] [] H (Cont 190 811 L [.long r0] Q)) := G_cV (n := 1) (N := 2) (as := [.int a0]) (st := [.long r0]) fL_law_808 (by decide +kernel) rfl (Nat.le_of_ble_eq_true rfl) (Nat.le_of_ble_eq_true rfl) rfl
theorem fL_law_811 : ft 190 811 = some (.lcmp, 0, 0, 0, .null) := by decide +kernel
theorem fL_law_811' : ft 190 812 = some (.ifCond .eq 600, 0, 0, 0, .null) := by decide +kernel
theorem gL_law_811T {L : List (Option Value)} {a b : Int} (c : (-9223372036854775808 ≤ a ∧ a ≤ 9223372036854775807 ∧ -9223372036854775808 ≤ b ∧ b ≤ 9223372036854775807) ∧ a = b) {st : List Value} {H : HP} {Q : Option Value → HP → Prop} : Go 190 811 L (vl b :: vl a :: st) H Q ↔ Go 190 1412 L st H Q := G_lcT fL_law_811 fL_law_811' (by decide) c
theorem gL_law_811F {L : List (Option Value)} {a b : Int} (c : (-9223372036854775808 ≤ a ∧ a ≤ 9223372036854775807 ∧ -9223372036854775808 ≤ b ∧ b ≤ 9223372036854775807) ∧ ¬ (a = b)) {st : List Value} {H : HP} {Q : Option Value → HP → Prop} : Go 190 811 L (vl b :: vl a :: st) H Q ↔ Go 190 815 L st H Q := G_lcF (tg := 1412) fL_law_811 fL_law_811' (by decide) c
theorem fL_law_812 : ft 190 812 = some (.ifCond .eq 600, 0, 0, 0, .null) := by decide +kernel
theorem gL_law_812T {L : List (Option Value)} {a : Int} (c : (-2147483648 ≤ a ∧ a ≤ 2147483647) ∧ a = 0) {st : List Value} {H : HP} {Q : Option Value → HP → Prop} : Go 190 812 L (vi a :: st) H Q ↔ Go 190 1412 L st H Q := G_ifT fL_law_812 (by decide) c
theorem gL_law_812F {L : List (Option Value)} {a : Int} (c : (-2147483648 ≤ a ∧ a ≤ 2147483647) ∧ ¬ (a = 0)) {st : List Value} {H : HP} {Q : Option Value → HP → Prop} : Go 190 812 L (vi a :: st) H Q ↔ Go 190 815 L st H Q := G_ifF (tg := 1412) fL_law_812 (by decide) c
theorem fL_law_815 : ft 190 815 = some (.iconst 0, 0, 0, 0, .null) := by decide +kernel
theorem gL_law_815 {L : List (Option Value)} {st : List Value} {H : HP} {Q : Option Value → HP → Prop} : Go 190 815 L st H Q ↔ Go 190 816 L (vi 0 :: st) H Q := G_iconst fL_law_815
theorem fL_law_816 : ft 190 816 = some (.ireturn, 0, 0, 0, .null) := by decide +kernel
theorem gL_law_816 {L : List (Option Value)} {a : Int} (c : a = 0 ∨ a = 1) {H : HP} {Q : Option Value → HP → Prop} : Go 190 816 L [vi a] H Q ↔ Q (some (vi a)) H := G_zret fL_law_816 (by decide +kernel) c
theorem fL_law_817 : ft 190 817 = some (.aload_n 1, 0, 0, 0, .null) := by decide +kernel
theorem gL_law_817 {l0 l2 l3 : Option Value} {u : Nat} {st : List Value} {H : HP} {Q : Option Value → HP → Prop} : Go 190 817 [l0, some (.ref u), l2, l3] st H Q ↔ Go 190 818 [l0, some (.ref u), l2, l3] (.ref u :: st) H Q := G_aload_n fL_law_817 rfl
theorem gL_law_817N {l0 l2 l3 : Option Value} {st : List Value} {H : HP} {Q : Option Value → HP → Prop} : Go 190 817 [l0, some .null, l2, l3] st H Q ↔ Go 190 818 [l0, some .null, l2, l3] (.null :: st) H Q := G_aload_nN fL_law_817 rfl
theorem fL_law_818 : ft 190 818 = some (.aload_n 0, 0, 0, 0, .null) := by decide +kernel
theorem gL_law_818 {l1 l2 l3 : Option Value} {u : Nat} {st : List Value} {H : HP} {Q : Option Value → HP → Prop} : Go 190 818 [some (.ref u), l1, l2, l3] st H Q ↔ Go 190 819 [some (.ref u), l1, l2, l3] (.ref u :: st) H Q := G_aload_n fL_law_818 rfl
theorem fL_law_819 : ft 190 819 = some (.iload_n 3, 0, 0, 0, .null) := by decide +kernel
theorem gL_law_819 {l0 l1 l2 : Option Value} {u : Int32} {st : List Value} {H : HP} {Q : Option Value → HP → Prop} : Go 190 819 [l0, l1, l2, some (.int u)] st H Q ↔ Go 190 820 [l0, l1, l2, some (.int u)] (.int u :: st) H Q := G_iload_n fL_law_819 rfl
theorem fL_law_820 : ft 190 820 = some (.iconst 1, 0, 0, 0, .null) := by decide +kernel
theorem gL_law_820 {L : List (Option Value)} {st : List Value} {H : HP} {Q : Option Value → HP → Prop} : Go 190 820 L st H Q ↔ Go 190 821 L (vi 1 :: st) H Q := G_iconst fL_law_820
theorem fL_law_821 : ft 190 821 = some (.iadd, 0, 0, 0, .null) := by decide +kernel
theorem gL_law_821 {L : List (Option Value)} {a b : Int} {st : List Value} {H : HP} {Q : Option Value → HP → Prop} : Go 190 821 L (vi b :: vi a :: st) H Q ↔ Go 190 822 L (vi (a + b) :: st) H Q := G_iadd fL_law_821
theorem fL_law_822 : ft 190 822 = some (.iaload, 0, 0, 0, .null) := by decide +kernel
theorem gL_law_822 {L : List (Option Value)} {p : Nat} {a : Int} {st : List Value} {H : HP} {Q : Option Value → HP → Prop} : Go 190 822 L (vi a :: .ref p :: st) H Q ↔ Rd (aJ' (hget H p) a) 190 823 L st H Q := G_iald fL_law_822
theorem fL_law_823 : ft 190 823 = some (.invokevirtual 94, 88, 0, 562, .null) := by decide +kernel
theorem gL_law_823 {L : List (Option Value)} {p : Nat} {a0 : Int32}  {H : HP} {Q : Option Value → HP → Prop} : Go 190 823 L (.int a0 :: .ref p :: []) H Q ↔ (iso 8 (hget H p) = true ∧ Go 88 0 [some (.ref p), some (.int a0)] [] H (Cont 190 826 L [] Q)) := G_cV (n := 1) (N := 2) (as := [.int a0]) (st := []) fL_law_823 (by decide +kernel) rfl (Nat.le_of_ble_eq_true rfl) (Nat.le_of_ble_eq_true rfl) rfl
theorem fL_law_826 : ft 190 826 = some (.aload_n 2, 0, 0, 0, .null) := by decide +kernel
theorem gL_law_826 {l0 l1 l3 : Option Value} {u : Nat} {st : List Value} {H : HP} {Q : Option Value → HP → Prop} : Go 190 826 [l0, l1, some (.ref u), l3] st H Q ↔ Go 190 827 [l0, l1, some (.ref u), l3] (.ref u :: st) H Q := G_aload_n fL_law_826 rfl
theorem gL_law_826N {l0 l1 l3 : Option Value} {st : List Value} {H : HP} {Q : Option Value → HP → Prop} : Go 190 826 [l0, l1, some .null, l3] st H Q ↔ Go 190 827 [l0, l1, some .null, l3] (.null :: st) H Q := G_aload_nN fL_law_826 rfl
theorem fL_law_827 : ft 190 827 = some (.aload_n 0, 0, 0, 0, .null) := by decide +kernel
theorem gL_law_827 {l1 l2 l3 : Option Value} {u : Nat} {st : List Value} {H : HP} {Q : Option Value → HP → Prop} : Go 190 827 [some (.ref u), l1, l2, l3] st H Q ↔ Go 190 828 [some (.ref u), l1, l2, l3] (.ref u :: st) H Q := G_aload_n fL_law_827 rfl
theorem fL_law_828 : ft 190 828 = some (.iload_n 3, 0, 0, 0, .null) := by decide +kernel
theorem gL_law_828 {l0 l1 l2 : Option Value} {u : Int32} {st : List Value} {H : HP} {Q : Option Value → HP → Prop} : Go 190 828 [l0, l1, l2, some (.int u)] st H Q ↔ Go 190 829 [l0, l1, l2, some (.int u)] (.int u :: st) H Q := G_iload_n fL_law_828 rfl
theorem fL_law_829 : ft 190 829 = some (.iconst 1, 0, 0, 0, .null) := by decide +kernel
theorem gL_law_829 {L : List (Option Value)} {st : List Value} {H : HP} {Q : Option Value → HP → Prop} : Go 190 829 L st H Q ↔ Go 190 830 L (vi 1 :: st) H Q := G_iconst fL_law_829
theorem fL_law_830 : ft 190 830 = some (.iadd, 0, 0, 0, .null) := by decide +kernel
theorem gL_law_830 {L : List (Option Value)} {a b : Int} {st : List Value} {H : HP} {Q : Option Value → HP → Prop} : Go 190 830 L (vi b :: vi a :: st) H Q ↔ Go 190 831 L (vi (a + b) :: st) H Q := G_iadd fL_law_830
theorem fL_law_831 : ft 190 831 = some (.iaload, 0, 0, 0, .null) := by decide +kernel
theorem gL_law_831 {L : List (Option Value)} {p : Nat} {a : Int} {st : List Value} {H : HP} {Q : Option Value → HP → Prop} : Go 190 831 L (vi a :: .ref p :: st) H Q ↔ Rd (aJ' (hget H p) a) 190 832 L st H Q := G_iald fL_law_831
theorem fL_law_832 : ft 190 832 = some (.invokevirtual 97, 157, 0, 996, .null) := by decide +kernel
theorem gL_law_832 {L : List (Option Value)} {p : Nat} {a0 : Int32} {r0 : Int64} {H : HP} {Q : Option Value → HP → Prop} : Go 190 832 L (.int a0 :: .ref p :: [.long r0]) H Q ↔ (iso 9 (hget H p) = true ∧ Go 157 0 [some (.ref p), some (.int a0)] [] H (Cont 190 835 L [.long r0] Q)) := G_cV (n := 1) (N := 2) (as := [.int a0]) (st := [.long r0]) fL_law_832 (by decide +kernel) rfl (Nat.le_of_ble_eq_true rfl) (Nat.le_of_ble_eq_true rfl) rfl
theorem fL_law_835 : ft 190 835 = some (.lcmp, 0, 0, 0, .null) := by decide +kernel
theorem fL_law_835' : ft 190 836 = some (.ifCond .eq 576, 0, 0, 0, .null) := by decide +kernel
theorem gL_law_835T {L : List (Option Value)} {a b : Int} (c : (-9223372036854775808 ≤ a ∧ a ≤ 9223372036854775807 ∧ -9223372036854775808 ≤ b ∧ b ≤ 9223372036854775807) ∧ a = b) {st : List Value} {H : HP} {Q : Option Value → HP → Prop} : Go 190 835 L (vl b :: vl a :: st) H Q ↔ Go 190 1412 L st H Q := G_lcT fL_law_835 fL_law_835' (by decide) c
theorem gL_law_835F {L : List (Option Value)} {a b : Int} (c : (-9223372036854775808 ≤ a ∧ a ≤ 9223372036854775807 ∧ -9223372036854775808 ≤ b ∧ b ≤ 9223372036854775807) ∧ ¬ (a = b)) {st : List Value} {H : HP} {Q : Option Value → HP → Prop} : Go 190 835 L (vl b :: vl a :: st) H Q ↔ Go 190 839 L st H Q := G_lcF (tg := 1412) fL_law_835 fL_law_835' (by decide) c
theorem fL_law_836 : ft 190 836 = some (.ifCond .eq 576, 0, 0, 0, .null) := by decide +kernel
theorem gL_law_836T {L : List (Option Value)} {a : Int} (c : (-2147483648 ≤ a ∧ a ≤ 2147483647) ∧ a = 0) {st : List Value} {H : HP} {Q : Option Value → HP → Prop} : Go 190 836 L (vi a :: st) H Q ↔ Go 190 1412 L st H Q := G_ifT fL_law_836 (by decide) c
theorem gL_law_836F {L : List (Option Value)} {a : Int} (c : (-2147483648 ≤ a ∧ a ≤ 2147483647) ∧ ¬ (a = 0)) {st : List Value} {H : HP} {Q : Option Value → HP → Prop} : Go 190 836 L (vi a :: st) H Q ↔ Go 190 839 L st H Q := G_ifF (tg := 1412) fL_law_836 (by decide) c
theorem fL_law_839 : ft 190 839 = some (.iconst 0, 0, 0, 0, .null) := by decide +kernel
theorem gL_law_839 {L : List (Option Value)} {st : List Value} {H : HP} {Q : Option Value → HP → Prop} : Go 190 839 L st H Q ↔ Go 190 840 L (vi 0 :: st) H Q := G_iconst fL_law_839
theorem fL_law_840 : ft 190 840 = some (.ireturn, 0, 0, 0, .null) := by decide +kernel
theorem gL_law_840 {L : List (Option Value)} {a : Int} (c : a = 0 ∨ a = 1) {H : HP} {Q : Option Value → HP → Prop} : Go 190 840 L [vi a] H Q ↔ Q (some (vi a)) H := G_zret fL_law_840 (by decide +kernel) c
theorem fL_law_841 : ft 190 841 = some (.aload_n 1, 0, 0, 0, .null) := by decide +kernel
theorem gL_law_841 {l0 l2 l3 : Option Value} {u : Nat} {st : List Value} {H : HP} {Q : Option Value → HP → Prop} : Go 190 841 [l0, some (.ref u), l2, l3] st H Q ↔ Go 190 842 [l0, some (.ref u), l2, l3] (.ref u :: st) H Q := G_aload_n fL_law_841 rfl
theorem gL_law_841N {l0 l2 l3 : Option Value} {st : List Value} {H : HP} {Q : Option Value → HP → Prop} : Go 190 841 [l0, some .null, l2, l3] st H Q ↔ Go 190 842 [l0, some .null, l2, l3] (.null :: st) H Q := G_aload_nN fL_law_841 rfl
theorem fL_law_842 : ft 190 842 = some (.aload_n 0, 0, 0, 0, .null) := by decide +kernel
theorem gL_law_842 {l1 l2 l3 : Option Value} {u : Nat} {st : List Value} {H : HP} {Q : Option Value → HP → Prop} : Go 190 842 [some (.ref u), l1, l2, l3] st H Q ↔ Go 190 843 [some (.ref u), l1, l2, l3] (.ref u :: st) H Q := G_aload_n fL_law_842 rfl
theorem fL_law_843 : ft 190 843 = some (.iload_n 3, 0, 0, 0, .null) := by decide +kernel
theorem gL_law_843 {l0 l1 l2 : Option Value} {u : Int32} {st : List Value} {H : HP} {Q : Option Value → HP → Prop} : Go 190 843 [l0, l1, l2, some (.int u)] st H Q ↔ Go 190 844 [l0, l1, l2, some (.int u)] (.int u :: st) H Q := G_iload_n fL_law_843 rfl
theorem fL_law_844 : ft 190 844 = some (.iconst 1, 0, 0, 0, .null) := by decide +kernel
theorem gL_law_844 {L : List (Option Value)} {st : List Value} {H : HP} {Q : Option Value → HP → Prop} : Go 190 844 L st H Q ↔ Go 190 845 L (vi 1 :: st) H Q := G_iconst fL_law_844
theorem fL_law_845 : ft 190 845 = some (.iadd, 0, 0, 0, .null) := by decide +kernel
theorem gL_law_845 {L : List (Option Value)} {a b : Int} {st : List Value} {H : HP} {Q : Option Value → HP → Prop} : Go 190 845 L (vi b :: vi a :: st) H Q ↔ Go 190 846 L (vi (a + b) :: st) H Q := G_iadd fL_law_845
theorem fL_law_846 : ft 190 846 = some (.iaload, 0, 0, 0, .null) := by decide +kernel
theorem gL_law_846 {L : List (Option Value)} {p : Nat} {a : Int} {st : List Value} {H : HP} {Q : Option Value → HP → Prop} : Go 190 846 L (vi a :: .ref p :: st) H Q ↔ Rd (aJ' (hget H p) a) 190 847 L st H Q := G_iald fL_law_846
theorem fL_law_847 : ft 190 847 = some (.aload_n 0, 0, 0, 0, .null) := by decide +kernel
theorem gL_law_847 {l1 l2 l3 : Option Value} {u : Nat} {st : List Value} {H : HP} {Q : Option Value → HP → Prop} : Go 190 847 [some (.ref u), l1, l2, l3] st H Q ↔ Go 190 848 [some (.ref u), l1, l2, l3] (.ref u :: st) H Q := G_aload_n fL_law_847 rfl
theorem fL_law_848 : ft 190 848 = some (.iload_n 3, 0, 0, 0, .null) := by decide +kernel
theorem gL_law_848 {l0 l1 l2 : Option Value} {u : Int32} {st : List Value} {H : HP} {Q : Option Value → HP → Prop} : Go 190 848 [l0, l1, l2, some (.int u)] st H Q ↔ Go 190 849 [l0, l1, l2, some (.int u)] (.int u :: st) H Q := G_iload_n fL_law_848 rfl
theorem fL_law_849 : ft 190 849 = some (.iconst 2, 0, 0, 0, .null) := by decide +kernel
theorem gL_law_849 {L : List (Option Value)} {st : List Value} {H : HP} {Q : Option Value → HP → Prop} : Go 190 849 L st H Q ↔ Go 190 850 L (vi 2 :: st) H Q := G_iconst fL_law_849
theorem fL_law_850 : ft 190 850 = some (.iadd, 0, 0, 0, .null) := by decide +kernel
theorem gL_law_850 {L : List (Option Value)} {a b : Int} {st : List Value} {H : HP} {Q : Option Value → HP → Prop} : Go 190 850 L (vi b :: vi a :: st) H Q ↔ Go 190 851 L (vi (a + b) :: st) H Q := G_iadd fL_law_850
theorem fL_law_851 : ft 190 851 = some (.iaload, 0, 0, 0, .null) := by decide +kernel
theorem gL_law_851 {L : List (Option Value)} {p : Nat} {a : Int} {st : List Value} {H : HP} {Q : Option Value → HP → Prop} : Go 190 851 L (vi a :: .ref p :: st) H Q ↔ Rd (aJ' (hget H p) a) 190 852 L st H Q := G_iald fL_law_851
theorem fL_law_852 : ft 190 852 = some (.invokevirtual 98, 89, 0, 566, .null) := by decide +kernel
theorem gL_law_852 {L : List (Option Value)} {p : Nat} {a0 : Int32} {a1 : Int32}  {H : HP} {Q : Option Value → HP → Prop} : Go 190 852 L (.int a1 :: .int a0 :: .ref p :: []) H Q ↔ (iso 8 (hget H p) = true ∧ Go 89 0 [some (.ref p), some (.int a0), some (.int a1), none, none, none] [] H (Cont 190 855 L [] Q)) := G_cV (n := 2) (N := 6) (as := [.int a1, .int a0]) (st := []) fL_law_852 (by decide +kernel) rfl (Nat.le_of_ble_eq_true rfl) (Nat.le_of_ble_eq_true rfl) rfl
theorem fL_law_855 : ft 190 855 = some (.aload_n 2, 0, 0, 0, .null) := by decide +kernel
theorem gL_law_855 {l0 l1 l3 : Option Value} {u : Nat} {st : List Value} {H : HP} {Q : Option Value → HP → Prop} : Go 190 855 [l0, l1, some (.ref u), l3] st H Q ↔ Go 190 856 [l0, l1, some (.ref u), l3] (.ref u :: st) H Q := G_aload_n fL_law_855 rfl
theorem gL_law_855N {l0 l1 l3 : Option Value} {st : List Value} {H : HP} {Q : Option Value → HP → Prop} : Go 190 855 [l0, l1, some .null, l3] st H Q ↔ Go 190 856 [l0, l1, some .null, l3] (.null :: st) H Q := G_aload_nN fL_law_855 rfl
theorem fL_law_856 : ft 190 856 = some (.aload_n 0, 0, 0, 0, .null) := by decide +kernel
theorem gL_law_856 {l1 l2 l3 : Option Value} {u : Nat} {st : List Value} {H : HP} {Q : Option Value → HP → Prop} : Go 190 856 [some (.ref u), l1, l2, l3] st H Q ↔ Go 190 857 [some (.ref u), l1, l2, l3] (.ref u :: st) H Q := G_aload_n fL_law_856 rfl
theorem fL_law_857 : ft 190 857 = some (.iload_n 3, 0, 0, 0, .null) := by decide +kernel
theorem gL_law_857 {l0 l1 l2 : Option Value} {u : Int32} {st : List Value} {H : HP} {Q : Option Value → HP → Prop} : Go 190 857 [l0, l1, l2, some (.int u)] st H Q ↔ Go 190 858 [l0, l1, l2, some (.int u)] (.int u :: st) H Q := G_iload_n fL_law_857 rfl
theorem fL_law_858 : ft 190 858 = some (.iconst 1, 0, 0, 0, .null) := by decide +kernel
theorem gL_law_858 {L : List (Option Value)} {st : List Value} {H : HP} {Q : Option Value → HP → Prop} : Go 190 858 L st H Q ↔ Go 190 859 L (vi 1 :: st) H Q := G_iconst fL_law_858
theorem fL_law_859 : ft 190 859 = some (.iadd, 0, 0, 0, .null) := by decide +kernel
theorem gL_law_859 {L : List (Option Value)} {a b : Int} {st : List Value} {H : HP} {Q : Option Value → HP → Prop} : Go 190 859 L (vi b :: vi a :: st) H Q ↔ Go 190 860 L (vi (a + b) :: st) H Q := G_iadd fL_law_859
theorem fL_law_860 : ft 190 860 = some (.iaload, 0, 0, 0, .null) := by decide +kernel
theorem gL_law_860 {L : List (Option Value)} {p : Nat} {a : Int} {st : List Value} {H : HP} {Q : Option Value → HP → Prop} : Go 190 860 L (vi a :: .ref p :: st) H Q ↔ Rd (aJ' (hget H p) a) 190 861 L st H Q := G_iald fL_law_860
theorem fL_law_861 : ft 190 861 = some (.aload_n 0, 0, 0, 0, .null) := by decide +kernel
theorem gL_law_861 {l1 l2 l3 : Option Value} {u : Nat} {st : List Value} {H : HP} {Q : Option Value → HP → Prop} : Go 190 861 [some (.ref u), l1, l2, l3] st H Q ↔ Go 190 862 [some (.ref u), l1, l2, l3] (.ref u :: st) H Q := G_aload_n fL_law_861 rfl
theorem fL_law_862 : ft 190 862 = some (.iload_n 3, 0, 0, 0, .null) := by decide +kernel
theorem gL_law_862 {l0 l1 l2 : Option Value} {u : Int32} {st : List Value} {H : HP} {Q : Option Value → HP → Prop} : Go 190 862 [l0, l1, l2, some (.int u)] st H Q ↔ Go 190 863 [l0, l1, l2, some (.int u)] (.int u :: st) H Q := G_iload_n fL_law_862 rfl
theorem fL_law_863 : ft 190 863 = some (.iconst 2, 0, 0, 0, .null) := by decide +kernel
theorem gL_law_863 {L : List (Option Value)} {st : List Value} {H : HP} {Q : Option Value → HP → Prop} : Go 190 863 L st H Q ↔ Go 190 864 L (vi 2 :: st) H Q := G_iconst fL_law_863
theorem fL_law_864 : ft 190 864 = some (.iadd, 0, 0, 0, .null) := by decide +kernel
theorem gL_law_864 {L : List (Option Value)} {a b : Int} {st : List Value} {H : HP} {Q : Option Value → HP → Prop} : Go 190 864 L (vi b :: vi a :: st) H Q ↔ Go 190 865 L (vi (a + b) :: st) H Q := G_iadd fL_law_864
theorem fL_law_865 : ft 190 865 = some (.iaload, 0, 0, 0, .null) := by decide +kernel
theorem gL_law_865 {L : List (Option Value)} {p : Nat} {a : Int} {st : List Value} {H : HP} {Q : Option Value → HP → Prop} : Go 190 865 L (vi a :: .ref p :: st) H Q ↔ Rd (aJ' (hget H p) a) 190 866 L st H Q := G_iald fL_law_865
theorem fL_law_866 : ft 190 866 = some (.invokevirtual 101, 158, 0, 1000, .null) := by decide +kernel
theorem gL_law_866 {L : List (Option Value)} {p : Nat} {a0 : Int32} {a1 : Int32} {r0 : Int32} {H : HP} {Q : Option Value → HP → Prop} : Go 190 866 L (.int a1 :: .int a0 :: .ref p :: [.int r0]) H Q ↔ (iso 9 (hget H p) = true ∧ Go 158 0 [some (.ref p), some (.int a0), some (.int a1), none, none, none, none, none, none, none, none, none, none, none] [] H (Cont 190 869 L [.int r0] Q)) := G_cV (n := 2) (N := 14) (as := [.int a1, .int a0]) (st := [.int r0]) fL_law_866 (by decide +kernel) rfl (Nat.le_of_ble_eq_true rfl) (Nat.le_of_ble_eq_true rfl) rfl
theorem fL_law_869 : ft 190 869 = some (.if_icmp .eq 543, 0, 0, 0, .null) := by decide +kernel
theorem gL_law_869T {L : List (Option Value)} {a b : Int} (c : (-2147483648 ≤ a ∧ a ≤ 2147483647 ∧ -2147483648 ≤ b ∧ b ≤ 2147483647) ∧ a = b) {st : List Value} {H : HP} {Q : Option Value → HP → Prop} : Go 190 869 L (vi b :: vi a :: st) H Q ↔ Go 190 1412 L st H Q := G_icT fL_law_869 (by decide) c
theorem gL_law_869F {L : List (Option Value)} {a b : Int} (c : (-2147483648 ≤ a ∧ a ≤ 2147483647 ∧ -2147483648 ≤ b ∧ b ≤ 2147483647) ∧ ¬ (a = b)) {st : List Value} {H : HP} {Q : Option Value → HP → Prop} : Go 190 869 L (vi b :: vi a :: st) H Q ↔ Go 190 872 L st H Q := G_icF (tg := 1412) fL_law_869 (by decide) c
theorem fL_law_872 : ft 190 872 = some (.iconst 0, 0, 0, 0, .null) := by decide +kernel
theorem gL_law_872 {L : List (Option Value)} {st : List Value} {H : HP} {Q : Option Value → HP → Prop} : Go 190 872 L st H Q ↔ Go 190 873 L (vi 0 :: st) H Q := G_iconst fL_law_872
theorem fL_law_873 : ft 190 873 = some (.ireturn, 0, 0, 0, .null) := by decide +kernel
theorem gL_law_873 {L : List (Option Value)} {a : Int} (c : a = 0 ∨ a = 1) {H : HP} {Q : Option Value → HP → Prop} : Go 190 873 L [vi a] H Q ↔ Q (some (vi a)) H := G_zret fL_law_873 (by decide +kernel) c
theorem fL_law_874 : ft 190 874 = some (.aload_n 1, 0, 0, 0, .null) := by decide +kernel
theorem gL_law_874 {l0 l2 l3 : Option Value} {u : Nat} {st : List Value} {H : HP} {Q : Option Value → HP → Prop} : Go 190 874 [l0, some (.ref u), l2, l3] st H Q ↔ Go 190 875 [l0, some (.ref u), l2, l3] (.ref u :: st) H Q := G_aload_n fL_law_874 rfl
theorem gL_law_874N {l0 l2 l3 : Option Value} {st : List Value} {H : HP} {Q : Option Value → HP → Prop} : Go 190 874 [l0, some .null, l2, l3] st H Q ↔ Go 190 875 [l0, some .null, l2, l3] (.null :: st) H Q := G_aload_nN fL_law_874 rfl
theorem fL_law_875 : ft 190 875 = some (.aload_n 0, 0, 0, 0, .null) := by decide +kernel
theorem gL_law_875 {l1 l2 l3 : Option Value} {u : Nat} {st : List Value} {H : HP} {Q : Option Value → HP → Prop} : Go 190 875 [some (.ref u), l1, l2, l3] st H Q ↔ Go 190 876 [some (.ref u), l1, l2, l3] (.ref u :: st) H Q := G_aload_n fL_law_875 rfl
theorem fL_law_876 : ft 190 876 = some (.iload_n 3, 0, 0, 0, .null) := by decide +kernel
theorem gL_law_876 {l0 l1 l2 : Option Value} {u : Int32} {st : List Value} {H : HP} {Q : Option Value → HP → Prop} : Go 190 876 [l0, l1, l2, some (.int u)] st H Q ↔ Go 190 877 [l0, l1, l2, some (.int u)] (.int u :: st) H Q := G_iload_n fL_law_876 rfl
theorem fL_law_877 : ft 190 877 = some (.iconst 1, 0, 0, 0, .null) := by decide +kernel
theorem gL_law_877 {L : List (Option Value)} {st : List Value} {H : HP} {Q : Option Value → HP → Prop} : Go 190 877 L st H Q ↔ Go 190 878 L (vi 1 :: st) H Q := G_iconst fL_law_877
theorem fL_law_878 : ft 190 878 = some (.iadd, 0, 0, 0, .null) := by decide +kernel
theorem gL_law_878 {L : List (Option Value)} {a b : Int} {st : List Value} {H : HP} {Q : Option Value → HP → Prop} : Go 190 878 L (vi b :: vi a :: st) H Q ↔ Go 190 879 L (vi (a + b) :: st) H Q := G_iadd fL_law_878
theorem fL_law_879 : ft 190 879 = some (.iaload, 0, 0, 0, .null) := by decide +kernel
theorem gL_law_879 {L : List (Option Value)} {p : Nat} {a : Int} {st : List Value} {H : HP} {Q : Option Value → HP → Prop} : Go 190 879 L (vi a :: .ref p :: st) H Q ↔ Rd (aJ' (hget H p) a) 190 880 L st H Q := G_iald fL_law_879
theorem fL_law_880 : ft 190 880 = some (.aload_n 0, 0, 0, 0, .null) := by decide +kernel
theorem gL_law_880 {l1 l2 l3 : Option Value} {u : Nat} {st : List Value} {H : HP} {Q : Option Value → HP → Prop} : Go 190 880 [some (.ref u), l1, l2, l3] st H Q ↔ Go 190 881 [some (.ref u), l1, l2, l3] (.ref u :: st) H Q := G_aload_n fL_law_880 rfl
theorem fL_law_881 : ft 190 881 = some (.iload_n 3, 0, 0, 0, .null) := by decide +kernel
theorem gL_law_881 {l0 l1 l2 : Option Value} {u : Int32} {st : List Value} {H : HP} {Q : Option Value → HP → Prop} : Go 190 881 [l0, l1, l2, some (.int u)] st H Q ↔ Go 190 882 [l0, l1, l2, some (.int u)] (.int u :: st) H Q := G_iload_n fL_law_881 rfl
theorem fL_law_882 : ft 190 882 = some (.iconst 2, 0, 0, 0, .null) := by decide +kernel
theorem gL_law_882 {L : List (Option Value)} {st : List Value} {H : HP} {Q : Option Value → HP → Prop} : Go 190 882 L st H Q ↔ Go 190 883 L (vi 2 :: st) H Q := G_iconst fL_law_882
theorem fL_law_883 : ft 190 883 = some (.iadd, 0, 0, 0, .null) := by decide +kernel
theorem gL_law_883 {L : List (Option Value)} {a b : Int} {st : List Value} {H : HP} {Q : Option Value → HP → Prop} : Go 190 883 L (vi b :: vi a :: st) H Q ↔ Go 190 884 L (vi (a + b) :: st) H Q := G_iadd fL_law_883
theorem fL_law_884 : ft 190 884 = some (.iaload, 0, 0, 0, .null) := by decide +kernel
theorem gL_law_884 {L : List (Option Value)} {p : Nat} {a : Int} {st : List Value} {H : HP} {Q : Option Value → HP → Prop} : Go 190 884 L (vi a :: .ref p :: st) H Q ↔ Rd (aJ' (hget H p) a) 190 885 L st H Q := G_iald fL_law_884
theorem fL_law_885 : ft 190 885 = some (.aload_n 0, 0, 0, 0, .null) := by decide +kernel
theorem gL_law_885 {l1 l2 l3 : Option Value} {u : Nat} {st : List Value} {H : HP} {Q : Option Value → HP → Prop} : Go 190 885 [some (.ref u), l1, l2, l3] st H Q ↔ Go 190 886 [some (.ref u), l1, l2, l3] (.ref u :: st) H Q := G_aload_n fL_law_885 rfl
theorem fL_law_886 : ft 190 886 = some (.iload_n 3, 0, 0, 0, .null) := by decide +kernel
theorem gL_law_886 {l0 l1 l2 : Option Value} {u : Int32} {st : List Value} {H : HP} {Q : Option Value → HP → Prop} : Go 190 886 [l0, l1, l2, some (.int u)] st H Q ↔ Go 190 887 [l0, l1, l2, some (.int u)] (.int u :: st) H Q := G_iload_n fL_law_886 rfl
theorem fL_law_887 : ft 190 887 = some (.iconst 3, 0, 0, 0, .null) := by decide +kernel
theorem gL_law_887 {L : List (Option Value)} {st : List Value} {H : HP} {Q : Option Value → HP → Prop} : Go 190 887 L st H Q ↔ Go 190 888 L (vi 3 :: st) H Q := G_iconst fL_law_887
theorem fL_law_888 : ft 190 888 = some (.iadd, 0, 0, 0, .null) := by decide +kernel
theorem gL_law_888 {L : List (Option Value)} {a b : Int} {st : List Value} {H : HP} {Q : Option Value → HP → Prop} : Go 190 888 L (vi b :: vi a :: st) H Q ↔ Go 190 889 L (vi (a + b) :: st) H Q := G_iadd fL_law_888
theorem fL_law_889 : ft 190 889 = some (.iaload, 0, 0, 0, .null) := by decide +kernel
theorem gL_law_889 {L : List (Option Value)} {p : Nat} {a : Int} {st : List Value} {H : HP} {Q : Option Value → HP → Prop} : Go 190 889 L (vi a :: .ref p :: st) H Q ↔ Rd (aJ' (hget H p) a) 190 890 L st H Q := G_iald fL_law_889
theorem fL_law_890 : ft 190 890 = some (.invokevirtual 102, 90, 0, 583, .null) := by decide +kernel
theorem gL_law_890 {L : List (Option Value)} {p : Nat} {a0 : Int32} {a1 : Int32} {a2 : Int32}  {H : HP} {Q : Option Value → HP → Prop} : Go 190 890 L (.int a2 :: .int a1 :: .int a0 :: .ref p :: []) H Q ↔ (iso 8 (hget H p) = true ∧ Go 90 0 [some (.ref p), some (.int a0), some (.int a1), some (.int a2)] [] H (Cont 190 893 L [] Q)) := G_cV (n := 3) (N := 4) (as := [.int a2, .int a1, .int a0]) (st := []) fL_law_890 (by decide +kernel) rfl (Nat.le_of_ble_eq_true rfl) (Nat.le_of_ble_eq_true rfl) rfl
theorem fL_law_893 : ft 190 893 = some (.aload_n 2, 0, 0, 0, .null) := by decide +kernel
theorem gL_law_893 {l0 l1 l3 : Option Value} {u : Nat} {st : List Value} {H : HP} {Q : Option Value → HP → Prop} : Go 190 893 [l0, l1, some (.ref u), l3] st H Q ↔ Go 190 894 [l0, l1, some (.ref u), l3] (.ref u :: st) H Q := G_aload_n fL_law_893 rfl
theorem gL_law_893N {l0 l1 l3 : Option Value} {st : List Value} {H : HP} {Q : Option Value → HP → Prop} : Go 190 893 [l0, l1, some .null, l3] st H Q ↔ Go 190 894 [l0, l1, some .null, l3] (.null :: st) H Q := G_aload_nN fL_law_893 rfl
theorem fL_law_894 : ft 190 894 = some (.aload_n 0, 0, 0, 0, .null) := by decide +kernel
theorem gL_law_894 {l1 l2 l3 : Option Value} {u : Nat} {st : List Value} {H : HP} {Q : Option Value → HP → Prop} : Go 190 894 [some (.ref u), l1, l2, l3] st H Q ↔ Go 190 895 [some (.ref u), l1, l2, l3] (.ref u :: st) H Q := G_aload_n fL_law_894 rfl
theorem fL_law_895 : ft 190 895 = some (.iload_n 3, 0, 0, 0, .null) := by decide +kernel
theorem gL_law_895 {l0 l1 l2 : Option Value} {u : Int32} {st : List Value} {H : HP} {Q : Option Value → HP → Prop} : Go 190 895 [l0, l1, l2, some (.int u)] st H Q ↔ Go 190 896 [l0, l1, l2, some (.int u)] (.int u :: st) H Q := G_iload_n fL_law_895 rfl
theorem fL_law_896 : ft 190 896 = some (.iconst 1, 0, 0, 0, .null) := by decide +kernel
theorem gL_law_896 {L : List (Option Value)} {st : List Value} {H : HP} {Q : Option Value → HP → Prop} : Go 190 896 L st H Q ↔ Go 190 897 L (vi 1 :: st) H Q := G_iconst fL_law_896
theorem fL_law_897 : ft 190 897 = some (.iadd, 0, 0, 0, .null) := by decide +kernel
theorem gL_law_897 {L : List (Option Value)} {a b : Int} {st : List Value} {H : HP} {Q : Option Value → HP → Prop} : Go 190 897 L (vi b :: vi a :: st) H Q ↔ Go 190 898 L (vi (a + b) :: st) H Q := G_iadd fL_law_897
theorem fL_law_898 : ft 190 898 = some (.iaload, 0, 0, 0, .null) := by decide +kernel
theorem gL_law_898 {L : List (Option Value)} {p : Nat} {a : Int} {st : List Value} {H : HP} {Q : Option Value → HP → Prop} : Go 190 898 L (vi a :: .ref p :: st) H Q ↔ Rd (aJ' (hget H p) a) 190 899 L st H Q := G_iald fL_law_898
theorem fL_law_899 : ft 190 899 = some (.aload_n 0, 0, 0, 0, .null) := by decide +kernel
theorem gL_law_899 {l1 l2 l3 : Option Value} {u : Nat} {st : List Value} {H : HP} {Q : Option Value → HP → Prop} : Go 190 899 [some (.ref u), l1, l2, l3] st H Q ↔ Go 190 900 [some (.ref u), l1, l2, l3] (.ref u :: st) H Q := G_aload_n fL_law_899 rfl
theorem fL_law_900 : ft 190 900 = some (.iload_n 3, 0, 0, 0, .null) := by decide +kernel
theorem gL_law_900 {l0 l1 l2 : Option Value} {u : Int32} {st : List Value} {H : HP} {Q : Option Value → HP → Prop} : Go 190 900 [l0, l1, l2, some (.int u)] st H Q ↔ Go 190 901 [l0, l1, l2, some (.int u)] (.int u :: st) H Q := G_iload_n fL_law_900 rfl
theorem fL_law_901 : ft 190 901 = some (.iconst 2, 0, 0, 0, .null) := by decide +kernel
theorem gL_law_901 {L : List (Option Value)} {st : List Value} {H : HP} {Q : Option Value → HP → Prop} : Go 190 901 L st H Q ↔ Go 190 902 L (vi 2 :: st) H Q := G_iconst fL_law_901
theorem fL_law_902 : ft 190 902 = some (.iadd, 0, 0, 0, .null) := by decide +kernel
theorem gL_law_902 {L : List (Option Value)} {a b : Int} {st : List Value} {H : HP} {Q : Option Value → HP → Prop} : Go 190 902 L (vi b :: vi a :: st) H Q ↔ Go 190 903 L (vi (a + b) :: st) H Q := G_iadd fL_law_902
theorem fL_law_903 : ft 190 903 = some (.iaload, 0, 0, 0, .null) := by decide +kernel
theorem gL_law_903 {L : List (Option Value)} {p : Nat} {a : Int} {st : List Value} {H : HP} {Q : Option Value → HP → Prop} : Go 190 903 L (vi a :: .ref p :: st) H Q ↔ Rd (aJ' (hget H p) a) 190 904 L st H Q := G_iald fL_law_903
theorem fL_law_904 : ft 190 904 = some (.aload_n 0, 0, 0, 0, .null) := by decide +kernel
theorem gL_law_904 {l1 l2 l3 : Option Value} {u : Nat} {st : List Value} {H : HP} {Q : Option Value → HP → Prop} : Go 190 904 [some (.ref u), l1, l2, l3] st H Q ↔ Go 190 905 [some (.ref u), l1, l2, l3] (.ref u :: st) H Q := G_aload_n fL_law_904 rfl
theorem fL_law_905 : ft 190 905 = some (.iload_n 3, 0, 0, 0, .null) := by decide +kernel
theorem gL_law_905 {l0 l1 l2 : Option Value} {u : Int32} {st : List Value} {H : HP} {Q : Option Value → HP → Prop} : Go 190 905 [l0, l1, l2, some (.int u)] st H Q ↔ Go 190 906 [l0, l1, l2, some (.int u)] (.int u :: st) H Q := G_iload_n fL_law_905 rfl
theorem fL_law_906 : ft 190 906 = some (.iconst 3, 0, 0, 0, .null) := by decide +kernel
theorem gL_law_906 {L : List (Option Value)} {st : List Value} {H : HP} {Q : Option Value → HP → Prop} : Go 190 906 L st H Q ↔ Go 190 907 L (vi 3 :: st) H Q := G_iconst fL_law_906
theorem fL_law_907 : ft 190 907 = some (.iadd, 0, 0, 0, .null) := by decide +kernel
theorem gL_law_907 {L : List (Option Value)} {a b : Int} {st : List Value} {H : HP} {Q : Option Value → HP → Prop} : Go 190 907 L (vi b :: vi a :: st) H Q ↔ Go 190 908 L (vi (a + b) :: st) H Q := G_iadd fL_law_907
theorem fL_law_908 : ft 190 908 = some (.iaload, 0, 0, 0, .null) := by decide +kernel
theorem gL_law_908 {L : List (Option Value)} {p : Nat} {a : Int} {st : List Value} {H : HP} {Q : Option Value → HP → Prop} : Go 190 908 L (vi a :: .ref p :: st) H Q ↔ Rd (aJ' (hget H p) a) 190 909 L st H Q := G_iald fL_law_908
theorem fL_law_909 : ft 190 909 = some (.invokevirtual 105, 160, 0, 1005, .null) := by decide +kernel
theorem gL_law_909 {L : List (Option Value)} {p : Nat} {a0 : Int32} {a1 : Int32} {a2 : Int32} {r0 : Int32} {H : HP} {Q : Option Value → HP → Prop} : Go 190 909 L (.int a2 :: .int a1 :: .int a0 :: .ref p :: [.int r0]) H Q ↔ (iso 9 (hget H p) = true ∧ Go 160 0 [some (.ref p), some (.int a0), some (.int a1), some (.int a2)] [] H (Cont 190 912 L [.int r0] Q)) := G_cV (n := 3) (N := 4) (as := [.int a2, .int a1, .int a0]) (st := [.int r0]) fL_law_909 (by decide +kernel) rfl (Nat.le_of_ble_eq_true rfl) (Nat.le_of_ble_eq_true rfl) rfl
theorem fL_law_912 : ft 190 912 = some (.if_icmp .eq 500, 0, 0, 0, .null) := by decide +kernel
theorem gL_law_912T {L : List (Option Value)} {a b : Int} (c : (-2147483648 ≤ a ∧ a ≤ 2147483647 ∧ -2147483648 ≤ b ∧ b ≤ 2147483647) ∧ a = b) {st : List Value} {H : HP} {Q : Option Value → HP → Prop} : Go 190 912 L (vi b :: vi a :: st) H Q ↔ Go 190 1412 L st H Q := G_icT fL_law_912 (by decide) c
theorem gL_law_912F {L : List (Option Value)} {a b : Int} (c : (-2147483648 ≤ a ∧ a ≤ 2147483647 ∧ -2147483648 ≤ b ∧ b ≤ 2147483647) ∧ ¬ (a = b)) {st : List Value} {H : HP} {Q : Option Value → HP → Prop} : Go 190 912 L (vi b :: vi a :: st) H Q ↔ Go 190 915 L st H Q := G_icF (tg := 1412) fL_law_912 (by decide) c
theorem fL_law_915 : ft 190 915 = some (.iconst 0, 0, 0, 0, .null) := by decide +kernel
theorem gL_law_915 {L : List (Option Value)} {st : List Value} {H : HP} {Q : Option Value → HP → Prop} : Go 190 915 L st H Q ↔ Go 190 916 L (vi 0 :: st) H Q := G_iconst fL_law_915
theorem fL_law_916 : ft 190 916 = some (.ireturn, 0, 0, 0, .null) := by decide +kernel
theorem gL_law_916 {L : List (Option Value)} {a : Int} (c : a = 0 ∨ a = 1) {H : HP} {Q : Option Value → HP → Prop} : Go 190 916 L [vi a] H Q ↔ Q (some (vi a)) H := G_zret fL_law_916 (by decide +kernel) c
theorem fL_law_917 : ft 190 917 = some (.aload_n 1, 0, 0, 0, .null) := by decide +kernel
theorem gL_law_917 {l0 l2 l3 : Option Value} {u : Nat} {st : List Value} {H : HP} {Q : Option Value → HP → Prop} : Go 190 917 [l0, some (.ref u), l2, l3] st H Q ↔ Go 190 918 [l0, some (.ref u), l2, l3] (.ref u :: st) H Q := G_aload_n fL_law_917 rfl
theorem gL_law_917N {l0 l2 l3 : Option Value} {st : List Value} {H : HP} {Q : Option Value → HP → Prop} : Go 190 917 [l0, some .null, l2, l3] st H Q ↔ Go 190 918 [l0, some .null, l2, l3] (.null :: st) H Q := G_aload_nN fL_law_917 rfl
theorem fL_law_918 : ft 190 918 = some (.aload_n 0, 0, 0, 0, .null) := by decide +kernel
theorem gL_law_918 {l1 l2 l3 : Option Value} {u : Nat} {st : List Value} {H : HP} {Q : Option Value → HP → Prop} : Go 190 918 [some (.ref u), l1, l2, l3] st H Q ↔ Go 190 919 [some (.ref u), l1, l2, l3] (.ref u :: st) H Q := G_aload_n fL_law_918 rfl
theorem fL_law_919 : ft 190 919 = some (.iload_n 3, 0, 0, 0, .null) := by decide +kernel
theorem gL_law_919 {l0 l1 l2 : Option Value} {u : Int32} {st : List Value} {H : HP} {Q : Option Value → HP → Prop} : Go 190 919 [l0, l1, l2, some (.int u)] st H Q ↔ Go 190 920 [l0, l1, l2, some (.int u)] (.int u :: st) H Q := G_iload_n fL_law_919 rfl
theorem fL_law_920 : ft 190 920 = some (.iconst 1, 0, 0, 0, .null) := by decide +kernel
theorem gL_law_920 {L : List (Option Value)} {st : List Value} {H : HP} {Q : Option Value → HP → Prop} : Go 190 920 L st H Q ↔ Go 190 921 L (vi 1 :: st) H Q := G_iconst fL_law_920
theorem fL_law_921 : ft 190 921 = some (.iadd, 0, 0, 0, .null) := by decide +kernel
theorem gL_law_921 {L : List (Option Value)} {a b : Int} {st : List Value} {H : HP} {Q : Option Value → HP → Prop} : Go 190 921 L (vi b :: vi a :: st) H Q ↔ Go 190 922 L (vi (a + b) :: st) H Q := G_iadd fL_law_921
theorem fL_law_922 : ft 190 922 = some (.iaload, 0, 0, 0, .null) := by decide +kernel
theorem gL_law_922 {L : List (Option Value)} {p : Nat} {a : Int} {st : List Value} {H : HP} {Q : Option Value → HP → Prop} : Go 190 922 L (vi a :: .ref p :: st) H Q ↔ Rd (aJ' (hget H p) a) 190 923 L st H Q := G_iald fL_law_922
theorem fL_law_923 : ft 190 923 = some (.aload_n 0, 0, 0, 0, .null) := by decide +kernel
theorem gL_law_923 {l1 l2 l3 : Option Value} {u : Nat} {st : List Value} {H : HP} {Q : Option Value → HP → Prop} : Go 190 923 [some (.ref u), l1, l2, l3] st H Q ↔ Go 190 924 [some (.ref u), l1, l2, l3] (.ref u :: st) H Q := G_aload_n fL_law_923 rfl
theorem fL_law_924 : ft 190 924 = some (.iload_n 3, 0, 0, 0, .null) := by decide +kernel
theorem gL_law_924 {l0 l1 l2 : Option Value} {u : Int32} {st : List Value} {H : HP} {Q : Option Value → HP → Prop} : Go 190 924 [l0, l1, l2, some (.int u)] st H Q ↔ Go 190 925 [l0, l1, l2, some (.int u)] (.int u :: st) H Q := G_iload_n fL_law_924 rfl
theorem fL_law_925 : ft 190 925 = some (.iconst 2, 0, 0, 0, .null) := by decide +kernel
theorem gL_law_925 {L : List (Option Value)} {st : List Value} {H : HP} {Q : Option Value → HP → Prop} : Go 190 925 L st H Q ↔ Go 190 926 L (vi 2 :: st) H Q := G_iconst fL_law_925
theorem fL_law_926 : ft 190 926 = some (.iadd, 0, 0, 0, .null) := by decide +kernel
theorem gL_law_926 {L : List (Option Value)} {a b : Int} {st : List Value} {H : HP} {Q : Option Value → HP → Prop} : Go 190 926 L (vi b :: vi a :: st) H Q ↔ Go 190 927 L (vi (a + b) :: st) H Q := G_iadd fL_law_926
theorem fL_law_927 : ft 190 927 = some (.iaload, 0, 0, 0, .null) := by decide +kernel
theorem gL_law_927 {L : List (Option Value)} {p : Nat} {a : Int} {st : List Value} {H : HP} {Q : Option Value → HP → Prop} : Go 190 927 L (vi a :: .ref p :: st) H Q ↔ Rd (aJ' (hget H p) a) 190 928 L st H Q := G_iald fL_law_927
theorem fL_law_928 : ft 190 928 = some (.invokevirtual 106, 91, 0, 591, .null) := by decide +kernel
theorem gL_law_928 {L : List (Option Value)} {p : Nat} {a0 : Int32} {a1 : Int32}  {H : HP} {Q : Option Value → HP → Prop} : Go 190 928 L (.int a1 :: .int a0 :: .ref p :: []) H Q ↔ (iso 8 (hget H p) = true ∧ Go 91 0 [some (.ref p), some (.int a0), some (.int a1)] [] H (Cont 190 931 L [] Q)) := G_cV (n := 2) (N := 3) (as := [.int a1, .int a0]) (st := []) fL_law_928 (by decide +kernel) rfl (Nat.le_of_ble_eq_true rfl) (Nat.le_of_ble_eq_true rfl) rfl
theorem fL_law_931 : ft 190 931 = some (.aload_n 2, 0, 0, 0, .null) := by decide +kernel
theorem gL_law_931 {l0 l1 l3 : Option Value} {u : Nat} {st : List Value} {H : HP} {Q : Option Value → HP → Prop} : Go 190 931 [l0, l1, some (.ref u), l3] st H Q ↔ Go 190 932 [l0, l1, some (.ref u), l3] (.ref u :: st) H Q := G_aload_n fL_law_931 rfl
theorem gL_law_931N {l0 l1 l3 : Option Value} {st : List Value} {H : HP} {Q : Option Value → HP → Prop} : Go 190 931 [l0, l1, some .null, l3] st H Q ↔ Go 190 932 [l0, l1, some .null, l3] (.null :: st) H Q := G_aload_nN fL_law_931 rfl
theorem fL_law_932 : ft 190 932 = some (.aload_n 0, 0, 0, 0, .null) := by decide +kernel
theorem gL_law_932 {l1 l2 l3 : Option Value} {u : Nat} {st : List Value} {H : HP} {Q : Option Value → HP → Prop} : Go 190 932 [some (.ref u), l1, l2, l3] st H Q ↔ Go 190 933 [some (.ref u), l1, l2, l3] (.ref u :: st) H Q := G_aload_n fL_law_932 rfl
theorem fL_law_933 : ft 190 933 = some (.iload_n 3, 0, 0, 0, .null) := by decide +kernel
theorem gL_law_933 {l0 l1 l2 : Option Value} {u : Int32} {st : List Value} {H : HP} {Q : Option Value → HP → Prop} : Go 190 933 [l0, l1, l2, some (.int u)] st H Q ↔ Go 190 934 [l0, l1, l2, some (.int u)] (.int u :: st) H Q := G_iload_n fL_law_933 rfl
theorem fL_law_934 : ft 190 934 = some (.iconst 1, 0, 0, 0, .null) := by decide +kernel
theorem gL_law_934 {L : List (Option Value)} {st : List Value} {H : HP} {Q : Option Value → HP → Prop} : Go 190 934 L st H Q ↔ Go 190 935 L (vi 1 :: st) H Q := G_iconst fL_law_934
theorem fL_law_935 : ft 190 935 = some (.iadd, 0, 0, 0, .null) := by decide +kernel
theorem gL_law_935 {L : List (Option Value)} {a b : Int} {st : List Value} {H : HP} {Q : Option Value → HP → Prop} : Go 190 935 L (vi b :: vi a :: st) H Q ↔ Go 190 936 L (vi (a + b) :: st) H Q := G_iadd fL_law_935
theorem fL_law_936 : ft 190 936 = some (.iaload, 0, 0, 0, .null) := by decide +kernel
theorem gL_law_936 {L : List (Option Value)} {p : Nat} {a : Int} {st : List Value} {H : HP} {Q : Option Value → HP → Prop} : Go 190 936 L (vi a :: .ref p :: st) H Q ↔ Rd (aJ' (hget H p) a) 190 937 L st H Q := G_iald fL_law_936
theorem fL_law_937 : ft 190 937 = some (.aload_n 0, 0, 0, 0, .null) := by decide +kernel
theorem gL_law_937 {l1 l2 l3 : Option Value} {u : Nat} {st : List Value} {H : HP} {Q : Option Value → HP → Prop} : Go 190 937 [some (.ref u), l1, l2, l3] st H Q ↔ Go 190 938 [some (.ref u), l1, l2, l3] (.ref u :: st) H Q := G_aload_n fL_law_937 rfl
theorem fL_law_938 : ft 190 938 = some (.iload_n 3, 0, 0, 0, .null) := by decide +kernel
theorem gL_law_938 {l0 l1 l2 : Option Value} {u : Int32} {st : List Value} {H : HP} {Q : Option Value → HP → Prop} : Go 190 938 [l0, l1, l2, some (.int u)] st H Q ↔ Go 190 939 [l0, l1, l2, some (.int u)] (.int u :: st) H Q := G_iload_n fL_law_938 rfl
theorem fL_law_939 : ft 190 939 = some (.iconst 2, 0, 0, 0, .null) := by decide +kernel
theorem gL_law_939 {L : List (Option Value)} {st : List Value} {H : HP} {Q : Option Value → HP → Prop} : Go 190 939 L st H Q ↔ Go 190 940 L (vi 2 :: st) H Q := G_iconst fL_law_939
theorem fL_law_940 : ft 190 940 = some (.iadd, 0, 0, 0, .null) := by decide +kernel
theorem gL_law_940 {L : List (Option Value)} {a b : Int} {st : List Value} {H : HP} {Q : Option Value → HP → Prop} : Go 190 940 L (vi b :: vi a :: st) H Q ↔ Go 190 941 L (vi (a + b) :: st) H Q := G_iadd fL_law_940
theorem fL_law_941 : ft 190 941 = some (.iaload, 0, 0, 0, .null) := by decide +kernel
theorem gL_law_941 {L : List (Option Value)} {p : Nat} {a : Int} {st : List Value} {H : HP} {Q : Option Value → HP → Prop} : Go 190 941 L (vi a :: .ref p :: st) H Q ↔ Rd (aJ' (hget H p) a) 190 942 L st H Q := G_iald fL_law_941
theorem fL_law_942 : ft 190 942 = some (.invokevirtual 109, 161, 0, 1012, .null) := by decide +kernel
theorem gL_law_942 {L : List (Option Value)} {p : Nat} {a0 : Int32} {a1 : Int32} {r0 : Int32} {H : HP} {Q : Option Value → HP → Prop} : Go 190 942 L (.int a1 :: .int a0 :: .ref p :: [.int r0]) H Q ↔ (iso 9 (hget H p) = true ∧ Go 161 0 [some (.ref p), some (.int a0), some (.int a1)] [] H (Cont 190 945 L [.int r0] Q)) := G_cV (n := 2) (N := 3) (as := [.int a1, .int a0]) (st := [.int r0]) fL_law_942 (by decide +kernel) rfl (Nat.le_of_ble_eq_true rfl) (Nat.le_of_ble_eq_true rfl) rfl
theorem fL_law_945 : ft 190 945 = some (.if_icmp .eq 467, 0, 0, 0, .null) := by decide +kernel
theorem gL_law_945T {L : List (Option Value)} {a b : Int} (c : (-2147483648 ≤ a ∧ a ≤ 2147483647 ∧ -2147483648 ≤ b ∧ b ≤ 2147483647) ∧ a = b) {st : List Value} {H : HP} {Q : Option Value → HP → Prop} : Go 190 945 L (vi b :: vi a :: st) H Q ↔ Go 190 1412 L st H Q := G_icT fL_law_945 (by decide) c
theorem gL_law_945F {L : List (Option Value)} {a b : Int} (c : (-2147483648 ≤ a ∧ a ≤ 2147483647 ∧ -2147483648 ≤ b ∧ b ≤ 2147483647) ∧ ¬ (a = b)) {st : List Value} {H : HP} {Q : Option Value → HP → Prop} : Go 190 945 L (vi b :: vi a :: st) H Q ↔ Go 190 948 L st H Q := G_icF (tg := 1412) fL_law_945 (by decide) c
theorem fL_law_948 : ft 190 948 = some (.iconst 0, 0, 0, 0, .null) := by decide +kernel
theorem gL_law_948 {L : List (Option Value)} {st : List Value} {H : HP} {Q : Option Value → HP → Prop} : Go 190 948 L st H Q ↔ Go 190 949 L (vi 0 :: st) H Q := G_iconst fL_law_948
theorem fL_law_949 : ft 190 949 = some (.ireturn, 0, 0, 0, .null) := by decide +kernel
theorem gL_law_949 {L : List (Option Value)} {a : Int} (c : a = 0 ∨ a = 1) {H : HP} {Q : Option Value → HP → Prop} : Go 190 949 L [vi a] H Q ↔ Q (some (vi a)) H := G_zret fL_law_949 (by decide +kernel) c
theorem fL_law_950 : ft 190 950 = some (.aload_n 1, 0, 0, 0, .null) := by decide +kernel
theorem gL_law_950 {l0 l2 l3 : Option Value} {u : Nat} {st : List Value} {H : HP} {Q : Option Value → HP → Prop} : Go 190 950 [l0, some (.ref u), l2, l3] st H Q ↔ Go 190 951 [l0, some (.ref u), l2, l3] (.ref u :: st) H Q := G_aload_n fL_law_950 rfl
theorem gL_law_950N {l0 l2 l3 : Option Value} {st : List Value} {H : HP} {Q : Option Value → HP → Prop} : Go 190 950 [l0, some .null, l2, l3] st H Q ↔ Go 190 951 [l0, some .null, l2, l3] (.null :: st) H Q := G_aload_nN fL_law_950 rfl
theorem fL_law_951 : ft 190 951 = some (.aload_n 0, 0, 0, 0, .null) := by decide +kernel
theorem gL_law_951 {l1 l2 l3 : Option Value} {u : Nat} {st : List Value} {H : HP} {Q : Option Value → HP → Prop} : Go 190 951 [some (.ref u), l1, l2, l3] st H Q ↔ Go 190 952 [some (.ref u), l1, l2, l3] (.ref u :: st) H Q := G_aload_n fL_law_951 rfl
theorem fL_law_952 : ft 190 952 = some (.iload_n 3, 0, 0, 0, .null) := by decide +kernel
theorem gL_law_952 {l0 l1 l2 : Option Value} {u : Int32} {st : List Value} {H : HP} {Q : Option Value → HP → Prop} : Go 190 952 [l0, l1, l2, some (.int u)] st H Q ↔ Go 190 953 [l0, l1, l2, some (.int u)] (.int u :: st) H Q := G_iload_n fL_law_952 rfl
theorem fL_law_953 : ft 190 953 = some (.iconst 1, 0, 0, 0, .null) := by decide +kernel
theorem gL_law_953 {L : List (Option Value)} {st : List Value} {H : HP} {Q : Option Value → HP → Prop} : Go 190 953 L st H Q ↔ Go 190 954 L (vi 1 :: st) H Q := G_iconst fL_law_953
theorem fL_law_954 : ft 190 954 = some (.iadd, 0, 0, 0, .null) := by decide +kernel
theorem gL_law_954 {L : List (Option Value)} {a b : Int} {st : List Value} {H : HP} {Q : Option Value → HP → Prop} : Go 190 954 L (vi b :: vi a :: st) H Q ↔ Go 190 955 L (vi (a + b) :: st) H Q := G_iadd fL_law_954
theorem fL_law_955 : ft 190 955 = some (.iaload, 0, 0, 0, .null) := by decide +kernel
theorem gL_law_955 {L : List (Option Value)} {p : Nat} {a : Int} {st : List Value} {H : HP} {Q : Option Value → HP → Prop} : Go 190 955 L (vi a :: .ref p :: st) H Q ↔ Rd (aJ' (hget H p) a) 190 956 L st H Q := G_iald fL_law_955
theorem fL_law_956 : ft 190 956 = some (.aload_n 0, 0, 0, 0, .null) := by decide +kernel
theorem gL_law_956 {l1 l2 l3 : Option Value} {u : Nat} {st : List Value} {H : HP} {Q : Option Value → HP → Prop} : Go 190 956 [some (.ref u), l1, l2, l3] st H Q ↔ Go 190 957 [some (.ref u), l1, l2, l3] (.ref u :: st) H Q := G_aload_n fL_law_956 rfl
theorem fL_law_957 : ft 190 957 = some (.iload_n 3, 0, 0, 0, .null) := by decide +kernel
theorem gL_law_957 {l0 l1 l2 : Option Value} {u : Int32} {st : List Value} {H : HP} {Q : Option Value → HP → Prop} : Go 190 957 [l0, l1, l2, some (.int u)] st H Q ↔ Go 190 958 [l0, l1, l2, some (.int u)] (.int u :: st) H Q := G_iload_n fL_law_957 rfl
theorem fL_law_958 : ft 190 958 = some (.iconst 2, 0, 0, 0, .null) := by decide +kernel
theorem gL_law_958 {L : List (Option Value)} {st : List Value} {H : HP} {Q : Option Value → HP → Prop} : Go 190 958 L st H Q ↔ Go 190 959 L (vi 2 :: st) H Q := G_iconst fL_law_958
theorem fL_law_959 : ft 190 959 = some (.iadd, 0, 0, 0, .null) := by decide +kernel
theorem gL_law_959 {L : List (Option Value)} {a b : Int} {st : List Value} {H : HP} {Q : Option Value → HP → Prop} : Go 190 959 L (vi b :: vi a :: st) H Q ↔ Go 190 960 L (vi (a + b) :: st) H Q := G_iadd fL_law_959
theorem fL_law_960 : ft 190 960 = some (.iaload, 0, 0, 0, .null) := by decide +kernel
theorem gL_law_960 {L : List (Option Value)} {p : Nat} {a : Int} {st : List Value} {H : HP} {Q : Option Value → HP → Prop} : Go 190 960 L (vi a :: .ref p :: st) H Q ↔ Rd (aJ' (hget H p) a) 190 961 L st H Q := G_iald fL_law_960
theorem fL_law_961 : ft 190 961 = some (.aload_n 0, 0, 0, 0, .null) := by decide +kernel
theorem gL_law_961 {l1 l2 l3 : Option Value} {u : Nat} {st : List Value} {H : HP} {Q : Option Value → HP → Prop} : Go 190 961 [some (.ref u), l1, l2, l3] st H Q ↔ Go 190 962 [some (.ref u), l1, l2, l3] (.ref u :: st) H Q := G_aload_n fL_law_961 rfl
theorem fL_law_962 : ft 190 962 = some (.iload_n 3, 0, 0, 0, .null) := by decide +kernel
theorem gL_law_962 {l0 l1 l2 : Option Value} {u : Int32} {st : List Value} {H : HP} {Q : Option Value → HP → Prop} : Go 190 962 [l0, l1, l2, some (.int u)] st H Q ↔ Go 190 963 [l0, l1, l2, some (.int u)] (.int u :: st) H Q := G_iload_n fL_law_962 rfl
theorem fL_law_963 : ft 190 963 = some (.iconst 3, 0, 0, 0, .null) := by decide +kernel
theorem gL_law_963 {L : List (Option Value)} {st : List Value} {H : HP} {Q : Option Value → HP → Prop} : Go 190 963 L st H Q ↔ Go 190 964 L (vi 3 :: st) H Q := G_iconst fL_law_963
theorem fL_law_964 : ft 190 964 = some (.iadd, 0, 0, 0, .null) := by decide +kernel
theorem gL_law_964 {L : List (Option Value)} {a b : Int} {st : List Value} {H : HP} {Q : Option Value → HP → Prop} : Go 190 964 L (vi b :: vi a :: st) H Q ↔ Go 190 965 L (vi (a + b) :: st) H Q := G_iadd fL_law_964
theorem fL_law_965 : ft 190 965 = some (.iaload, 0, 0, 0, .null) := by decide +kernel
theorem gL_law_965 {L : List (Option Value)} {p : Nat} {a : Int} {st : List Value} {H : HP} {Q : Option Value → HP → Prop} : Go 190 965 L (vi a :: .ref p :: st) H Q ↔ Rd (aJ' (hget H p) a) 190 966 L st H Q := G_iald fL_law_965
theorem fL_law_966 : ft 190 966 = some (.aload_n 0, 0, 0, 0, .null) := by decide +kernel
theorem gL_law_966 {l1 l2 l3 : Option Value} {u : Nat} {st : List Value} {H : HP} {Q : Option Value → HP → Prop} : Go 190 966 [some (.ref u), l1, l2, l3] st H Q ↔ Go 190 967 [some (.ref u), l1, l2, l3] (.ref u :: st) H Q := G_aload_n fL_law_966 rfl
theorem fL_law_967 : ft 190 967 = some (.iload_n 3, 0, 0, 0, .null) := by decide +kernel
theorem gL_law_967 {l0 l1 l2 : Option Value} {u : Int32} {st : List Value} {H : HP} {Q : Option Value → HP → Prop} : Go 190 967 [l0, l1, l2, some (.int u)] st H Q ↔ Go 190 968 [l0, l1, l2, some (.int u)] (.int u :: st) H Q := G_iload_n fL_law_967 rfl
theorem fL_law_968 : ft 190 968 = some (.iconst 4, 0, 0, 0, .null) := by decide +kernel
theorem gL_law_968 {L : List (Option Value)} {st : List Value} {H : HP} {Q : Option Value → HP → Prop} : Go 190 968 L st H Q ↔ Go 190 969 L (vi 4 :: st) H Q := G_iconst fL_law_968
theorem fL_law_969 : ft 190 969 = some (.iadd, 0, 0, 0, .null) := by decide +kernel
theorem gL_law_969 {L : List (Option Value)} {a b : Int} {st : List Value} {H : HP} {Q : Option Value → HP → Prop} : Go 190 969 L (vi b :: vi a :: st) H Q ↔ Go 190 970 L (vi (a + b) :: st) H Q := G_iadd fL_law_969
theorem fL_law_970 : ft 190 970 = some (.iaload, 0, 0, 0, .null) := by decide +kernel
theorem gL_law_970 {L : List (Option Value)} {p : Nat} {a : Int} {st : List Value} {H : HP} {Q : Option Value → HP → Prop} : Go 190 970 L (vi a :: .ref p :: st) H Q ↔ Rd (aJ' (hget H p) a) 190 971 L st H Q := G_iald fL_law_970
theorem fL_law_971 : ft 190 971 = some (.invokevirtual 110, 92, 0, 595, .null) := by decide +kernel
theorem gL_law_971 {L : List (Option Value)} {p : Nat} {a0 : Int32} {a1 : Int32} {a2 : Int32} {a3 : Int32}  {H : HP} {Q : Option Value → HP → Prop} : Go 190 971 L (.int a3 :: .int a2 :: .int a1 :: .int a0 :: .ref p :: []) H Q ↔ (iso 8 (hget H p) = true ∧ Go 92 0 [some (.ref p), some (.int a0), some (.int a1), some (.int a2), some (.int a3), none] [] H (Cont 190 974 L [] Q)) := G_cV (n := 4) (N := 6) (as := [.int a3, .int a2, .int a1, .int a0]) (st := []) fL_law_971 (by decide +kernel) rfl (Nat.le_of_ble_eq_true rfl) (Nat.le_of_ble_eq_true rfl) rfl
theorem fL_law_974 : ft 190 974 = some (.aload_n 2, 0, 0, 0, .null) := by decide +kernel
theorem gL_law_974 {l0 l1 l3 : Option Value} {u : Nat} {st : List Value} {H : HP} {Q : Option Value → HP → Prop} : Go 190 974 [l0, l1, some (.ref u), l3] st H Q ↔ Go 190 975 [l0, l1, some (.ref u), l3] (.ref u :: st) H Q := G_aload_n fL_law_974 rfl
theorem gL_law_974N {l0 l1 l3 : Option Value} {st : List Value} {H : HP} {Q : Option Value → HP → Prop} : Go 190 974 [l0, l1, some .null, l3] st H Q ↔ Go 190 975 [l0, l1, some .null, l3] (.null :: st) H Q := G_aload_nN fL_law_974 rfl
theorem fL_law_975 : ft 190 975 = some (.aload_n 0, 0, 0, 0, .null) := by decide +kernel
theorem gL_law_975 {l1 l2 l3 : Option Value} {u : Nat} {st : List Value} {H : HP} {Q : Option Value → HP → Prop} : Go 190 975 [some (.ref u), l1, l2, l3] st H Q ↔ Go 190 976 [some (.ref u), l1, l2, l3] (.ref u :: st) H Q := G_aload_n fL_law_975 rfl
theorem fL_law_976 : ft 190 976 = some (.iload_n 3, 0, 0, 0, .null) := by decide +kernel
theorem gL_law_976 {l0 l1 l2 : Option Value} {u : Int32} {st : List Value} {H : HP} {Q : Option Value → HP → Prop} : Go 190 976 [l0, l1, l2, some (.int u)] st H Q ↔ Go 190 977 [l0, l1, l2, some (.int u)] (.int u :: st) H Q := G_iload_n fL_law_976 rfl
theorem fL_law_977 : ft 190 977 = some (.iconst 1, 0, 0, 0, .null) := by decide +kernel
theorem gL_law_977 {L : List (Option Value)} {st : List Value} {H : HP} {Q : Option Value → HP → Prop} : Go 190 977 L st H Q ↔ Go 190 978 L (vi 1 :: st) H Q := G_iconst fL_law_977
theorem fL_law_978 : ft 190 978 = some (.iadd, 0, 0, 0, .null) := by decide +kernel
theorem gL_law_978 {L : List (Option Value)} {a b : Int} {st : List Value} {H : HP} {Q : Option Value → HP → Prop} : Go 190 978 L (vi b :: vi a :: st) H Q ↔ Go 190 979 L (vi (a + b) :: st) H Q := G_iadd fL_law_978
theorem fL_law_979 : ft 190 979 = some (.iaload, 0, 0, 0, .null) := by decide +kernel
theorem gL_law_979 {L : List (Option Value)} {p : Nat} {a : Int} {st : List Value} {H : HP} {Q : Option Value → HP → Prop} : Go 190 979 L (vi a :: .ref p :: st) H Q ↔ Rd (aJ' (hget H p) a) 190 980 L st H Q := G_iald fL_law_979
theorem fL_law_980 : ft 190 980 = some (.aload_n 0, 0, 0, 0, .null) := by decide +kernel
theorem gL_law_980 {l1 l2 l3 : Option Value} {u : Nat} {st : List Value} {H : HP} {Q : Option Value → HP → Prop} : Go 190 980 [some (.ref u), l1, l2, l3] st H Q ↔ Go 190 981 [some (.ref u), l1, l2, l3] (.ref u :: st) H Q := G_aload_n fL_law_980 rfl
theorem fL_law_981 : ft 190 981 = some (.iload_n 3, 0, 0, 0, .null) := by decide +kernel
theorem gL_law_981 {l0 l1 l2 : Option Value} {u : Int32} {st : List Value} {H : HP} {Q : Option Value → HP → Prop} : Go 190 981 [l0, l1, l2, some (.int u)] st H Q ↔ Go 190 982 [l0, l1, l2, some (.int u)] (.int u :: st) H Q := G_iload_n fL_law_981 rfl
theorem fL_law_982 : ft 190 982 = some (.iconst 2, 0, 0, 0, .null) := by decide +kernel
theorem gL_law_982 {L : List (Option Value)} {st : List Value} {H : HP} {Q : Option Value → HP → Prop} : Go 190 982 L st H Q ↔ Go 190 983 L (vi 2 :: st) H Q := G_iconst fL_law_982
theorem fL_law_983 : ft 190 983 = some (.iadd, 0, 0, 0, .null) := by decide +kernel
theorem gL_law_983 {L : List (Option Value)} {a b : Int} {st : List Value} {H : HP} {Q : Option Value → HP → Prop} : Go 190 983 L (vi b :: vi a :: st) H Q ↔ Go 190 984 L (vi (a + b) :: st) H Q := G_iadd fL_law_983
theorem fL_law_984 : ft 190 984 = some (.iaload, 0, 0, 0, .null) := by decide +kernel
theorem gL_law_984 {L : List (Option Value)} {p : Nat} {a : Int} {st : List Value} {H : HP} {Q : Option Value → HP → Prop} : Go 190 984 L (vi a :: .ref p :: st) H Q ↔ Rd (aJ' (hget H p) a) 190 985 L st H Q := G_iald fL_law_984
theorem fL_law_985 : ft 190 985 = some (.aload_n 0, 0, 0, 0, .null) := by decide +kernel
theorem gL_law_985 {l1 l2 l3 : Option Value} {u : Nat} {st : List Value} {H : HP} {Q : Option Value → HP → Prop} : Go 190 985 [some (.ref u), l1, l2, l3] st H Q ↔ Go 190 986 [some (.ref u), l1, l2, l3] (.ref u :: st) H Q := G_aload_n fL_law_985 rfl
theorem fL_law_986 : ft 190 986 = some (.iload_n 3, 0, 0, 0, .null) := by decide +kernel
theorem gL_law_986 {l0 l1 l2 : Option Value} {u : Int32} {st : List Value} {H : HP} {Q : Option Value → HP → Prop} : Go 190 986 [l0, l1, l2, some (.int u)] st H Q ↔ Go 190 987 [l0, l1, l2, some (.int u)] (.int u :: st) H Q := G_iload_n fL_law_986 rfl
theorem fL_law_987 : ft 190 987 = some (.iconst 3, 0, 0, 0, .null) := by decide +kernel
theorem gL_law_987 {L : List (Option Value)} {st : List Value} {H : HP} {Q : Option Value → HP → Prop} : Go 190 987 L st H Q ↔ Go 190 988 L (vi 3 :: st) H Q := G_iconst fL_law_987
theorem fL_law_988 : ft 190 988 = some (.iadd, 0, 0, 0, .null) := by decide +kernel
theorem gL_law_988 {L : List (Option Value)} {a b : Int} {st : List Value} {H : HP} {Q : Option Value → HP → Prop} : Go 190 988 L (vi b :: vi a :: st) H Q ↔ Go 190 989 L (vi (a + b) :: st) H Q := G_iadd fL_law_988
theorem fL_law_989 : ft 190 989 = some (.iaload, 0, 0, 0, .null) := by decide +kernel
theorem gL_law_989 {L : List (Option Value)} {p : Nat} {a : Int} {st : List Value} {H : HP} {Q : Option Value → HP → Prop} : Go 190 989 L (vi a :: .ref p :: st) H Q ↔ Rd (aJ' (hget H p) a) 190 990 L st H Q := G_iald fL_law_989
theorem fL_law_990 : ft 190 990 = some (.aload_n 0, 0, 0, 0, .null) := by decide +kernel
theorem gL_law_990 {l1 l2 l3 : Option Value} {u : Nat} {st : List Value} {H : HP} {Q : Option Value → HP → Prop} : Go 190 990 [some (.ref u), l1, l2, l3] st H Q ↔ Go 190 991 [some (.ref u), l1, l2, l3] (.ref u :: st) H Q := G_aload_n fL_law_990 rfl
theorem fL_law_991 : ft 190 991 = some (.iload_n 3, 0, 0, 0, .null) := by decide +kernel
theorem gL_law_991 {l0 l1 l2 : Option Value} {u : Int32} {st : List Value} {H : HP} {Q : Option Value → HP → Prop} : Go 190 991 [l0, l1, l2, some (.int u)] st H Q ↔ Go 190 992 [l0, l1, l2, some (.int u)] (.int u :: st) H Q := G_iload_n fL_law_991 rfl
theorem fL_law_992 : ft 190 992 = some (.iconst 4, 0, 0, 0, .null) := by decide +kernel
theorem gL_law_992 {L : List (Option Value)} {st : List Value} {H : HP} {Q : Option Value → HP → Prop} : Go 190 992 L st H Q ↔ Go 190 993 L (vi 4 :: st) H Q := G_iconst fL_law_992
theorem fL_law_993 : ft 190 993 = some (.iadd, 0, 0, 0, .null) := by decide +kernel
theorem gL_law_993 {L : List (Option Value)} {a b : Int} {st : List Value} {H : HP} {Q : Option Value → HP → Prop} : Go 190 993 L (vi b :: vi a :: st) H Q ↔ Go 190 994 L (vi (a + b) :: st) H Q := G_iadd fL_law_993
theorem fL_law_994 : ft 190 994 = some (.iaload, 0, 0, 0, .null) := by decide +kernel
theorem gL_law_994 {L : List (Option Value)} {p : Nat} {a : Int} {st : List Value} {H : HP} {Q : Option Value → HP → Prop} : Go 190 994 L (vi a :: .ref p :: st) H Q ↔ Rd (aJ' (hget H p) a) 190 995 L st H Q := G_iald fL_law_994
theorem fL_law_995 : ft 190 995 = some (.invokevirtual 114, 166, 0, 1016, .null) := by decide +kernel
theorem gL_law_995 {L : List (Option Value)} {p : Nat} {a0 : Int32} {a1 : Int32} {a2 : Int32} {a3 : Int32} {r0 : Int32} {H : HP} {Q : Option Value → HP → Prop} : Go 190 995 L (.int a3 :: .int a2 :: .int a1 :: .int a0 :: .ref p :: [.int r0]) H Q ↔ (iso 9 (hget H p) = true ∧ Go 166 0 [some (.ref p), some (.int a0), some (.int a1), some (.int a2), some (.int a3), none, none, none, none, none, none, none, none] [] H (Cont 190 998 L [.int r0] Q)) := G_cV (n := 4) (N := 13) (as := [.int a3, .int a2, .int a1, .int a0]) (st := [.int r0]) fL_law_995 (by decide +kernel) rfl (Nat.le_of_ble_eq_true rfl) (Nat.le_of_ble_eq_true rfl) rfl
theorem fL_law_998 : ft 190 998 = some (.if_icmp .eq 414, 0, 0, 0, .null) := by decide +kernel
theorem gL_law_998T {L : List (Option Value)} {a b : Int} (c : (-2147483648 ≤ a ∧ a ≤ 2147483647 ∧ -2147483648 ≤ b ∧ b ≤ 2147483647) ∧ a = b) {st : List Value} {H : HP} {Q : Option Value → HP → Prop} : Go 190 998 L (vi b :: vi a :: st) H Q ↔ Go 190 1412 L st H Q := G_icT fL_law_998 (by decide) c
theorem gL_law_998F {L : List (Option Value)} {a b : Int} (c : (-2147483648 ≤ a ∧ a ≤ 2147483647 ∧ -2147483648 ≤ b ∧ b ≤ 2147483647) ∧ ¬ (a = b)) {st : List Value} {H : HP} {Q : Option Value → HP → Prop} : Go 190 998 L (vi b :: vi a :: st) H Q ↔ Go 190 1001 L st H Q := G_icF (tg := 1412) fL_law_998 (by decide) c
theorem fL_law_1001 : ft 190 1001 = some (.iconst 0, 0, 0, 0, .null) := by decide +kernel
theorem gL_law_1001 {L : List (Option Value)} {st : List Value} {H : HP} {Q : Option Value → HP → Prop} : Go 190 1001 L st H Q ↔ Go 190 1002 L (vi 0 :: st) H Q := G_iconst fL_law_1001
theorem fL_law_1002 : ft 190 1002 = some (.ireturn, 0, 0, 0, .null) := by decide +kernel
theorem gL_law_1002 {L : List (Option Value)} {a : Int} (c : a = 0 ∨ a = 1) {H : HP} {Q : Option Value → HP → Prop} : Go 190 1002 L [vi a] H Q ↔ Q (some (vi a)) H := G_zret fL_law_1002 (by decide +kernel) c
theorem fL_law_1003 : ft 190 1003 = some (.aload_n 1, 0, 0, 0, .null) := by decide +kernel
theorem gL_law_1003 {l0 l2 l3 : Option Value} {u : Nat} {st : List Value} {H : HP} {Q : Option Value → HP → Prop} : Go 190 1003 [l0, some (.ref u), l2, l3] st H Q ↔ Go 190 1004 [l0, some (.ref u), l2, l3] (.ref u :: st) H Q := G_aload_n fL_law_1003 rfl
theorem gL_law_1003N {l0 l2 l3 : Option Value} {st : List Value} {H : HP} {Q : Option Value → HP → Prop} : Go 190 1003 [l0, some .null, l2, l3] st H Q ↔ Go 190 1004 [l0, some .null, l2, l3] (.null :: st) H Q := G_aload_nN fL_law_1003 rfl
theorem fL_law_1004 : ft 190 1004 = some (.aload_n 0, 0, 0, 0, .null) := by decide +kernel
theorem gL_law_1004 {l1 l2 l3 : Option Value} {u : Nat} {st : List Value} {H : HP} {Q : Option Value → HP → Prop} : Go 190 1004 [some (.ref u), l1, l2, l3] st H Q ↔ Go 190 1005 [some (.ref u), l1, l2, l3] (.ref u :: st) H Q := G_aload_n fL_law_1004 rfl
theorem fL_law_1005 : ft 190 1005 = some (.iload_n 3, 0, 0, 0, .null) := by decide +kernel
theorem gL_law_1005 {l0 l1 l2 : Option Value} {u : Int32} {st : List Value} {H : HP} {Q : Option Value → HP → Prop} : Go 190 1005 [l0, l1, l2, some (.int u)] st H Q ↔ Go 190 1006 [l0, l1, l2, some (.int u)] (.int u :: st) H Q := G_iload_n fL_law_1005 rfl
theorem fL_law_1006 : ft 190 1006 = some (.iconst 1, 0, 0, 0, .null) := by decide +kernel
theorem gL_law_1006 {L : List (Option Value)} {st : List Value} {H : HP} {Q : Option Value → HP → Prop} : Go 190 1006 L st H Q ↔ Go 190 1007 L (vi 1 :: st) H Q := G_iconst fL_law_1006
theorem fL_law_1007 : ft 190 1007 = some (.iadd, 0, 0, 0, .null) := by decide +kernel
theorem gL_law_1007 {L : List (Option Value)} {a b : Int} {st : List Value} {H : HP} {Q : Option Value → HP → Prop} : Go 190 1007 L (vi b :: vi a :: st) H Q ↔ Go 190 1008 L (vi (a + b) :: st) H Q := G_iadd fL_law_1007
theorem fL_law_1008 : ft 190 1008 = some (.iaload, 0, 0, 0, .null) := by decide +kernel
theorem gL_law_1008 {L : List (Option Value)} {p : Nat} {a : Int} {st : List Value} {H : HP} {Q : Option Value → HP → Prop} : Go 190 1008 L (vi a :: .ref p :: st) H Q ↔ Rd (aJ' (hget H p) a) 190 1009 L st H Q := G_iald fL_law_1008
theorem fL_law_1009 : ft 190 1009 = some (.aload_n 0, 0, 0, 0, .null) := by decide +kernel
theorem gL_law_1009 {l1 l2 l3 : Option Value} {u : Nat} {st : List Value} {H : HP} {Q : Option Value → HP → Prop} : Go 190 1009 [some (.ref u), l1, l2, l3] st H Q ↔ Go 190 1010 [some (.ref u), l1, l2, l3] (.ref u :: st) H Q := G_aload_n fL_law_1009 rfl
theorem fL_law_1010 : ft 190 1010 = some (.iload_n 3, 0, 0, 0, .null) := by decide +kernel
theorem gL_law_1010 {l0 l1 l2 : Option Value} {u : Int32} {st : List Value} {H : HP} {Q : Option Value → HP → Prop} : Go 190 1010 [l0, l1, l2, some (.int u)] st H Q ↔ Go 190 1011 [l0, l1, l2, some (.int u)] (.int u :: st) H Q := G_iload_n fL_law_1010 rfl
theorem fL_law_1011 : ft 190 1011 = some (.iconst 2, 0, 0, 0, .null) := by decide +kernel
theorem gL_law_1011 {L : List (Option Value)} {st : List Value} {H : HP} {Q : Option Value → HP → Prop} : Go 190 1011 L st H Q ↔ Go 190 1012 L (vi 2 :: st) H Q := G_iconst fL_law_1011
theorem fL_law_1012 : ft 190 1012 = some (.iadd, 0, 0, 0, .null) := by decide +kernel
theorem gL_law_1012 {L : List (Option Value)} {a b : Int} {st : List Value} {H : HP} {Q : Option Value → HP → Prop} : Go 190 1012 L (vi b :: vi a :: st) H Q ↔ Go 190 1013 L (vi (a + b) :: st) H Q := G_iadd fL_law_1012
theorem fL_law_1013 : ft 190 1013 = some (.iaload, 0, 0, 0, .null) := by decide +kernel
theorem gL_law_1013 {L : List (Option Value)} {p : Nat} {a : Int} {st : List Value} {H : HP} {Q : Option Value → HP → Prop} : Go 190 1013 L (vi a :: .ref p :: st) H Q ↔ Rd (aJ' (hget H p) a) 190 1014 L st H Q := G_iald fL_law_1013
theorem fL_law_1014 : ft 190 1014 = some (.aload_n 0, 0, 0, 0, .null) := by decide +kernel
theorem gL_law_1014 {l1 l2 l3 : Option Value} {u : Nat} {st : List Value} {H : HP} {Q : Option Value → HP → Prop} : Go 190 1014 [some (.ref u), l1, l2, l3] st H Q ↔ Go 190 1015 [some (.ref u), l1, l2, l3] (.ref u :: st) H Q := G_aload_n fL_law_1014 rfl
theorem fL_law_1015 : ft 190 1015 = some (.iload_n 3, 0, 0, 0, .null) := by decide +kernel
theorem gL_law_1015 {l0 l1 l2 : Option Value} {u : Int32} {st : List Value} {H : HP} {Q : Option Value → HP → Prop} : Go 190 1015 [l0, l1, l2, some (.int u)] st H Q ↔ Go 190 1016 [l0, l1, l2, some (.int u)] (.int u :: st) H Q := G_iload_n fL_law_1015 rfl
theorem fL_law_1016 : ft 190 1016 = some (.iconst 3, 0, 0, 0, .null) := by decide +kernel
theorem gL_law_1016 {L : List (Option Value)} {st : List Value} {H : HP} {Q : Option Value → HP → Prop} : Go 190 1016 L st H Q ↔ Go 190 1017 L (vi 3 :: st) H Q := G_iconst fL_law_1016
theorem fL_law_1017 : ft 190 1017 = some (.iadd, 0, 0, 0, .null) := by decide +kernel
theorem gL_law_1017 {L : List (Option Value)} {a b : Int} {st : List Value} {H : HP} {Q : Option Value → HP → Prop} : Go 190 1017 L (vi b :: vi a :: st) H Q ↔ Go 190 1018 L (vi (a + b) :: st) H Q := G_iadd fL_law_1017
theorem fL_law_1018 : ft 190 1018 = some (.iaload, 0, 0, 0, .null) := by decide +kernel
theorem gL_law_1018 {L : List (Option Value)} {p : Nat} {a : Int} {st : List Value} {H : HP} {Q : Option Value → HP → Prop} : Go 190 1018 L (vi a :: .ref p :: st) H Q ↔ Rd (aJ' (hget H p) a) 190 1019 L st H Q := G_iald fL_law_1018
theorem fL_law_1019 : ft 190 1019 = some (.invokevirtual 115, 93, 0, 608, .null) := by decide +kernel
theorem gL_law_1019 {L : List (Option Value)} {p : Nat} {a0 : Int32} {a1 : Int32} {a2 : Int32}  {H : HP} {Q : Option Value → HP → Prop} : Go 190 1019 L (.int a2 :: .int a1 :: .int a0 :: .ref p :: []) H Q ↔ (iso 8 (hget H p) = true ∧ Go 93 0 [some (.ref p), some (.int a0), some (.int a1), some (.int a2), none] [] H (Cont 190 1022 L [] Q)) := G_cV (n := 3) (N := 5) (as := [.int a2, .int a1, .int a0]) (st := []) fL_law_1019 (by decide +kernel) rfl (Nat.le_of_ble_eq_true rfl) (Nat.le_of_ble_eq_true rfl) rfl
theorem fL_law_1022 : ft 190 1022 = some (.aload_n 2, 0, 0, 0, .null) := by decide +kernel
theorem gL_law_1022 {l0 l1 l3 : Option Value} {u : Nat} {st : List Value} {H : HP} {Q : Option Value → HP → Prop} : Go 190 1022 [l0, l1, some (.ref u), l3] st H Q ↔ Go 190 1023 [l0, l1, some (.ref u), l3] (.ref u :: st) H Q := G_aload_n fL_law_1022 rfl
theorem gL_law_1022N {l0 l1 l3 : Option Value} {st : List Value} {H : HP} {Q : Option Value → HP → Prop} : Go 190 1022 [l0, l1, some .null, l3] st H Q ↔ Go 190 1023 [l0, l1, some .null, l3] (.null :: st) H Q := G_aload_nN fL_law_1022 rfl
theorem fL_law_1023 : ft 190 1023 = some (.aload_n 0, 0, 0, 0, .null) := by decide +kernel
theorem gL_law_1023 {l1 l2 l3 : Option Value} {u : Nat} {st : List Value} {H : HP} {Q : Option Value → HP → Prop} : Go 190 1023 [some (.ref u), l1, l2, l3] st H Q ↔ Go 190 1024 [some (.ref u), l1, l2, l3] (.ref u :: st) H Q := G_aload_n fL_law_1023 rfl
theorem fL_law_1024 : ft 190 1024 = some (.iload_n 3, 0, 0, 0, .null) := by decide +kernel
theorem gL_law_1024 {l0 l1 l2 : Option Value} {u : Int32} {st : List Value} {H : HP} {Q : Option Value → HP → Prop} : Go 190 1024 [l0, l1, l2, some (.int u)] st H Q ↔ Go 190 1025 [l0, l1, l2, some (.int u)] (.int u :: st) H Q := G_iload_n fL_law_1024 rfl
theorem fL_law_1025 : ft 190 1025 = some (.iconst 1, 0, 0, 0, .null) := by decide +kernel
theorem gL_law_1025 {L : List (Option Value)} {st : List Value} {H : HP} {Q : Option Value → HP → Prop} : Go 190 1025 L st H Q ↔ Go 190 1026 L (vi 1 :: st) H Q := G_iconst fL_law_1025
theorem fL_law_1026 : ft 190 1026 = some (.iadd, 0, 0, 0, .null) := by decide +kernel
theorem gL_law_1026 {L : List (Option Value)} {a b : Int} {st : List Value} {H : HP} {Q : Option Value → HP → Prop} : Go 190 1026 L (vi b :: vi a :: st) H Q ↔ Go 190 1027 L (vi (a + b) :: st) H Q := G_iadd fL_law_1026
theorem fL_law_1027 : ft 190 1027 = some (.iaload, 0, 0, 0, .null) := by decide +kernel
theorem gL_law_1027 {L : List (Option Value)} {p : Nat} {a : Int} {st : List Value} {H : HP} {Q : Option Value → HP → Prop} : Go 190 1027 L (vi a :: .ref p :: st) H Q ↔ Rd (aJ' (hget H p) a) 190 1028 L st H Q := G_iald fL_law_1027
theorem fL_law_1028 : ft 190 1028 = some (.aload_n 0, 0, 0, 0, .null) := by decide +kernel
theorem gL_law_1028 {l1 l2 l3 : Option Value} {u : Nat} {st : List Value} {H : HP} {Q : Option Value → HP → Prop} : Go 190 1028 [some (.ref u), l1, l2, l3] st H Q ↔ Go 190 1029 [some (.ref u), l1, l2, l3] (.ref u :: st) H Q := G_aload_n fL_law_1028 rfl
theorem fL_law_1029 : ft 190 1029 = some (.iload_n 3, 0, 0, 0, .null) := by decide +kernel
theorem gL_law_1029 {l0 l1 l2 : Option Value} {u : Int32} {st : List Value} {H : HP} {Q : Option Value → HP → Prop} : Go 190 1029 [l0, l1, l2, some (.int u)] st H Q ↔ Go 190 1030 [l0, l1, l2, some (.int u)] (.int u :: st) H Q := G_iload_n fL_law_1029 rfl
theorem fL_law_1030 : ft 190 1030 = some (.iconst 2, 0, 0, 0, .null) := by decide +kernel
theorem gL_law_1030 {L : List (Option Value)} {st : List Value} {H : HP} {Q : Option Value → HP → Prop} : Go 190 1030 L st H Q ↔ Go 190 1031 L (vi 2 :: st) H Q := G_iconst fL_law_1030
theorem fL_law_1031 : ft 190 1031 = some (.iadd, 0, 0, 0, .null) := by decide +kernel
theorem gL_law_1031 {L : List (Option Value)} {a b : Int} {st : List Value} {H : HP} {Q : Option Value → HP → Prop} : Go 190 1031 L (vi b :: vi a :: st) H Q ↔ Go 190 1032 L (vi (a + b) :: st) H Q := G_iadd fL_law_1031
theorem fL_law_1032 : ft 190 1032 = some (.iaload, 0, 0, 0, .null) := by decide +kernel
theorem gL_law_1032 {L : List (Option Value)} {p : Nat} {a : Int} {st : List Value} {H : HP} {Q : Option Value → HP → Prop} : Go 190 1032 L (vi a :: .ref p :: st) H Q ↔ Rd (aJ' (hget H p) a) 190 1033 L st H Q := G_iald fL_law_1032
theorem fL_law_1033 : ft 190 1033 = some (.aload_n 0, 0, 0, 0, .null) := by decide +kernel
theorem gL_law_1033 {l1 l2 l3 : Option Value} {u : Nat} {st : List Value} {H : HP} {Q : Option Value → HP → Prop} : Go 190 1033 [some (.ref u), l1, l2, l3] st H Q ↔ Go 190 1034 [some (.ref u), l1, l2, l3] (.ref u :: st) H Q := G_aload_n fL_law_1033 rfl
theorem fL_law_1034 : ft 190 1034 = some (.iload_n 3, 0, 0, 0, .null) := by decide +kernel
theorem gL_law_1034 {l0 l1 l2 : Option Value} {u : Int32} {st : List Value} {H : HP} {Q : Option Value → HP → Prop} : Go 190 1034 [l0, l1, l2, some (.int u)] st H Q ↔ Go 190 1035 [l0, l1, l2, some (.int u)] (.int u :: st) H Q := G_iload_n fL_law_1034 rfl
theorem fL_law_1035 : ft 190 1035 = some (.iconst 3, 0, 0, 0, .null) := by decide +kernel
theorem gL_law_1035 {L : List (Option Value)} {st : List Value} {H : HP} {Q : Option Value → HP → Prop} : Go 190 1035 L st H Q ↔ Go 190 1036 L (vi 3 :: st) H Q := G_iconst fL_law_1035
theorem fL_law_1036 : ft 190 1036 = some (.iadd, 0, 0, 0, .null) := by decide +kernel
theorem gL_law_1036 {L : List (Option Value)} {a b : Int} {st : List Value} {H : HP} {Q : Option Value → HP → Prop} : Go 190 1036 L (vi b :: vi a :: st) H Q ↔ Go 190 1037 L (vi (a + b) :: st) H Q := G_iadd fL_law_1036
theorem fL_law_1037 : ft 190 1037 = some (.iaload, 0, 0, 0, .null) := by decide +kernel
theorem gL_law_1037 {L : List (Option Value)} {p : Nat} {a : Int} {st : List Value} {H : HP} {Q : Option Value → HP → Prop} : Go 190 1037 L (vi a :: .ref p :: st) H Q ↔ Rd (aJ' (hget H p) a) 190 1038 L st H Q := G_iald fL_law_1037
theorem fL_law_1038 : ft 190 1038 = some (.invokevirtual 118, 167, 0, 1032, .null) := by decide +kernel
theorem gL_law_1038 {L : List (Option Value)} {p : Nat} {a0 : Int32} {a1 : Int32} {a2 : Int32} {r0 : Int32} {H : HP} {Q : Option Value → HP → Prop} : Go 190 1038 L (.int a2 :: .int a1 :: .int a0 :: .ref p :: [.int r0]) H Q ↔ (iso 9 (hget H p) = true ∧ Go 167 0 [some (.ref p), some (.int a0), some (.int a1), some (.int a2), none, none, none, none, none, none, none, none, none] [] H (Cont 190 1041 L [.int r0] Q)) := G_cV (n := 3) (N := 13) (as := [.int a2, .int a1, .int a0]) (st := [.int r0]) fL_law_1038 (by decide +kernel) rfl (Nat.le_of_ble_eq_true rfl) (Nat.le_of_ble_eq_true rfl) rfl
theorem fL_law_1041 : ft 190 1041 = some (.if_icmp .eq 371, 0, 0, 0, .null) := by decide +kernel
theorem gL_law_1041T {L : List (Option Value)} {a b : Int} (c : (-2147483648 ≤ a ∧ a ≤ 2147483647 ∧ -2147483648 ≤ b ∧ b ≤ 2147483647) ∧ a = b) {st : List Value} {H : HP} {Q : Option Value → HP → Prop} : Go 190 1041 L (vi b :: vi a :: st) H Q ↔ Go 190 1412 L st H Q := G_icT fL_law_1041 (by decide) c
theorem gL_law_1041F {L : List (Option Value)} {a b : Int} (c : (-2147483648 ≤ a ∧ a ≤ 2147483647 ∧ -2147483648 ≤ b ∧ b ≤ 2147483647) ∧ ¬ (a = b)) {st : List Value} {H : HP} {Q : Option Value → HP → Prop} : Go 190 1041 L (vi b :: vi a :: st) H Q ↔ Go 190 1044 L st H Q := G_icF (tg := 1412) fL_law_1041 (by decide) c
theorem fL_law_1044 : ft 190 1044 = some (.iconst 0, 0, 0, 0, .null) := by decide +kernel
theorem gL_law_1044 {L : List (Option Value)} {st : List Value} {H : HP} {Q : Option Value → HP → Prop} : Go 190 1044 L st H Q ↔ Go 190 1045 L (vi 0 :: st) H Q := G_iconst fL_law_1044
theorem fL_law_1045 : ft 190 1045 = some (.ireturn, 0, 0, 0, .null) := by decide +kernel
theorem gL_law_1045 {L : List (Option Value)} {a : Int} (c : a = 0 ∨ a = 1) {H : HP} {Q : Option Value → HP → Prop} : Go 190 1045 L [vi a] H Q ↔ Q (some (vi a)) H := G_zret fL_law_1045 (by decide +kernel) c
theorem fL_law_1046 : ft 190 1046 = some (.aload_n 1, 0, 0, 0, .null) := by decide +kernel
theorem gL_law_1046 {l0 l2 l3 : Option Value} {u : Nat} {st : List Value} {H : HP} {Q : Option Value → HP → Prop} : Go 190 1046 [l0, some (.ref u), l2, l3] st H Q ↔ Go 190 1047 [l0, some (.ref u), l2, l3] (.ref u :: st) H Q := G_aload_n fL_law_1046 rfl
theorem gL_law_1046N {l0 l2 l3 : Option Value} {st : List Value} {H : HP} {Q : Option Value → HP → Prop} : Go 190 1046 [l0, some .null, l2, l3] st H Q ↔ Go 190 1047 [l0, some .null, l2, l3] (.null :: st) H Q := G_aload_nN fL_law_1046 rfl
theorem fL_law_1047 : ft 190 1047 = some (.aload_n 0, 0, 0, 0, .null) := by decide +kernel
theorem gL_law_1047 {l1 l2 l3 : Option Value} {u : Nat} {st : List Value} {H : HP} {Q : Option Value → HP → Prop} : Go 190 1047 [some (.ref u), l1, l2, l3] st H Q ↔ Go 190 1048 [some (.ref u), l1, l2, l3] (.ref u :: st) H Q := G_aload_n fL_law_1047 rfl
theorem fL_law_1048 : ft 190 1048 = some (.iload_n 3, 0, 0, 0, .null) := by decide +kernel
theorem gL_law_1048 {l0 l1 l2 : Option Value} {u : Int32} {st : List Value} {H : HP} {Q : Option Value → HP → Prop} : Go 190 1048 [l0, l1, l2, some (.int u)] st H Q ↔ Go 190 1049 [l0, l1, l2, some (.int u)] (.int u :: st) H Q := G_iload_n fL_law_1048 rfl
theorem fL_law_1049 : ft 190 1049 = some (.iconst 1, 0, 0, 0, .null) := by decide +kernel
theorem gL_law_1049 {L : List (Option Value)} {st : List Value} {H : HP} {Q : Option Value → HP → Prop} : Go 190 1049 L st H Q ↔ Go 190 1050 L (vi 1 :: st) H Q := G_iconst fL_law_1049
theorem fL_law_1050 : ft 190 1050 = some (.iadd, 0, 0, 0, .null) := by decide +kernel
theorem gL_law_1050 {L : List (Option Value)} {a b : Int} {st : List Value} {H : HP} {Q : Option Value → HP → Prop} : Go 190 1050 L (vi b :: vi a :: st) H Q ↔ Go 190 1051 L (vi (a + b) :: st) H Q := G_iadd fL_law_1050
theorem fL_law_1051 : ft 190 1051 = some (.iaload, 0, 0, 0, .null) := by decide +kernel
theorem gL_law_1051 {L : List (Option Value)} {p : Nat} {a : Int} {st : List Value} {H : HP} {Q : Option Value → HP → Prop} : Go 190 1051 L (vi a :: .ref p :: st) H Q ↔ Rd (aJ' (hget H p) a) 190 1052 L st H Q := G_iald fL_law_1051
theorem fL_law_1052 : ft 190 1052 = some (.aload_n 0, 0, 0, 0, .null) := by decide +kernel
theorem gL_law_1052 {l1 l2 l3 : Option Value} {u : Nat} {st : List Value} {H : HP} {Q : Option Value → HP → Prop} : Go 190 1052 [some (.ref u), l1, l2, l3] st H Q ↔ Go 190 1053 [some (.ref u), l1, l2, l3] (.ref u :: st) H Q := G_aload_n fL_law_1052 rfl
theorem fL_law_1053 : ft 190 1053 = some (.iload_n 3, 0, 0, 0, .null) := by decide +kernel
theorem gL_law_1053 {l0 l1 l2 : Option Value} {u : Int32} {st : List Value} {H : HP} {Q : Option Value → HP → Prop} : Go 190 1053 [l0, l1, l2, some (.int u)] st H Q ↔ Go 190 1054 [l0, l1, l2, some (.int u)] (.int u :: st) H Q := G_iload_n fL_law_1053 rfl
theorem fL_law_1054 : ft 190 1054 = some (.iconst 2, 0, 0, 0, .null) := by decide +kernel
theorem gL_law_1054 {L : List (Option Value)} {st : List Value} {H : HP} {Q : Option Value → HP → Prop} : Go 190 1054 L st H Q ↔ Go 190 1055 L (vi 2 :: st) H Q := G_iconst fL_law_1054
theorem fL_law_1055 : ft 190 1055 = some (.iadd, 0, 0, 0, .null) := by decide +kernel
theorem gL_law_1055 {L : List (Option Value)} {a b : Int} {st : List Value} {H : HP} {Q : Option Value → HP → Prop} : Go 190 1055 L (vi b :: vi a :: st) H Q ↔ Go 190 1056 L (vi (a + b) :: st) H Q := G_iadd fL_law_1055
theorem fL_law_1056 : ft 190 1056 = some (.iaload, 0, 0, 0, .null) := by decide +kernel
theorem gL_law_1056 {L : List (Option Value)} {p : Nat} {a : Int} {st : List Value} {H : HP} {Q : Option Value → HP → Prop} : Go 190 1056 L (vi a :: .ref p :: st) H Q ↔ Rd (aJ' (hget H p) a) 190 1057 L st H Q := G_iald fL_law_1056
theorem fL_law_1057 : ft 190 1057 = some (.aload_n 0, 0, 0, 0, .null) := by decide +kernel
theorem gL_law_1057 {l1 l2 l3 : Option Value} {u : Nat} {st : List Value} {H : HP} {Q : Option Value → HP → Prop} : Go 190 1057 [some (.ref u), l1, l2, l3] st H Q ↔ Go 190 1058 [some (.ref u), l1, l2, l3] (.ref u :: st) H Q := G_aload_n fL_law_1057 rfl
theorem fL_law_1058 : ft 190 1058 = some (.iload_n 3, 0, 0, 0, .null) := by decide +kernel
theorem gL_law_1058 {l0 l1 l2 : Option Value} {u : Int32} {st : List Value} {H : HP} {Q : Option Value → HP → Prop} : Go 190 1058 [l0, l1, l2, some (.int u)] st H Q ↔ Go 190 1059 [l0, l1, l2, some (.int u)] (.int u :: st) H Q := G_iload_n fL_law_1058 rfl
theorem fL_law_1059 : ft 190 1059 = some (.iconst 3, 0, 0, 0, .null) := by decide +kernel
theorem gL_law_1059 {L : List (Option Value)} {st : List Value} {H : HP} {Q : Option Value → HP → Prop} : Go 190 1059 L st H Q ↔ Go 190 1060 L (vi 3 :: st) H Q := G_iconst fL_law_1059
theorem fL_law_1060 : ft 190 1060 = some (.iadd, 0, 0, 0, .null) := by decide +kernel
theorem gL_law_1060 {L : List (Option Value)} {a b : Int} {st : List Value} {H : HP} {Q : Option Value → HP → Prop} : Go 190 1060 L (vi b :: vi a :: st) H Q ↔ Go 190 1061 L (vi (a + b) :: st) H Q := G_iadd fL_law_1060
theorem fL_law_1061 : ft 190 1061 = some (.iaload, 0, 0, 0, .null) := by decide +kernel
theorem gL_law_1061 {L : List (Option Value)} {p : Nat} {a : Int} {st : List Value} {H : HP} {Q : Option Value → HP → Prop} : Go 190 1061 L (vi a :: .ref p :: st) H Q ↔ Rd (aJ' (hget H p) a) 190 1062 L st H Q := G_iald fL_law_1061
theorem fL_law_1062 : ft 190 1062 = some (.invokevirtual 119, 94, 0, 618, .null) := by decide +kernel
theorem gL_law_1062 {L : List (Option Value)} {p : Nat} {a0 : Int32} {a1 : Int32} {a2 : Int32}  {H : HP} {Q : Option Value → HP → Prop} : Go 190 1062 L (.int a2 :: .int a1 :: .int a0 :: .ref p :: []) H Q ↔ (iso 8 (hget H p) = true ∧ Go 94 0 [some (.ref p), some (.int a0), some (.int a1), some (.int a2), none, none, none] [] H (Cont 190 1065 L [] Q)) := G_cV (n := 3) (N := 7) (as := [.int a2, .int a1, .int a0]) (st := []) fL_law_1062 (by decide +kernel) rfl (Nat.le_of_ble_eq_true rfl) (Nat.le_of_ble_eq_true rfl) rfl
theorem fL_law_1065 : ft 190 1065 = some (.aload_n 2, 0, 0, 0, .null) := by decide +kernel
theorem gL_law_1065 {l0 l1 l3 : Option Value} {u : Nat} {st : List Value} {H : HP} {Q : Option Value → HP → Prop} : Go 190 1065 [l0, l1, some (.ref u), l3] st H Q ↔ Go 190 1066 [l0, l1, some (.ref u), l3] (.ref u :: st) H Q := G_aload_n fL_law_1065 rfl
theorem gL_law_1065N {l0 l1 l3 : Option Value} {st : List Value} {H : HP} {Q : Option Value → HP → Prop} : Go 190 1065 [l0, l1, some .null, l3] st H Q ↔ Go 190 1066 [l0, l1, some .null, l3] (.null :: st) H Q := G_aload_nN fL_law_1065 rfl
theorem fL_law_1066 : ft 190 1066 = some (.aload_n 0, 0, 0, 0, .null) := by decide +kernel
theorem gL_law_1066 {l1 l2 l3 : Option Value} {u : Nat} {st : List Value} {H : HP} {Q : Option Value → HP → Prop} : Go 190 1066 [some (.ref u), l1, l2, l3] st H Q ↔ Go 190 1067 [some (.ref u), l1, l2, l3] (.ref u :: st) H Q := G_aload_n fL_law_1066 rfl
theorem fL_law_1067 : ft 190 1067 = some (.iload_n 3, 0, 0, 0, .null) := by decide +kernel
theorem gL_law_1067 {l0 l1 l2 : Option Value} {u : Int32} {st : List Value} {H : HP} {Q : Option Value → HP → Prop} : Go 190 1067 [l0, l1, l2, some (.int u)] st H Q ↔ Go 190 1068 [l0, l1, l2, some (.int u)] (.int u :: st) H Q := G_iload_n fL_law_1067 rfl
theorem fL_law_1068 : ft 190 1068 = some (.iconst 1, 0, 0, 0, .null) := by decide +kernel
theorem gL_law_1068 {L : List (Option Value)} {st : List Value} {H : HP} {Q : Option Value → HP → Prop} : Go 190 1068 L st H Q ↔ Go 190 1069 L (vi 1 :: st) H Q := G_iconst fL_law_1068
theorem fL_law_1069 : ft 190 1069 = some (.iadd, 0, 0, 0, .null) := by decide +kernel
theorem gL_law_1069 {L : List (Option Value)} {a b : Int} {st : List Value} {H : HP} {Q : Option Value → HP → Prop} : Go 190 1069 L (vi b :: vi a :: st) H Q ↔ Go 190 1070 L (vi (a + b) :: st) H Q := G_iadd fL_law_1069
theorem fL_law_1070 : ft 190 1070 = some (.iaload, 0, 0, 0, .null) := by decide +kernel
theorem gL_law_1070 {L : List (Option Value)} {p : Nat} {a : Int} {st : List Value} {H : HP} {Q : Option Value → HP → Prop} : Go 190 1070 L (vi a :: .ref p :: st) H Q ↔ Rd (aJ' (hget H p) a) 190 1071 L st H Q := G_iald fL_law_1070
theorem fL_law_1071 : ft 190 1071 = some (.aload_n 0, 0, 0, 0, .null) := by decide +kernel
theorem gL_law_1071 {l1 l2 l3 : Option Value} {u : Nat} {st : List Value} {H : HP} {Q : Option Value → HP → Prop} : Go 190 1071 [some (.ref u), l1, l2, l3] st H Q ↔ Go 190 1072 [some (.ref u), l1, l2, l3] (.ref u :: st) H Q := G_aload_n fL_law_1071 rfl
theorem fL_law_1072 : ft 190 1072 = some (.iload_n 3, 0, 0, 0, .null) := by decide +kernel
theorem gL_law_1072 {l0 l1 l2 : Option Value} {u : Int32} {st : List Value} {H : HP} {Q : Option Value → HP → Prop} : Go 190 1072 [l0, l1, l2, some (.int u)] st H Q ↔ Go 190 1073 [l0, l1, l2, some (.int u)] (.int u :: st) H Q := G_iload_n fL_law_1072 rfl
theorem fL_law_1073 : ft 190 1073 = some (.iconst 2, 0, 0, 0, .null) := by decide +kernel
theorem gL_law_1073 {L : List (Option Value)} {st : List Value} {H : HP} {Q : Option Value → HP → Prop} : Go 190 1073 L st H Q ↔ Go 190 1074 L (vi 2 :: st) H Q := G_iconst fL_law_1073
theorem fL_law_1074 : ft 190 1074 = some (.iadd, 0, 0, 0, .null) := by decide +kernel
theorem gL_law_1074 {L : List (Option Value)} {a b : Int} {st : List Value} {H : HP} {Q : Option Value → HP → Prop} : Go 190 1074 L (vi b :: vi a :: st) H Q ↔ Go 190 1075 L (vi (a + b) :: st) H Q := G_iadd fL_law_1074
theorem fL_law_1075 : ft 190 1075 = some (.iaload, 0, 0, 0, .null) := by decide +kernel
theorem gL_law_1075 {L : List (Option Value)} {p : Nat} {a : Int} {st : List Value} {H : HP} {Q : Option Value → HP → Prop} : Go 190 1075 L (vi a :: .ref p :: st) H Q ↔ Rd (aJ' (hget H p) a) 190 1076 L st H Q := G_iald fL_law_1075
theorem fL_law_1076 : ft 190 1076 = some (.aload_n 0, 0, 0, 0, .null) := by decide +kernel
theorem gL_law_1076 {l1 l2 l3 : Option Value} {u : Nat} {st : List Value} {H : HP} {Q : Option Value → HP → Prop} : Go 190 1076 [some (.ref u), l1, l2, l3] st H Q ↔ Go 190 1077 [some (.ref u), l1, l2, l3] (.ref u :: st) H Q := G_aload_n fL_law_1076 rfl
theorem fL_law_1077 : ft 190 1077 = some (.iload_n 3, 0, 0, 0, .null) := by decide +kernel
theorem gL_law_1077 {l0 l1 l2 : Option Value} {u : Int32} {st : List Value} {H : HP} {Q : Option Value → HP → Prop} : Go 190 1077 [l0, l1, l2, some (.int u)] st H Q ↔ Go 190 1078 [l0, l1, l2, some (.int u)] (.int u :: st) H Q := G_iload_n fL_law_1077 rfl
theorem fL_law_1078 : ft 190 1078 = some (.iconst 3, 0, 0, 0, .null) := by decide +kernel
theorem gL_law_1078 {L : List (Option Value)} {st : List Value} {H : HP} {Q : Option Value → HP → Prop} : Go 190 1078 L st H Q ↔ Go 190 1079 L (vi 3 :: st) H Q := G_iconst fL_law_1078
theorem fL_law_1079 : ft 190 1079 = some (.iadd, 0, 0, 0, .null) := by decide +kernel
theorem gL_law_1079 {L : List (Option Value)} {a b : Int} {st : List Value} {H : HP} {Q : Option Value → HP → Prop} : Go 190 1079 L (vi b :: vi a :: st) H Q ↔ Go 190 1080 L (vi (a + b) :: st) H Q := G_iadd fL_law_1079
theorem fL_law_1080 : ft 190 1080 = some (.iaload, 0, 0, 0, .null) := by decide +kernel
theorem gL_law_1080 {L : List (Option Value)} {p : Nat} {a : Int} {st : List Value} {H : HP} {Q : Option Value → HP → Prop} : Go 190 1080 L (vi a :: .ref p :: st) H Q ↔ Rd (aJ' (hget H p) a) 190 1081 L st H Q := G_iald fL_law_1080
theorem fL_law_1081 : ft 190 1081 = some (.invokevirtual 122, 168, 0, 1036, .null) := by decide +kernel
theorem gL_law_1081 {L : List (Option Value)} {p : Nat} {a0 : Int32} {a1 : Int32} {a2 : Int32} {r0 : Int32} {H : HP} {Q : Option Value → HP → Prop} : Go 190 1081 L (.int a2 :: .int a1 :: .int a0 :: .ref p :: [.int r0]) H Q ↔ (iso 9 (hget H p) = true ∧ Go 168 0 [some (.ref p), some (.int a0), some (.int a1), some (.int a2), none, none, none, none, none, none, none, none, none, none, none] [] H (Cont 190 1084 L [.int r0] Q)) := G_cV (n := 3) (N := 15) (as := [.int a2, .int a1, .int a0]) (st := [.int r0]) fL_law_1081 (by decide +kernel) rfl (Nat.le_of_ble_eq_true rfl) (Nat.le_of_ble_eq_true rfl) rfl
theorem fL_law_1084 : ft 190 1084 = some (.if_icmp .eq 328, 0, 0, 0, .null) := by decide +kernel
theorem gL_law_1084T {L : List (Option Value)} {a b : Int} (c : (-2147483648 ≤ a ∧ a ≤ 2147483647 ∧ -2147483648 ≤ b ∧ b ≤ 2147483647) ∧ a = b) {st : List Value} {H : HP} {Q : Option Value → HP → Prop} : Go 190 1084 L (vi b :: vi a :: st) H Q ↔ Go 190 1412 L st H Q := G_icT fL_law_1084 (by decide) c
theorem gL_law_1084F {L : List (Option Value)} {a b : Int} (c : (-2147483648 ≤ a ∧ a ≤ 2147483647 ∧ -2147483648 ≤ b ∧ b ≤ 2147483647) ∧ ¬ (a = b)) {st : List Value} {H : HP} {Q : Option Value → HP → Prop} : Go 190 1084 L (vi b :: vi a :: st) H Q ↔ Go 190 1087 L st H Q := G_icF (tg := 1412) fL_law_1084 (by decide) c
theorem fL_law_1087 : ft 190 1087 = some (.iconst 0, 0, 0, 0, .null) := by decide +kernel
theorem gL_law_1087 {L : List (Option Value)} {st : List Value} {H : HP} {Q : Option Value → HP → Prop} : Go 190 1087 L st H Q ↔ Go 190 1088 L (vi 0 :: st) H Q := G_iconst fL_law_1087
theorem fL_law_1088 : ft 190 1088 = some (.ireturn, 0, 0, 0, .null) := by decide +kernel
theorem gL_law_1088 {L : List (Option Value)} {a : Int} (c : a = 0 ∨ a = 1) {H : HP} {Q : Option Value → HP → Prop} : Go 190 1088 L [vi a] H Q ↔ Q (some (vi a)) H := G_zret fL_law_1088 (by decide +kernel) c
theorem fL_law_1089 : ft 190 1089 = some (.aload_n 1, 0, 0, 0, .null) := by decide +kernel
theorem gL_law_1089 {l0 l2 l3 : Option Value} {u : Nat} {st : List Value} {H : HP} {Q : Option Value → HP → Prop} : Go 190 1089 [l0, some (.ref u), l2, l3] st H Q ↔ Go 190 1090 [l0, some (.ref u), l2, l3] (.ref u :: st) H Q := G_aload_n fL_law_1089 rfl
theorem gL_law_1089N {l0 l2 l3 : Option Value} {st : List Value} {H : HP} {Q : Option Value → HP → Prop} : Go 190 1089 [l0, some .null, l2, l3] st H Q ↔ Go 190 1090 [l0, some .null, l2, l3] (.null :: st) H Q := G_aload_nN fL_law_1089 rfl
theorem fL_law_1090 : ft 190 1090 = some (.aload_n 0, 0, 0, 0, .null) := by decide +kernel
theorem gL_law_1090 {l1 l2 l3 : Option Value} {u : Nat} {st : List Value} {H : HP} {Q : Option Value → HP → Prop} : Go 190 1090 [some (.ref u), l1, l2, l3] st H Q ↔ Go 190 1091 [some (.ref u), l1, l2, l3] (.ref u :: st) H Q := G_aload_n fL_law_1090 rfl
theorem fL_law_1091 : ft 190 1091 = some (.iload_n 3, 0, 0, 0, .null) := by decide +kernel
theorem gL_law_1091 {l0 l1 l2 : Option Value} {u : Int32} {st : List Value} {H : HP} {Q : Option Value → HP → Prop} : Go 190 1091 [l0, l1, l2, some (.int u)] st H Q ↔ Go 190 1092 [l0, l1, l2, some (.int u)] (.int u :: st) H Q := G_iload_n fL_law_1091 rfl
theorem fL_law_1092 : ft 190 1092 = some (.iconst 1, 0, 0, 0, .null) := by decide +kernel
theorem gL_law_1092 {L : List (Option Value)} {st : List Value} {H : HP} {Q : Option Value → HP → Prop} : Go 190 1092 L st H Q ↔ Go 190 1093 L (vi 1 :: st) H Q := G_iconst fL_law_1092
theorem fL_law_1093 : ft 190 1093 = some (.iadd, 0, 0, 0, .null) := by decide +kernel
theorem gL_law_1093 {L : List (Option Value)} {a b : Int} {st : List Value} {H : HP} {Q : Option Value → HP → Prop} : Go 190 1093 L (vi b :: vi a :: st) H Q ↔ Go 190 1094 L (vi (a + b) :: st) H Q := G_iadd fL_law_1093
theorem fL_law_1094 : ft 190 1094 = some (.iaload, 0, 0, 0, .null) := by decide +kernel
theorem gL_law_1094 {L : List (Option Value)} {p : Nat} {a : Int} {st : List Value} {H : HP} {Q : Option Value → HP → Prop} : Go 190 1094 L (vi a :: .ref p :: st) H Q ↔ Rd (aJ' (hget H p) a) 190 1095 L st H Q := G_iald fL_law_1094
theorem fL_law_1095 : ft 190 1095 = some (.aload_n 0, 0, 0, 0, .null) := by decide +kernel
theorem gL_law_1095 {l1 l2 l3 : Option Value} {u : Nat} {st : List Value} {H : HP} {Q : Option Value → HP → Prop} : Go 190 1095 [some (.ref u), l1, l2, l3] st H Q ↔ Go 190 1096 [some (.ref u), l1, l2, l3] (.ref u :: st) H Q := G_aload_n fL_law_1095 rfl
theorem fL_law_1096 : ft 190 1096 = some (.iload_n 3, 0, 0, 0, .null) := by decide +kernel
theorem gL_law_1096 {l0 l1 l2 : Option Value} {u : Int32} {st : List Value} {H : HP} {Q : Option Value → HP → Prop} : Go 190 1096 [l0, l1, l2, some (.int u)] st H Q ↔ Go 190 1097 [l0, l1, l2, some (.int u)] (.int u :: st) H Q := G_iload_n fL_law_1096 rfl
theorem fL_law_1097 : ft 190 1097 = some (.iconst 2, 0, 0, 0, .null) := by decide +kernel
theorem gL_law_1097 {L : List (Option Value)} {st : List Value} {H : HP} {Q : Option Value → HP → Prop} : Go 190 1097 L st H Q ↔ Go 190 1098 L (vi 2 :: st) H Q := G_iconst fL_law_1097
theorem fL_law_1098 : ft 190 1098 = some (.iadd, 0, 0, 0, .null) := by decide +kernel
theorem gL_law_1098 {L : List (Option Value)} {a b : Int} {st : List Value} {H : HP} {Q : Option Value → HP → Prop} : Go 190 1098 L (vi b :: vi a :: st) H Q ↔ Go 190 1099 L (vi (a + b) :: st) H Q := G_iadd fL_law_1098
theorem fL_law_1099 : ft 190 1099 = some (.iaload, 0, 0, 0, .null) := by decide +kernel
theorem gL_law_1099 {L : List (Option Value)} {p : Nat} {a : Int} {st : List Value} {H : HP} {Q : Option Value → HP → Prop} : Go 190 1099 L (vi a :: .ref p :: st) H Q ↔ Rd (aJ' (hget H p) a) 190 1100 L st H Q := G_iald fL_law_1099
theorem fL_law_1100 : ft 190 1100 = some (.aload_n 0, 0, 0, 0, .null) := by decide +kernel
theorem gL_law_1100 {l1 l2 l3 : Option Value} {u : Nat} {st : List Value} {H : HP} {Q : Option Value → HP → Prop} : Go 190 1100 [some (.ref u), l1, l2, l3] st H Q ↔ Go 190 1101 [some (.ref u), l1, l2, l3] (.ref u :: st) H Q := G_aload_n fL_law_1100 rfl
theorem fL_law_1101 : ft 190 1101 = some (.iload_n 3, 0, 0, 0, .null) := by decide +kernel
theorem gL_law_1101 {l0 l1 l2 : Option Value} {u : Int32} {st : List Value} {H : HP} {Q : Option Value → HP → Prop} : Go 190 1101 [l0, l1, l2, some (.int u)] st H Q ↔ Go 190 1102 [l0, l1, l2, some (.int u)] (.int u :: st) H Q := G_iload_n fL_law_1101 rfl
theorem fL_law_1102 : ft 190 1102 = some (.iconst 3, 0, 0, 0, .null) := by decide +kernel
theorem gL_law_1102 {L : List (Option Value)} {st : List Value} {H : HP} {Q : Option Value → HP → Prop} : Go 190 1102 L st H Q ↔ Go 190 1103 L (vi 3 :: st) H Q := G_iconst fL_law_1102
theorem fL_law_1103 : ft 190 1103 = some (.iadd, 0, 0, 0, .null) := by decide +kernel
theorem gL_law_1103 {L : List (Option Value)} {a b : Int} {st : List Value} {H : HP} {Q : Option Value → HP → Prop} : Go 190 1103 L (vi b :: vi a :: st) H Q ↔ Go 190 1104 L (vi (a + b) :: st) H Q := G_iadd fL_law_1103
theorem fL_law_1104 : ft 190 1104 = some (.iaload, 0, 0, 0, .null) := by decide +kernel
theorem gL_law_1104 {L : List (Option Value)} {p : Nat} {a : Int} {st : List Value} {H : HP} {Q : Option Value → HP → Prop} : Go 190 1104 L (vi a :: .ref p :: st) H Q ↔ Rd (aJ' (hget H p) a) 190 1105 L st H Q := G_iald fL_law_1104
theorem fL_law_1105 : ft 190 1105 = some (.invokevirtual 123, 95, 0, 631, .null) := by decide +kernel
theorem gL_law_1105 {L : List (Option Value)} {p : Nat} {a0 : Int32} {a1 : Int32} {a2 : Int32}  {H : HP} {Q : Option Value → HP → Prop} : Go 190 1105 L (.int a2 :: .int a1 :: .int a0 :: .ref p :: []) H Q ↔ (iso 8 (hget H p) = true ∧ Go 95 0 [some (.ref p), some (.int a0), some (.int a1), some (.int a2), none, none] [] H (Cont 190 1108 L [] Q)) := G_cV (n := 3) (N := 6) (as := [.int a2, .int a1, .int a0]) (st := []) fL_law_1105 (by decide +kernel) rfl (Nat.le_of_ble_eq_true rfl) (Nat.le_of_ble_eq_true rfl) rfl
theorem fL_law_1108 : ft 190 1108 = some (.aload_n 2, 0, 0, 0, .null) := by decide +kernel
theorem gL_law_1108 {l0 l1 l3 : Option Value} {u : Nat} {st : List Value} {H : HP} {Q : Option Value → HP → Prop} : Go 190 1108 [l0, l1, some (.ref u), l3] st H Q ↔ Go 190 1109 [l0, l1, some (.ref u), l3] (.ref u :: st) H Q := G_aload_n fL_law_1108 rfl
theorem gL_law_1108N {l0 l1 l3 : Option Value} {st : List Value} {H : HP} {Q : Option Value → HP → Prop} : Go 190 1108 [l0, l1, some .null, l3] st H Q ↔ Go 190 1109 [l0, l1, some .null, l3] (.null :: st) H Q := G_aload_nN fL_law_1108 rfl
theorem fL_law_1109 : ft 190 1109 = some (.aload_n 0, 0, 0, 0, .null) := by decide +kernel
theorem gL_law_1109 {l1 l2 l3 : Option Value} {u : Nat} {st : List Value} {H : HP} {Q : Option Value → HP → Prop} : Go 190 1109 [some (.ref u), l1, l2, l3] st H Q ↔ Go 190 1110 [some (.ref u), l1, l2, l3] (.ref u :: st) H Q := G_aload_n fL_law_1109 rfl
theorem fL_law_1110 : ft 190 1110 = some (.iload_n 3, 0, 0, 0, .null) := by decide +kernel
theorem gL_law_1110 {l0 l1 l2 : Option Value} {u : Int32} {st : List Value} {H : HP} {Q : Option Value → HP → Prop} : Go 190 1110 [l0, l1, l2, some (.int u)] st H Q ↔ Go 190 1111 [l0, l1, l2, some (.int u)] (.int u :: st) H Q := G_iload_n fL_law_1110 rfl
theorem fL_law_1111 : ft 190 1111 = some (.iconst 1, 0, 0, 0, .null) := by decide +kernel
theorem gL_law_1111 {L : List (Option Value)} {st : List Value} {H : HP} {Q : Option Value → HP → Prop} : Go 190 1111 L st H Q ↔ Go 190 1112 L (vi 1 :: st) H Q := G_iconst fL_law_1111
theorem fL_law_1112 : ft 190 1112 = some (.iadd, 0, 0, 0, .null) := by decide +kernel
theorem gL_law_1112 {L : List (Option Value)} {a b : Int} {st : List Value} {H : HP} {Q : Option Value → HP → Prop} : Go 190 1112 L (vi b :: vi a :: st) H Q ↔ Go 190 1113 L (vi (a + b) :: st) H Q := G_iadd fL_law_1112
theorem fL_law_1113 : ft 190 1113 = some (.iaload, 0, 0, 0, .null) := by decide +kernel
theorem gL_law_1113 {L : List (Option Value)} {p : Nat} {a : Int} {st : List Value} {H : HP} {Q : Option Value → HP → Prop} : Go 190 1113 L (vi a :: .ref p :: st) H Q ↔ Rd (aJ' (hget H p) a) 190 1114 L st H Q := G_iald fL_law_1113
theorem fL_law_1114 : ft 190 1114 = some (.aload_n 0, 0, 0, 0, .null) := by decide +kernel
theorem gL_law_1114 {l1 l2 l3 : Option Value} {u : Nat} {st : List Value} {H : HP} {Q : Option Value → HP → Prop} : Go 190 1114 [some (.ref u), l1, l2, l3] st H Q ↔ Go 190 1115 [some (.ref u), l1, l2, l3] (.ref u :: st) H Q := G_aload_n fL_law_1114 rfl
theorem fL_law_1115 : ft 190 1115 = some (.iload_n 3, 0, 0, 0, .null) := by decide +kernel
theorem gL_law_1115 {l0 l1 l2 : Option Value} {u : Int32} {st : List Value} {H : HP} {Q : Option Value → HP → Prop} : Go 190 1115 [l0, l1, l2, some (.int u)] st H Q ↔ Go 190 1116 [l0, l1, l2, some (.int u)] (.int u :: st) H Q := G_iload_n fL_law_1115 rfl
theorem fL_law_1116 : ft 190 1116 = some (.iconst 2, 0, 0, 0, .null) := by decide +kernel
theorem gL_law_1116 {L : List (Option Value)} {st : List Value} {H : HP} {Q : Option Value → HP → Prop} : Go 190 1116 L st H Q ↔ Go 190 1117 L (vi 2 :: st) H Q := G_iconst fL_law_1116
theorem fL_law_1117 : ft 190 1117 = some (.iadd, 0, 0, 0, .null) := by decide +kernel
theorem gL_law_1117 {L : List (Option Value)} {a b : Int} {st : List Value} {H : HP} {Q : Option Value → HP → Prop} : Go 190 1117 L (vi b :: vi a :: st) H Q ↔ Go 190 1118 L (vi (a + b) :: st) H Q := G_iadd fL_law_1117
theorem fL_law_1118 : ft 190 1118 = some (.iaload, 0, 0, 0, .null) := by decide +kernel
theorem gL_law_1118 {L : List (Option Value)} {p : Nat} {a : Int} {st : List Value} {H : HP} {Q : Option Value → HP → Prop} : Go 190 1118 L (vi a :: .ref p :: st) H Q ↔ Rd (aJ' (hget H p) a) 190 1119 L st H Q := G_iald fL_law_1118
theorem fL_law_1119 : ft 190 1119 = some (.aload_n 0, 0, 0, 0, .null) := by decide +kernel
theorem gL_law_1119 {l1 l2 l3 : Option Value} {u : Nat} {st : List Value} {H : HP} {Q : Option Value → HP → Prop} : Go 190 1119 [some (.ref u), l1, l2, l3] st H Q ↔ Go 190 1120 [some (.ref u), l1, l2, l3] (.ref u :: st) H Q := G_aload_n fL_law_1119 rfl
theorem fL_law_1120 : ft 190 1120 = some (.iload_n 3, 0, 0, 0, .null) := by decide +kernel
theorem gL_law_1120 {l0 l1 l2 : Option Value} {u : Int32} {st : List Value} {H : HP} {Q : Option Value → HP → Prop} : Go 190 1120 [l0, l1, l2, some (.int u)] st H Q ↔ Go 190 1121 [l0, l1, l2, some (.int u)] (.int u :: st) H Q := G_iload_n fL_law_1120 rfl
theorem fL_law_1121 : ft 190 1121 = some (.iconst 3, 0, 0, 0, .null) := by decide +kernel
theorem gL_law_1121 {L : List (Option Value)} {st : List Value} {H : HP} {Q : Option Value → HP → Prop} : Go 190 1121 L st H Q ↔ Go 190 1122 L (vi 3 :: st) H Q := G_iconst fL_law_1121
theorem fL_law_1122 : ft 190 1122 = some (.iadd, 0, 0, 0, .null) := by decide +kernel
theorem gL_law_1122 {L : List (Option Value)} {a b : Int} {st : List Value} {H : HP} {Q : Option Value → HP → Prop} : Go 190 1122 L (vi b :: vi a :: st) H Q ↔ Go 190 1123 L (vi (a + b) :: st) H Q := G_iadd fL_law_1122
theorem fL_law_1123 : ft 190 1123 = some (.iaload, 0, 0, 0, .null) := by decide +kernel
theorem gL_law_1123 {L : List (Option Value)} {p : Nat} {a : Int} {st : List Value} {H : HP} {Q : Option Value → HP → Prop} : Go 190 1123 L (vi a :: .ref p :: st) H Q ↔ Rd (aJ' (hget H p) a) 190 1124 L st H Q := G_iald fL_law_1123
theorem fL_law_1124 : ft 190 1124 = some (.invokevirtual 126, 169, 0, 1044, .null) := by decide +kernel
theorem gL_law_1124 {L : List (Option Value)} {p : Nat} {a0 : Int32} {a1 : Int32} {a2 : Int32} {r0 : Int32} {H : HP} {Q : Option Value → HP → Prop} : Go 190 1124 L (.int a2 :: .int a1 :: .int a0 :: .ref p :: [.int r0]) H Q ↔ (iso 9 (hget H p) = true ∧ Go 169 0 [some (.ref p), some (.int a0), some (.int a1), some (.int a2), none, none, none, none, none, none, none] [] H (Cont 190 1127 L [.int r0] Q)) := G_cV (n := 3) (N := 11) (as := [.int a2, .int a1, .int a0]) (st := [.int r0]) fL_law_1124 (by decide +kernel) rfl (Nat.le_of_ble_eq_true rfl) (Nat.le_of_ble_eq_true rfl) rfl
theorem fL_law_1127 : ft 190 1127 = some (.if_icmp .eq 285, 0, 0, 0, .null) := by decide +kernel
theorem gL_law_1127T {L : List (Option Value)} {a b : Int} (c : (-2147483648 ≤ a ∧ a ≤ 2147483647 ∧ -2147483648 ≤ b ∧ b ≤ 2147483647) ∧ a = b) {st : List Value} {H : HP} {Q : Option Value → HP → Prop} : Go 190 1127 L (vi b :: vi a :: st) H Q ↔ Go 190 1412 L st H Q := G_icT fL_law_1127 (by decide) c
theorem gL_law_1127F {L : List (Option Value)} {a b : Int} (c : (-2147483648 ≤ a ∧ a ≤ 2147483647 ∧ -2147483648 ≤ b ∧ b ≤ 2147483647) ∧ ¬ (a = b)) {st : List Value} {H : HP} {Q : Option Value → HP → Prop} : Go 190 1127 L (vi b :: vi a :: st) H Q ↔ Go 190 1130 L st H Q := G_icF (tg := 1412) fL_law_1127 (by decide) c
theorem fL_law_1130 : ft 190 1130 = some (.iconst 0, 0, 0, 0, .null) := by decide +kernel
theorem gL_law_1130 {L : List (Option Value)} {st : List Value} {H : HP} {Q : Option Value → HP → Prop} : Go 190 1130 L st H Q ↔ Go 190 1131 L (vi 0 :: st) H Q := G_iconst fL_law_1130
theorem fL_law_1131 : ft 190 1131 = some (.ireturn, 0, 0, 0, .null) := by decide +kernel
theorem gL_law_1131 {L : List (Option Value)} {a : Int} (c : a = 0 ∨ a = 1) {H : HP} {Q : Option Value → HP → Prop} : Go 190 1131 L [vi a] H Q ↔ Q (some (vi a)) H := G_zret fL_law_1131 (by decide +kernel) c
theorem fL_law_1132 : ft 190 1132 = some (.aload_n 1, 0, 0, 0, .null) := by decide +kernel
theorem gL_law_1132 {l0 l2 l3 : Option Value} {u : Nat} {st : List Value} {H : HP} {Q : Option Value → HP → Prop} : Go 190 1132 [l0, some (.ref u), l2, l3] st H Q ↔ Go 190 1133 [l0, some (.ref u), l2, l3] (.ref u :: st) H Q := G_aload_n fL_law_1132 rfl
theorem gL_law_1132N {l0 l2 l3 : Option Value} {st : List Value} {H : HP} {Q : Option Value → HP → Prop} : Go 190 1132 [l0, some .null, l2, l3] st H Q ↔ Go 190 1133 [l0, some .null, l2, l3] (.null :: st) H Q := G_aload_nN fL_law_1132 rfl
theorem fL_law_1133 : ft 190 1133 = some (.aload_n 0, 0, 0, 0, .null) := by decide +kernel
theorem gL_law_1133 {l1 l2 l3 : Option Value} {u : Nat} {st : List Value} {H : HP} {Q : Option Value → HP → Prop} : Go 190 1133 [some (.ref u), l1, l2, l3] st H Q ↔ Go 190 1134 [some (.ref u), l1, l2, l3] (.ref u :: st) H Q := G_aload_n fL_law_1133 rfl
theorem fL_law_1134 : ft 190 1134 = some (.iload_n 3, 0, 0, 0, .null) := by decide +kernel
theorem gL_law_1134 {l0 l1 l2 : Option Value} {u : Int32} {st : List Value} {H : HP} {Q : Option Value → HP → Prop} : Go 190 1134 [l0, l1, l2, some (.int u)] st H Q ↔ Go 190 1135 [l0, l1, l2, some (.int u)] (.int u :: st) H Q := G_iload_n fL_law_1134 rfl
theorem fL_law_1135 : ft 190 1135 = some (.iconst 1, 0, 0, 0, .null) := by decide +kernel
theorem gL_law_1135 {L : List (Option Value)} {st : List Value} {H : HP} {Q : Option Value → HP → Prop} : Go 190 1135 L st H Q ↔ Go 190 1136 L (vi 1 :: st) H Q := G_iconst fL_law_1135
theorem fL_law_1136 : ft 190 1136 = some (.iadd, 0, 0, 0, .null) := by decide +kernel
theorem gL_law_1136 {L : List (Option Value)} {a b : Int} {st : List Value} {H : HP} {Q : Option Value → HP → Prop} : Go 190 1136 L (vi b :: vi a :: st) H Q ↔ Go 190 1137 L (vi (a + b) :: st) H Q := G_iadd fL_law_1136
theorem fL_law_1137 : ft 190 1137 = some (.iaload, 0, 0, 0, .null) := by decide +kernel
theorem gL_law_1137 {L : List (Option Value)} {p : Nat} {a : Int} {st : List Value} {H : HP} {Q : Option Value → HP → Prop} : Go 190 1137 L (vi a :: .ref p :: st) H Q ↔ Rd (aJ' (hget H p) a) 190 1138 L st H Q := G_iald fL_law_1137
theorem fL_law_1138 : ft 190 1138 = some (.aload_n 0, 0, 0, 0, .null) := by decide +kernel
theorem gL_law_1138 {l1 l2 l3 : Option Value} {u : Nat} {st : List Value} {H : HP} {Q : Option Value → HP → Prop} : Go 190 1138 [some (.ref u), l1, l2, l3] st H Q ↔ Go 190 1139 [some (.ref u), l1, l2, l3] (.ref u :: st) H Q := G_aload_n fL_law_1138 rfl
theorem fL_law_1139 : ft 190 1139 = some (.iload_n 3, 0, 0, 0, .null) := by decide +kernel
theorem gL_law_1139 {l0 l1 l2 : Option Value} {u : Int32} {st : List Value} {H : HP} {Q : Option Value → HP → Prop} : Go 190 1139 [l0, l1, l2, some (.int u)] st H Q ↔ Go 190 1140 [l0, l1, l2, some (.int u)] (.int u :: st) H Q := G_iload_n fL_law_1139 rfl
theorem fL_law_1140 : ft 190 1140 = some (.iconst 2, 0, 0, 0, .null) := by decide +kernel
theorem gL_law_1140 {L : List (Option Value)} {st : List Value} {H : HP} {Q : Option Value → HP → Prop} : Go 190 1140 L st H Q ↔ Go 190 1141 L (vi 2 :: st) H Q := G_iconst fL_law_1140
theorem fL_law_1141 : ft 190 1141 = some (.iadd, 0, 0, 0, .null) := by decide +kernel
theorem gL_law_1141 {L : List (Option Value)} {a b : Int} {st : List Value} {H : HP} {Q : Option Value → HP → Prop} : Go 190 1141 L (vi b :: vi a :: st) H Q ↔ Go 190 1142 L (vi (a + b) :: st) H Q := G_iadd fL_law_1141
theorem fL_law_1142 : ft 190 1142 = some (.iaload, 0, 0, 0, .null) := by decide +kernel
theorem gL_law_1142 {L : List (Option Value)} {p : Nat} {a : Int} {st : List Value} {H : HP} {Q : Option Value → HP → Prop} : Go 190 1142 L (vi a :: .ref p :: st) H Q ↔ Rd (aJ' (hget H p) a) 190 1143 L st H Q := G_iald fL_law_1142
theorem fL_law_1143 : ft 190 1143 = some (.aload_n 0, 0, 0, 0, .null) := by decide +kernel
theorem gL_law_1143 {l1 l2 l3 : Option Value} {u : Nat} {st : List Value} {H : HP} {Q : Option Value → HP → Prop} : Go 190 1143 [some (.ref u), l1, l2, l3] st H Q ↔ Go 190 1144 [some (.ref u), l1, l2, l3] (.ref u :: st) H Q := G_aload_n fL_law_1143 rfl
theorem fL_law_1144 : ft 190 1144 = some (.iload_n 3, 0, 0, 0, .null) := by decide +kernel
theorem gL_law_1144 {l0 l1 l2 : Option Value} {u : Int32} {st : List Value} {H : HP} {Q : Option Value → HP → Prop} : Go 190 1144 [l0, l1, l2, some (.int u)] st H Q ↔ Go 190 1145 [l0, l1, l2, some (.int u)] (.int u :: st) H Q := G_iload_n fL_law_1144 rfl
theorem fL_law_1145 : ft 190 1145 = some (.iconst 3, 0, 0, 0, .null) := by decide +kernel
theorem gL_law_1145 {L : List (Option Value)} {st : List Value} {H : HP} {Q : Option Value → HP → Prop} : Go 190 1145 L st H Q ↔ Go 190 1146 L (vi 3 :: st) H Q := G_iconst fL_law_1145
theorem fL_law_1146 : ft 190 1146 = some (.iadd, 0, 0, 0, .null) := by decide +kernel
theorem gL_law_1146 {L : List (Option Value)} {a b : Int} {st : List Value} {H : HP} {Q : Option Value → HP → Prop} : Go 190 1146 L (vi b :: vi a :: st) H Q ↔ Go 190 1147 L (vi (a + b) :: st) H Q := G_iadd fL_law_1146
theorem fL_law_1147 : ft 190 1147 = some (.iaload, 0, 0, 0, .null) := by decide +kernel
theorem gL_law_1147 {L : List (Option Value)} {p : Nat} {a : Int} {st : List Value} {H : HP} {Q : Option Value → HP → Prop} : Go 190 1147 L (vi a :: .ref p :: st) H Q ↔ Rd (aJ' (hget H p) a) 190 1148 L st H Q := G_iald fL_law_1147
theorem fL_law_1148 : ft 190 1148 = some (.invokevirtual 127, 96, 0, 639, .null) := by decide +kernel
theorem gL_law_1148 {L : List (Option Value)} {p : Nat} {a0 : Int32} {a1 : Int32} {a2 : Int32}  {H : HP} {Q : Option Value → HP → Prop} : Go 190 1148 L (.int a2 :: .int a1 :: .int a0 :: .ref p :: []) H Q ↔ (iso 8 (hget H p) = true ∧ Go 96 0 [some (.ref p), some (.int a0), some (.int a1), some (.int a2), none, none] [] H (Cont 190 1151 L [] Q)) := G_cV (n := 3) (N := 6) (as := [.int a2, .int a1, .int a0]) (st := []) fL_law_1148 (by decide +kernel) rfl (Nat.le_of_ble_eq_true rfl) (Nat.le_of_ble_eq_true rfl) rfl
theorem fL_law_1151 : ft 190 1151 = some (.aload_n 2, 0, 0, 0, .null) := by decide +kernel
theorem gL_law_1151 {l0 l1 l3 : Option Value} {u : Nat} {st : List Value} {H : HP} {Q : Option Value → HP → Prop} : Go 190 1151 [l0, l1, some (.ref u), l3] st H Q ↔ Go 190 1152 [l0, l1, some (.ref u), l3] (.ref u :: st) H Q := G_aload_n fL_law_1151 rfl
theorem gL_law_1151N {l0 l1 l3 : Option Value} {st : List Value} {H : HP} {Q : Option Value → HP → Prop} : Go 190 1151 [l0, l1, some .null, l3] st H Q ↔ Go 190 1152 [l0, l1, some .null, l3] (.null :: st) H Q := G_aload_nN fL_law_1151 rfl
theorem fL_law_1152 : ft 190 1152 = some (.aload_n 0, 0, 0, 0, .null) := by decide +kernel
theorem gL_law_1152 {l1 l2 l3 : Option Value} {u : Nat} {st : List Value} {H : HP} {Q : Option Value → HP → Prop} : Go 190 1152 [some (.ref u), l1, l2, l3] st H Q ↔ Go 190 1153 [some (.ref u), l1, l2, l3] (.ref u :: st) H Q := G_aload_n fL_law_1152 rfl
theorem fL_law_1153 : ft 190 1153 = some (.iload_n 3, 0, 0, 0, .null) := by decide +kernel
theorem gL_law_1153 {l0 l1 l2 : Option Value} {u : Int32} {st : List Value} {H : HP} {Q : Option Value → HP → Prop} : Go 190 1153 [l0, l1, l2, some (.int u)] st H Q ↔ Go 190 1154 [l0, l1, l2, some (.int u)] (.int u :: st) H Q := G_iload_n fL_law_1153 rfl
theorem fL_law_1154 : ft 190 1154 = some (.iconst 1, 0, 0, 0, .null) := by decide +kernel
theorem gL_law_1154 {L : List (Option Value)} {st : List Value} {H : HP} {Q : Option Value → HP → Prop} : Go 190 1154 L st H Q ↔ Go 190 1155 L (vi 1 :: st) H Q := G_iconst fL_law_1154
theorem fL_law_1155 : ft 190 1155 = some (.iadd, 0, 0, 0, .null) := by decide +kernel
theorem gL_law_1155 {L : List (Option Value)} {a b : Int} {st : List Value} {H : HP} {Q : Option Value → HP → Prop} : Go 190 1155 L (vi b :: vi a :: st) H Q ↔ Go 190 1156 L (vi (a + b) :: st) H Q := G_iadd fL_law_1155
theorem fL_law_1156 : ft 190 1156 = some (.iaload, 0, 0, 0, .null) := by decide +kernel
theorem gL_law_1156 {L : List (Option Value)} {p : Nat} {a : Int} {st : List Value} {H : HP} {Q : Option Value → HP → Prop} : Go 190 1156 L (vi a :: .ref p :: st) H Q ↔ Rd (aJ' (hget H p) a) 190 1157 L st H Q := G_iald fL_law_1156
theorem fL_law_1157 : ft 190 1157 = some (.aload_n 0, 0, 0, 0, .null) := by decide +kernel
theorem gL_law_1157 {l1 l2 l3 : Option Value} {u : Nat} {st : List Value} {H : HP} {Q : Option Value → HP → Prop} : Go 190 1157 [some (.ref u), l1, l2, l3] st H Q ↔ Go 190 1158 [some (.ref u), l1, l2, l3] (.ref u :: st) H Q := G_aload_n fL_law_1157 rfl
theorem fL_law_1158 : ft 190 1158 = some (.iload_n 3, 0, 0, 0, .null) := by decide +kernel
theorem gL_law_1158 {l0 l1 l2 : Option Value} {u : Int32} {st : List Value} {H : HP} {Q : Option Value → HP → Prop} : Go 190 1158 [l0, l1, l2, some (.int u)] st H Q ↔ Go 190 1159 [l0, l1, l2, some (.int u)] (.int u :: st) H Q := G_iload_n fL_law_1158 rfl
theorem fL_law_1159 : ft 190 1159 = some (.iconst 2, 0, 0, 0, .null) := by decide +kernel
theorem gL_law_1159 {L : List (Option Value)} {st : List Value} {H : HP} {Q : Option Value → HP → Prop} : Go 190 1159 L st H Q ↔ Go 190 1160 L (vi 2 :: st) H Q := G_iconst fL_law_1159
theorem fL_law_1160 : ft 190 1160 = some (.iadd, 0, 0, 0, .null) := by decide +kernel
theorem gL_law_1160 {L : List (Option Value)} {a b : Int} {st : List Value} {H : HP} {Q : Option Value → HP → Prop} : Go 190 1160 L (vi b :: vi a :: st) H Q ↔ Go 190 1161 L (vi (a + b) :: st) H Q := G_iadd fL_law_1160
theorem fL_law_1161 : ft 190 1161 = some (.iaload, 0, 0, 0, .null) := by decide +kernel
theorem gL_law_1161 {L : List (Option Value)} {p : Nat} {a : Int} {st : List Value} {H : HP} {Q : Option Value → HP → Prop} : Go 190 1161 L (vi a :: .ref p :: st) H Q ↔ Rd (aJ' (hget H p) a) 190 1162 L st H Q := G_iald fL_law_1161
theorem fL_law_1162 : ft 190 1162 = some (.aload_n 0, 0, 0, 0, .null) := by decide +kernel
theorem gL_law_1162 {l1 l2 l3 : Option Value} {u : Nat} {st : List Value} {H : HP} {Q : Option Value → HP → Prop} : Go 190 1162 [some (.ref u), l1, l2, l3] st H Q ↔ Go 190 1163 [some (.ref u), l1, l2, l3] (.ref u :: st) H Q := G_aload_n fL_law_1162 rfl
theorem fL_law_1163 : ft 190 1163 = some (.iload_n 3, 0, 0, 0, .null) := by decide +kernel
theorem gL_law_1163 {l0 l1 l2 : Option Value} {u : Int32} {st : List Value} {H : HP} {Q : Option Value → HP → Prop} : Go 190 1163 [l0, l1, l2, some (.int u)] st H Q ↔ Go 190 1164 [l0, l1, l2, some (.int u)] (.int u :: st) H Q := G_iload_n fL_law_1163 rfl
theorem fL_law_1164 : ft 190 1164 = some (.iconst 3, 0, 0, 0, .null) := by decide +kernel
theorem gL_law_1164 {L : List (Option Value)} {st : List Value} {H : HP} {Q : Option Value → HP → Prop} : Go 190 1164 L st H Q ↔ Go 190 1165 L (vi 3 :: st) H Q := G_iconst fL_law_1164
theorem fL_law_1165 : ft 190 1165 = some (.iadd, 0, 0, 0, .null) := by decide +kernel
theorem gL_law_1165 {L : List (Option Value)} {a b : Int} {st : List Value} {H : HP} {Q : Option Value → HP → Prop} : Go 190 1165 L (vi b :: vi a :: st) H Q ↔ Go 190 1166 L (vi (a + b) :: st) H Q := G_iadd fL_law_1165
theorem fL_law_1166 : ft 190 1166 = some (.iaload, 0, 0, 0, .null) := by decide +kernel
theorem gL_law_1166 {L : List (Option Value)} {p : Nat} {a : Int} {st : List Value} {H : HP} {Q : Option Value → HP → Prop} : Go 190 1166 L (vi a :: .ref p :: st) H Q ↔ Rd (aJ' (hget H p) a) 190 1167 L st H Q := G_iald fL_law_1166
theorem fL_law_1167 : ft 190 1167 = some (.invokevirtual 130, 170, 0, 1048, .null) := by decide +kernel
theorem gL_law_1167 {L : List (Option Value)} {p : Nat} {a0 : Int32} {a1 : Int32} {a2 : Int32} {r0 : Int32} {H : HP} {Q : Option Value → HP → Prop} : Go 190 1167 L (.int a2 :: .int a1 :: .int a0 :: .ref p :: [.int r0]) H Q ↔ (iso 9 (hget H p) = true ∧ Go 170 0 [some (.ref p), some (.int a0), some (.int a1), some (.int a2), none, none, none, none, none, none, none, none, none, none] [] H (Cont 190 1170 L [.int r0] Q)) := G_cV (n := 3) (N := 14) (as := [.int a2, .int a1, .int a0]) (st := [.int r0]) fL_law_1167 (by decide +kernel) rfl (Nat.le_of_ble_eq_true rfl) (Nat.le_of_ble_eq_true rfl) rfl
theorem fL_law_1170 : ft 190 1170 = some (.if_icmp .eq 242, 0, 0, 0, .null) := by decide +kernel
theorem gL_law_1170T {L : List (Option Value)} {a b : Int} (c : (-2147483648 ≤ a ∧ a ≤ 2147483647 ∧ -2147483648 ≤ b ∧ b ≤ 2147483647) ∧ a = b) {st : List Value} {H : HP} {Q : Option Value → HP → Prop} : Go 190 1170 L (vi b :: vi a :: st) H Q ↔ Go 190 1412 L st H Q := G_icT fL_law_1170 (by decide) c
theorem gL_law_1170F {L : List (Option Value)} {a b : Int} (c : (-2147483648 ≤ a ∧ a ≤ 2147483647 ∧ -2147483648 ≤ b ∧ b ≤ 2147483647) ∧ ¬ (a = b)) {st : List Value} {H : HP} {Q : Option Value → HP → Prop} : Go 190 1170 L (vi b :: vi a :: st) H Q ↔ Go 190 1173 L st H Q := G_icF (tg := 1412) fL_law_1170 (by decide) c
theorem fL_law_1173 : ft 190 1173 = some (.iconst 0, 0, 0, 0, .null) := by decide +kernel
theorem gL_law_1173 {L : List (Option Value)} {st : List Value} {H : HP} {Q : Option Value → HP → Prop} : Go 190 1173 L st H Q ↔ Go 190 1174 L (vi 0 :: st) H Q := G_iconst fL_law_1173
theorem fL_law_1174 : ft 190 1174 = some (.ireturn, 0, 0, 0, .null) := by decide +kernel
theorem gL_law_1174 {L : List (Option Value)} {a : Int} (c : a = 0 ∨ a = 1) {H : HP} {Q : Option Value → HP → Prop} : Go 190 1174 L [vi a] H Q ↔ Q (some (vi a)) H := G_zret fL_law_1174 (by decide +kernel) c
theorem fL_law_1175 : ft 190 1175 = some (.aload_n 1, 0, 0, 0, .null) := by decide +kernel
theorem gL_law_1175 {l0 l2 l3 : Option Value} {u : Nat} {st : List Value} {H : HP} {Q : Option Value → HP → Prop} : Go 190 1175 [l0, some (.ref u), l2, l3] st H Q ↔ Go 190 1176 [l0, some (.ref u), l2, l3] (.ref u :: st) H Q := G_aload_n fL_law_1175 rfl
theorem gL_law_1175N {l0 l2 l3 : Option Value} {st : List Value} {H : HP} {Q : Option Value → HP → Prop} : Go 190 1175 [l0, some .null, l2, l3] st H Q ↔ Go 190 1176 [l0, some .null, l2, l3] (.null :: st) H Q := G_aload_nN fL_law_1175 rfl
theorem fL_law_1176 : ft 190 1176 = some (.aload_n 0, 0, 0, 0, .null) := by decide +kernel
theorem gL_law_1176 {l1 l2 l3 : Option Value} {u : Nat} {st : List Value} {H : HP} {Q : Option Value → HP → Prop} : Go 190 1176 [some (.ref u), l1, l2, l3] st H Q ↔ Go 190 1177 [some (.ref u), l1, l2, l3] (.ref u :: st) H Q := G_aload_n fL_law_1176 rfl
theorem fL_law_1177 : ft 190 1177 = some (.iload_n 3, 0, 0, 0, .null) := by decide +kernel
theorem gL_law_1177 {l0 l1 l2 : Option Value} {u : Int32} {st : List Value} {H : HP} {Q : Option Value → HP → Prop} : Go 190 1177 [l0, l1, l2, some (.int u)] st H Q ↔ Go 190 1178 [l0, l1, l2, some (.int u)] (.int u :: st) H Q := G_iload_n fL_law_1177 rfl
theorem fL_law_1178 : ft 190 1178 = some (.iconst 1, 0, 0, 0, .null) := by decide +kernel
theorem gL_law_1178 {L : List (Option Value)} {st : List Value} {H : HP} {Q : Option Value → HP → Prop} : Go 190 1178 L st H Q ↔ Go 190 1179 L (vi 1 :: st) H Q := G_iconst fL_law_1178
theorem fL_law_1179 : ft 190 1179 = some (.iadd, 0, 0, 0, .null) := by decide +kernel
theorem gL_law_1179 {L : List (Option Value)} {a b : Int} {st : List Value} {H : HP} {Q : Option Value → HP → Prop} : Go 190 1179 L (vi b :: vi a :: st) H Q ↔ Go 190 1180 L (vi (a + b) :: st) H Q := G_iadd fL_law_1179
theorem fL_law_1180 : ft 190 1180 = some (.iaload, 0, 0, 0, .null) := by decide +kernel
theorem gL_law_1180 {L : List (Option Value)} {p : Nat} {a : Int} {st : List Value} {H : HP} {Q : Option Value → HP → Prop} : Go 190 1180 L (vi a :: .ref p :: st) H Q ↔ Rd (aJ' (hget H p) a) 190 1181 L st H Q := G_iald fL_law_1180
theorem fL_law_1181 : ft 190 1181 = some (.invokevirtual 131, 97, 0, 659, .null) := by decide +kernel
theorem gL_law_1181 {L : List (Option Value)} {p : Nat} {a0 : Int32}  {H : HP} {Q : Option Value → HP → Prop} : Go 190 1181 L (.int a0 :: .ref p :: []) H Q ↔ (iso 8 (hget H p) = true ∧ Go 97 0 [some (.ref p), some (.int a0)] [] H (Cont 190 1184 L [] Q)) := G_cV (n := 1) (N := 2) (as := [.int a0]) (st := []) fL_law_1181 (by decide +kernel) rfl (Nat.le_of_ble_eq_true rfl) (Nat.le_of_ble_eq_true rfl) rfl
theorem fL_law_1184 : ft 190 1184 = some (.aload_n 2, 0, 0, 0, .null) := by decide +kernel
theorem gL_law_1184 {l0 l1 l3 : Option Value} {u : Nat} {st : List Value} {H : HP} {Q : Option Value → HP → Prop} : Go 190 1184 [l0, l1, some (.ref u), l3] st H Q ↔ Go 190 1185 [l0, l1, some (.ref u), l3] (.ref u :: st) H Q := G_aload_n fL_law_1184 rfl
theorem gL_law_1184N {l0 l1 l3 : Option Value} {st : List Value} {H : HP} {Q : Option Value → HP → Prop} : Go 190 1184 [l0, l1, some .null, l3] st H Q ↔ Go 190 1185 [l0, l1, some .null, l3] (.null :: st) H Q := G_aload_nN fL_law_1184 rfl
theorem fL_law_1185 : ft 190 1185 = some (.aload_n 0, 0, 0, 0, .null) := by decide +kernel
theorem gL_law_1185 {l1 l2 l3 : Option Value} {u : Nat} {st : List Value} {H : HP} {Q : Option Value → HP → Prop} : Go 190 1185 [some (.ref u), l1, l2, l3] st H Q ↔ Go 190 1186 [some (.ref u), l1, l2, l3] (.ref u :: st) H Q := G_aload_n fL_law_1185 rfl
theorem fL_law_1186 : ft 190 1186 = some (.iload_n 3, 0, 0, 0, .null) := by decide +kernel
theorem gL_law_1186 {l0 l1 l2 : Option Value} {u : Int32} {st : List Value} {H : HP} {Q : Option Value → HP → Prop} : Go 190 1186 [l0, l1, l2, some (.int u)] st H Q ↔ Go 190 1187 [l0, l1, l2, some (.int u)] (.int u :: st) H Q := G_iload_n fL_law_1186 rfl
theorem fL_law_1187 : ft 190 1187 = some (.iconst 1, 0, 0, 0, .null) := by decide +kernel
theorem gL_law_1187 {L : List (Option Value)} {st : List Value} {H : HP} {Q : Option Value → HP → Prop} : Go 190 1187 L st H Q ↔ Go 190 1188 L (vi 1 :: st) H Q := G_iconst fL_law_1187
theorem fL_law_1188 : ft 190 1188 = some (.iadd, 0, 0, 0, .null) := by decide +kernel
theorem gL_law_1188 {L : List (Option Value)} {a b : Int} {st : List Value} {H : HP} {Q : Option Value → HP → Prop} : Go 190 1188 L (vi b :: vi a :: st) H Q ↔ Go 190 1189 L (vi (a + b) :: st) H Q := G_iadd fL_law_1188
theorem fL_law_1189 : ft 190 1189 = some (.iaload, 0, 0, 0, .null) := by decide +kernel
theorem gL_law_1189 {L : List (Option Value)} {p : Nat} {a : Int} {st : List Value} {H : HP} {Q : Option Value → HP → Prop} : Go 190 1189 L (vi a :: .ref p :: st) H Q ↔ Rd (aJ' (hget H p) a) 190 1190 L st H Q := G_iald fL_law_1189
theorem fL_law_1190 : ft 190 1190 = some (.invokevirtual 134, 171, 0, 1052, .null) := by decide +kernel
theorem gL_law_1190 {L : List (Option Value)} {p : Nat} {a0 : Int32} {r0 : Int64} {H : HP} {Q : Option Value → HP → Prop} : Go 190 1190 L (.int a0 :: .ref p :: [.long r0]) H Q ↔ (iso 9 (hget H p) = true ∧ Go 171 0 [some (.ref p), some (.int a0)] [] H (Cont 190 1193 L [.long r0] Q)) := G_cV (n := 1) (N := 2) (as := [.int a0]) (st := [.long r0]) fL_law_1190 (by decide +kernel) rfl (Nat.le_of_ble_eq_true rfl) (Nat.le_of_ble_eq_true rfl) rfl
theorem fL_law_1193 : ft 190 1193 = some (.lcmp, 0, 0, 0, .null) := by decide +kernel
theorem fL_law_1193' : ft 190 1194 = some (.ifCond .eq 218, 0, 0, 0, .null) := by decide +kernel
theorem gL_law_1193T {L : List (Option Value)} {a b : Int} (c : (-9223372036854775808 ≤ a ∧ a ≤ 9223372036854775807 ∧ -9223372036854775808 ≤ b ∧ b ≤ 9223372036854775807) ∧ a = b) {st : List Value} {H : HP} {Q : Option Value → HP → Prop} : Go 190 1193 L (vl b :: vl a :: st) H Q ↔ Go 190 1412 L st H Q := G_lcT fL_law_1193 fL_law_1193' (by decide) c
theorem gL_law_1193F {L : List (Option Value)} {a b : Int} (c : (-9223372036854775808 ≤ a ∧ a ≤ 9223372036854775807 ∧ -9223372036854775808 ≤ b ∧ b ≤ 9223372036854775807) ∧ ¬ (a = b)) {st : List Value} {H : HP} {Q : Option Value → HP → Prop} : Go 190 1193 L (vl b :: vl a :: st) H Q ↔ Go 190 1197 L st H Q := G_lcF (tg := 1412) fL_law_1193 fL_law_1193' (by decide) c
theorem fL_law_1194 : ft 190 1194 = some (.ifCond .eq 218, 0, 0, 0, .null) := by decide +kernel
theorem gL_law_1194T {L : List (Option Value)} {a : Int} (c : (-2147483648 ≤ a ∧ a ≤ 2147483647) ∧ a = 0) {st : List Value} {H : HP} {Q : Option Value → HP → Prop} : Go 190 1194 L (vi a :: st) H Q ↔ Go 190 1412 L st H Q := G_ifT fL_law_1194 (by decide) c
theorem gL_law_1194F {L : List (Option Value)} {a : Int} (c : (-2147483648 ≤ a ∧ a ≤ 2147483647) ∧ ¬ (a = 0)) {st : List Value} {H : HP} {Q : Option Value → HP → Prop} : Go 190 1194 L (vi a :: st) H Q ↔ Go 190 1197 L st H Q := G_ifF (tg := 1412) fL_law_1194 (by decide) c
theorem fL_law_1197 : ft 190 1197 = some (.iconst 0, 0, 0, 0, .null) := by decide +kernel
theorem gL_law_1197 {L : List (Option Value)} {st : List Value} {H : HP} {Q : Option Value → HP → Prop} : Go 190 1197 L st H Q ↔ Go 190 1198 L (vi 0 :: st) H Q := G_iconst fL_law_1197
theorem fL_law_1198 : ft 190 1198 = some (.ireturn, 0, 0, 0, .null) := by decide +kernel
theorem gL_law_1198 {L : List (Option Value)} {a : Int} (c : a = 0 ∨ a = 1) {H : HP} {Q : Option Value → HP → Prop} : Go 190 1198 L [vi a] H Q ↔ Q (some (vi a)) H := G_zret fL_law_1198 (by decide +kernel) c
theorem fL_law_1199 : ft 190 1199 = some (.aload_n 1, 0, 0, 0, .null) := by decide +kernel
theorem gL_law_1199 {l0 l2 l3 : Option Value} {u : Nat} {st : List Value} {H : HP} {Q : Option Value → HP → Prop} : Go 190 1199 [l0, some (.ref u), l2, l3] st H Q ↔ Go 190 1200 [l0, some (.ref u), l2, l3] (.ref u :: st) H Q := G_aload_n fL_law_1199 rfl
theorem gL_law_1199N {l0 l2 l3 : Option Value} {st : List Value} {H : HP} {Q : Option Value → HP → Prop} : Go 190 1199 [l0, some .null, l2, l3] st H Q ↔ Go 190 1200 [l0, some .null, l2, l3] (.null :: st) H Q := G_aload_nN fL_law_1199 rfl
theorem fL_law_1200 : ft 190 1200 = some (.aload_n 0, 0, 0, 0, .null) := by decide +kernel
theorem gL_law_1200 {l1 l2 l3 : Option Value} {u : Nat} {st : List Value} {H : HP} {Q : Option Value → HP → Prop} : Go 190 1200 [some (.ref u), l1, l2, l3] st H Q ↔ Go 190 1201 [some (.ref u), l1, l2, l3] (.ref u :: st) H Q := G_aload_n fL_law_1200 rfl
theorem fL_law_1201 : ft 190 1201 = some (.iload_n 3, 0, 0, 0, .null) := by decide +kernel
theorem gL_law_1201 {l0 l1 l2 : Option Value} {u : Int32} {st : List Value} {H : HP} {Q : Option Value → HP → Prop} : Go 190 1201 [l0, l1, l2, some (.int u)] st H Q ↔ Go 190 1202 [l0, l1, l2, some (.int u)] (.int u :: st) H Q := G_iload_n fL_law_1201 rfl
theorem fL_law_1202 : ft 190 1202 = some (.iconst 1, 0, 0, 0, .null) := by decide +kernel
theorem gL_law_1202 {L : List (Option Value)} {st : List Value} {H : HP} {Q : Option Value → HP → Prop} : Go 190 1202 L st H Q ↔ Go 190 1203 L (vi 1 :: st) H Q := G_iconst fL_law_1202
theorem fL_law_1203 : ft 190 1203 = some (.iadd, 0, 0, 0, .null) := by decide +kernel
theorem gL_law_1203 {L : List (Option Value)} {a b : Int} {st : List Value} {H : HP} {Q : Option Value → HP → Prop} : Go 190 1203 L (vi b :: vi a :: st) H Q ↔ Go 190 1204 L (vi (a + b) :: st) H Q := G_iadd fL_law_1203
theorem fL_law_1204 : ft 190 1204 = some (.iaload, 0, 0, 0, .null) := by decide +kernel
theorem gL_law_1204 {L : List (Option Value)} {p : Nat} {a : Int} {st : List Value} {H : HP} {Q : Option Value → HP → Prop} : Go 190 1204 L (vi a :: .ref p :: st) H Q ↔ Rd (aJ' (hget H p) a) 190 1205 L st H Q := G_iald fL_law_1204
theorem fL_law_1205 : ft 190 1205 = some (.invokevirtual 135, 98, 0, 663, .null) := by decide +kernel
theorem gL_law_1205 {L : List (Option Value)} {p : Nat} {a0 : Int32}  {H : HP} {Q : Option Value → HP → Prop} : Go 190 1205 L (.int a0 :: .ref p :: []) H Q ↔ (iso 8 (hget H p) = true ∧ Go 98 0 [some (.ref p), some (.int a0)] [] H (Cont 190 1208 L [] Q)) := G_cV (n := 1) (N := 2) (as := [.int a0]) (st := []) fL_law_1205 (by decide +kernel) rfl (Nat.le_of_ble_eq_true rfl) (Nat.le_of_ble_eq_true rfl) rfl
theorem fL_law_1208 : ft 190 1208 = some (.aload_n 2, 0, 0, 0, .null) := by decide +kernel
theorem gL_law_1208 {l0 l1 l3 : Option Value} {u : Nat} {st : List Value} {H : HP} {Q : Option Value → HP → Prop} : Go 190 1208 [l0, l1, some (.ref u), l3] st H Q ↔ Go 190 1209 [l0, l1, some (.ref u), l3] (.ref u :: st) H Q := G_aload_n fL_law_1208 rfl
theorem gL_law_1208N {l0 l1 l3 : Option Value} {st : List Value} {H : HP} {Q : Option Value → HP → Prop} : Go 190 1208 [l0, l1, some .null, l3] st H Q ↔ Go 190 1209 [l0, l1, some .null, l3] (.null :: st) H Q := G_aload_nN fL_law_1208 rfl
theorem fL_law_1209 : ft 190 1209 = some (.aload_n 0, 0, 0, 0, .null) := by decide +kernel
theorem gL_law_1209 {l1 l2 l3 : Option Value} {u : Nat} {st : List Value} {H : HP} {Q : Option Value → HP → Prop} : Go 190 1209 [some (.ref u), l1, l2, l3] st H Q ↔ Go 190 1210 [some (.ref u), l1, l2, l3] (.ref u :: st) H Q := G_aload_n fL_law_1209 rfl
theorem fL_law_1210 : ft 190 1210 = some (.iload_n 3, 0, 0, 0, .null) := by decide +kernel
theorem gL_law_1210 {l0 l1 l2 : Option Value} {u : Int32} {st : List Value} {H : HP} {Q : Option Value → HP → Prop} : Go 190 1210 [l0, l1, l2, some (.int u)] st H Q ↔ Go 190 1211 [l0, l1, l2, some (.int u)] (.int u :: st) H Q := G_iload_n fL_law_1210 rfl
theorem fL_law_1211 : ft 190 1211 = some (.iconst 1, 0, 0, 0, .null) := by decide +kernel
theorem gL_law_1211 {L : List (Option Value)} {st : List Value} {H : HP} {Q : Option Value → HP → Prop} : Go 190 1211 L st H Q ↔ Go 190 1212 L (vi 1 :: st) H Q := G_iconst fL_law_1211
theorem fL_law_1212 : ft 190 1212 = some (.iadd, 0, 0, 0, .null) := by decide +kernel
theorem gL_law_1212 {L : List (Option Value)} {a b : Int} {st : List Value} {H : HP} {Q : Option Value → HP → Prop} : Go 190 1212 L (vi b :: vi a :: st) H Q ↔ Go 190 1213 L (vi (a + b) :: st) H Q := G_iadd fL_law_1212
theorem fL_law_1213 : ft 190 1213 = some (.iaload, 0, 0, 0, .null) := by decide +kernel
theorem gL_law_1213 {L : List (Option Value)} {p : Nat} {a : Int} {st : List Value} {H : HP} {Q : Option Value → HP → Prop} : Go 190 1213 L (vi a :: .ref p :: st) H Q ↔ Rd (aJ' (hget H p) a) 190 1214 L st H Q := G_iald fL_law_1213
theorem fL_law_1214 : ft 190 1214 = some (.invokevirtual 138, 172, 0, 1056, .null) := by decide +kernel
theorem gL_law_1214 {L : List (Option Value)} {p : Nat} {a0 : Int32} {r0 : Int64} {H : HP} {Q : Option Value → HP → Prop} : Go 190 1214 L (.int a0 :: .ref p :: [.long r0]) H Q ↔ (iso 9 (hget H p) = true ∧ Go 172 0 [some (.ref p), some (.int a0)] [] H (Cont 190 1217 L [.long r0] Q)) := G_cV (n := 1) (N := 2) (as := [.int a0]) (st := [.long r0]) fL_law_1214 (by decide +kernel) rfl (Nat.le_of_ble_eq_true rfl) (Nat.le_of_ble_eq_true rfl) rfl
theorem fL_law_1217 : ft 190 1217 = some (.lcmp, 0, 0, 0, .null) := by decide +kernel
theorem fL_law_1217' : ft 190 1218 = some (.ifCond .eq 194, 0, 0, 0, .null) := by decide +kernel
theorem gL_law_1217T {L : List (Option Value)} {a b : Int} (c : (-9223372036854775808 ≤ a ∧ a ≤ 9223372036854775807 ∧ -9223372036854775808 ≤ b ∧ b ≤ 9223372036854775807) ∧ a = b) {st : List Value} {H : HP} {Q : Option Value → HP → Prop} : Go 190 1217 L (vl b :: vl a :: st) H Q ↔ Go 190 1412 L st H Q := G_lcT fL_law_1217 fL_law_1217' (by decide) c
theorem gL_law_1217F {L : List (Option Value)} {a b : Int} (c : (-9223372036854775808 ≤ a ∧ a ≤ 9223372036854775807 ∧ -9223372036854775808 ≤ b ∧ b ≤ 9223372036854775807) ∧ ¬ (a = b)) {st : List Value} {H : HP} {Q : Option Value → HP → Prop} : Go 190 1217 L (vl b :: vl a :: st) H Q ↔ Go 190 1221 L st H Q := G_lcF (tg := 1412) fL_law_1217 fL_law_1217' (by decide) c
theorem fL_law_1218 : ft 190 1218 = some (.ifCond .eq 194, 0, 0, 0, .null) := by decide +kernel
theorem gL_law_1218T {L : List (Option Value)} {a : Int} (c : (-2147483648 ≤ a ∧ a ≤ 2147483647) ∧ a = 0) {st : List Value} {H : HP} {Q : Option Value → HP → Prop} : Go 190 1218 L (vi a :: st) H Q ↔ Go 190 1412 L st H Q := G_ifT fL_law_1218 (by decide) c
theorem gL_law_1218F {L : List (Option Value)} {a : Int} (c : (-2147483648 ≤ a ∧ a ≤ 2147483647) ∧ ¬ (a = 0)) {st : List Value} {H : HP} {Q : Option Value → HP → Prop} : Go 190 1218 L (vi a :: st) H Q ↔ Go 190 1221 L st H Q := G_ifF (tg := 1412) fL_law_1218 (by decide) c
theorem fL_law_1221 : ft 190 1221 = some (.iconst 0, 0, 0, 0, .null) := by decide +kernel
theorem gL_law_1221 {L : List (Option Value)} {st : List Value} {H : HP} {Q : Option Value → HP → Prop} : Go 190 1221 L st H Q ↔ Go 190 1222 L (vi 0 :: st) H Q := G_iconst fL_law_1221
theorem fL_law_1222 : ft 190 1222 = some (.ireturn, 0, 0, 0, .null) := by decide +kernel
theorem gL_law_1222 {L : List (Option Value)} {a : Int} (c : a = 0 ∨ a = 1) {H : HP} {Q : Option Value → HP → Prop} : Go 190 1222 L [vi a] H Q ↔ Q (some (vi a)) H := G_zret fL_law_1222 (by decide +kernel) c
theorem fL_law_1223 : ft 190 1223 = some (.aload_n 1, 0, 0, 0, .null) := by decide +kernel
theorem gL_law_1223 {l0 l2 l3 : Option Value} {u : Nat} {st : List Value} {H : HP} {Q : Option Value → HP → Prop} : Go 190 1223 [l0, some (.ref u), l2, l3] st H Q ↔ Go 190 1224 [l0, some (.ref u), l2, l3] (.ref u :: st) H Q := G_aload_n fL_law_1223 rfl
theorem gL_law_1223N {l0 l2 l3 : Option Value} {st : List Value} {H : HP} {Q : Option Value → HP → Prop} : Go 190 1223 [l0, some .null, l2, l3] st H Q ↔ Go 190 1224 [l0, some .null, l2, l3] (.null :: st) H Q := G_aload_nN fL_law_1223 rfl
theorem fL_law_1224 : ft 190 1224 = some (.aload_n 0, 0, 0, 0, .null) := by decide +kernel
theorem gL_law_1224 {l1 l2 l3 : Option Value} {u : Nat} {st : List Value} {H : HP} {Q : Option Value → HP → Prop} : Go 190 1224 [some (.ref u), l1, l2, l3] st H Q ↔ Go 190 1225 [some (.ref u), l1, l2, l3] (.ref u :: st) H Q := G_aload_n fL_law_1224 rfl
theorem fL_law_1225 : ft 190 1225 = some (.iload_n 3, 0, 0, 0, .null) := by decide +kernel
theorem gL_law_1225 {l0 l1 l2 : Option Value} {u : Int32} {st : List Value} {H : HP} {Q : Option Value → HP → Prop} : Go 190 1225 [l0, l1, l2, some (.int u)] st H Q ↔ Go 190 1226 [l0, l1, l2, some (.int u)] (.int u :: st) H Q := G_iload_n fL_law_1225 rfl
theorem fL_law_1226 : ft 190 1226 = some (.iconst 1, 0, 0, 0, .null) := by decide +kernel
theorem gL_law_1226 {L : List (Option Value)} {st : List Value} {H : HP} {Q : Option Value → HP → Prop} : Go 190 1226 L st H Q ↔ Go 190 1227 L (vi 1 :: st) H Q := G_iconst fL_law_1226
theorem fL_law_1227 : ft 190 1227 = some (.iadd, 0, 0, 0, .null) := by decide +kernel
theorem gL_law_1227 {L : List (Option Value)} {a b : Int} {st : List Value} {H : HP} {Q : Option Value → HP → Prop} : Go 190 1227 L (vi b :: vi a :: st) H Q ↔ Go 190 1228 L (vi (a + b) :: st) H Q := G_iadd fL_law_1227
theorem fL_law_1228 : ft 190 1228 = some (.iaload, 0, 0, 0, .null) := by decide +kernel
theorem gL_law_1228 {L : List (Option Value)} {p : Nat} {a : Int} {st : List Value} {H : HP} {Q : Option Value → HP → Prop} : Go 190 1228 L (vi a :: .ref p :: st) H Q ↔ Rd (aJ' (hget H p) a) 190 1229 L st H Q := G_iald fL_law_1228
theorem fL_law_1229 : ft 190 1229 = some (.aload_n 0, 0, 0, 0, .null) := by decide +kernel
theorem gL_law_1229 {l1 l2 l3 : Option Value} {u : Nat} {st : List Value} {H : HP} {Q : Option Value → HP → Prop} : Go 190 1229 [some (.ref u), l1, l2, l3] st H Q ↔ Go 190 1230 [some (.ref u), l1, l2, l3] (.ref u :: st) H Q := G_aload_n fL_law_1229 rfl
theorem fL_law_1230 : ft 190 1230 = some (.iload_n 3, 0, 0, 0, .null) := by decide +kernel
theorem gL_law_1230 {l0 l1 l2 : Option Value} {u : Int32} {st : List Value} {H : HP} {Q : Option Value → HP → Prop} : Go 190 1230 [l0, l1, l2, some (.int u)] st H Q ↔ Go 190 1231 [l0, l1, l2, some (.int u)] (.int u :: st) H Q := G_iload_n fL_law_1230 rfl
theorem fL_law_1231 : ft 190 1231 = some (.iconst 2, 0, 0, 0, .null) := by decide +kernel
theorem gL_law_1231 {L : List (Option Value)} {st : List Value} {H : HP} {Q : Option Value → HP → Prop} : Go 190 1231 L st H Q ↔ Go 190 1232 L (vi 2 :: st) H Q := G_iconst fL_law_1231
theorem fL_law_1232 : ft 190 1232 = some (.iadd, 0, 0, 0, .null) := by decide +kernel
theorem gL_law_1232 {L : List (Option Value)} {a b : Int} {st : List Value} {H : HP} {Q : Option Value → HP → Prop} : Go 190 1232 L (vi b :: vi a :: st) H Q ↔ Go 190 1233 L (vi (a + b) :: st) H Q := G_iadd fL_law_1232
theorem fL_law_1233 : ft 190 1233 = some (.iaload, 0, 0, 0, .null) := by decide +kernel
theorem gL_law_1233 {L : List (Option Value)} {p : Nat} {a : Int} {st : List Value} {H : HP} {Q : Option Value → HP → Prop} : Go 190 1233 L (vi a :: .ref p :: st) H Q ↔ Rd (aJ' (hget H p) a) 190 1234 L st H Q := G_iald fL_law_1233
theorem fL_law_1234 : ft 190 1234 = some (.aload_n 0, 0, 0, 0, .null) := by decide +kernel
theorem gL_law_1234 {l1 l2 l3 : Option Value} {u : Nat} {st : List Value} {H : HP} {Q : Option Value → HP → Prop} : Go 190 1234 [some (.ref u), l1, l2, l3] st H Q ↔ Go 190 1235 [some (.ref u), l1, l2, l3] (.ref u :: st) H Q := G_aload_n fL_law_1234 rfl
theorem fL_law_1235 : ft 190 1235 = some (.iload_n 3, 0, 0, 0, .null) := by decide +kernel
theorem gL_law_1235 {l0 l1 l2 : Option Value} {u : Int32} {st : List Value} {H : HP} {Q : Option Value → HP → Prop} : Go 190 1235 [l0, l1, l2, some (.int u)] st H Q ↔ Go 190 1236 [l0, l1, l2, some (.int u)] (.int u :: st) H Q := G_iload_n fL_law_1235 rfl
theorem fL_law_1236 : ft 190 1236 = some (.iconst 3, 0, 0, 0, .null) := by decide +kernel
theorem gL_law_1236 {L : List (Option Value)} {st : List Value} {H : HP} {Q : Option Value → HP → Prop} : Go 190 1236 L st H Q ↔ Go 190 1237 L (vi 3 :: st) H Q := G_iconst fL_law_1236
theorem fL_law_1237 : ft 190 1237 = some (.iadd, 0, 0, 0, .null) := by decide +kernel
theorem gL_law_1237 {L : List (Option Value)} {a b : Int} {st : List Value} {H : HP} {Q : Option Value → HP → Prop} : Go 190 1237 L (vi b :: vi a :: st) H Q ↔ Go 190 1238 L (vi (a + b) :: st) H Q := G_iadd fL_law_1237
theorem fL_law_1238 : ft 190 1238 = some (.iaload, 0, 0, 0, .null) := by decide +kernel
theorem gL_law_1238 {L : List (Option Value)} {p : Nat} {a : Int} {st : List Value} {H : HP} {Q : Option Value → HP → Prop} : Go 190 1238 L (vi a :: .ref p :: st) H Q ↔ Rd (aJ' (hget H p) a) 190 1239 L st H Q := G_iald fL_law_1238
theorem fL_law_1239 : ft 190 1239 = some (.i2l, 0, 0, 0, .null) := by decide +kernel
theorem gL_law_1239 {L : List (Option Value)} {a : Int} (c : -2147483648 ≤ a ∧ a ≤ 2147483647) {st : List Value} {H : HP} {Q : Option Value → HP → Prop} : Go 190 1239 L (vi a :: st) H Q ↔ Go 190 1240 L (vl a :: st) H Q := G_i2l fL_law_1239 c
theorem fL_law_1240 : ft 190 1240 = some (.bipush 32, 0, 0, 0, .null) := by decide +kernel
theorem gL_law_1240 {L : List (Option Value)} {st : List Value} {H : HP} {Q : Option Value → HP → Prop} : Go 190 1240 L st H Q ↔ Go 190 1242 L (vi 32 :: st) H Q := G_bipush fL_law_1240 (by decide)
theorem fL_law_1242 : ft 190 1242 = some (.lshl, 0, 0, 0, .null) := by decide +kernel
theorem gL_law_1242 {L : List (Option Value)} {a b : Int} {st : List Value} {H : HP} {Q : Option Value → HP → Prop} : Go 190 1242 L (vi b :: vl a :: st) H Q ↔ Go 190 1243 L (vl (bShl a b) :: st) H Q := G_lshl fL_law_1242
theorem fL_law_1243 : ft 190 1243 = some (.aload_n 0, 0, 0, 0, .null) := by decide +kernel
theorem gL_law_1243 {l1 l2 l3 : Option Value} {u : Nat} {st : List Value} {H : HP} {Q : Option Value → HP → Prop} : Go 190 1243 [some (.ref u), l1, l2, l3] st H Q ↔ Go 190 1244 [some (.ref u), l1, l2, l3] (.ref u :: st) H Q := G_aload_n fL_law_1243 rfl
theorem fL_law_1244 : ft 190 1244 = some (.iload_n 3, 0, 0, 0, .null) := by decide +kernel
theorem gL_law_1244 {l0 l1 l2 : Option Value} {u : Int32} {st : List Value} {H : HP} {Q : Option Value → HP → Prop} : Go 190 1244 [l0, l1, l2, some (.int u)] st H Q ↔ Go 190 1245 [l0, l1, l2, some (.int u)] (.int u :: st) H Q := G_iload_n fL_law_1244 rfl
theorem fL_law_1245 : ft 190 1245 = some (.iconst 4, 0, 0, 0, .null) := by decide +kernel
theorem gL_law_1245 {L : List (Option Value)} {st : List Value} {H : HP} {Q : Option Value → HP → Prop} : Go 190 1245 L st H Q ↔ Go 190 1246 L (vi 4 :: st) H Q := G_iconst fL_law_1245
theorem fL_law_1246 : ft 190 1246 = some (.iadd, 0, 0, 0, .null) := by decide +kernel
theorem gL_law_1246 {L : List (Option Value)} {a b : Int} {st : List Value} {H : HP} {Q : Option Value → HP → Prop} : Go 190 1246 L (vi b :: vi a :: st) H Q ↔ Go 190 1247 L (vi (a + b) :: st) H Q := G_iadd fL_law_1246
theorem fL_law_1247 : ft 190 1247 = some (.iaload, 0, 0, 0, .null) := by decide +kernel
theorem gL_law_1247 {L : List (Option Value)} {p : Nat} {a : Int} {st : List Value} {H : HP} {Q : Option Value → HP → Prop} : Go 190 1247 L (vi a :: .ref p :: st) H Q ↔ Rd (aJ' (hget H p) a) 190 1248 L st H Q := G_iald fL_law_1247
theorem fL_law_1248 : ft 190 1248 = some (.i2l, 0, 0, 0, .null) := by decide +kernel
theorem gL_law_1248 {L : List (Option Value)} {a : Int} (c : -2147483648 ≤ a ∧ a ≤ 2147483647) {st : List Value} {H : HP} {Q : Option Value → HP → Prop} : Go 190 1248 L (vi a :: st) H Q ↔ Go 190 1249 L (vl a :: st) H Q := G_i2l fL_law_1248 c
theorem fL_law_1249 : ft 190 1249 = some (.ldc2_w 27, 0, 0, 1105, .long (4294967295)) := by decide +kernel
theorem gL_law_1249 {L : List (Option Value)} {st : List Value} {H : HP} {Q : Option Value → HP → Prop} : Go 190 1249 L st H Q ↔ Go 190 1252 L (vl (4294967295) :: st) H Q := G_ldcl fL_law_1249 (by decide +kernel)
theorem fL_law_1252 : ft 190 1252 = some (.land, 0, 0, 0, .null) := by decide +kernel
theorem gL_law_1252 {L : List (Option Value)} {a b : Int} {st : List Value} {H : HP} {Q : Option Value → HP → Prop} : Go 190 1252 L (vl b :: vl a :: st) H Q ↔ Go 190 1253 L (vl (bAnd a b) :: st) H Q := G_land fL_law_1252
theorem fL_law_1253 : ft 190 1253 = some (.lor, 0, 0, 0, .null) := by decide +kernel
theorem gL_law_1253 {L : List (Option Value)} {a b : Int} {st : List Value} {H : HP} {Q : Option Value → HP → Prop} : Go 190 1253 L (vl b :: vl a :: st) H Q ↔ Go 190 1254 L (vl (bOr a b) :: st) H Q := G_lor fL_law_1253
theorem fL_law_1254 : ft 190 1254 = some (.invokevirtual 139, 99, 0, 667, .null) := by decide +kernel
theorem gL_law_1254 {L : List (Option Value)} {p : Nat} {a0 : Int32} {a1 : Int32} {a2 : Int64}  {H : HP} {Q : Option Value → HP → Prop} : Go 190 1254 L (.long a2 :: .int a1 :: .int a0 :: .ref p :: []) H Q ↔ (iso 8 (hget H p) = true ∧ Go 99 0 [some (.ref p), some (.int a0), some (.int a1), some (.long a2), none, none, none, none] [] H (Cont 190 1257 L [] Q)) := G_cV (n := 3) (N := 8) (as := [.long a2, .int a1, .int a0]) (st := []) fL_law_1254 (by decide +kernel) rfl (Nat.le_of_ble_eq_true rfl) (Nat.le_of_ble_eq_true rfl) rfl
theorem fL_law_1257 : ft 190 1257 = some (.aload_n 2, 0, 0, 0, .null) := by decide +kernel
theorem gL_law_1257 {l0 l1 l3 : Option Value} {u : Nat} {st : List Value} {H : HP} {Q : Option Value → HP → Prop} : Go 190 1257 [l0, l1, some (.ref u), l3] st H Q ↔ Go 190 1258 [l0, l1, some (.ref u), l3] (.ref u :: st) H Q := G_aload_n fL_law_1257 rfl
theorem gL_law_1257N {l0 l1 l3 : Option Value} {st : List Value} {H : HP} {Q : Option Value → HP → Prop} : Go 190 1257 [l0, l1, some .null, l3] st H Q ↔ Go 190 1258 [l0, l1, some .null, l3] (.null :: st) H Q := G_aload_nN fL_law_1257 rfl
theorem fL_law_1258 : ft 190 1258 = some (.aload_n 0, 0, 0, 0, .null) := by decide +kernel
theorem gL_law_1258 {l1 l2 l3 : Option Value} {u : Nat} {st : List Value} {H : HP} {Q : Option Value → HP → Prop} : Go 190 1258 [some (.ref u), l1, l2, l3] st H Q ↔ Go 190 1259 [some (.ref u), l1, l2, l3] (.ref u :: st) H Q := G_aload_n fL_law_1258 rfl
theorem fL_law_1259 : ft 190 1259 = some (.iload_n 3, 0, 0, 0, .null) := by decide +kernel
theorem gL_law_1259 {l0 l1 l2 : Option Value} {u : Int32} {st : List Value} {H : HP} {Q : Option Value → HP → Prop} : Go 190 1259 [l0, l1, l2, some (.int u)] st H Q ↔ Go 190 1260 [l0, l1, l2, some (.int u)] (.int u :: st) H Q := G_iload_n fL_law_1259 rfl
theorem fL_law_1260 : ft 190 1260 = some (.iconst 1, 0, 0, 0, .null) := by decide +kernel
theorem gL_law_1260 {L : List (Option Value)} {st : List Value} {H : HP} {Q : Option Value → HP → Prop} : Go 190 1260 L st H Q ↔ Go 190 1261 L (vi 1 :: st) H Q := G_iconst fL_law_1260
theorem fL_law_1261 : ft 190 1261 = some (.iadd, 0, 0, 0, .null) := by decide +kernel
theorem gL_law_1261 {L : List (Option Value)} {a b : Int} {st : List Value} {H : HP} {Q : Option Value → HP → Prop} : Go 190 1261 L (vi b :: vi a :: st) H Q ↔ Go 190 1262 L (vi (a + b) :: st) H Q := G_iadd fL_law_1261
theorem fL_law_1262 : ft 190 1262 = some (.iaload, 0, 0, 0, .null) := by decide +kernel
theorem gL_law_1262 {L : List (Option Value)} {p : Nat} {a : Int} {st : List Value} {H : HP} {Q : Option Value → HP → Prop} : Go 190 1262 L (vi a :: .ref p :: st) H Q ↔ Rd (aJ' (hget H p) a) 190 1263 L st H Q := G_iald fL_law_1262
theorem fL_law_1263 : ft 190 1263 = some (.aload_n 0, 0, 0, 0, .null) := by decide +kernel
theorem gL_law_1263 {l1 l2 l3 : Option Value} {u : Nat} {st : List Value} {H : HP} {Q : Option Value → HP → Prop} : Go 190 1263 [some (.ref u), l1, l2, l3] st H Q ↔ Go 190 1264 [some (.ref u), l1, l2, l3] (.ref u :: st) H Q := G_aload_n fL_law_1263 rfl
theorem fL_law_1264 : ft 190 1264 = some (.iload_n 3, 0, 0, 0, .null) := by decide +kernel
theorem gL_law_1264 {l0 l1 l2 : Option Value} {u : Int32} {st : List Value} {H : HP} {Q : Option Value → HP → Prop} : Go 190 1264 [l0, l1, l2, some (.int u)] st H Q ↔ Go 190 1265 [l0, l1, l2, some (.int u)] (.int u :: st) H Q := G_iload_n fL_law_1264 rfl
theorem fL_law_1265 : ft 190 1265 = some (.iconst 2, 0, 0, 0, .null) := by decide +kernel
theorem gL_law_1265 {L : List (Option Value)} {st : List Value} {H : HP} {Q : Option Value → HP → Prop} : Go 190 1265 L st H Q ↔ Go 190 1266 L (vi 2 :: st) H Q := G_iconst fL_law_1265
theorem fL_law_1266 : ft 190 1266 = some (.iadd, 0, 0, 0, .null) := by decide +kernel
theorem gL_law_1266 {L : List (Option Value)} {a b : Int} {st : List Value} {H : HP} {Q : Option Value → HP → Prop} : Go 190 1266 L (vi b :: vi a :: st) H Q ↔ Go 190 1267 L (vi (a + b) :: st) H Q := G_iadd fL_law_1266
theorem fL_law_1267 : ft 190 1267 = some (.iaload, 0, 0, 0, .null) := by decide +kernel
theorem gL_law_1267 {L : List (Option Value)} {p : Nat} {a : Int} {st : List Value} {H : HP} {Q : Option Value → HP → Prop} : Go 190 1267 L (vi a :: .ref p :: st) H Q ↔ Rd (aJ' (hget H p) a) 190 1268 L st H Q := G_iald fL_law_1267
theorem fL_law_1268 : ft 190 1268 = some (.aload_n 0, 0, 0, 0, .null) := by decide +kernel
theorem gL_law_1268 {l1 l2 l3 : Option Value} {u : Nat} {st : List Value} {H : HP} {Q : Option Value → HP → Prop} : Go 190 1268 [some (.ref u), l1, l2, l3] st H Q ↔ Go 190 1269 [some (.ref u), l1, l2, l3] (.ref u :: st) H Q := G_aload_n fL_law_1268 rfl
theorem fL_law_1269 : ft 190 1269 = some (.iload_n 3, 0, 0, 0, .null) := by decide +kernel
theorem gL_law_1269 {l0 l1 l2 : Option Value} {u : Int32} {st : List Value} {H : HP} {Q : Option Value → HP → Prop} : Go 190 1269 [l0, l1, l2, some (.int u)] st H Q ↔ Go 190 1270 [l0, l1, l2, some (.int u)] (.int u :: st) H Q := G_iload_n fL_law_1269 rfl
theorem fL_law_1270 : ft 190 1270 = some (.iconst 3, 0, 0, 0, .null) := by decide +kernel
theorem gL_law_1270 {L : List (Option Value)} {st : List Value} {H : HP} {Q : Option Value → HP → Prop} : Go 190 1270 L st H Q ↔ Go 190 1271 L (vi 3 :: st) H Q := G_iconst fL_law_1270
theorem fL_law_1271 : ft 190 1271 = some (.iadd, 0, 0, 0, .null) := by decide +kernel
theorem gL_law_1271 {L : List (Option Value)} {a b : Int} {st : List Value} {H : HP} {Q : Option Value → HP → Prop} : Go 190 1271 L (vi b :: vi a :: st) H Q ↔ Go 190 1272 L (vi (a + b) :: st) H Q := G_iadd fL_law_1271
theorem fL_law_1272 : ft 190 1272 = some (.iaload, 0, 0, 0, .null) := by decide +kernel
theorem gL_law_1272 {L : List (Option Value)} {p : Nat} {a : Int} {st : List Value} {H : HP} {Q : Option Value → HP → Prop} : Go 190 1272 L (vi a :: .ref p :: st) H Q ↔ Rd (aJ' (hget H p) a) 190 1273 L st H Q := G_iald fL_law_1272
theorem fL_law_1273 : ft 190 1273 = some (.i2l, 0, 0, 0, .null) := by decide +kernel
theorem gL_law_1273 {L : List (Option Value)} {a : Int} (c : -2147483648 ≤ a ∧ a ≤ 2147483647) {st : List Value} {H : HP} {Q : Option Value → HP → Prop} : Go 190 1273 L (vi a :: st) H Q ↔ Go 190 1274 L (vl a :: st) H Q := G_i2l fL_law_1273 c
theorem fL_law_1274 : ft 190 1274 = some (.bipush 32, 0, 0, 0, .null) := by decide +kernel
theorem gL_law_1274 {L : List (Option Value)} {st : List Value} {H : HP} {Q : Option Value → HP → Prop} : Go 190 1274 L st H Q ↔ Go 190 1276 L (vi 32 :: st) H Q := G_bipush fL_law_1274 (by decide)
theorem fL_law_1276 : ft 190 1276 = some (.lshl, 0, 0, 0, .null) := by decide +kernel
theorem gL_law_1276 {L : List (Option Value)} {a b : Int} {st : List Value} {H : HP} {Q : Option Value → HP → Prop} : Go 190 1276 L (vi b :: vl a :: st) H Q ↔ Go 190 1277 L (vl (bShl a b) :: st) H Q := G_lshl fL_law_1276
theorem fL_law_1277 : ft 190 1277 = some (.aload_n 0, 0, 0, 0, .null) := by decide +kernel
theorem gL_law_1277 {l1 l2 l3 : Option Value} {u : Nat} {st : List Value} {H : HP} {Q : Option Value → HP → Prop} : Go 190 1277 [some (.ref u), l1, l2, l3] st H Q ↔ Go 190 1278 [some (.ref u), l1, l2, l3] (.ref u :: st) H Q := G_aload_n fL_law_1277 rfl
theorem fL_law_1278 : ft 190 1278 = some (.iload_n 3, 0, 0, 0, .null) := by decide +kernel
theorem gL_law_1278 {l0 l1 l2 : Option Value} {u : Int32} {st : List Value} {H : HP} {Q : Option Value → HP → Prop} : Go 190 1278 [l0, l1, l2, some (.int u)] st H Q ↔ Go 190 1279 [l0, l1, l2, some (.int u)] (.int u :: st) H Q := G_iload_n fL_law_1278 rfl
theorem fL_law_1279 : ft 190 1279 = some (.iconst 4, 0, 0, 0, .null) := by decide +kernel
theorem gL_law_1279 {L : List (Option Value)} {st : List Value} {H : HP} {Q : Option Value → HP → Prop} : Go 190 1279 L st H Q ↔ Go 190 1280 L (vi 4 :: st) H Q := G_iconst fL_law_1279
theorem fL_law_1280 : ft 190 1280 = some (.iadd, 0, 0, 0, .null) := by decide +kernel
theorem gL_law_1280 {L : List (Option Value)} {a b : Int} {st : List Value} {H : HP} {Q : Option Value → HP → Prop} : Go 190 1280 L (vi b :: vi a :: st) H Q ↔ Go 190 1281 L (vi (a + b) :: st) H Q := G_iadd fL_law_1280
theorem fL_law_1281 : ft 190 1281 = some (.iaload, 0, 0, 0, .null) := by decide +kernel
theorem gL_law_1281 {L : List (Option Value)} {p : Nat} {a : Int} {st : List Value} {H : HP} {Q : Option Value → HP → Prop} : Go 190 1281 L (vi a :: .ref p :: st) H Q ↔ Rd (aJ' (hget H p) a) 190 1282 L st H Q := G_iald fL_law_1281
theorem fL_law_1282 : ft 190 1282 = some (.i2l, 0, 0, 0, .null) := by decide +kernel
theorem gL_law_1282 {L : List (Option Value)} {a : Int} (c : -2147483648 ≤ a ∧ a ≤ 2147483647) {st : List Value} {H : HP} {Q : Option Value → HP → Prop} : Go 190 1282 L (vi a :: st) H Q ↔ Go 190 1283 L (vl a :: st) H Q := G_i2l fL_law_1282 c
theorem fL_law_1283 : ft 190 1283 = some (.ldc2_w 27, 0, 0, 1105, .long (4294967295)) := by decide +kernel
theorem gL_law_1283 {L : List (Option Value)} {st : List Value} {H : HP} {Q : Option Value → HP → Prop} : Go 190 1283 L st H Q ↔ Go 190 1286 L (vl (4294967295) :: st) H Q := G_ldcl fL_law_1283 (by decide +kernel)
theorem fL_law_1286 : ft 190 1286 = some (.land, 0, 0, 0, .null) := by decide +kernel
theorem gL_law_1286 {L : List (Option Value)} {a b : Int} {st : List Value} {H : HP} {Q : Option Value → HP → Prop} : Go 190 1286 L (vl b :: vl a :: st) H Q ↔ Go 190 1287 L (vl (bAnd a b) :: st) H Q := G_land fL_law_1286
theorem fL_law_1287 : ft 190 1287 = some (.lor, 0, 0, 0, .null) := by decide +kernel
theorem gL_law_1287 {L : List (Option Value)} {a b : Int} {st : List Value} {H : HP} {Q : Option Value → HP → Prop} : Go 190 1287 L (vl b :: vl a :: st) H Q ↔ Go 190 1288 L (vl (bOr a b) :: st) H Q := G_lor fL_law_1287
theorem fL_law_1288 : ft 190 1288 = some (.invokevirtual 142, 173, 0, 1060, .null) := by decide +kernel
theorem gL_law_1288 {L : List (Option Value)} {p : Nat} {a0 : Int32} {a1 : Int32} {a2 : Int64} {r0 : Int32} {H : HP} {Q : Option Value → HP → Prop} : Go 190 1288 L (.long a2 :: .int a1 :: .int a0 :: .ref p :: [.int r0]) H Q ↔ (iso 9 (hget H p) = true ∧ Go 173 0 [some (.ref p), some (.int a0), some (.int a1), some (.long a2), none, none, none, none, none, none, none, none, none] [] H (Cont 190 1291 L [.int r0] Q)) := G_cV (n := 3) (N := 13) (as := [.long a2, .int a1, .int a0]) (st := [.int r0]) fL_law_1288 (by decide +kernel) rfl (Nat.le_of_ble_eq_true rfl) (Nat.le_of_ble_eq_true rfl) rfl
theorem fL_law_1291 : ft 190 1291 = some (.if_icmp .eq 121, 0, 0, 0, .null) := by decide +kernel
theorem gL_law_1291T {L : List (Option Value)} {a b : Int} (c : (-2147483648 ≤ a ∧ a ≤ 2147483647 ∧ -2147483648 ≤ b ∧ b ≤ 2147483647) ∧ a = b) {st : List Value} {H : HP} {Q : Option Value → HP → Prop} : Go 190 1291 L (vi b :: vi a :: st) H Q ↔ Go 190 1412 L st H Q := G_icT fL_law_1291 (by decide) c
theorem gL_law_1291F {L : List (Option Value)} {a b : Int} (c : (-2147483648 ≤ a ∧ a ≤ 2147483647 ∧ -2147483648 ≤ b ∧ b ≤ 2147483647) ∧ ¬ (a = b)) {st : List Value} {H : HP} {Q : Option Value → HP → Prop} : Go 190 1291 L (vi b :: vi a :: st) H Q ↔ Go 190 1294 L st H Q := G_icF (tg := 1412) fL_law_1291 (by decide) c
theorem fL_law_1294 : ft 190 1294 = some (.iconst 0, 0, 0, 0, .null) := by decide +kernel
theorem gL_law_1294 {L : List (Option Value)} {st : List Value} {H : HP} {Q : Option Value → HP → Prop} : Go 190 1294 L st H Q ↔ Go 190 1295 L (vi 0 :: st) H Q := G_iconst fL_law_1294
theorem fL_law_1295 : ft 190 1295 = some (.ireturn, 0, 0, 0, .null) := by decide +kernel
theorem gL_law_1295 {L : List (Option Value)} {a : Int} (c : a = 0 ∨ a = 1) {H : HP} {Q : Option Value → HP → Prop} : Go 190 1295 L [vi a] H Q ↔ Q (some (vi a)) H := G_zret fL_law_1295 (by decide +kernel) c
theorem fL_law_1296 : ft 190 1296 = some (.aload_n 1, 0, 0, 0, .null) := by decide +kernel
theorem gL_law_1296 {l0 l2 l3 : Option Value} {u : Nat} {st : List Value} {H : HP} {Q : Option Value → HP → Prop} : Go 190 1296 [l0, some (.ref u), l2, l3] st H Q ↔ Go 190 1297 [l0, some (.ref u), l2, l3] (.ref u :: st) H Q := G_aload_n fL_law_1296 rfl
theorem gL_law_1296N {l0 l2 l3 : Option Value} {st : List Value} {H : HP} {Q : Option Value → HP → Prop} : Go 190 1296 [l0, some .null, l2, l3] st H Q ↔ Go 190 1297 [l0, some .null, l2, l3] (.null :: st) H Q := G_aload_nN fL_law_1296 rfl
theorem fL_law_1297 : ft 190 1297 = some (.aload_n 0, 0, 0, 0, .null) := by decide +kernel
theorem gL_law_1297 {l1 l2 l3 : Option Value} {u : Nat} {st : List Value} {H : HP} {Q : Option Value → HP → Prop} : Go 190 1297 [some (.ref u), l1, l2, l3] st H Q ↔ Go 190 1298 [some (.ref u), l1, l2, l3] (.ref u :: st) H Q := G_aload_n fL_law_1297 rfl
theorem fL_law_1298 : ft 190 1298 = some (.iload_n 3, 0, 0, 0, .null) := by decide +kernel
theorem gL_law_1298 {l0 l1 l2 : Option Value} {u : Int32} {st : List Value} {H : HP} {Q : Option Value → HP → Prop} : Go 190 1298 [l0, l1, l2, some (.int u)] st H Q ↔ Go 190 1299 [l0, l1, l2, some (.int u)] (.int u :: st) H Q := G_iload_n fL_law_1298 rfl
theorem fL_law_1299 : ft 190 1299 = some (.iconst 1, 0, 0, 0, .null) := by decide +kernel
theorem gL_law_1299 {L : List (Option Value)} {st : List Value} {H : HP} {Q : Option Value → HP → Prop} : Go 190 1299 L st H Q ↔ Go 190 1300 L (vi 1 :: st) H Q := G_iconst fL_law_1299
theorem fL_law_1300 : ft 190 1300 = some (.iadd, 0, 0, 0, .null) := by decide +kernel
theorem gL_law_1300 {L : List (Option Value)} {a b : Int} {st : List Value} {H : HP} {Q : Option Value → HP → Prop} : Go 190 1300 L (vi b :: vi a :: st) H Q ↔ Go 190 1301 L (vi (a + b) :: st) H Q := G_iadd fL_law_1300
theorem fL_law_1301 : ft 190 1301 = some (.iaload, 0, 0, 0, .null) := by decide +kernel
theorem gL_law_1301 {L : List (Option Value)} {p : Nat} {a : Int} {st : List Value} {H : HP} {Q : Option Value → HP → Prop} : Go 190 1301 L (vi a :: .ref p :: st) H Q ↔ Rd (aJ' (hget H p) a) 190 1302 L st H Q := G_iald fL_law_1301
theorem fL_law_1302 : ft 190 1302 = some (.invokevirtual 143, 100, 0, 674, .null) := by decide +kernel
theorem gL_law_1302 {L : List (Option Value)} {p : Nat} {a0 : Int32}  {H : HP} {Q : Option Value → HP → Prop} : Go 190 1302 L (.int a0 :: .ref p :: []) H Q ↔ (iso 8 (hget H p) = true ∧ Go 100 0 [some (.ref p), some (.int a0)] [] H (Cont 190 1305 L [] Q)) := G_cV (n := 1) (N := 2) (as := [.int a0]) (st := []) fL_law_1302 (by decide +kernel) rfl (Nat.le_of_ble_eq_true rfl) (Nat.le_of_ble_eq_true rfl) rfl
theorem fL_law_1305 : ft 190 1305 = some (.aload_n 2, 0, 0, 0, .null) := by decide +kernel
theorem gL_law_1305 {l0 l1 l3 : Option Value} {u : Nat} {st : List Value} {H : HP} {Q : Option Value → HP → Prop} : Go 190 1305 [l0, l1, some (.ref u), l3] st H Q ↔ Go 190 1306 [l0, l1, some (.ref u), l3] (.ref u :: st) H Q := G_aload_n fL_law_1305 rfl
theorem gL_law_1305N {l0 l1 l3 : Option Value} {st : List Value} {H : HP} {Q : Option Value → HP → Prop} : Go 190 1305 [l0, l1, some .null, l3] st H Q ↔ Go 190 1306 [l0, l1, some .null, l3] (.null :: st) H Q := G_aload_nN fL_law_1305 rfl
theorem fL_law_1306 : ft 190 1306 = some (.aload_n 0, 0, 0, 0, .null) := by decide +kernel
theorem gL_law_1306 {l1 l2 l3 : Option Value} {u : Nat} {st : List Value} {H : HP} {Q : Option Value → HP → Prop} : Go 190 1306 [some (.ref u), l1, l2, l3] st H Q ↔ Go 190 1307 [some (.ref u), l1, l2, l3] (.ref u :: st) H Q := G_aload_n fL_law_1306 rfl
theorem fL_law_1307 : ft 190 1307 = some (.iload_n 3, 0, 0, 0, .null) := by decide +kernel
theorem gL_law_1307 {l0 l1 l2 : Option Value} {u : Int32} {st : List Value} {H : HP} {Q : Option Value → HP → Prop} : Go 190 1307 [l0, l1, l2, some (.int u)] st H Q ↔ Go 190 1308 [l0, l1, l2, some (.int u)] (.int u :: st) H Q := G_iload_n fL_law_1307 rfl
theorem fL_law_1308 : ft 190 1308 = some (.iconst 1, 0, 0, 0, .null) := by decide +kernel
theorem gL_law_1308 {L : List (Option Value)} {st : List Value} {H : HP} {Q : Option Value → HP → Prop} : Go 190 1308 L st H Q ↔ Go 190 1309 L (vi 1 :: st) H Q := G_iconst fL_law_1308
theorem fL_law_1309 : ft 190 1309 = some (.iadd, 0, 0, 0, .null) := by decide +kernel
theorem gL_law_1309 {L : List (Option Value)} {a b : Int} {st : List Value} {H : HP} {Q : Option Value → HP → Prop} : Go 190 1309 L (vi b :: vi a :: st) H Q ↔ Go 190 1310 L (vi (a + b) :: st) H Q := G_iadd fL_law_1309
theorem fL_law_1310 : ft 190 1310 = some (.iaload, 0, 0, 0, .null) := by decide +kernel
theorem gL_law_1310 {L : List (Option Value)} {p : Nat} {a : Int} {st : List Value} {H : HP} {Q : Option Value → HP → Prop} : Go 190 1310 L (vi a :: .ref p :: st) H Q ↔ Rd (aJ' (hget H p) a) 190 1311 L st H Q := G_iald fL_law_1310
theorem fL_law_1311 : ft 190 1311 = some (.invokevirtual 146, 174, 0, 1064, .null) := by decide +kernel
theorem gL_law_1311 {L : List (Option Value)} {p : Nat} {a0 : Int32} {r0 : Int32} {H : HP} {Q : Option Value → HP → Prop} : Go 190 1311 L (.int a0 :: .ref p :: [.int r0]) H Q ↔ (iso 9 (hget H p) = true ∧ Go 174 0 [some (.ref p), some (.int a0)] [] H (Cont 190 1314 L [.int r0] Q)) := G_cV (n := 1) (N := 2) (as := [.int a0]) (st := [.int r0]) fL_law_1311 (by decide +kernel) rfl (Nat.le_of_ble_eq_true rfl) (Nat.le_of_ble_eq_true rfl) rfl
theorem fL_law_1314 : ft 190 1314 = some (.if_icmp .eq 98, 0, 0, 0, .null) := by decide +kernel
theorem gL_law_1314T {L : List (Option Value)} {a b : Int} (c : (-2147483648 ≤ a ∧ a ≤ 2147483647 ∧ -2147483648 ≤ b ∧ b ≤ 2147483647) ∧ a = b) {st : List Value} {H : HP} {Q : Option Value → HP → Prop} : Go 190 1314 L (vi b :: vi a :: st) H Q ↔ Go 190 1412 L st H Q := G_icT fL_law_1314 (by decide) c
theorem gL_law_1314F {L : List (Option Value)} {a b : Int} (c : (-2147483648 ≤ a ∧ a ≤ 2147483647 ∧ -2147483648 ≤ b ∧ b ≤ 2147483647) ∧ ¬ (a = b)) {st : List Value} {H : HP} {Q : Option Value → HP → Prop} : Go 190 1314 L (vi b :: vi a :: st) H Q ↔ Go 190 1317 L st H Q := G_icF (tg := 1412) fL_law_1314 (by decide) c
theorem fL_law_1317 : ft 190 1317 = some (.iconst 0, 0, 0, 0, .null) := by decide +kernel
theorem gL_law_1317 {L : List (Option Value)} {st : List Value} {H : HP} {Q : Option Value → HP → Prop} : Go 190 1317 L st H Q ↔ Go 190 1318 L (vi 0 :: st) H Q := G_iconst fL_law_1317
theorem fL_law_1318 : ft 190 1318 = some (.ireturn, 0, 0, 0, .null) := by decide +kernel
theorem gL_law_1318 {L : List (Option Value)} {a : Int} (c : a = 0 ∨ a = 1) {H : HP} {Q : Option Value → HP → Prop} : Go 190 1318 L [vi a] H Q ↔ Q (some (vi a)) H := G_zret fL_law_1318 (by decide +kernel) c
theorem fL_law_1319 : ft 190 1319 = some (.aload_n 1, 0, 0, 0, .null) := by decide +kernel
theorem gL_law_1319 {l0 l2 l3 : Option Value} {u : Nat} {st : List Value} {H : HP} {Q : Option Value → HP → Prop} : Go 190 1319 [l0, some (.ref u), l2, l3] st H Q ↔ Go 190 1320 [l0, some (.ref u), l2, l3] (.ref u :: st) H Q := G_aload_n fL_law_1319 rfl
theorem gL_law_1319N {l0 l2 l3 : Option Value} {st : List Value} {H : HP} {Q : Option Value → HP → Prop} : Go 190 1319 [l0, some .null, l2, l3] st H Q ↔ Go 190 1320 [l0, some .null, l2, l3] (.null :: st) H Q := G_aload_nN fL_law_1319 rfl
theorem fL_law_1320 : ft 190 1320 = some (.aload_n 0, 0, 0, 0, .null) := by decide +kernel
theorem gL_law_1320 {l1 l2 l3 : Option Value} {u : Nat} {st : List Value} {H : HP} {Q : Option Value → HP → Prop} : Go 190 1320 [some (.ref u), l1, l2, l3] st H Q ↔ Go 190 1321 [some (.ref u), l1, l2, l3] (.ref u :: st) H Q := G_aload_n fL_law_1320 rfl
theorem fL_law_1321 : ft 190 1321 = some (.iload_n 3, 0, 0, 0, .null) := by decide +kernel
theorem gL_law_1321 {l0 l1 l2 : Option Value} {u : Int32} {st : List Value} {H : HP} {Q : Option Value → HP → Prop} : Go 190 1321 [l0, l1, l2, some (.int u)] st H Q ↔ Go 190 1322 [l0, l1, l2, some (.int u)] (.int u :: st) H Q := G_iload_n fL_law_1321 rfl
theorem fL_law_1322 : ft 190 1322 = some (.iconst 1, 0, 0, 0, .null) := by decide +kernel
theorem gL_law_1322 {L : List (Option Value)} {st : List Value} {H : HP} {Q : Option Value → HP → Prop} : Go 190 1322 L st H Q ↔ Go 190 1323 L (vi 1 :: st) H Q := G_iconst fL_law_1322
theorem fL_law_1323 : ft 190 1323 = some (.iadd, 0, 0, 0, .null) := by decide +kernel
theorem gL_law_1323 {L : List (Option Value)} {a b : Int} {st : List Value} {H : HP} {Q : Option Value → HP → Prop} : Go 190 1323 L (vi b :: vi a :: st) H Q ↔ Go 190 1324 L (vi (a + b) :: st) H Q := G_iadd fL_law_1323
theorem fL_law_1324 : ft 190 1324 = some (.iaload, 0, 0, 0, .null) := by decide +kernel
theorem gL_law_1324 {L : List (Option Value)} {p : Nat} {a : Int} {st : List Value} {H : HP} {Q : Option Value → HP → Prop} : Go 190 1324 L (vi a :: .ref p :: st) H Q ↔ Rd (aJ' (hget H p) a) 190 1325 L st H Q := G_iald fL_law_1324
theorem fL_law_1325 : ft 190 1325 = some (.aload_n 0, 0, 0, 0, .null) := by decide +kernel
theorem gL_law_1325 {l1 l2 l3 : Option Value} {u : Nat} {st : List Value} {H : HP} {Q : Option Value → HP → Prop} : Go 190 1325 [some (.ref u), l1, l2, l3] st H Q ↔ Go 190 1326 [some (.ref u), l1, l2, l3] (.ref u :: st) H Q := G_aload_n fL_law_1325 rfl
theorem fL_law_1326 : ft 190 1326 = some (.iload_n 3, 0, 0, 0, .null) := by decide +kernel
theorem gL_law_1326 {l0 l1 l2 : Option Value} {u : Int32} {st : List Value} {H : HP} {Q : Option Value → HP → Prop} : Go 190 1326 [l0, l1, l2, some (.int u)] st H Q ↔ Go 190 1327 [l0, l1, l2, some (.int u)] (.int u :: st) H Q := G_iload_n fL_law_1326 rfl
theorem fL_law_1327 : ft 190 1327 = some (.iconst 2, 0, 0, 0, .null) := by decide +kernel
theorem gL_law_1327 {L : List (Option Value)} {st : List Value} {H : HP} {Q : Option Value → HP → Prop} : Go 190 1327 L st H Q ↔ Go 190 1328 L (vi 2 :: st) H Q := G_iconst fL_law_1327
theorem fL_law_1328 : ft 190 1328 = some (.iadd, 0, 0, 0, .null) := by decide +kernel
theorem gL_law_1328 {L : List (Option Value)} {a b : Int} {st : List Value} {H : HP} {Q : Option Value → HP → Prop} : Go 190 1328 L (vi b :: vi a :: st) H Q ↔ Go 190 1329 L (vi (a + b) :: st) H Q := G_iadd fL_law_1328
theorem fL_law_1329 : ft 190 1329 = some (.iaload, 0, 0, 0, .null) := by decide +kernel
theorem gL_law_1329 {L : List (Option Value)} {p : Nat} {a : Int} {st : List Value} {H : HP} {Q : Option Value → HP → Prop} : Go 190 1329 L (vi a :: .ref p :: st) H Q ↔ Rd (aJ' (hget H p) a) 190 1330 L st H Q := G_iald fL_law_1329
theorem fL_law_1330 : ft 190 1330 = some (.invokevirtual 147, 101, 0, 679, .null) := by decide +kernel
theorem gL_law_1330 {L : List (Option Value)} {p : Nat} {a0 : Int32} {a1 : Int32}  {H : HP} {Q : Option Value → HP → Prop} : Go 190 1330 L (.int a1 :: .int a0 :: .ref p :: []) H Q ↔ (iso 8 (hget H p) = true ∧ Go 101 0 [some (.ref p), some (.int a0), some (.int a1), none, none] [] H (Cont 190 1333 L [] Q)) := G_cV (n := 2) (N := 5) (as := [.int a1, .int a0]) (st := []) fL_law_1330 (by decide +kernel) rfl (Nat.le_of_ble_eq_true rfl) (Nat.le_of_ble_eq_true rfl) rfl
theorem fL_law_1333 : ft 190 1333 = some (.aload_n 2, 0, 0, 0, .null) := by decide +kernel
theorem gL_law_1333 {l0 l1 l3 : Option Value} {u : Nat} {st : List Value} {H : HP} {Q : Option Value → HP → Prop} : Go 190 1333 [l0, l1, some (.ref u), l3] st H Q ↔ Go 190 1334 [l0, l1, some (.ref u), l3] (.ref u :: st) H Q := G_aload_n fL_law_1333 rfl
theorem gL_law_1333N {l0 l1 l3 : Option Value} {st : List Value} {H : HP} {Q : Option Value → HP → Prop} : Go 190 1333 [l0, l1, some .null, l3] st H Q ↔ Go 190 1334 [l0, l1, some .null, l3] (.null :: st) H Q := G_aload_nN fL_law_1333 rfl
theorem fL_law_1334 : ft 190 1334 = some (.aload_n 0, 0, 0, 0, .null) := by decide +kernel
theorem gL_law_1334 {l1 l2 l3 : Option Value} {u : Nat} {st : List Value} {H : HP} {Q : Option Value → HP → Prop} : Go 190 1334 [some (.ref u), l1, l2, l3] st H Q ↔ Go 190 1335 [some (.ref u), l1, l2, l3] (.ref u :: st) H Q := G_aload_n fL_law_1334 rfl
theorem fL_law_1335 : ft 190 1335 = some (.iload_n 3, 0, 0, 0, .null) := by decide +kernel
theorem gL_law_1335 {l0 l1 l2 : Option Value} {u : Int32} {st : List Value} {H : HP} {Q : Option Value → HP → Prop} : Go 190 1335 [l0, l1, l2, some (.int u)] st H Q ↔ Go 190 1336 [l0, l1, l2, some (.int u)] (.int u :: st) H Q := G_iload_n fL_law_1335 rfl
theorem fL_law_1336 : ft 190 1336 = some (.iconst 1, 0, 0, 0, .null) := by decide +kernel
theorem gL_law_1336 {L : List (Option Value)} {st : List Value} {H : HP} {Q : Option Value → HP → Prop} : Go 190 1336 L st H Q ↔ Go 190 1337 L (vi 1 :: st) H Q := G_iconst fL_law_1336
theorem fL_law_1337 : ft 190 1337 = some (.iadd, 0, 0, 0, .null) := by decide +kernel
theorem gL_law_1337 {L : List (Option Value)} {a b : Int} {st : List Value} {H : HP} {Q : Option Value → HP → Prop} : Go 190 1337 L (vi b :: vi a :: st) H Q ↔ Go 190 1338 L (vi (a + b) :: st) H Q := G_iadd fL_law_1337
theorem fL_law_1338 : ft 190 1338 = some (.iaload, 0, 0, 0, .null) := by decide +kernel
theorem gL_law_1338 {L : List (Option Value)} {p : Nat} {a : Int} {st : List Value} {H : HP} {Q : Option Value → HP → Prop} : Go 190 1338 L (vi a :: .ref p :: st) H Q ↔ Rd (aJ' (hget H p) a) 190 1339 L st H Q := G_iald fL_law_1338
theorem fL_law_1339 : ft 190 1339 = some (.aload_n 0, 0, 0, 0, .null) := by decide +kernel
theorem gL_law_1339 {l1 l2 l3 : Option Value} {u : Nat} {st : List Value} {H : HP} {Q : Option Value → HP → Prop} : Go 190 1339 [some (.ref u), l1, l2, l3] st H Q ↔ Go 190 1340 [some (.ref u), l1, l2, l3] (.ref u :: st) H Q := G_aload_n fL_law_1339 rfl
theorem fL_law_1340 : ft 190 1340 = some (.iload_n 3, 0, 0, 0, .null) := by decide +kernel
theorem gL_law_1340 {l0 l1 l2 : Option Value} {u : Int32} {st : List Value} {H : HP} {Q : Option Value → HP → Prop} : Go 190 1340 [l0, l1, l2, some (.int u)] st H Q ↔ Go 190 1341 [l0, l1, l2, some (.int u)] (.int u :: st) H Q := G_iload_n fL_law_1340 rfl
theorem fL_law_1341 : ft 190 1341 = some (.iconst 2, 0, 0, 0, .null) := by decide +kernel
theorem gL_law_1341 {L : List (Option Value)} {st : List Value} {H : HP} {Q : Option Value → HP → Prop} : Go 190 1341 L st H Q ↔ Go 190 1342 L (vi 2 :: st) H Q := G_iconst fL_law_1341
theorem fL_law_1342 : ft 190 1342 = some (.iadd, 0, 0, 0, .null) := by decide +kernel
theorem gL_law_1342 {L : List (Option Value)} {a b : Int} {st : List Value} {H : HP} {Q : Option Value → HP → Prop} : Go 190 1342 L (vi b :: vi a :: st) H Q ↔ Go 190 1343 L (vi (a + b) :: st) H Q := G_iadd fL_law_1342
theorem fL_law_1343 : ft 190 1343 = some (.iaload, 0, 0, 0, .null) := by decide +kernel
theorem gL_law_1343 {L : List (Option Value)} {p : Nat} {a : Int} {st : List Value} {H : HP} {Q : Option Value → HP → Prop} : Go 190 1343 L (vi a :: .ref p :: st) H Q ↔ Rd (aJ' (hget H p) a) 190 1344 L st H Q := G_iald fL_law_1343
theorem fL_law_1344 : ft 190 1344 = some (.invokevirtual 150, 177, 0, 1068, .null) := by decide +kernel
theorem gL_law_1344 {L : List (Option Value)} {p : Nat} {a0 : Int32} {a1 : Int32} {r0 : Int32} {H : HP} {Q : Option Value → HP → Prop} : Go 190 1344 L (.int a1 :: .int a0 :: .ref p :: [.int r0]) H Q ↔ (iso 9 (hget H p) = true ∧ Go 177 0 [some (.ref p), some (.int a0), some (.int a1), none] [] H (Cont 190 1347 L [.int r0] Q)) := G_cV (n := 2) (N := 4) (as := [.int a1, .int a0]) (st := [.int r0]) fL_law_1344 (by decide +kernel) rfl (Nat.le_of_ble_eq_true rfl) (Nat.le_of_ble_eq_true rfl) rfl
theorem fL_law_1347 : ft 190 1347 = some (.if_icmp .eq 65, 0, 0, 0, .null) := by decide +kernel
theorem gL_law_1347T {L : List (Option Value)} {a b : Int} (c : (-2147483648 ≤ a ∧ a ≤ 2147483647 ∧ -2147483648 ≤ b ∧ b ≤ 2147483647) ∧ a = b) {st : List Value} {H : HP} {Q : Option Value → HP → Prop} : Go 190 1347 L (vi b :: vi a :: st) H Q ↔ Go 190 1412 L st H Q := G_icT fL_law_1347 (by decide) c
theorem gL_law_1347F {L : List (Option Value)} {a b : Int} (c : (-2147483648 ≤ a ∧ a ≤ 2147483647 ∧ -2147483648 ≤ b ∧ b ≤ 2147483647) ∧ ¬ (a = b)) {st : List Value} {H : HP} {Q : Option Value → HP → Prop} : Go 190 1347 L (vi b :: vi a :: st) H Q ↔ Go 190 1350 L st H Q := G_icF (tg := 1412) fL_law_1347 (by decide) c
theorem fL_law_1350 : ft 190 1350 = some (.iconst 0, 0, 0, 0, .null) := by decide +kernel
theorem gL_law_1350 {L : List (Option Value)} {st : List Value} {H : HP} {Q : Option Value → HP → Prop} : Go 190 1350 L st H Q ↔ Go 190 1351 L (vi 0 :: st) H Q := G_iconst fL_law_1350
theorem fL_law_1351 : ft 190 1351 = some (.ireturn, 0, 0, 0, .null) := by decide +kernel
theorem gL_law_1351 {L : List (Option Value)} {a : Int} (c : a = 0 ∨ a = 1) {H : HP} {Q : Option Value → HP → Prop} : Go 190 1351 L [vi a] H Q ↔ Q (some (vi a)) H := G_zret fL_law_1351 (by decide +kernel) c
theorem fL_law_1352 : ft 190 1352 = some (.aload_n 1, 0, 0, 0, .null) := by decide +kernel
theorem gL_law_1352 {l0 l2 l3 : Option Value} {u : Nat} {st : List Value} {H : HP} {Q : Option Value → HP → Prop} : Go 190 1352 [l0, some (.ref u), l2, l3] st H Q ↔ Go 190 1353 [l0, some (.ref u), l2, l3] (.ref u :: st) H Q := G_aload_n fL_law_1352 rfl
theorem gL_law_1352N {l0 l2 l3 : Option Value} {st : List Value} {H : HP} {Q : Option Value → HP → Prop} : Go 190 1352 [l0, some .null, l2, l3] st H Q ↔ Go 190 1353 [l0, some .null, l2, l3] (.null :: st) H Q := G_aload_nN fL_law_1352 rfl
theorem fL_law_1353 : ft 190 1353 = some (.aload_n 0, 0, 0, 0, .null) := by decide +kernel
theorem gL_law_1353 {l1 l2 l3 : Option Value} {u : Nat} {st : List Value} {H : HP} {Q : Option Value → HP → Prop} : Go 190 1353 [some (.ref u), l1, l2, l3] st H Q ↔ Go 190 1354 [some (.ref u), l1, l2, l3] (.ref u :: st) H Q := G_aload_n fL_law_1353 rfl
theorem fL_law_1354 : ft 190 1354 = some (.iload_n 3, 0, 0, 0, .null) := by decide +kernel
theorem gL_law_1354 {l0 l1 l2 : Option Value} {u : Int32} {st : List Value} {H : HP} {Q : Option Value → HP → Prop} : Go 190 1354 [l0, l1, l2, some (.int u)] st H Q ↔ Go 190 1355 [l0, l1, l2, some (.int u)] (.int u :: st) H Q := G_iload_n fL_law_1354 rfl
theorem fL_law_1355 : ft 190 1355 = some (.iconst 1, 0, 0, 0, .null) := by decide +kernel
theorem gL_law_1355 {L : List (Option Value)} {st : List Value} {H : HP} {Q : Option Value → HP → Prop} : Go 190 1355 L st H Q ↔ Go 190 1356 L (vi 1 :: st) H Q := G_iconst fL_law_1355
theorem fL_law_1356 : ft 190 1356 = some (.iadd, 0, 0, 0, .null) := by decide +kernel
theorem gL_law_1356 {L : List (Option Value)} {a b : Int} {st : List Value} {H : HP} {Q : Option Value → HP → Prop} : Go 190 1356 L (vi b :: vi a :: st) H Q ↔ Go 190 1357 L (vi (a + b) :: st) H Q := G_iadd fL_law_1356
theorem fL_law_1357 : ft 190 1357 = some (.iaload, 0, 0, 0, .null) := by decide +kernel
theorem gL_law_1357 {L : List (Option Value)} {p : Nat} {a : Int} {st : List Value} {H : HP} {Q : Option Value → HP → Prop} : Go 190 1357 L (vi a :: .ref p :: st) H Q ↔ Rd (aJ' (hget H p) a) 190 1358 L st H Q := G_iald fL_law_1357
theorem fL_law_1358 : ft 190 1358 = some (.invokevirtual 151, 102, 0, 735, .null) := by decide +kernel
theorem gL_law_1358 {L : List (Option Value)} {p : Nat} {a0 : Int32}  {H : HP} {Q : Option Value → HP → Prop} : Go 190 1358 L (.int a0 :: .ref p :: []) H Q ↔ (iso 8 (hget H p) = true ∧ Go 102 0 [some (.ref p), some (.int a0)] [] H (Cont 190 1361 L [] Q)) := G_cV (n := 1) (N := 2) (as := [.int a0]) (st := []) fL_law_1358 (by decide +kernel) rfl (Nat.le_of_ble_eq_true rfl) (Nat.le_of_ble_eq_true rfl) rfl
theorem fL_law_1361 : ft 190 1361 = some (.aload_n 2, 0, 0, 0, .null) := by decide +kernel
theorem gL_law_1361 {l0 l1 l3 : Option Value} {u : Nat} {st : List Value} {H : HP} {Q : Option Value → HP → Prop} : Go 190 1361 [l0, l1, some (.ref u), l3] st H Q ↔ Go 190 1362 [l0, l1, some (.ref u), l3] (.ref u :: st) H Q := G_aload_n fL_law_1361 rfl
theorem gL_law_1361N {l0 l1 l3 : Option Value} {st : List Value} {H : HP} {Q : Option Value → HP → Prop} : Go 190 1361 [l0, l1, some .null, l3] st H Q ↔ Go 190 1362 [l0, l1, some .null, l3] (.null :: st) H Q := G_aload_nN fL_law_1361 rfl
theorem fL_law_1362 : ft 190 1362 = some (.aload_n 0, 0, 0, 0, .null) := by decide +kernel
theorem gL_law_1362 {l1 l2 l3 : Option Value} {u : Nat} {st : List Value} {H : HP} {Q : Option Value → HP → Prop} : Go 190 1362 [some (.ref u), l1, l2, l3] st H Q ↔ Go 190 1363 [some (.ref u), l1, l2, l3] (.ref u :: st) H Q := G_aload_n fL_law_1362 rfl
theorem fL_law_1363 : ft 190 1363 = some (.iload_n 3, 0, 0, 0, .null) := by decide +kernel
theorem gL_law_1363 {l0 l1 l2 : Option Value} {u : Int32} {st : List Value} {H : HP} {Q : Option Value → HP → Prop} : Go 190 1363 [l0, l1, l2, some (.int u)] st H Q ↔ Go 190 1364 [l0, l1, l2, some (.int u)] (.int u :: st) H Q := G_iload_n fL_law_1363 rfl
theorem fL_law_1364 : ft 190 1364 = some (.iconst 1, 0, 0, 0, .null) := by decide +kernel
theorem gL_law_1364 {L : List (Option Value)} {st : List Value} {H : HP} {Q : Option Value → HP → Prop} : Go 190 1364 L st H Q ↔ Go 190 1365 L (vi 1 :: st) H Q := G_iconst fL_law_1364
theorem fL_law_1365 : ft 190 1365 = some (.iadd, 0, 0, 0, .null) := by decide +kernel
theorem gL_law_1365 {L : List (Option Value)} {a b : Int} {st : List Value} {H : HP} {Q : Option Value → HP → Prop} : Go 190 1365 L (vi b :: vi a :: st) H Q ↔ Go 190 1366 L (vi (a + b) :: st) H Q := G_iadd fL_law_1365
theorem fL_law_1366 : ft 190 1366 = some (.iaload, 0, 0, 0, .null) := by decide +kernel
theorem gL_law_1366 {L : List (Option Value)} {p : Nat} {a : Int} {st : List Value} {H : HP} {Q : Option Value → HP → Prop} : Go 190 1366 L (vi a :: .ref p :: st) H Q ↔ Rd (aJ' (hget H p) a) 190 1367 L st H Q := G_iald fL_law_1366
theorem fL_law_1367 : ft 190 1367 = some (.invokevirtual 154, 178, 0, 1093, .null) := by decide +kernel
theorem gL_law_1367 {L : List (Option Value)} {p : Nat} {a0 : Int32} {r0 : Int64} {H : HP} {Q : Option Value → HP → Prop} : Go 190 1367 L (.int a0 :: .ref p :: [.long r0]) H Q ↔ (iso 9 (hget H p) = true ∧ Go 178 0 [some (.ref p), some (.int a0)] [] H (Cont 190 1370 L [.long r0] Q)) := G_cV (n := 1) (N := 2) (as := [.int a0]) (st := [.long r0]) fL_law_1367 (by decide +kernel) rfl (Nat.le_of_ble_eq_true rfl) (Nat.le_of_ble_eq_true rfl) rfl
theorem fL_law_1370 : ft 190 1370 = some (.lcmp, 0, 0, 0, .null) := by decide +kernel
theorem fL_law_1370' : ft 190 1371 = some (.ifCond .eq 41, 0, 0, 0, .null) := by decide +kernel
theorem gL_law_1370T {L : List (Option Value)} {a b : Int} (c : (-9223372036854775808 ≤ a ∧ a ≤ 9223372036854775807 ∧ -9223372036854775808 ≤ b ∧ b ≤ 9223372036854775807) ∧ a = b) {st : List Value} {H : HP} {Q : Option Value → HP → Prop} : Go 190 1370 L (vl b :: vl a :: st) H Q ↔ Go 190 1412 L st H Q := G_lcT fL_law_1370 fL_law_1370' (by decide) c
theorem gL_law_1370F {L : List (Option Value)} {a b : Int} (c : (-9223372036854775808 ≤ a ∧ a ≤ 9223372036854775807 ∧ -9223372036854775808 ≤ b ∧ b ≤ 9223372036854775807) ∧ ¬ (a = b)) {st : List Value} {H : HP} {Q : Option Value → HP → Prop} : Go 190 1370 L (vl b :: vl a :: st) H Q ↔ Go 190 1374 L st H Q := G_lcF (tg := 1412) fL_law_1370 fL_law_1370' (by decide) c
theorem fL_law_1371 : ft 190 1371 = some (.ifCond .eq 41, 0, 0, 0, .null) := by decide +kernel
theorem gL_law_1371T {L : List (Option Value)} {a : Int} (c : (-2147483648 ≤ a ∧ a ≤ 2147483647) ∧ a = 0) {st : List Value} {H : HP} {Q : Option Value → HP → Prop} : Go 190 1371 L (vi a :: st) H Q ↔ Go 190 1412 L st H Q := G_ifT fL_law_1371 (by decide) c
theorem gL_law_1371F {L : List (Option Value)} {a : Int} (c : (-2147483648 ≤ a ∧ a ≤ 2147483647) ∧ ¬ (a = 0)) {st : List Value} {H : HP} {Q : Option Value → HP → Prop} : Go 190 1371 L (vi a :: st) H Q ↔ Go 190 1374 L st H Q := G_ifF (tg := 1412) fL_law_1371 (by decide) c
theorem fL_law_1374 : ft 190 1374 = some (.iconst 0, 0, 0, 0, .null) := by decide +kernel
theorem gL_law_1374 {L : List (Option Value)} {st : List Value} {H : HP} {Q : Option Value → HP → Prop} : Go 190 1374 L st H Q ↔ Go 190 1375 L (vi 0 :: st) H Q := G_iconst fL_law_1374
theorem fL_law_1375 : ft 190 1375 = some (.ireturn, 0, 0, 0, .null) := by decide +kernel
theorem gL_law_1375 {L : List (Option Value)} {a : Int} (c : a = 0 ∨ a = 1) {H : HP} {Q : Option Value → HP → Prop} : Go 190 1375 L [vi a] H Q ↔ Q (some (vi a)) H := G_zret fL_law_1375 (by decide +kernel) c
theorem fL_law_1376 : ft 190 1376 = some (.aload_n 1, 0, 0, 0, .null) := by decide +kernel
theorem gL_law_1376 {l0 l2 l3 : Option Value} {u : Nat} {st : List Value} {H : HP} {Q : Option Value → HP → Prop} : Go 190 1376 [l0, some (.ref u), l2, l3] st H Q ↔ Go 190 1377 [l0, some (.ref u), l2, l3] (.ref u :: st) H Q := G_aload_n fL_law_1376 rfl
theorem gL_law_1376N {l0 l2 l3 : Option Value} {st : List Value} {H : HP} {Q : Option Value → HP → Prop} : Go 190 1376 [l0, some .null, l2, l3] st H Q ↔ Go 190 1377 [l0, some .null, l2, l3] (.null :: st) H Q := G_aload_nN fL_law_1376 rfl
theorem fL_law_1377 : ft 190 1377 = some (.invokevirtual 155, 103, 0, 740, .null) := by decide +kernel
theorem gL_law_1377 {L : List (Option Value)} {p : Nat}   {H : HP} {Q : Option Value → HP → Prop} : Go 190 1377 L (.ref p :: []) H Q ↔ (iso 8 (hget H p) = true ∧ Go 103 0 [some (.ref p)] [] H (Cont 190 1380 L [] Q)) := G_cV (n := 0) (N := 1) (as := []) (st := []) fL_law_1377 (by decide +kernel) rfl (Nat.le_of_ble_eq_true rfl) (Nat.le_of_ble_eq_true rfl) rfl
theorem fL_law_1380 : ft 190 1380 = some (.aload_n 2, 0, 0, 0, .null) := by decide +kernel
theorem gL_law_1380 {l0 l1 l3 : Option Value} {u : Nat} {st : List Value} {H : HP} {Q : Option Value → HP → Prop} : Go 190 1380 [l0, l1, some (.ref u), l3] st H Q ↔ Go 190 1381 [l0, l1, some (.ref u), l3] (.ref u :: st) H Q := G_aload_n fL_law_1380 rfl
theorem gL_law_1380N {l0 l1 l3 : Option Value} {st : List Value} {H : HP} {Q : Option Value → HP → Prop} : Go 190 1380 [l0, l1, some .null, l3] st H Q ↔ Go 190 1381 [l0, l1, some .null, l3] (.null :: st) H Q := G_aload_nN fL_law_1380 rfl
theorem fL_law_1381 : ft 190 1381 = some (.invokevirtual 159, 179, 0, 1097, .null) := by decide +kernel
theorem gL_law_1381 {L : List (Option Value)} {p : Nat}  {r0 : Int32} {H : HP} {Q : Option Value → HP → Prop} : Go 190 1381 L (.ref p :: [.int r0]) H Q ↔ (iso 9 (hget H p) = true ∧ Go 179 0 [some (.ref p)] [] H (Cont 190 1384 L [.int r0] Q)) := G_cV (n := 0) (N := 1) (as := []) (st := [.int r0]) fL_law_1381 (by decide +kernel) rfl (Nat.le_of_ble_eq_true rfl) (Nat.le_of_ble_eq_true rfl) rfl
theorem fL_law_1384 : ft 190 1384 = some (.if_icmp .eq 28, 0, 0, 0, .null) := by decide +kernel
theorem gL_law_1384T {L : List (Option Value)} {a b : Int} (c : (-2147483648 ≤ a ∧ a ≤ 2147483647 ∧ -2147483648 ≤ b ∧ b ≤ 2147483647) ∧ a = b) {st : List Value} {H : HP} {Q : Option Value → HP → Prop} : Go 190 1384 L (vi b :: vi a :: st) H Q ↔ Go 190 1412 L st H Q := G_icT fL_law_1384 (by decide) c
theorem gL_law_1384F {L : List (Option Value)} {a b : Int} (c : (-2147483648 ≤ a ∧ a ≤ 2147483647 ∧ -2147483648 ≤ b ∧ b ≤ 2147483647) ∧ ¬ (a = b)) {st : List Value} {H : HP} {Q : Option Value → HP → Prop} : Go 190 1384 L (vi b :: vi a :: st) H Q ↔ Go 190 1387 L st H Q := G_icF (tg := 1412) fL_law_1384 (by decide) c
theorem fL_law_1387 : ft 190 1387 = some (.iconst 0, 0, 0, 0, .null) := by decide +kernel
theorem gL_law_1387 {L : List (Option Value)} {st : List Value} {H : HP} {Q : Option Value → HP → Prop} : Go 190 1387 L st H Q ↔ Go 190 1388 L (vi 0 :: st) H Q := G_iconst fL_law_1387
theorem fL_law_1388 : ft 190 1388 = some (.ireturn, 0, 0, 0, .null) := by decide +kernel
theorem gL_law_1388 {L : List (Option Value)} {a : Int} (c : a = 0 ∨ a = 1) {H : HP} {Q : Option Value → HP → Prop} : Go 190 1388 L [vi a] H Q ↔ Q (some (vi a)) H := G_zret fL_law_1388 (by decide +kernel) c
theorem fL_law_1389 : ft 190 1389 = some (.aload_n 1, 0, 0, 0, .null) := by decide +kernel
theorem gL_law_1389 {l0 l2 l3 : Option Value} {u : Nat} {st : List Value} {H : HP} {Q : Option Value → HP → Prop} : Go 190 1389 [l0, some (.ref u), l2, l3] st H Q ↔ Go 190 1390 [l0, some (.ref u), l2, l3] (.ref u :: st) H Q := G_aload_n fL_law_1389 rfl
theorem gL_law_1389N {l0 l2 l3 : Option Value} {st : List Value} {H : HP} {Q : Option Value → HP → Prop} : Go 190 1389 [l0, some .null, l2, l3] st H Q ↔ Go 190 1390 [l0, some .null, l2, l3] (.null :: st) H Q := G_aload_nN fL_law_1389 rfl
theorem fL_law_1390 : ft 190 1390 = some (.aload_n 0, 0, 0, 0, .null) := by decide +kernel
theorem gL_law_1390 {l1 l2 l3 : Option Value} {u : Nat} {st : List Value} {H : HP} {Q : Option Value → HP → Prop} : Go 190 1390 [some (.ref u), l1, l2, l3] st H Q ↔ Go 190 1391 [some (.ref u), l1, l2, l3] (.ref u :: st) H Q := G_aload_n fL_law_1390 rfl
theorem fL_law_1391 : ft 190 1391 = some (.iload_n 3, 0, 0, 0, .null) := by decide +kernel
theorem gL_law_1391 {l0 l1 l2 : Option Value} {u : Int32} {st : List Value} {H : HP} {Q : Option Value → HP → Prop} : Go 190 1391 [l0, l1, l2, some (.int u)] st H Q ↔ Go 190 1392 [l0, l1, l2, some (.int u)] (.int u :: st) H Q := G_iload_n fL_law_1391 rfl
theorem fL_law_1392 : ft 190 1392 = some (.iconst 1, 0, 0, 0, .null) := by decide +kernel
theorem gL_law_1392 {L : List (Option Value)} {st : List Value} {H : HP} {Q : Option Value → HP → Prop} : Go 190 1392 L st H Q ↔ Go 190 1393 L (vi 1 :: st) H Q := G_iconst fL_law_1392
theorem fL_law_1393 : ft 190 1393 = some (.iadd, 0, 0, 0, .null) := by decide +kernel
theorem gL_law_1393 {L : List (Option Value)} {a b : Int} {st : List Value} {H : HP} {Q : Option Value → HP → Prop} : Go 190 1393 L (vi b :: vi a :: st) H Q ↔ Go 190 1394 L (vi (a + b) :: st) H Q := G_iadd fL_law_1393
theorem fL_law_1394 : ft 190 1394 = some (.iaload, 0, 0, 0, .null) := by decide +kernel
theorem gL_law_1394 {L : List (Option Value)} {p : Nat} {a : Int} {st : List Value} {H : HP} {Q : Option Value → HP → Prop} : Go 190 1394 L (vi a :: .ref p :: st) H Q ↔ Rd (aJ' (hget H p) a) 190 1395 L st H Q := G_iald fL_law_1394
theorem fL_law_1395 : ft 190 1395 = some (.invokevirtual 160, 104, 0, 744, .null) := by decide +kernel
theorem gL_law_1395 {L : List (Option Value)} {p : Nat} {a0 : Int32}  {H : HP} {Q : Option Value → HP → Prop} : Go 190 1395 L (.int a0 :: .ref p :: []) H Q ↔ (iso 8 (hget H p) = true ∧ Go 104 0 [some (.ref p), some (.int a0)] [] H (Cont 190 1398 L [] Q)) := G_cV (n := 1) (N := 2) (as := [.int a0]) (st := []) fL_law_1395 (by decide +kernel) rfl (Nat.le_of_ble_eq_true rfl) (Nat.le_of_ble_eq_true rfl) rfl
theorem fL_law_1398 : ft 190 1398 = some (.aload_n 2, 0, 0, 0, .null) := by decide +kernel
theorem gL_law_1398 {l0 l1 l3 : Option Value} {u : Nat} {st : List Value} {H : HP} {Q : Option Value → HP → Prop} : Go 190 1398 [l0, l1, some (.ref u), l3] st H Q ↔ Go 190 1399 [l0, l1, some (.ref u), l3] (.ref u :: st) H Q := G_aload_n fL_law_1398 rfl
theorem gL_law_1398N {l0 l1 l3 : Option Value} {st : List Value} {H : HP} {Q : Option Value → HP → Prop} : Go 190 1398 [l0, l1, some .null, l3] st H Q ↔ Go 190 1399 [l0, l1, some .null, l3] (.null :: st) H Q := G_aload_nN fL_law_1398 rfl
theorem fL_law_1399 : ft 190 1399 = some (.aload_n 0, 0, 0, 0, .null) := by decide +kernel
theorem gL_law_1399 {l1 l2 l3 : Option Value} {u : Nat} {st : List Value} {H : HP} {Q : Option Value → HP → Prop} : Go 190 1399 [some (.ref u), l1, l2, l3] st H Q ↔ Go 190 1400 [some (.ref u), l1, l2, l3] (.ref u :: st) H Q := G_aload_n fL_law_1399 rfl
theorem fL_law_1400 : ft 190 1400 = some (.iload_n 3, 0, 0, 0, .null) := by decide +kernel
theorem gL_law_1400 {l0 l1 l2 : Option Value} {u : Int32} {st : List Value} {H : HP} {Q : Option Value → HP → Prop} : Go 190 1400 [l0, l1, l2, some (.int u)] st H Q ↔ Go 190 1401 [l0, l1, l2, some (.int u)] (.int u :: st) H Q := G_iload_n fL_law_1400 rfl
theorem fL_law_1401 : ft 190 1401 = some (.iconst 1, 0, 0, 0, .null) := by decide +kernel
theorem gL_law_1401 {L : List (Option Value)} {st : List Value} {H : HP} {Q : Option Value → HP → Prop} : Go 190 1401 L st H Q ↔ Go 190 1402 L (vi 1 :: st) H Q := G_iconst fL_law_1401
theorem fL_law_1402 : ft 190 1402 = some (.iadd, 0, 0, 0, .null) := by decide +kernel
theorem gL_law_1402 {L : List (Option Value)} {a b : Int} {st : List Value} {H : HP} {Q : Option Value → HP → Prop} : Go 190 1402 L (vi b :: vi a :: st) H Q ↔ Go 190 1403 L (vi (a + b) :: st) H Q := G_iadd fL_law_1402
theorem fL_law_1403 : ft 190 1403 = some (.iaload, 0, 0, 0, .null) := by decide +kernel
theorem gL_law_1403 {L : List (Option Value)} {p : Nat} {a : Int} {st : List Value} {H : HP} {Q : Option Value → HP → Prop} : Go 190 1403 L (vi a :: .ref p :: st) H Q ↔ Rd (aJ' (hget H p) a) 190 1404 L st H Q := G_iald fL_law_1403
theorem fL_law_1404 : ft 190 1404 = some (.invokevirtual 163, 180, 0, 1101, .null) := by decide +kernel
theorem gL_law_1404 {L : List (Option Value)} {p : Nat} {a0 : Int32} {r0 : Int32} {H : HP} {Q : Option Value → HP → Prop} : Go 190 1404 L (.int a0 :: .ref p :: [.int r0]) H Q ↔ (iso 9 (hget H p) = true ∧ Go 180 0 [some (.ref p), some (.int a0)] [] H (Cont 190 1407 L [.int r0] Q)) := G_cV (n := 1) (N := 2) (as := [.int a0]) (st := [.int r0]) fL_law_1404 (by decide +kernel) rfl (Nat.le_of_ble_eq_true rfl) (Nat.le_of_ble_eq_true rfl) rfl
theorem fL_law_1407 : ft 190 1407 = some (.if_icmp .eq 5, 0, 0, 0, .null) := by decide +kernel
theorem gL_law_1407T {L : List (Option Value)} {a b : Int} (c : (-2147483648 ≤ a ∧ a ≤ 2147483647 ∧ -2147483648 ≤ b ∧ b ≤ 2147483647) ∧ a = b) {st : List Value} {H : HP} {Q : Option Value → HP → Prop} : Go 190 1407 L (vi b :: vi a :: st) H Q ↔ Go 190 1412 L st H Q := G_icT fL_law_1407 (by decide) c
theorem gL_law_1407F {L : List (Option Value)} {a b : Int} (c : (-2147483648 ≤ a ∧ a ≤ 2147483647 ∧ -2147483648 ≤ b ∧ b ≤ 2147483647) ∧ ¬ (a = b)) {st : List Value} {H : HP} {Q : Option Value → HP → Prop} : Go 190 1407 L (vi b :: vi a :: st) H Q ↔ Go 190 1410 L st H Q := G_icF (tg := 1412) fL_law_1407 (by decide) c
theorem fL_law_1410 : ft 190 1410 = some (.iconst 0, 0, 0, 0, .null) := by decide +kernel
theorem gL_law_1410 {L : List (Option Value)} {st : List Value} {H : HP} {Q : Option Value → HP → Prop} : Go 190 1410 L st H Q ↔ Go 190 1411 L (vi 0 :: st) H Q := G_iconst fL_law_1410
theorem fL_law_1411 : ft 190 1411 = some (.ireturn, 0, 0, 0, .null) := by decide +kernel
theorem gL_law_1411 {L : List (Option Value)} {a : Int} (c : a = 0 ∨ a = 1) {H : HP} {Q : Option Value → HP → Prop} : Go 190 1411 L [vi a] H Q ↔ Q (some (vi a)) H := G_zret fL_law_1411 (by decide +kernel) c
theorem fL_law_1412 : ft 190 1412 = some (.iinc 3 5, 0, 0, 0, .null) := by decide +kernel
theorem gL_law_1412 {l0 l1 l2 : Option Value} {a : Int} {st : List Value} {H : HP} {Q : Option Value → HP → Prop} : Go 190 1412 [l0, l1, l2, some (vi a)] st H Q ↔ Go 190 1415 [l0, l1, l2, some (vi (a + 5))] st H Q := G_iinc fL_law_1412 rfl rfl
theorem fL_law_1415 : ft 190 1415 = some (.goto (-1397), 0, 0, 0, .null) := by decide +kernel
theorem gL_law_1415 {L : List (Option Value)} {st : List Value} {H : HP} {Q : Option Value → HP → Prop} : Go 190 1415 L st H Q ↔ Go 190 18 L st H Q := G_goto fL_law_1415 (by decide)
theorem fL_law_1418 : ft 190 1418 = some (.iconst 1, 0, 0, 0, .null) := by decide +kernel
theorem gL_law_1418 {L : List (Option Value)} {st : List Value} {H : HP} {Q : Option Value → HP → Prop} : Go 190 1418 L st H Q ↔ Go 190 1419 L (vi 1 :: st) H Q := G_iconst fL_law_1418
theorem fL_law_1419 : ft 190 1419 = some (.ireturn, 0, 0, 0, .null) := by decide +kernel
theorem gL_law_1419 {L : List (Option Value)} {a : Int} (c : a = 0 ∨ a = 1) {H : HP} {Q : Option Value → HP → Prop} : Go 190 1419 L [vi a] H Q ↔ Q (some (vi a)) H := G_zret fL_law_1419 (by decide +kernel) c

theorem fX0_scaled_0 : ft 11 0 = some (.iload_n 3, 0, 0, 0, .null) := by decide +kernel
theorem gX0_scaled_0 {l0 l1 l2 l4 l5 l6 l7 : Option Value} {u : Int32} {st : List Value} {H : HP} {Q : Option Value → HP → Prop} : Go 11 0 [l0, l1, l2, some (.int u), l4, l5, l6, l7] st H Q ↔ Go 11 1 [l0, l1, l2, some (.int u), l4, l5, l6, l7] (.int u :: st) H Q := G_iload_n fX0_scaled_0 rfl
theorem fX0_scaled_1 : ft 11 1 = some (.invokestatic 116, 185, 0, 703, .null) := by decide +kernel
theorem gX0_scaled_1 {L : List (Option Value)} {a0 : Int32}  {H : HP} {Q : Option Value → HP → Prop} : Go 11 1 L (.int a0 :: []) H Q ↔ Go 185 0 [some (.int a0)] [] H (Cont 11 4 L [] Q) := G_cS (n := 1) (N := 1) (as := [.int a0]) (st := []) fX0_scaled_1 (by decide +kernel) rfl (Nat.le_of_ble_eq_true rfl) (Nat.le_of_ble_eq_true rfl) rfl
theorem fX0_scaled_4 : ft 11 4 = some (.istore 4, 0, 0, 0, .null) := by decide +kernel
theorem gX0_scaled_4 {l0 l1 l2 l3 l4 l5 l6 l7 : Option Value} {u : Int32} {st : List Value} {H : HP} {Q : Option Value → HP → Prop} : Go 11 4 [l0, l1, l2, l3, l4, l5, l6, l7] (.int u :: st) H Q ↔ Go 11 6 [l0, l1, l2, l3, some (.int u), l5, l6, l7] st H Q := G_istore fX0_scaled_4 rfl
theorem fX0_scaled_6 : ft 11 6 = some (.dload_n 1, 0, 0, 0, .null) := by decide +kernel
theorem gX0_scaled_6 {l0 l3 l4 l5 l6 l7 : Option Value} {u : UInt64} {st : List Value} {H : HP} {Q : Option Value → HP → Prop} : Go 11 6 [l0, some (.double u), none, l3, l4, l5, l6, l7] st H Q ↔ Go 11 7 [l0, some (.double u), none, l3, l4, l5, l6, l7] (.double u :: st) H Q := G_dload_n fX0_scaled_6 rfl
theorem fX0_scaled_7 : ft 11 7 = some (.dstore 5, 0, 0, 0, .null) := by decide +kernel
theorem gX0_scaled_7 {l0 l1 l2 l3 l4 l5 l6 l7 : Option Value} {u : UInt64} {st : List Value} {H : HP} {Q : Option Value → HP → Prop} : Go 11 7 [l0, l1, l2, l3, l4, l5, l6, l7] (.double u :: st) H Q ↔ Go 11 9 [l0, l1, l2, l3, l4, some (.double u), none, l7] st H Q := G_dstore fX0_scaled_7 rfl
theorem fX0_scaled_9 : ft 11 9 = some (.iconst 0, 0, 0, 0, .null) := by decide +kernel
theorem gX0_scaled_9 {L : List (Option Value)} {st : List Value} {H : HP} {Q : Option Value → HP → Prop} : Go 11 9 L st H Q ↔ Go 11 10 L (vi 0 :: st) H Q := G_iconst fX0_scaled_9
theorem fX0_scaled_10 : ft 11 10 = some (.istore 7, 0, 0, 0, .null) := by decide +kernel
theorem gX0_scaled_10 {l0 l1 l2 l3 l4 l5 l6 l7 : Option Value} {u : Int32} {st : List Value} {H : HP} {Q : Option Value → HP → Prop} : Go 11 10 [l0, l1, l2, l3, l4, l5, l6, l7] (.int u :: st) H Q ↔ Go 11 12 [l0, l1, l2, l3, l4, l5, l6, some (.int u)] st H Q := G_istore fX0_scaled_10 rfl
theorem fX0_scaled_12 : ft 11 12 = some (.iload 7, 0, 0, 0, .null) := by decide +kernel
theorem gX0_scaled_12 {l0 l1 l2 l3 l4 l5 l6 : Option Value} {u : Int32} {st : List Value} {H : HP} {Q : Option Value → HP → Prop} : Go 11 12 [l0, l1, l2, l3, l4, l5, l6, some (.int u)] st H Q ↔ Go 11 14 [l0, l1, l2, l3, l4, l5, l6, some (.int u)] (.int u :: st) H Q := G_iload fX0_scaled_12 rfl
theorem fX0_scaled_14 : ft 11 14 = some (.bipush 10, 0, 0, 0, .null) := by decide +kernel
theorem gX0_scaled_14 {L : List (Option Value)} {st : List Value} {H : HP} {Q : Option Value → HP → Prop} : Go 11 14 L st H Q ↔ Go 11 16 L (vi 10 :: st) H Q := G_bipush fX0_scaled_14 (by decide)
theorem fX0_scaled_16 : ft 11 16 = some (.if_icmp .ge 48, 0, 0, 0, .null) := by decide +kernel
theorem gX0_scaled_16T {L : List (Option Value)} {a b : Int} (c : (-2147483648 ≤ a ∧ a ≤ 2147483647 ∧ -2147483648 ≤ b ∧ b ≤ 2147483647) ∧ b ≤ a) {st : List Value} {H : HP} {Q : Option Value → HP → Prop} : Go 11 16 L (vi b :: vi a :: st) H Q ↔ Go 11 64 L st H Q := G_icT fX0_scaled_16 (by decide) c
theorem gX0_scaled_16F {L : List (Option Value)} {a b : Int} (c : (-2147483648 ≤ a ∧ a ≤ 2147483647 ∧ -2147483648 ≤ b ∧ b ≤ 2147483647) ∧ ¬ (b ≤ a)) {st : List Value} {H : HP} {Q : Option Value → HP → Prop} : Go 11 16 L (vi b :: vi a :: st) H Q ↔ Go 11 19 L st H Q := G_icF (tg := 64) fX0_scaled_16 (by decide) c
theorem fX0_scaled_19 : ft 11 19 = some (.iload 4, 0, 0, 0, .null) := by decide +kernel
theorem gX0_scaled_19 {l0 l1 l2 l3 l5 l6 l7 : Option Value} {u : Int32} {st : List Value} {H : HP} {Q : Option Value → HP → Prop} : Go 11 19 [l0, l1, l2, l3, some (.int u), l5, l6, l7] st H Q ↔ Go 11 21 [l0, l1, l2, l3, some (.int u), l5, l6, l7] (.int u :: st) H Q := G_iload fX0_scaled_19 rfl
theorem fX0_scaled_21 : ft 11 21 = some (.iload 7, 0, 0, 0, .null) := by decide +kernel
theorem gX0_scaled_21 {l0 l1 l2 l3 l4 l5 l6 : Option Value} {u : Int32} {st : List Value} {H : HP} {Q : Option Value → HP → Prop} : Go 11 21 [l0, l1, l2, l3, l4, l5, l6, some (.int u)] st H Q ↔ Go 11 23 [l0, l1, l2, l3, l4, l5, l6, some (.int u)] (.int u :: st) H Q := G_iload fX0_scaled_21 rfl
theorem fX0_scaled_23 : ft 11 23 = some (.ishr, 0, 0, 0, .null) := by decide +kernel
theorem gX0_scaled_23 {L : List (Option Value)} {a b : Int} {st : List Value} {H : HP} {Q : Option Value → HP → Prop} : Go 11 23 L (vi b :: vi a :: st) H Q ↔ Go 11 24 L (vi (jShr a b) :: st) H Q := G_ishr fX0_scaled_23
theorem fX0_scaled_24 : ft 11 24 = some (.iconst 1, 0, 0, 0, .null) := by decide +kernel
theorem gX0_scaled_24 {L : List (Option Value)} {st : List Value} {H : HP} {Q : Option Value → HP → Prop} : Go 11 24 L st H Q ↔ Go 11 25 L (vi 1 :: st) H Q := G_iconst fX0_scaled_24
theorem fX0_scaled_25 : ft 11 25 = some (.iand, 0, 0, 0, .null) := by decide +kernel
theorem gX0_scaled_25 {L : List (Option Value)} {a b : Int} {st : List Value} {H : HP} {Q : Option Value → HP → Prop} : Go 11 25 L (vi b :: vi a :: st) H Q ↔ Go 11 26 L (vi (jAnd a b) :: st) H Q := G_iand fX0_scaled_25
theorem fX0_scaled_26 : ft 11 26 = some (.ifCond .eq 32, 0, 0, 0, .null) := by decide +kernel
theorem gX0_scaled_26T {L : List (Option Value)} {a : Int} (c : (-2147483648 ≤ a ∧ a ≤ 2147483647) ∧ a = 0) {st : List Value} {H : HP} {Q : Option Value → HP → Prop} : Go 11 26 L (vi a :: st) H Q ↔ Go 11 58 L st H Q := G_ifT fX0_scaled_26 (by decide) c
theorem gX0_scaled_26F {L : List (Option Value)} {a : Int} (c : (-2147483648 ≤ a ∧ a ≤ 2147483647) ∧ ¬ (a = 0)) {st : List Value} {H : HP} {Q : Option Value → HP → Prop} : Go 11 26 L (vi a :: st) H Q ↔ Go 11 29 L st H Q := G_ifF (tg := 58) fX0_scaled_26 (by decide) c
theorem fX0_scaled_29 : ft 11 29 = some (.iload_n 3, 0, 0, 0, .null) := by decide +kernel
theorem gX0_scaled_29 {l0 l1 l2 l4 l5 l6 l7 : Option Value} {u : Int32} {st : List Value} {H : HP} {Q : Option Value → HP → Prop} : Go 11 29 [l0, l1, l2, some (.int u), l4, l5, l6, l7] st H Q ↔ Go 11 30 [l0, l1, l2, some (.int u), l4, l5, l6, l7] (.int u :: st) H Q := G_iload_n fX0_scaled_29 rfl
theorem fX0_scaled_30 : ft 11 30 = some (.ifCond .ge 16, 0, 0, 0, .null) := by decide +kernel
theorem gX0_scaled_30T {L : List (Option Value)} {a : Int} (c : (-2147483648 ≤ a ∧ a ≤ 2147483647) ∧ 0 ≤ a) {st : List Value} {H : HP} {Q : Option Value → HP → Prop} : Go 11 30 L (vi a :: st) H Q ↔ Go 11 46 L st H Q := G_ifT fX0_scaled_30 (by decide) c
theorem gX0_scaled_30F {L : List (Option Value)} {a : Int} (c : (-2147483648 ≤ a ∧ a ≤ 2147483647) ∧ ¬ (0 ≤ a)) {st : List Value} {H : HP} {Q : Option Value → HP → Prop} : Go 11 30 L (vi a :: st) H Q ↔ Go 11 33 L st H Q := G_ifF (tg := 46) fX0_scaled_30 (by decide) c
theorem fX0_scaled_33 : ft 11 33 = some (.dload 5, 0, 0, 0, .null) := by decide +kernel
theorem gX0_scaled_33 {l0 l1 l2 l3 l4 l7 : Option Value} {u : UInt64} {st : List Value} {H : HP} {Q : Option Value → HP → Prop} : Go 11 33 [l0, l1, l2, l3, l4, some (.double u), none, l7] st H Q ↔ Go 11 35 [l0, l1, l2, l3, l4, some (.double u), none, l7] (.double u :: st) H Q := G_dload fX0_scaled_33 rfl
theorem fX0_scaled_35 : ft 11 35 = some (.aload_n 0, 0, 0, 0, .null) := by decide +kernel
theorem gX0_scaled_35 {l1 l2 l3 l4 l5 l6 l7 : Option Value} {u : Nat} {st : List Value} {H : HP} {Q : Option Value → HP → Prop} : Go 11 35 [some (.ref u), l1, l2, l3, l4, l5, l6, l7] st H Q ↔ Go 11 36 [some (.ref u), l1, l2, l3, l4, l5, l6, l7] (.ref u :: st) H Q := G_aload_n fX0_scaled_35 rfl
theorem fX0_scaled_36 : ft 11 36 = some (.getfield 11, 0, 0, 80, .null) := by decide +kernel
theorem gX0_scaled_36 {L : List (Option Value)} {p : Nat} {st : List Value} {H : HP} {Q : Option Value → HP → Prop} : Go 11 36 L (.ref p :: st) H Q ↔ Rd (gF' 0 0 (hget H p)) 11 39 L st H Q := G_getf fX0_scaled_36 ⟨rfl, rfl⟩
theorem fX0_scaled_39 : ft 11 39 = some (.iload 7, 0, 0, 0, .null) := by decide +kernel
theorem gX0_scaled_39 {l0 l1 l2 l3 l4 l5 l6 : Option Value} {u : Int32} {st : List Value} {H : HP} {Q : Option Value → HP → Prop} : Go 11 39 [l0, l1, l2, l3, l4, l5, l6, some (.int u)] st H Q ↔ Go 11 41 [l0, l1, l2, l3, l4, l5, l6, some (.int u)] (.int u :: st) H Q := G_iload fX0_scaled_39 rfl
theorem fX0_scaled_41 : ft 11 41 = some (.daload, 0, 0, 0, .null) := by decide +kernel
theorem gX0_scaled_41 {L : List (Option Value)} {p : Nat} {a : Int} {st : List Value} {H : HP} {Q : Option Value → HP → Prop} : Go 11 41 L (vi a :: .ref p :: st) H Q ↔ Rd (aD' (hget H p) a) 11 42 L st H Q := G_dald fX0_scaled_41
theorem fX0_scaled_42 : ft 11 42 = some (.ddiv, 0, 0, 0, .null) := by decide +kernel
theorem gX0_scaled_42 {L : List (Option Value)} {x w : UInt64} (c : vf_n64 (FP.ddiv x w)) {st : List Value} {H : HP} {Q : Option Value → HP → Prop} : Go 11 42 L (.double w :: .double x :: st) H Q ↔ Go 11 43 L (.double (FP.ddiv x w) :: st) H Q := G_ddiv fX0_scaled_42 c
theorem fX0_scaled_43 : ft 11 43 = some (.goto 13, 0, 0, 0, .null) := by decide +kernel
theorem gX0_scaled_43 {L : List (Option Value)} {st : List Value} {H : HP} {Q : Option Value → HP → Prop} : Go 11 43 L st H Q ↔ Go 11 56 L st H Q := G_goto fX0_scaled_43 (by decide)
theorem fX0_scaled_46 : ft 11 46 = some (.dload 5, 0, 0, 0, .null) := by decide +kernel
theorem gX0_scaled_46 {l0 l1 l2 l3 l4 l7 : Option Value} {u : UInt64} {st : List Value} {H : HP} {Q : Option Value → HP → Prop} : Go 11 46 [l0, l1, l2, l3, l4, some (.double u), none, l7] st H Q ↔ Go 11 48 [l0, l1, l2, l3, l4, some (.double u), none, l7] (.double u :: st) H Q := G_dload fX0_scaled_46 rfl
theorem fX0_scaled_48 : ft 11 48 = some (.aload_n 0, 0, 0, 0, .null) := by decide +kernel
theorem gX0_scaled_48 {l1 l2 l3 l4 l5 l6 l7 : Option Value} {u : Nat} {st : List Value} {H : HP} {Q : Option Value → HP → Prop} : Go 11 48 [some (.ref u), l1, l2, l3, l4, l5, l6, l7] st H Q ↔ Go 11 49 [some (.ref u), l1, l2, l3, l4, l5, l6, l7] (.ref u :: st) H Q := G_aload_n fX0_scaled_48 rfl
theorem fX0_scaled_49 : ft 11 49 = some (.getfield 11, 0, 0, 80, .null) := by decide +kernel
theorem gX0_scaled_49 {L : List (Option Value)} {p : Nat} {st : List Value} {H : HP} {Q : Option Value → HP → Prop} : Go 11 49 L (.ref p :: st) H Q ↔ Rd (gF' 0 0 (hget H p)) 11 52 L st H Q := G_getf fX0_scaled_49 ⟨rfl, rfl⟩
theorem fX0_scaled_52 : ft 11 52 = some (.iload 7, 0, 0, 0, .null) := by decide +kernel
theorem gX0_scaled_52 {l0 l1 l2 l3 l4 l5 l6 : Option Value} {u : Int32} {st : List Value} {H : HP} {Q : Option Value → HP → Prop} : Go 11 52 [l0, l1, l2, l3, l4, l5, l6, some (.int u)] st H Q ↔ Go 11 54 [l0, l1, l2, l3, l4, l5, l6, some (.int u)] (.int u :: st) H Q := G_iload fX0_scaled_52 rfl
theorem fX0_scaled_54 : ft 11 54 = some (.daload, 0, 0, 0, .null) := by decide +kernel
theorem gX0_scaled_54 {L : List (Option Value)} {p : Nat} {a : Int} {st : List Value} {H : HP} {Q : Option Value → HP → Prop} : Go 11 54 L (vi a :: .ref p :: st) H Q ↔ Rd (aD' (hget H p) a) 11 55 L st H Q := G_dald fX0_scaled_54
theorem fX0_scaled_55 : ft 11 55 = some (.dmul, 0, 0, 0, .null) := by decide +kernel
theorem gX0_scaled_55 {L : List (Option Value)} {x w : UInt64} (c : vf_n64 (FP.dmul x w)) {st : List Value} {H : HP} {Q : Option Value → HP → Prop} : Go 11 55 L (.double w :: .double x :: st) H Q ↔ Go 11 56 L (.double (FP.dmul x w) :: st) H Q := G_dmul fX0_scaled_55 c
theorem fX0_scaled_56 : ft 11 56 = some (.dstore 5, 0, 0, 0, .null) := by decide +kernel
theorem gX0_scaled_56 {l0 l1 l2 l3 l4 l5 l6 l7 : Option Value} {u : UInt64} {st : List Value} {H : HP} {Q : Option Value → HP → Prop} : Go 11 56 [l0, l1, l2, l3, l4, l5, l6, l7] (.double u :: st) H Q ↔ Go 11 58 [l0, l1, l2, l3, l4, some (.double u), none, l7] st H Q := G_dstore fX0_scaled_56 rfl
theorem fX0_scaled_58 : ft 11 58 = some (.iinc 7 1, 0, 0, 0, .null) := by decide +kernel
theorem gX0_scaled_58 {l0 l1 l2 l3 l4 l5 l6 : Option Value} {a : Int} {st : List Value} {H : HP} {Q : Option Value → HP → Prop} : Go 11 58 [l0, l1, l2, l3, l4, l5, l6, some (vi a)] st H Q ↔ Go 11 61 [l0, l1, l2, l3, l4, l5, l6, some (vi (a + 1))] st H Q := G_iinc fX0_scaled_58 rfl rfl
theorem fX0_scaled_61 : ft 11 61 = some (.goto (-49), 0, 0, 0, .null) := by decide +kernel
theorem gX0_scaled_61 {L : List (Option Value)} {st : List Value} {H : HP} {Q : Option Value → HP → Prop} : Go 11 61 L st H Q ↔ Go 11 12 L st H Q := G_goto fX0_scaled_61 (by decide)
theorem fX0_scaled_64 : ft 11 64 = some (.dload 5, 0, 0, 0, .null) := by decide +kernel
theorem gX0_scaled_64 {l0 l1 l2 l3 l4 l7 : Option Value} {u : UInt64} {st : List Value} {H : HP} {Q : Option Value → HP → Prop} : Go 11 64 [l0, l1, l2, l3, l4, some (.double u), none, l7] st H Q ↔ Go 11 66 [l0, l1, l2, l3, l4, some (.double u), none, l7] (.double u :: st) H Q := G_dload fX0_scaled_64 rfl
theorem fX0_scaled_66 : ft 11 66 = some (.dreturn, 0, 0, 0, .null) := by decide +kernel
theorem gX0_scaled_66 {L : List (Option Value)} {u : UInt64} {H : HP} {Q : Option Value → HP → Prop} : Go 11 66 L [.double u] H Q ↔ Q (some (.double u)) H := G_dret fX0_scaled_66 (by decide +kernel)

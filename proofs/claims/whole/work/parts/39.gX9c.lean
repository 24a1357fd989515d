theorem fX9_value_0 : ft 146 0 = some (.iload_n 1, 0, 0, 0, .null) := by decide +kernel
theorem gX9_value_0 {l0 : Option Value} {u : Int32} {st : List Value} {H : HP} {Q : Option Value → HP → Prop} : Go 146 0 [l0, some (.int u)] st H Q ↔ Go 146 1 [l0, some (.int u)] (.int u :: st) H Q := G_iload_n fX9_value_0 rfl
theorem fX9_value_1 : ft 146 1 = some (.ifCond .lt 20, 0, 0, 0, .null) := by decide +kernel
theorem gX9_value_1T {L : List (Option Value)} {a : Int} (c : (-2147483648 ≤ a ∧ a ≤ 2147483647) ∧ a < 0) {st : List Value} {H : HP} {Q : Option Value → HP → Prop} : Go 146 1 L (vi a :: st) H Q ↔ Go 146 21 L st H Q := G_ifT fX9_value_1 (by decide) c
theorem gX9_value_1F {L : List (Option Value)} {a : Int} (c : (-2147483648 ≤ a ∧ a ≤ 2147483647) ∧ ¬ (a < 0)) {st : List Value} {H : HP} {Q : Option Value → HP → Prop} : Go 146 1 L (vi a :: st) H Q ↔ Go 146 4 L st H Q := G_ifF (tg := 21) fX9_value_1 (by decide) c
theorem fX9_value_4 : ft 146 4 = some (.iload_n 1, 0, 0, 0, .null) := by decide +kernel
theorem gX9_value_4 {l0 : Option Value} {u : Int32} {st : List Value} {H : HP} {Q : Option Value → HP → Prop} : Go 146 4 [l0, some (.int u)] st H Q ↔ Go 146 5 [l0, some (.int u)] (.int u :: st) H Q := G_iload_n fX9_value_4 rfl
theorem fX9_value_5 : ft 146 5 = some (.aload_n 0, 0, 0, 0, .null) := by decide +kernel
theorem gX9_value_5 {l1 : Option Value} {u : Nat} {st : List Value} {H : HP} {Q : Option Value → HP → Prop} : Go 146 5 [some (.ref u), l1] st H Q ↔ Go 146 6 [some (.ref u), l1] (.ref u :: st) H Q := G_aload_n fX9_value_5 rfl
theorem fX9_value_6 : ft 146 6 = some (.getfield 155, 9, 5, 759, .null) := by decide +kernel
theorem gX9_value_6 {L : List (Option Value)} {p : Nat} {st : List Value} {H : HP} {Q : Option Value → HP → Prop} : Go 146 6 L (.ref p :: st) H Q ↔ Rd (gF' 9 5 (hget H p)) 146 9 L st H Q := G_getf fX9_value_6 ⟨rfl, rfl⟩
theorem fX9_value_9 : ft 146 9 = some (.if_icmp .ge 12, 0, 0, 0, .null) := by decide +kernel
theorem gX9_value_9T {L : List (Option Value)} {a b : Int} (c : (-2147483648 ≤ a ∧ a ≤ 2147483647 ∧ -2147483648 ≤ b ∧ b ≤ 2147483647) ∧ b ≤ a) {st : List Value} {H : HP} {Q : Option Value → HP → Prop} : Go 146 9 L (vi b :: vi a :: st) H Q ↔ Go 146 21 L st H Q := G_icT fX9_value_9 (by decide) c
theorem gX9_value_9F {L : List (Option Value)} {a b : Int} (c : (-2147483648 ≤ a ∧ a ≤ 2147483647 ∧ -2147483648 ≤ b ∧ b ≤ 2147483647) ∧ ¬ (b ≤ a)) {st : List Value} {H : HP} {Q : Option Value → HP → Prop} : Go 146 9 L (vi b :: vi a :: st) H Q ↔ Go 146 12 L st H Q := G_icF (tg := 21) fX9_value_9 (by decide) c
theorem fX9_value_12 : ft 146 12 = some (.aload_n 0, 0, 0, 0, .null) := by decide +kernel
theorem gX9_value_12 {l1 : Option Value} {u : Nat} {st : List Value} {H : HP} {Q : Option Value → HP → Prop} : Go 146 12 [some (.ref u), l1] st H Q ↔ Go 146 13 [some (.ref u), l1] (.ref u :: st) H Q := G_aload_n fX9_value_12 rfl
theorem fX9_value_13 : ft 146 13 = some (.getfield 27, 9, 7, 761, .null) := by decide +kernel
theorem gX9_value_13 {L : List (Option Value)} {p : Nat} {st : List Value} {H : HP} {Q : Option Value → HP → Prop} : Go 146 13 L (.ref p :: st) H Q ↔ Rd (gF' 9 7 (hget H p)) 146 16 L st H Q := G_getf fX9_value_13 ⟨rfl, rfl⟩
theorem fX9_value_16 : ft 146 16 = some (.iload_n 1, 0, 0, 0, .null) := by decide +kernel
theorem gX9_value_16 {l0 : Option Value} {u : Int32} {st : List Value} {H : HP} {Q : Option Value → HP → Prop} : Go 146 16 [l0, some (.int u)] st H Q ↔ Go 146 17 [l0, some (.int u)] (.int u :: st) H Q := G_iload_n fX9_value_16 rfl
theorem fX9_value_17 : ft 146 17 = some (.laload, 0, 0, 0, .null) := by decide +kernel
theorem gX9_value_17 {L : List (Option Value)} {p : Nat} {a : Int} {st : List Value} {H : HP} {Q : Option Value → HP → Prop} : Go 146 17 L (vi a :: .ref p :: st) H Q ↔ Rd (aL' (hget H p) a) 146 18 L st H Q := G_lald fX9_value_17
theorem fX9_value_18 : ft 146 18 = some (.goto 6, 0, 0, 0, .null) := by decide +kernel
theorem gX9_value_18 {L : List (Option Value)} {st : List Value} {H : HP} {Q : Option Value → HP → Prop} : Go 146 18 L st H Q ↔ Go 146 24 L st H Q := G_goto fX9_value_18 (by decide)
theorem fX9_value_21 : ft 146 21 = some (.ldc2_w 158, 0, 0, 951, .long (-1)) := by decide +kernel
theorem gX9_value_21 {L : List (Option Value)} {st : List Value} {H : HP} {Q : Option Value → HP → Prop} : Go 146 21 L st H Q ↔ Go 146 24 L (vl (-1) :: st) H Q := G_ldcl fX9_value_21 (by decide +kernel)
theorem fX9_value_24 : ft 146 24 = some (.lreturn, 0, 0, 0, .null) := by decide +kernel
theorem gX9_value_24 {L : List (Option Value)} {u : Int64} {H : HP} {Q : Option Value → HP → Prop} : Go 146 24 L [.long u] H Q ↔ Q (some (.long u)) H := G_lret fX9_value_24 (by decide +kernel)
theorem fX9_inverse_0 : ft 147 0 = some (.iload_n 1, 0, 0, 0, .null) := by decide +kernel
theorem gX9_inverse_0 {l0 l2 l3 l4 l5 l6 l7 l8 l9 l10 l11 l12 l13 l14 l15 l16 l17 : Option Value} {u : Int32} {st : List Value} {H : HP} {Q : Option Value → HP → Prop} : Go 147 0 [l0, some (.int u), l2, l3, l4, l5, l6, l7, l8, l9, l10, l11, l12, l13, l14, l15, l16, l17] st H Q ↔ Go 147 1 [l0, some (.int u), l2, l3, l4, l5, l6, l7, l8, l9, l10, l11, l12, l13, l14, l15, l16, l17] (.int u :: st) H Q := G_iload_n fX9_inverse_0 rfl
theorem fX9_inverse_1 : ft 147 1 = some (.invokestatic 85, 119, 0, 841, .null) := by decide +kernel
theorem gX9_inverse_1 {L : List (Option Value)} {a0 : Int32}  {H : HP} {Q : Option Value → HP → Prop} : Go 147 1 L (.int a0 :: []) H Q ↔ Go 119 0 [some (.int a0)] [] H (Cont 147 4 L [] Q) := G_cS (n := 1) (N := 1) (as := [.int a0]) (st := []) fX9_inverse_1 (by decide +kernel) rfl (Nat.le_of_ble_eq_true rfl) (Nat.le_of_ble_eq_true rfl) rfl
theorem fX9_inverse_4 : ft 147 4 = some (.ifCond .ne 5, 0, 0, 0, .null) := by decide +kernel
theorem gX9_inverse_4T {L : List (Option Value)} {a : Int} (c : (-2147483648 ≤ a ∧ a ≤ 2147483647) ∧ ¬ a = 0) {st : List Value} {H : HP} {Q : Option Value → HP → Prop} : Go 147 4 L (vi a :: st) H Q ↔ Go 147 9 L st H Q := G_ifT fX9_inverse_4 (by decide) c
theorem gX9_inverse_4F {L : List (Option Value)} {a : Int} (c : (-2147483648 ≤ a ∧ a ≤ 2147483647) ∧ ¬ (¬ a = 0)) {st : List Value} {H : HP} {Q : Option Value → HP → Prop} : Go 147 4 L (vi a :: st) H Q ↔ Go 147 7 L st H Q := G_ifF (tg := 9) fX9_inverse_4 (by decide) c
theorem fX9_inverse_7 : ft 147 7 = some (.iconst (-1), 0, 0, 0, .null) := by decide +kernel
theorem gX9_inverse_7 {L : List (Option Value)} {st : List Value} {H : HP} {Q : Option Value → HP → Prop} : Go 147 7 L st H Q ↔ Go 147 8 L (vi (-1) :: st) H Q := G_iconst fX9_inverse_7
theorem fX9_inverse_8 : ft 147 8 = some (.ireturn, 0, 0, 0, .null) := by decide +kernel
theorem gX9_inverse_8 {L : List (Option Value)} {u : Int32} {H : HP} {Q : Option Value → HP → Prop} : Go 147 8 L [.int u] H Q ↔ Q (some (.int u)) H := G_iret fX9_inverse_8 (by decide +kernel)
theorem fX9_inverse_9 : ft 147 9 = some (.aload_n 0, 0, 0, 0, .null) := by decide +kernel
theorem gX9_inverse_9 {l1 l2 l3 l4 l5 l6 l7 l8 l9 l10 l11 l12 l13 l14 l15 l16 l17 : Option Value} {u : Nat} {st : List Value} {H : HP} {Q : Option Value → HP → Prop} : Go 147 9 [some (.ref u), l1, l2, l3, l4, l5, l6, l7, l8, l9, l10, l11, l12, l13, l14, l15, l16, l17] st H Q ↔ Go 147 10 [some (.ref u), l1, l2, l3, l4, l5, l6, l7, l8, l9, l10, l11, l12, l13, l14, l15, l16, l17] (.ref u :: st) H Q := G_aload_n fX9_inverse_9 rfl
theorem fX9_inverse_10 : ft 147 10 = some (.getfield 23, 9, 6, 760, .null) := by decide +kernel
theorem gX9_inverse_10 {L : List (Option Value)} {p : Nat} {st : List Value} {H : HP} {Q : Option Value → HP → Prop} : Go 147 10 L (.ref p :: st) H Q ↔ Rd (gF' 9 6 (hget H p)) 147 13 L st H Q := G_getf fX9_inverse_10 ⟨rfl, rfl⟩
theorem fX9_inverse_13 : ft 147 13 = some (.bipush (-9), 0, 0, 0, .null) := by decide +kernel
theorem gX9_inverse_13 {L : List (Option Value)} {st : List Value} {H : HP} {Q : Option Value → HP → Prop} : Go 147 13 L st H Q ↔ Go 147 15 L (vi (-9) :: st) H Q := G_bipush fX9_inverse_13 (by decide)
theorem fX9_inverse_15 : ft 147 15 = some (.if_icmp .ne 6, 0, 0, 0, .null) := by decide +kernel
theorem gX9_inverse_15T {L : List (Option Value)} {a b : Int} (c : (-2147483648 ≤ a ∧ a ≤ 2147483647 ∧ -2147483648 ≤ b ∧ b ≤ 2147483647) ∧ ¬ a = b) {st : List Value} {H : HP} {Q : Option Value → HP → Prop} : Go 147 15 L (vi b :: vi a :: st) H Q ↔ Go 147 21 L st H Q := G_icT fX9_inverse_15 (by decide) c
theorem gX9_inverse_15F {L : List (Option Value)} {a b : Int} (c : (-2147483648 ≤ a ∧ a ≤ 2147483647 ∧ -2147483648 ≤ b ∧ b ≤ 2147483647) ∧ ¬ (¬ a = b)) {st : List Value} {H : HP} {Q : Option Value → HP → Prop} : Go 147 15 L (vi b :: vi a :: st) H Q ↔ Go 147 18 L st H Q := G_icF (tg := 21) fX9_inverse_15 (by decide) c
theorem fX9_inverse_18 : ft 147 18 = some (.bipush (-3), 0, 0, 0, .null) := by decide +kernel
theorem gX9_inverse_18 {L : List (Option Value)} {st : List Value} {H : HP} {Q : Option Value → HP → Prop} : Go 147 18 L st H Q ↔ Go 147 20 L (vi (-3) :: st) H Q := G_bipush fX9_inverse_18 (by decide)
theorem fX9_inverse_20 : ft 147 20 = some (.ireturn, 0, 0, 0, .null) := by decide +kernel
theorem gX9_inverse_20 {L : List (Option Value)} {u : Int32} {H : HP} {Q : Option Value → HP → Prop} : Go 147 20 L [.int u] H Q ↔ Q (some (.int u)) H := G_iret fX9_inverse_20 (by decide +kernel)
theorem fX9_inverse_21 : ft 147 21 = some (.aload_n 0, 0, 0, 0, .null) := by decide +kernel
theorem gX9_inverse_21 {l1 l2 l3 l4 l5 l6 l7 l8 l9 l10 l11 l12 l13 l14 l15 l16 l17 : Option Value} {u : Nat} {st : List Value} {H : HP} {Q : Option Value → HP → Prop} : Go 147 21 [some (.ref u), l1, l2, l3, l4, l5, l6, l7, l8, l9, l10, l11, l12, l13, l14, l15, l16, l17] st H Q ↔ Go 147 22 [some (.ref u), l1, l2, l3, l4, l5, l6, l7, l8, l9, l10, l11, l12, l13, l14, l15, l16, l17] (.ref u :: st) H Q := G_aload_n fX9_inverse_21 rfl
theorem fX9_inverse_22 : ft 147 22 = some (.getfield 23, 9, 6, 760, .null) := by decide +kernel
theorem gX9_inverse_22 {L : List (Option Value)} {p : Nat} {st : List Value} {H : HP} {Q : Option Value → HP → Prop} : Go 147 22 L (.ref p :: st) H Q ↔ Rd (gF' 9 6 (hget H p)) 147 25 L st H Q := G_getf fX9_inverse_22 ⟨rfl, rfl⟩
theorem fX9_inverse_25 : ft 147 25 = some (.invokestatic 133, 121, 0, 918, .null) := by decide +kernel
theorem gX9_inverse_25 {L : List (Option Value)} {a0 : Int32}  {H : HP} {Q : Option Value → HP → Prop} : Go 147 25 L (.int a0 :: []) H Q ↔ Go 121 0 [some (.int a0)] [] H (Cont 147 28 L [] Q) := G_cS (n := 1) (N := 1) (as := [.int a0]) (st := []) fX9_inverse_25 (by decide +kernel) rfl (Nat.le_of_ble_eq_true rfl) (Nat.le_of_ble_eq_true rfl) rfl
theorem fX9_inverse_28 : ft 147 28 = some (.lstore_n 2, 0, 0, 0, .null) := by decide +kernel
theorem gX9_inverse_28 {l0 l1 l2 l3 l4 l5 l6 l7 l8 l9 l10 l11 l12 l13 l14 l15 l16 l17 : Option Value} {u : Int64} {st : List Value} {H : HP} {Q : Option Value → HP → Prop} : Go 147 28 [l0, l1, l2, l3, l4, l5, l6, l7, l8, l9, l10, l11, l12, l13, l14, l15, l16, l17] (.long u :: st) H Q ↔ Go 147 29 [l0, l1, some (.long u), none, l4, l5, l6, l7, l8, l9, l10, l11, l12, l13, l14, l15, l16, l17] st H Q := G_lstore_n fX9_inverse_28 rfl
theorem fX9_inverse_29 : ft 147 29 = some (.aload_n 0, 0, 0, 0, .null) := by decide +kernel
theorem gX9_inverse_29 {l1 l2 l3 l4 l5 l6 l7 l8 l9 l10 l11 l12 l13 l14 l15 l16 l17 : Option Value} {u : Nat} {st : List Value} {H : HP} {Q : Option Value → HP → Prop} : Go 147 29 [some (.ref u), l1, l2, l3, l4, l5, l6, l7, l8, l9, l10, l11, l12, l13, l14, l15, l16, l17] st H Q ↔ Go 147 30 [some (.ref u), l1, l2, l3, l4, l5, l6, l7, l8, l9, l10, l11, l12, l13, l14, l15, l16, l17] (.ref u :: st) H Q := G_aload_n fX9_inverse_29 rfl
theorem fX9_inverse_30 : ft 147 30 = some (.getfield 155, 9, 5, 759, .null) := by decide +kernel
theorem gX9_inverse_30 {L : List (Option Value)} {p : Nat} {st : List Value} {H : HP} {Q : Option Value → HP → Prop} : Go 147 30 L (.ref p :: st) H Q ↔ Rd (gF' 9 5 (hget H p)) 147 33 L st H Q := G_getf fX9_inverse_30 ⟨rfl, rfl⟩
theorem fX9_inverse_33 : ft 147 33 = some (.istore 4, 0, 0, 0, .null) := by decide +kernel
theorem gX9_inverse_33 {l0 l1 l2 l3 l4 l5 l6 l7 l8 l9 l10 l11 l12 l13 l14 l15 l16 l17 : Option Value} {u : Int32} {st : List Value} {H : HP} {Q : Option Value → HP → Prop} : Go 147 33 [l0, l1, l2, l3, l4, l5, l6, l7, l8, l9, l10, l11, l12, l13, l14, l15, l16, l17] (.int u :: st) H Q ↔ Go 147 35 [l0, l1, l2, l3, some (.int u), l5, l6, l7, l8, l9, l10, l11, l12, l13, l14, l15, l16, l17] st H Q := G_istore fX9_inverse_33 rfl
theorem fX9_inverse_35 : ft 147 35 = some (.aload_n 0, 0, 0, 0, .null) := by decide +kernel
theorem gX9_inverse_35 {l1 l2 l3 l4 l5 l6 l7 l8 l9 l10 l11 l12 l13 l14 l15 l16 l17 : Option Value} {u : Nat} {st : List Value} {H : HP} {Q : Option Value → HP → Prop} : Go 147 35 [some (.ref u), l1, l2, l3, l4, l5, l6, l7, l8, l9, l10, l11, l12, l13, l14, l15, l16, l17] st H Q ↔ Go 147 36 [some (.ref u), l1, l2, l3, l4, l5, l6, l7, l8, l9, l10, l11, l12, l13, l14, l15, l16, l17] (.ref u :: st) H Q := G_aload_n fX9_inverse_35 rfl
theorem fX9_inverse_36 : ft 147 36 = some (.getfield 23, 9, 6, 760, .null) := by decide +kernel
theorem gX9_inverse_36 {L : List (Option Value)} {p : Nat} {st : List Value} {H : HP} {Q : Option Value → HP → Prop} : Go 147 36 L (.ref p :: st) H Q ↔ Rd (gF' 9 6 (hget H p)) 147 39 L st H Q := G_getf fX9_inverse_36 ⟨rfl, rfl⟩
theorem fX9_inverse_39 : ft 147 39 = some (.iload 4, 0, 0, 0, .null) := by decide +kernel
theorem gX9_inverse_39 {l0 l1 l2 l3 l5 l6 l7 l8 l9 l10 l11 l12 l13 l14 l15 l16 l17 : Option Value} {u : Int32} {st : List Value} {H : HP} {Q : Option Value → HP → Prop} : Go 147 39 [l0, l1, l2, l3, some (.int u), l5, l6, l7, l8, l9, l10, l11, l12, l13, l14, l15, l16, l17] st H Q ↔ Go 147 41 [l0, l1, l2, l3, some (.int u), l5, l6, l7, l8, l9, l10, l11, l12, l13, l14, l15, l16, l17] (.int u :: st) H Q := G_iload fX9_inverse_39 rfl
theorem fX9_inverse_41 : ft 147 41 = some (.invokestatic 144, 140, 0, 924, .null) := by decide +kernel
theorem gX9_inverse_41 {L : List (Option Value)} {a0 : Int32} {a1 : Int32}  {H : HP} {Q : Option Value → HP → Prop} : Go 147 41 L (.int a1 :: .int a0 :: []) H Q ↔ Go 140 0 [some (.int a0), some (.int a1)] [] H (Cont 147 44 L [] Q) := G_cS (n := 2) (N := 2) (as := [.int a1, .int a0]) (st := []) fX9_inverse_41 (by decide +kernel) rfl (Nat.le_of_ble_eq_true rfl) (Nat.le_of_ble_eq_true rfl) rfl
theorem fX9_inverse_44 : ft 147 44 = some (.lload_n 2, 0, 0, 0, .null) := by decide +kernel
theorem gX9_inverse_44 {l0 l1 l4 l5 l6 l7 l8 l9 l10 l11 l12 l13 l14 l15 l16 l17 : Option Value} {u : Int64} {st : List Value} {H : HP} {Q : Option Value → HP → Prop} : Go 147 44 [l0, l1, some (.long u), none, l4, l5, l6, l7, l8, l9, l10, l11, l12, l13, l14, l15, l16, l17] st H Q ↔ Go 147 45 [l0, l1, some (.long u), none, l4, l5, l6, l7, l8, l9, l10, l11, l12, l13, l14, l15, l16, l17] (.long u :: st) H Q := G_lload_n fX9_inverse_44 rfl
theorem fX9_inverse_45 : ft 147 45 = some (.invokestatic 160, 139, 0, 956, .null) := by decide +kernel
theorem gX9_inverse_45 {L : List (Option Value)} {a0 : Int64} {a1 : Int64}  {H : HP} {Q : Option Value → HP → Prop} : Go 147 45 L (.long a1 :: .long a0 :: []) H Q ↔ Go 139 0 [some (.long a0), none, some (.long a1), none] [] H (Cont 147 48 L [] Q) := G_cS (n := 2) (N := 4) (as := [.long a1, .long a0]) (st := []) fX9_inverse_45 (by decide +kernel) rfl (Nat.le_of_ble_eq_true rfl) (Nat.le_of_ble_eq_true rfl) rfl
theorem fX9_inverse_48 : ft 147 48 = some (.lstore 5, 0, 0, 0, .null) := by decide +kernel
theorem gX9_inverse_48 {l0 l1 l2 l3 l4 l5 l6 l7 l8 l9 l10 l11 l12 l13 l14 l15 l16 l17 : Option Value} {u : Int64} {st : List Value} {H : HP} {Q : Option Value → HP → Prop} : Go 147 48 [l0, l1, l2, l3, l4, l5, l6, l7, l8, l9, l10, l11, l12, l13, l14, l15, l16, l17] (.long u :: st) H Q ↔ Go 147 50 [l0, l1, l2, l3, l4, some (.long u), none, l7, l8, l9, l10, l11, l12, l13, l14, l15, l16, l17] st H Q := G_lstore fX9_inverse_48 rfl
theorem fX9_inverse_50 : ft 147 50 = some (.iload 4, 0, 0, 0, .null) := by decide +kernel
theorem gX9_inverse_50 {l0 l1 l2 l3 l5 l6 l7 l8 l9 l10 l11 l12 l13 l14 l15 l16 l17 : Option Value} {u : Int32} {st : List Value} {H : HP} {Q : Option Value → HP → Prop} : Go 147 50 [l0, l1, l2, l3, some (.int u), l5, l6, l7, l8, l9, l10, l11, l12, l13, l14, l15, l16, l17] st H Q ↔ Go 147 52 [l0, l1, l2, l3, some (.int u), l5, l6, l7, l8, l9, l10, l11, l12, l13, l14, l15, l16, l17] (.int u :: st) H Q := G_iload fX9_inverse_50 rfl
theorem fX9_inverse_52 : ft 147 52 = some (.i2l, 0, 0, 0, .null) := by decide +kernel
theorem gX9_inverse_52 {L : List (Option Value)} {a : Int} (c : -2147483648 ≤ a ∧ a ≤ 2147483647) {st : List Value} {H : HP} {Q : Option Value → HP → Prop} : Go 147 52 L (vi a :: st) H Q ↔ Go 147 53 L (vl a :: st) H Q := G_i2l fX9_inverse_52 c
theorem fX9_inverse_53 : ft 147 53 = some (.lload_n 2, 0, 0, 0, .null) := by decide +kernel
theorem gX9_inverse_53 {l0 l1 l4 l5 l6 l7 l8 l9 l10 l11 l12 l13 l14 l15 l16 l17 : Option Value} {u : Int64} {st : List Value} {H : HP} {Q : Option Value → HP → Prop} : Go 147 53 [l0, l1, some (.long u), none, l4, l5, l6, l7, l8, l9, l10, l11, l12, l13, l14, l15, l16, l17] st H Q ↔ Go 147 54 [l0, l1, some (.long u), none, l4, l5, l6, l7, l8, l9, l10, l11, l12, l13, l14, l15, l16, l17] (.long u :: st) H Q := G_lload_n fX9_inverse_53 rfl
theorem fX9_inverse_54 : ft 147 54 = some (.invokestatic 160, 139, 0, 956, .null) := by decide +kernel
theorem gX9_inverse_54 {L : List (Option Value)} {a0 : Int64} {a1 : Int64}  {H : HP} {Q : Option Value → HP → Prop} : Go 147 54 L (.long a1 :: .long a0 :: []) H Q ↔ Go 139 0 [some (.long a0), none, some (.long a1), none] [] H (Cont 147 57 L [] Q) := G_cS (n := 2) (N := 4) (as := [.long a1, .long a0]) (st := []) fX9_inverse_54 (by decide +kernel) rfl (Nat.le_of_ble_eq_true rfl) (Nat.le_of_ble_eq_true rfl) rfl
theorem fX9_inverse_57 : ft 147 57 = some (.lstore 7, 0, 0, 0, .null) := by decide +kernel
theorem gX9_inverse_57 {l0 l1 l2 l3 l4 l5 l6 l7 l8 l9 l10 l11 l12 l13 l14 l15 l16 l17 : Option Value} {u : Int64} {st : List Value} {H : HP} {Q : Option Value → HP → Prop} : Go 147 57 [l0, l1, l2, l3, l4, l5, l6, l7, l8, l9, l10, l11, l12, l13, l14, l15, l16, l17] (.long u :: st) H Q ↔ Go 147 59 [l0, l1, l2, l3, l4, l5, l6, some (.long u), none, l9, l10, l11, l12, l13, l14, l15, l16, l17] st H Q := G_lstore fX9_inverse_57 rfl
theorem fX9_inverse_59 : ft 147 59 = some (.aload_n 0, 0, 0, 0, .null) := by decide +kernel
theorem gX9_inverse_59 {l1 l2 l3 l4 l5 l6 l7 l8 l9 l10 l11 l12 l13 l14 l15 l16 l17 : Option Value} {u : Nat} {st : List Value} {H : HP} {Q : Option Value → HP → Prop} : Go 147 59 [some (.ref u), l1, l2, l3, l4, l5, l6, l7, l8, l9, l10, l11, l12, l13, l14, l15, l16, l17] st H Q ↔ Go 147 60 [some (.ref u), l1, l2, l3, l4, l5, l6, l7, l8, l9, l10, l11, l12, l13, l14, l15, l16, l17] (.ref u :: st) H Q := G_aload_n fX9_inverse_59 rfl
theorem fX9_inverse_60 : ft 147 60 = some (.iload_n 1, 0, 0, 0, .null) := by decide +kernel
theorem gX9_inverse_60 {l0 l2 l3 l4 l5 l6 l7 l8 l9 l10 l11 l12 l13 l14 l15 l16 l17 : Option Value} {u : Int32} {st : List Value} {H : HP} {Q : Option Value → HP → Prop} : Go 147 60 [l0, some (.int u), l2, l3, l4, l5, l6, l7, l8, l9, l10, l11, l12, l13, l14, l15, l16, l17] st H Q ↔ Go 147 61 [l0, some (.int u), l2, l3, l4, l5, l6, l7, l8, l9, l10, l11, l12, l13, l14, l15, l16, l17] (.int u :: st) H Q := G_iload_n fX9_inverse_60 rfl
theorem fX9_inverse_61 : ft 147 61 = some (.iconst 3, 0, 0, 0, .null) := by decide +kernel
theorem gX9_inverse_61 {L : List (Option Value)} {st : List Value} {H : HP} {Q : Option Value → HP → Prop} : Go 147 61 L st H Q ↔ Go 147 62 L (vi 3 :: st) H Q := G_iconst fX9_inverse_61
theorem fX9_inverse_62 : ft 147 62 = some (.iload 4, 0, 0, 0, .null) := by decide +kernel
theorem gX9_inverse_62 {l0 l1 l2 l3 l5 l6 l7 l8 l9 l10 l11 l12 l13 l14 l15 l16 l17 : Option Value} {u : Int32} {st : List Value} {H : HP} {Q : Option Value → HP → Prop} : Go 147 62 [l0, l1, l2, l3, some (.int u), l5, l6, l7, l8, l9, l10, l11, l12, l13, l14, l15, l16, l17] st H Q ↔ Go 147 64 [l0, l1, l2, l3, some (.int u), l5, l6, l7, l8, l9, l10, l11, l12, l13, l14, l15, l16, l17] (.int u :: st) H Q := G_iload fX9_inverse_62 rfl
theorem fX9_inverse_64 : ft 147 64 = some (.invokevirtual 93, 122, 0, 851, .null) := by decide +kernel
theorem gX9_inverse_64 {L : List (Option Value)} {p : Nat} {a0 : Int32} {a1 : Int32} {a2 : Int32}  {H : HP} {Q : Option Value → HP → Prop} : Go 147 64 L (.int a2 :: .int a1 :: .int a0 :: .ref p :: []) H Q ↔ (iso 9 (hget H p) = true ∧ Go 122 0 [some (.ref p), some (.int a0), some (.int a1), some (.int a2), none, none, none] [] H (Cont 147 67 L [] Q)) := G_cV (n := 3) (N := 7) (as := [.int a2, .int a1, .int a0]) (st := []) fX9_inverse_64 (by decide +kernel) rfl (Nat.le_of_ble_eq_true rfl) (Nat.le_of_ble_eq_true rfl) rfl
theorem fX9_inverse_67 : ft 147 67 = some (.istore 9, 0, 0, 0, .null) := by decide +kernel
theorem gX9_inverse_67 {l0 l1 l2 l3 l4 l5 l6 l7 l8 l9 l10 l11 l12 l13 l14 l15 l16 l17 : Option Value} {u : Int32} {st : List Value} {H : HP} {Q : Option Value → HP → Prop} : Go 147 67 [l0, l1, l2, l3, l4, l5, l6, l7, l8, l9, l10, l11, l12, l13, l14, l15, l16, l17] (.int u :: st) H Q ↔ Go 147 69 [l0, l1, l2, l3, l4, l5, l6, l7, l8, some (.int u), l10, l11, l12, l13, l14, l15, l16, l17] st H Q := G_istore fX9_inverse_67 rfl
theorem fX9_inverse_69 : ft 147 69 = some (.iconst 0, 0, 0, 0, .null) := by decide +kernel
theorem gX9_inverse_69 {L : List (Option Value)} {st : List Value} {H : HP} {Q : Option Value → HP → Prop} : Go 147 69 L st H Q ↔ Go 147 70 L (vi 0 :: st) H Q := G_iconst fX9_inverse_69
theorem fX9_inverse_70 : ft 147 70 = some (.istore 10, 0, 0, 0, .null) := by decide +kernel
theorem gX9_inverse_70 {l0 l1 l2 l3 l4 l5 l6 l7 l8 l9 l10 l11 l12 l13 l14 l15 l16 l17 : Option Value} {u : Int32} {st : List Value} {H : HP} {Q : Option Value → HP → Prop} : Go 147 70 [l0, l1, l2, l3, l4, l5, l6, l7, l8, l9, l10, l11, l12, l13, l14, l15, l16, l17] (.int u :: st) H Q ↔ Go 147 72 [l0, l1, l2, l3, l4, l5, l6, l7, l8, l9, some (.int u), l11, l12, l13, l14, l15, l16, l17] st H Q := G_istore fX9_inverse_70 rfl
theorem fX9_inverse_72 : ft 147 72 = some (.iload 10, 0, 0, 0, .null) := by decide +kernel
theorem gX9_inverse_72 {l0 l1 l2 l3 l4 l5 l6 l7 l8 l9 l11 l12 l13 l14 l15 l16 l17 : Option Value} {u : Int32} {st : List Value} {H : HP} {Q : Option Value → HP → Prop} : Go 147 72 [l0, l1, l2, l3, l4, l5, l6, l7, l8, l9, some (.int u), l11, l12, l13, l14, l15, l16, l17] st H Q ↔ Go 147 74 [l0, l1, l2, l3, l4, l5, l6, l7, l8, l9, some (.int u), l11, l12, l13, l14, l15, l16, l17] (.int u :: st) H Q := G_iload fX9_inverse_72 rfl
theorem fX9_inverse_74 : ft 147 74 = some (.iload 4, 0, 0, 0, .null) := by decide +kernel
theorem gX9_inverse_74 {l0 l1 l2 l3 l5 l6 l7 l8 l9 l10 l11 l12 l13 l14 l15 l16 l17 : Option Value} {u : Int32} {st : List Value} {H : HP} {Q : Option Value → HP → Prop} : Go 147 74 [l0, l1, l2, l3, some (.int u), l5, l6, l7, l8, l9, l10, l11, l12, l13, l14, l15, l16, l17] st H Q ↔ Go 147 76 [l0, l1, l2, l3, some (.int u), l5, l6, l7, l8, l9, l10, l11, l12, l13, l14, l15, l16, l17] (.int u :: st) H Q := G_iload fX9_inverse_74 rfl
theorem fX9_inverse_76 : ft 147 76 = some (.if_icmp .ge 88, 0, 0, 0, .null) := by decide +kernel
theorem gX9_inverse_76T {L : List (Option Value)} {a b : Int} (c : (-2147483648 ≤ a ∧ a ≤ 2147483647 ∧ -2147483648 ≤ b ∧ b ≤ 2147483647) ∧ b ≤ a) {st : List Value} {H : HP} {Q : Option Value → HP → Prop} : Go 147 76 L (vi b :: vi a :: st) H Q ↔ Go 147 164 L st H Q := G_icT fX9_inverse_76 (by decide) c
theorem gX9_inverse_76F {L : List (Option Value)} {a b : Int} (c : (-2147483648 ≤ a ∧ a ≤ 2147483647 ∧ -2147483648 ≤ b ∧ b ≤ 2147483647) ∧ ¬ (b ≤ a)) {st : List Value} {H : HP} {Q : Option Value → HP → Prop} : Go 147 76 L (vi b :: vi a :: st) H Q ↔ Go 147 79 L st H Q := G_icF (tg := 164) fX9_inverse_76 (by decide) c
theorem fX9_inverse_79 : ft 147 79 = some (.lload 5, 0, 0, 0, .null) := by decide +kernel
theorem gX9_inverse_79 {l0 l1 l2 l3 l4 l7 l8 l9 l10 l11 l12 l13 l14 l15 l16 l17 : Option Value} {u : Int64} {st : List Value} {H : HP} {Q : Option Value → HP → Prop} : Go 147 79 [l0, l1, l2, l3, l4, some (.long u), none, l7, l8, l9, l10, l11, l12, l13, l14, l15, l16, l17] st H Q ↔ Go 147 81 [l0, l1, l2, l3, l4, some (.long u), none, l7, l8, l9, l10, l11, l12, l13, l14, l15, l16, l17] (.long u :: st) H Q := G_lload fX9_inverse_79 rfl
theorem fX9_inverse_81 : ft 147 81 = some (.iload 10, 0, 0, 0, .null) := by decide +kernel
theorem gX9_inverse_81 {l0 l1 l2 l3 l4 l5 l6 l7 l8 l9 l11 l12 l13 l14 l15 l16 l17 : Option Value} {u : Int32} {st : List Value} {H : HP} {Q : Option Value → HP → Prop} : Go 147 81 [l0, l1, l2, l3, l4, l5, l6, l7, l8, l9, some (.int u), l11, l12, l13, l14, l15, l16, l17] st H Q ↔ Go 147 83 [l0, l1, l2, l3, l4, l5, l6, l7, l8, l9, some (.int u), l11, l12, l13, l14, l15, l16, l17] (.int u :: st) H Q := G_iload fX9_inverse_81 rfl
theorem fX9_inverse_83 : ft 147 83 = some (.i2l, 0, 0, 0, .null) := by decide +kernel
theorem gX9_inverse_83 {L : List (Option Value)} {a : Int} (c : -2147483648 ≤ a ∧ a ≤ 2147483647) {st : List Value} {H : HP} {Q : Option Value → HP → Prop} : Go 147 83 L (vi a :: st) H Q ↔ Go 147 84 L (vl a :: st) H Q := G_i2l fX9_inverse_83 c
theorem fX9_inverse_84 : ft 147 84 = some (.lload_n 2, 0, 0, 0, .null) := by decide +kernel
theorem gX9_inverse_84 {l0 l1 l4 l5 l6 l7 l8 l9 l10 l11 l12 l13 l14 l15 l16 l17 : Option Value} {u : Int64} {st : List Value} {H : HP} {Q : Option Value → HP → Prop} : Go 147 84 [l0, l1, some (.long u), none, l4, l5, l6, l7, l8, l9, l10, l11, l12, l13, l14, l15, l16, l17] st H Q ↔ Go 147 85 [l0, l1, some (.long u), none, l4, l5, l6, l7, l8, l9, l10, l11, l12, l13, l14, l15, l16, l17] (.long u :: st) H Q := G_lload_n fX9_inverse_84 rfl
theorem fX9_inverse_85 : ft 147 85 = some (.invokestatic 127, 138, 0, 928, .null) := by decide +kernel
theorem gX9_inverse_85 {L : List (Option Value)} {a0 : Int64} {a1 : Int64} {a2 : Int64}  {H : HP} {Q : Option Value → HP → Prop} : Go 147 85 L (.long a2 :: .long a1 :: .long a0 :: []) H Q ↔ Go 138 0 [some (.long a0), none, some (.long a1), none, some (.long a2), none, none, none, none, none, none, none] [] H (Cont 147 88 L [] Q) := G_cS (n := 3) (N := 12) (as := [.long a2, .long a1, .long a0]) (st := []) fX9_inverse_85 (by decide +kernel) rfl (Nat.le_of_ble_eq_true rfl) (Nat.le_of_ble_eq_true rfl) rfl
theorem fX9_inverse_88 : ft 147 88 = some (.lstore 11, 0, 0, 0, .null) := by decide +kernel
theorem gX9_inverse_88 {l0 l1 l2 l3 l4 l5 l6 l7 l8 l9 l10 l11 l12 l13 l14 l15 l16 l17 : Option Value} {u : Int64} {st : List Value} {H : HP} {Q : Option Value → HP → Prop} : Go 147 88 [l0, l1, l2, l3, l4, l5, l6, l7, l8, l9, l10, l11, l12, l13, l14, l15, l16, l17] (.long u :: st) H Q ↔ Go 147 90 [l0, l1, l2, l3, l4, l5, l6, l7, l8, l9, l10, some (.long u), none, l13, l14, l15, l16, l17] st H Q := G_lstore fX9_inverse_88 rfl
theorem fX9_inverse_90 : ft 147 90 = some (.lconst 1, 0, 0, 0, .null) := by decide +kernel
theorem gX9_inverse_90 {L : List (Option Value)} {st : List Value} {H : HP} {Q : Option Value → HP → Prop} : Go 147 90 L st H Q ↔ Go 147 91 L (vl 1 :: st) H Q := G_lconst fX9_inverse_90 (by decide)
theorem fX9_inverse_91 : ft 147 91 = some (.lstore 13, 0, 0, 0, .null) := by decide +kernel
theorem gX9_inverse_91 {l0 l1 l2 l3 l4 l5 l6 l7 l8 l9 l10 l11 l12 l13 l14 l15 l16 l17 : Option Value} {u : Int64} {st : List Value} {H : HP} {Q : Option Value → HP → Prop} : Go 147 91 [l0, l1, l2, l3, l4, l5, l6, l7, l8, l9, l10, l11, l12, l13, l14, l15, l16, l17] (.long u :: st) H Q ↔ Go 147 93 [l0, l1, l2, l3, l4, l5, l6, l7, l8, l9, l10, l11, l12, some (.long u), none, l15, l16, l17] st H Q := G_lstore fX9_inverse_91 rfl
theorem fX9_inverse_93 : ft 147 93 = some (.lconst 0, 0, 0, 0, .null) := by decide +kernel
theorem gX9_inverse_93 {L : List (Option Value)} {st : List Value} {H : HP} {Q : Option Value → HP → Prop} : Go 147 93 L st H Q ↔ Go 147 94 L (vl 0 :: st) H Q := G_lconst fX9_inverse_93 (by decide)
theorem fX9_inverse_94 : ft 147 94 = some (.lstore 15, 0, 0, 0, .null) := by decide +kernel
theorem gX9_inverse_94 {l0 l1 l2 l3 l4 l5 l6 l7 l8 l9 l10 l11 l12 l13 l14 l15 l16 l17 : Option Value} {u : Int64} {st : List Value} {H : HP} {Q : Option Value → HP → Prop} : Go 147 94 [l0, l1, l2, l3, l4, l5, l6, l7, l8, l9, l10, l11, l12, l13, l14, l15, l16, l17] (.long u :: st) H Q ↔ Go 147 96 [l0, l1, l2, l3, l4, l5, l6, l7, l8, l9, l10, l11, l12, l13, l14, some (.long u), none, l17] st H Q := G_lstore fX9_inverse_94 rfl
theorem fX9_inverse_96 : ft 147 96 = some (.iconst 0, 0, 0, 0, .null) := by decide +kernel
theorem gX9_inverse_96 {L : List (Option Value)} {st : List Value} {H : HP} {Q : Option Value → HP → Prop} : Go 147 96 L st H Q ↔ Go 147 97 L (vi 0 :: st) H Q := G_iconst fX9_inverse_96
theorem fX9_inverse_97 : ft 147 97 = some (.istore 17, 0, 0, 0, .null) := by decide +kernel
theorem gX9_inverse_97 {l0 l1 l2 l3 l4 l5 l6 l7 l8 l9 l10 l11 l12 l13 l14 l15 l16 l17 : Option Value} {u : Int32} {st : List Value} {H : HP} {Q : Option Value → HP → Prop} : Go 147 97 [l0, l1, l2, l3, l4, l5, l6, l7, l8, l9, l10, l11, l12, l13, l14, l15, l16, l17] (.int u :: st) H Q ↔ Go 147 99 [l0, l1, l2, l3, l4, l5, l6, l7, l8, l9, l10, l11, l12, l13, l14, l15, l16, some (.int u)] st H Q := G_istore fX9_inverse_97 rfl
theorem fX9_inverse_99 : ft 147 99 = some (.iload 17, 0, 0, 0, .null) := by decide +kernel
theorem gX9_inverse_99 {l0 l1 l2 l3 l4 l5 l6 l7 l8 l9 l10 l11 l12 l13 l14 l15 l16 : Option Value} {u : Int32} {st : List Value} {H : HP} {Q : Option Value → HP → Prop} : Go 147 99 [l0, l1, l2, l3, l4, l5, l6, l7, l8, l9, l10, l11, l12, l13, l14, l15, l16, some (.int u)] st H Q ↔ Go 147 101 [l0, l1, l2, l3, l4, l5, l6, l7, l8, l9, l10, l11, l12, l13, l14, l15, l16, some (.int u)] (.int u :: st) H Q := G_iload fX9_inverse_99 rfl
theorem fX9_inverse_101 : ft 147 101 = some (.iload 4, 0, 0, 0, .null) := by decide +kernel
theorem gX9_inverse_101 {l0 l1 l2 l3 l5 l6 l7 l8 l9 l10 l11 l12 l13 l14 l15 l16 l17 : Option Value} {u : Int32} {st : List Value} {H : HP} {Q : Option Value → HP → Prop} : Go 147 101 [l0, l1, l2, l3, some (.int u), l5, l6, l7, l8, l9, l10, l11, l12, l13, l14, l15, l16, l17] st H Q ↔ Go 147 103 [l0, l1, l2, l3, some (.int u), l5, l6, l7, l8, l9, l10, l11, l12, l13, l14, l15, l16, l17] (.int u :: st) H Q := G_iload fX9_inverse_101 rfl
theorem fX9_inverse_103 : ft 147 103 = some (.if_icmp .ge 35, 0, 0, 0, .null) := by decide +kernel
theorem gX9_inverse_103T {L : List (Option Value)} {a b : Int} (c : (-2147483648 ≤ a ∧ a ≤ 2147483647 ∧ -2147483648 ≤ b ∧ b ≤ 2147483647) ∧ b ≤ a) {st : List Value} {H : HP} {Q : Option Value → HP → Prop} : Go 147 103 L (vi b :: vi a :: st) H Q ↔ Go 147 138 L st H Q := G_icT fX9_inverse_103 (by decide) c
theorem gX9_inverse_103F {L : List (Option Value)} {a b : Int} (c : (-2147483648 ≤ a ∧ a ≤ 2147483647 ∧ -2147483648 ≤ b ∧ b ≤ 2147483647) ∧ ¬ (b ≤ a)) {st : List Value} {H : HP} {Q : Option Value → HP → Prop} : Go 147 103 L (vi b :: vi a :: st) H Q ↔ Go 147 106 L st H Q := G_icF (tg := 138) fX9_inverse_103 (by decide) c
theorem fX9_inverse_106 : ft 147 106 = some (.lload 15, 0, 0, 0, .null) := by decide +kernel
theorem gX9_inverse_106 {l0 l1 l2 l3 l4 l5 l6 l7 l8 l9 l10 l11 l12 l13 l14 l17 : Option Value} {u : Int64} {st : List Value} {H : HP} {Q : Option Value → HP → Prop} : Go 147 106 [l0, l1, l2, l3, l4, l5, l6, l7, l8, l9, l10, l11, l12, l13, l14, some (.long u), none, l17] st H Q ↔ Go 147 108 [l0, l1, l2, l3, l4, l5, l6, l7, l8, l9, l10, l11, l12, l13, l14, some (.long u), none, l17] (.long u :: st) H Q := G_lload fX9_inverse_106 rfl
theorem fX9_inverse_108 : ft 147 108 = some (.aload_n 0, 0, 0, 0, .null) := by decide +kernel
theorem gX9_inverse_108 {l1 l2 l3 l4 l5 l6 l7 l8 l9 l10 l11 l12 l13 l14 l15 l16 l17 : Option Value} {u : Nat} {st : List Value} {H : HP} {Q : Option Value → HP → Prop} : Go 147 108 [some (.ref u), l1, l2, l3, l4, l5, l6, l7, l8, l9, l10, l11, l12, l13, l14, l15, l16, l17] st H Q ↔ Go 147 109 [some (.ref u), l1, l2, l3, l4, l5, l6, l7, l8, l9, l10, l11, l12, l13, l14, l15, l16, l17] (.ref u :: st) H Q := G_aload_n fX9_inverse_108 rfl
theorem fX9_inverse_109 : ft 147 109 = some (.getfield 27, 9, 7, 761, .null) := by decide +kernel
theorem gX9_inverse_109 {L : List (Option Value)} {p : Nat} {st : List Value} {H : HP} {Q : Option Value → HP → Prop} : Go 147 109 L (.ref p :: st) H Q ↔ Rd (gF' 9 7 (hget H p)) 147 112 L st H Q := G_getf fX9_inverse_109 ⟨rfl, rfl⟩
theorem fX9_inverse_112 : ft 147 112 = some (.iload 17, 0, 0, 0, .null) := by decide +kernel
theorem gX9_inverse_112 {l0 l1 l2 l3 l4 l5 l6 l7 l8 l9 l10 l11 l12 l13 l14 l15 l16 : Option Value} {u : Int32} {st : List Value} {H : HP} {Q : Option Value → HP → Prop} : Go 147 112 [l0, l1, l2, l3, l4, l5, l6, l7, l8, l9, l10, l11, l12, l13, l14, l15, l16, some (.int u)] st H Q ↔ Go 147 114 [l0, l1, l2, l3, l4, l5, l6, l7, l8, l9, l10, l11, l12, l13, l14, l15, l16, some (.int u)] (.int u :: st) H Q := G_iload fX9_inverse_112 rfl
theorem fX9_inverse_114 : ft 147 114 = some (.laload, 0, 0, 0, .null) := by decide +kernel
theorem gX9_inverse_114 {L : List (Option Value)} {p : Nat} {a : Int} {st : List Value} {H : HP} {Q : Option Value → HP → Prop} : Go 147 114 L (vi a :: .ref p :: st) H Q ↔ Rd (aL' (hget H p) a) 147 115 L st H Q := G_lald fX9_inverse_114
theorem fX9_inverse_115 : ft 147 115 = some (.lload 13, 0, 0, 0, .null) := by decide +kernel
theorem gX9_inverse_115 {l0 l1 l2 l3 l4 l5 l6 l7 l8 l9 l10 l11 l12 l15 l16 l17 : Option Value} {u : Int64} {st : List Value} {H : HP} {Q : Option Value → HP → Prop} : Go 147 115 [l0, l1, l2, l3, l4, l5, l6, l7, l8, l9, l10, l11, l12, some (.long u), none, l15, l16, l17] st H Q ↔ Go 147 117 [l0, l1, l2, l3, l4, l5, l6, l7, l8, l9, l10, l11, l12, some (.long u), none, l15, l16, l17] (.long u :: st) H Q := G_lload fX9_inverse_115 rfl
theorem fX9_inverse_117 : ft 147 117 = some (.lmul, 0, 0, 0, .null) := by decide +kernel
theorem gX9_inverse_117 {L : List (Option Value)} {a b : Int} {st : List Value} {H : HP} {Q : Option Value → HP → Prop} : Go 147 117 L (vl b :: vl a :: st) H Q ↔ Go 147 118 L (vl (a * b) :: st) H Q := G_lmul fX9_inverse_117
theorem fX9_inverse_118 : ft 147 118 = some (.ladd, 0, 0, 0, .null) := by decide +kernel
theorem gX9_inverse_118 {L : List (Option Value)} {a b : Int} {st : List Value} {H : HP} {Q : Option Value → HP → Prop} : Go 147 118 L (vl b :: vl a :: st) H Q ↔ Go 147 119 L (vl (a + b) :: st) H Q := G_ladd fX9_inverse_118
theorem fX9_inverse_119 : ft 147 119 = some (.lload_n 2, 0, 0, 0, .null) := by decide +kernel
theorem gX9_inverse_119 {l0 l1 l4 l5 l6 l7 l8 l9 l10 l11 l12 l13 l14 l15 l16 l17 : Option Value} {u : Int64} {st : List Value} {H : HP} {Q : Option Value → HP → Prop} : Go 147 119 [l0, l1, some (.long u), none, l4, l5, l6, l7, l8, l9, l10, l11, l12, l13, l14, l15, l16, l17] st H Q ↔ Go 147 120 [l0, l1, some (.long u), none, l4, l5, l6, l7, l8, l9, l10, l11, l12, l13, l14, l15, l16, l17] (.long u :: st) H Q := G_lload_n fX9_inverse_119 rfl
theorem fX9_inverse_120 : ft 147 120 = some (.lrem, 0, 0, 0, .null) := by decide +kernel
theorem gX9_inverse_120 {L : List (Option Value)} {a b : Int} (c : -9223372036854775808 ≤ a ∧ a ≤ 9223372036854775807 ∧ -9223372036854775808 ≤ b ∧ b ≤ 9223372036854775807 ∧ ¬ b = 0) {st : List Value} {H : HP} {Q : Option Value → HP → Prop} : Go 147 120 L (vl b :: vl a :: st) H Q ↔ Go 147 121 L (vl (a.tmod b) :: st) H Q := G_lrem fX9_inverse_120 c
theorem fX9_inverse_121 : ft 147 121 = some (.lstore 15, 0, 0, 0, .null) := by decide +kernel
theorem gX9_inverse_121 {l0 l1 l2 l3 l4 l5 l6 l7 l8 l9 l10 l11 l12 l13 l14 l15 l16 l17 : Option Value} {u : Int64} {st : List Value} {H : HP} {Q : Option Value → HP → Prop} : Go 147 121 [l0, l1, l2, l3, l4, l5, l6, l7, l8, l9, l10, l11, l12, l13, l14, l15, l16, l17] (.long u :: st) H Q ↔ Go 147 123 [l0, l1, l2, l3, l4, l5, l6, l7, l8, l9, l10, l11, l12, l13, l14, some (.long u), none, l17] st H Q := G_lstore fX9_inverse_121 rfl
theorem fX9_inverse_123 : ft 147 123 = some (.lload 13, 0, 0, 0, .null) := by decide +kernel
theorem gX9_inverse_123 {l0 l1 l2 l3 l4 l5 l6 l7 l8 l9 l10 l11 l12 l15 l16 l17 : Option Value} {u : Int64} {st : List Value} {H : HP} {Q : Option Value → HP → Prop} : Go 147 123 [l0, l1, l2, l3, l4, l5, l6, l7, l8, l9, l10, l11, l12, some (.long u), none, l15, l16, l17] st H Q ↔ Go 147 125 [l0, l1, l2, l3, l4, l5, l6, l7, l8, l9, l10, l11, l12, some (.long u), none, l15, l16, l17] (.long u :: st) H Q := G_lload fX9_inverse_123 rfl
theorem fX9_inverse_125 : ft 147 125 = some (.lload 11, 0, 0, 0, .null) := by decide +kernel
theorem gX9_inverse_125 {l0 l1 l2 l3 l4 l5 l6 l7 l8 l9 l10 l13 l14 l15 l16 l17 : Option Value} {u : Int64} {st : List Value} {H : HP} {Q : Option Value → HP → Prop} : Go 147 125 [l0, l1, l2, l3, l4, l5, l6, l7, l8, l9, l10, some (.long u), none, l13, l14, l15, l16, l17] st H Q ↔ Go 147 127 [l0, l1, l2, l3, l4, l5, l6, l7, l8, l9, l10, some (.long u), none, l13, l14, l15, l16, l17] (.long u :: st) H Q := G_lload fX9_inverse_125 rfl
theorem fX9_inverse_127 : ft 147 127 = some (.lmul, 0, 0, 0, .null) := by decide +kernel
theorem gX9_inverse_127 {L : List (Option Value)} {a b : Int} {st : List Value} {H : HP} {Q : Option Value → HP → Prop} : Go 147 127 L (vl b :: vl a :: st) H Q ↔ Go 147 128 L (vl (a * b) :: st) H Q := G_lmul fX9_inverse_127
theorem fX9_inverse_128 : ft 147 128 = some (.lload_n 2, 0, 0, 0, .null) := by decide +kernel
theorem gX9_inverse_128 {l0 l1 l4 l5 l6 l7 l8 l9 l10 l11 l12 l13 l14 l15 l16 l17 : Option Value} {u : Int64} {st : List Value} {H : HP} {Q : Option Value → HP → Prop} : Go 147 128 [l0, l1, some (.long u), none, l4, l5, l6, l7, l8, l9, l10, l11, l12, l13, l14, l15, l16, l17] st H Q ↔ Go 147 129 [l0, l1, some (.long u), none, l4, l5, l6, l7, l8, l9, l10, l11, l12, l13, l14, l15, l16, l17] (.long u :: st) H Q := G_lload_n fX9_inverse_128 rfl
theorem fX9_inverse_129 : ft 147 129 = some (.lrem, 0, 0, 0, .null) := by decide +kernel
theorem gX9_inverse_129 {L : List (Option Value)} {a b : Int} (c : -9223372036854775808 ≤ a ∧ a ≤ 9223372036854775807 ∧ -9223372036854775808 ≤ b ∧ b ≤ 9223372036854775807 ∧ ¬ b = 0) {st : List Value} {H : HP} {Q : Option Value → HP → Prop} : Go 147 129 L (vl b :: vl a :: st) H Q ↔ Go 147 130 L (vl (a.tmod b) :: st) H Q := G_lrem fX9_inverse_129 c
theorem fX9_inverse_130 : ft 147 130 = some (.lstore 13, 0, 0, 0, .null) := by decide +kernel
theorem gX9_inverse_130 {l0 l1 l2 l3 l4 l5 l6 l7 l8 l9 l10 l11 l12 l13 l14 l15 l16 l17 : Option Value} {u : Int64} {st : List Value} {H : HP} {Q : Option Value → HP → Prop} : Go 147 130 [l0, l1, l2, l3, l4, l5, l6, l7, l8, l9, l10, l11, l12, l13, l14, l15, l16, l17] (.long u :: st) H Q ↔ Go 147 132 [l0, l1, l2, l3, l4, l5, l6, l7, l8, l9, l10, l11, l12, some (.long u), none, l15, l16, l17] st H Q := G_lstore fX9_inverse_130 rfl
theorem fX9_inverse_132 : ft 147 132 = some (.iinc 17 1, 0, 0, 0, .null) := by decide +kernel
theorem gX9_inverse_132 {l0 l1 l2 l3 l4 l5 l6 l7 l8 l9 l10 l11 l12 l13 l14 l15 l16 : Option Value} {a : Int} {st : List Value} {H : HP} {Q : Option Value → HP → Prop} : Go 147 132 [l0, l1, l2, l3, l4, l5, l6, l7, l8, l9, l10, l11, l12, l13, l14, l15, l16, some (vi a)] st H Q ↔ Go 147 135 [l0, l1, l2, l3, l4, l5, l6, l7, l8, l9, l10, l11, l12, l13, l14, l15, l16, some (vi (a + 1))] st H Q := G_iinc fX9_inverse_132 rfl rfl
theorem fX9_inverse_135 : ft 147 135 = some (.goto (-36), 0, 0, 0, .null) := by decide +kernel
theorem gX9_inverse_135 {L : List (Option Value)} {st : List Value} {H : HP} {Q : Option Value → HP → Prop} : Go 147 135 L st H Q ↔ Go 147 99 L st H Q := G_goto fX9_inverse_135 (by decide)
theorem fX9_inverse_138 : ft 147 138 = some (.aload_n 0, 0, 0, 0, .null) := by decide +kernel
theorem gX9_inverse_138 {l1 l2 l3 l4 l5 l6 l7 l8 l9 l10 l11 l12 l13 l14 l15 l16 l17 : Option Value} {u : Nat} {st : List Value} {H : HP} {Q : Option Value → HP → Prop} : Go 147 138 [some (.ref u), l1, l2, l3, l4, l5, l6, l7, l8, l9, l10, l11, l12, l13, l14, l15, l16, l17] st H Q ↔ Go 147 139 [some (.ref u), l1, l2, l3, l4, l5, l6, l7, l8, l9, l10, l11, l12, l13, l14, l15, l16, l17] (.ref u :: st) H Q := G_aload_n fX9_inverse_138 rfl
theorem fX9_inverse_139 : ft 147 139 = some (.getfield 19, 9, 4, 758, .null) := by decide +kernel
theorem gX9_inverse_139 {L : List (Option Value)} {p : Nat} {st : List Value} {H : HP} {Q : Option Value → HP → Prop} : Go 147 139 L (.ref p :: st) H Q ↔ Rd (gF' 9 4 (hget H p)) 147 142 L st H Q := G_getf fX9_inverse_139 ⟨rfl, rfl⟩
theorem fX9_inverse_142 : ft 147 142 = some (.bipush 64, 0, 0, 0, .null) := by decide +kernel
theorem gX9_inverse_142 {L : List (Option Value)} {st : List Value} {H : HP} {Q : Option Value → HP → Prop} : Go 147 142 L st H Q ↔ Go 147 144 L (vi 64 :: st) H Q := G_bipush fX9_inverse_142 (by decide)
theorem fX9_inverse_144 : ft 147 144 = some (.iload 9, 0, 0, 0, .null) := by decide +kernel
theorem gX9_inverse_144 {l0 l1 l2 l3 l4 l5 l6 l7 l8 l10 l11 l12 l13 l14 l15 l16 l17 : Option Value} {u : Int32} {st : List Value} {H : HP} {Q : Option Value → HP → Prop} : Go 147 144 [l0, l1, l2, l3, l4, l5, l6, l7, l8, some (.int u), l10, l11, l12, l13, l14, l15, l16, l17] st H Q ↔ Go 147 146 [l0, l1, l2, l3, l4, l5, l6, l7, l8, some (.int u), l10, l11, l12, l13, l14, l15, l16, l17] (.int u :: st) H Q := G_iload fX9_inverse_144 rfl
theorem fX9_inverse_146 : ft 147 146 = some (.imul, 0, 0, 0, .null) := by decide +kernel
theorem gX9_inverse_146 {L : List (Option Value)} {a b : Int} {st : List Value} {H : HP} {Q : Option Value → HP → Prop} : Go 147 146 L (vi b :: vi a :: st) H Q ↔ Go 147 147 L (vi (a * b) :: st) H Q := G_imul fX9_inverse_146
theorem fX9_inverse_147 : ft 147 147 = some (.iload 10, 0, 0, 0, .null) := by decide +kernel
theorem gX9_inverse_147 {l0 l1 l2 l3 l4 l5 l6 l7 l8 l9 l11 l12 l13 l14 l15 l16 l17 : Option Value} {u : Int32} {st : List Value} {H : HP} {Q : Option Value → HP → Prop} : Go 147 147 [l0, l1, l2, l3, l4, l5, l6, l7, l8, l9, some (.int u), l11, l12, l13, l14, l15, l16, l17] st H Q ↔ Go 147 149 [l0, l1, l2, l3, l4, l5, l6, l7, l8, l9, some (.int u), l11, l12, l13, l14, l15, l16, l17] (.int u :: st) H Q := G_iload fX9_inverse_147 rfl
theorem fX9_inverse_149 : ft 147 149 = some (.iadd, 0, 0, 0, .null) := by decide +kernel
theorem gX9_inverse_149 {L : List (Option Value)} {a b : Int} {st : List Value} {H : HP} {Q : Option Value → HP → Prop} : Go 147 149 L (vi b :: vi a :: st) H Q ↔ Go 147 150 L (vi (a + b) :: st) H Q := G_iadd fX9_inverse_149
theorem fX9_inverse_150 : ft 147 150 = some (.lload 15, 0, 0, 0, .null) := by decide +kernel
theorem gX9_inverse_150 {l0 l1 l2 l3 l4 l5 l6 l7 l8 l9 l10 l11 l12 l13 l14 l17 : Option Value} {u : Int64} {st : List Value} {H : HP} {Q : Option Value → HP → Prop} : Go 147 150 [l0, l1, l2, l3, l4, l5, l6, l7, l8, l9, l10, l11, l12, l13, l14, some (.long u), none, l17] st H Q ↔ Go 147 152 [l0, l1, l2, l3, l4, l5, l6, l7, l8, l9, l10, l11, l12, l13, l14, some (.long u), none, l17] (.long u :: st) H Q := G_lload fX9_inverse_150 rfl
theorem fX9_inverse_152 : ft 147 152 = some (.lload 7, 0, 0, 0, .null) := by decide +kernel
theorem gX9_inverse_152 {l0 l1 l2 l3 l4 l5 l6 l9 l10 l11 l12 l13 l14 l15 l16 l17 : Option Value} {u : Int64} {st : List Value} {H : HP} {Q : Option Value → HP → Prop} : Go 147 152 [l0, l1, l2, l3, l4, l5, l6, some (.long u), none, l9, l10, l11, l12, l13, l14, l15, l16, l17] st H Q ↔ Go 147 154 [l0, l1, l2, l3, l4, l5, l6, some (.long u), none, l9, l10, l11, l12, l13, l14, l15, l16, l17] (.long u :: st) H Q := G_lload fX9_inverse_152 rfl
theorem fX9_inverse_154 : ft 147 154 = some (.lmul, 0, 0, 0, .null) := by decide +kernel
theorem gX9_inverse_154 {L : List (Option Value)} {a b : Int} {st : List Value} {H : HP} {Q : Option Value → HP → Prop} : Go 147 154 L (vl b :: vl a :: st) H Q ↔ Go 147 155 L (vl (a * b) :: st) H Q := G_lmul fX9_inverse_154
theorem fX9_inverse_155 : ft 147 155 = some (.lload_n 2, 0, 0, 0, .null) := by decide +kernel
theorem gX9_inverse_155 {l0 l1 l4 l5 l6 l7 l8 l9 l10 l11 l12 l13 l14 l15 l16 l17 : Option Value} {u : Int64} {st : List Value} {H : HP} {Q : Option Value → HP → Prop} : Go 147 155 [l0, l1, some (.long u), none, l4, l5, l6, l7, l8, l9, l10, l11, l12, l13, l14, l15, l16, l17] st H Q ↔ Go 147 156 [l0, l1, some (.long u), none, l4, l5, l6, l7, l8, l9, l10, l11, l12, l13, l14, l15, l16, l17] (.long u :: st) H Q := G_lload_n fX9_inverse_155 rfl
theorem fX9_inverse_156 : ft 147 156 = some (.lrem, 0, 0, 0, .null) := by decide +kernel
theorem gX9_inverse_156 {L : List (Option Value)} {a b : Int} (c : -9223372036854775808 ≤ a ∧ a ≤ 9223372036854775807 ∧ -9223372036854775808 ≤ b ∧ b ≤ 9223372036854775807 ∧ ¬ b = 0) {st : List Value} {H : HP} {Q : Option Value → HP → Prop} : Go 147 156 L (vl b :: vl a :: st) H Q ↔ Go 147 157 L (vl (a.tmod b) :: st) H Q := G_lrem fX9_inverse_156 c
theorem fX9_inverse_157 : ft 147 157 = some (.lastore, 0, 0, 0, .null) := by decide +kernel
theorem gX9_inverse_157 {L : List (Option Value)} {p : Nat} {a : Int} {b : Int} (hp : p ≠ 0) {st : List Value} {H : HP} {Q : Option Value → HP → Prop} : Go 147 157 L (vl b :: vi a :: .ref p :: st) H Q ↔ Wr (sL' (hget H p) a b) p 147 158 L st H Q := G_last fX9_inverse_157 hp
theorem fX9_inverse_158 : ft 147 158 = some (.iinc 10 1, 0, 0, 0, .null) := by decide +kernel
theorem gX9_inverse_158 {l0 l1 l2 l3 l4 l5 l6 l7 l8 l9 l11 l12 l13 l14 l15 l16 l17 : Option Value} {a : Int} {st : List Value} {H : HP} {Q : Option Value → HP → Prop} : Go 147 158 [l0, l1, l2, l3, l4, l5, l6, l7, l8, l9, some (vi a), l11, l12, l13, l14, l15, l16, l17] st H Q ↔ Go 147 161 [l0, l1, l2, l3, l4, l5, l6, l7, l8, l9, some (vi (a + 1)), l11, l12, l13, l14, l15, l16, l17] st H Q := G_iinc fX9_inverse_158 rfl rfl
theorem fX9_inverse_161 : ft 147 161 = some (.goto (-89), 0, 0, 0, .null) := by decide +kernel
theorem gX9_inverse_161 {L : List (Option Value)} {st : List Value} {H : HP} {Q : Option Value → HP → Prop} : Go 147 161 L st H Q ↔ Go 147 72 L st H Q := G_goto fX9_inverse_161 (by decide)
theorem fX9_inverse_164 : ft 147 164 = some (.iload 4, 0, 0, 0, .null) := by decide +kernel
theorem gX9_inverse_164 {l0 l1 l2 l3 l5 l6 l7 l8 l9 l10 l11 l12 l13 l14 l15 l16 l17 : Option Value} {u : Int32} {st : List Value} {H : HP} {Q : Option Value → HP → Prop} : Go 147 164 [l0, l1, l2, l3, some (.int u), l5, l6, l7, l8, l9, l10, l11, l12, l13, l14, l15, l16, l17] st H Q ↔ Go 147 166 [l0, l1, l2, l3, some (.int u), l5, l6, l7, l8, l9, l10, l11, l12, l13, l14, l15, l16, l17] (.int u :: st) H Q := G_iload fX9_inverse_164 rfl
theorem fX9_inverse_166 : ft 147 166 = some (.ireturn, 0, 0, 0, .null) := by decide +kernel
theorem gX9_inverse_166 {L : List (Option Value)} {u : Int32} {H : HP} {Q : Option Value → HP → Prop} : Go 147 166 L [.int u] H Q ↔ Q (some (.int u)) H := G_iret fX9_inverse_166 (by decide +kernel)
theorem fX9_clearProduct_0 : ft 148 0 = some (.aload_n 0, 0, 0, 0, .null) := by decide +kernel
theorem gX9_clearProduct_0 {l1 l2 : Option Value} {u : Nat} {st : List Value} {H : HP} {Q : Option Value → HP → Prop} : Go 148 0 [some (.ref u), l1, l2] st H Q ↔ Go 148 1 [some (.ref u), l1, l2] (.ref u :: st) H Q := G_aload_n fX9_clearProduct_0 rfl
theorem fX9_clearProduct_1 : ft 148 1 = some (.iload_n 1, 0, 0, 0, .null) := by decide +kernel
theorem gX9_clearProduct_1 {l0 l2 : Option Value} {u : Int32} {st : List Value} {H : HP} {Q : Option Value → HP → Prop} : Go 148 1 [l0, some (.int u), l2] st H Q ↔ Go 148 2 [l0, some (.int u), l2] (.int u :: st) H Q := G_iload_n fX9_clearProduct_1 rfl
theorem fX9_clearProduct_2 : ft 148 2 = some (.putfield 163, 9, 8, 762, .null) := by decide +kernel
theorem gX9_clearProduct_2 {L : List (Option Value)} {p : Nat} {u : Int32} (hp : p ≠ 0) {st : List Value} {H : HP} {Q : Option Value → HP → Prop} : Go 148 2 L (.int u :: .ref p :: st) H Q ↔ Wr (pF' 9 8 (hget H p) (.int u)) p 148 5 L st H Q := G_putf fX9_clearProduct_2 ⟨⟨rfl, rfl⟩, rfl, Or.inl rfl⟩ hp
theorem fX9_clearProduct_5 : ft 148 5 = some (.iconst 0, 0, 0, 0, .null) := by decide +kernel
theorem gX9_clearProduct_5 {L : List (Option Value)} {st : List Value} {H : HP} {Q : Option Value → HP → Prop} : Go 148 5 L st H Q ↔ Go 148 6 L (vi 0 :: st) H Q := G_iconst fX9_clearProduct_5
theorem fX9_clearProduct_6 : ft 148 6 = some (.istore_n 2, 0, 0, 0, .null) := by decide +kernel
theorem gX9_clearProduct_6 {l0 l1 l2 : Option Value} {u : Int32} {st : List Value} {H : HP} {Q : Option Value → HP → Prop} : Go 148 6 [l0, l1, l2] (.int u :: st) H Q ↔ Go 148 7 [l0, l1, some (.int u)] st H Q := G_istore_n fX9_clearProduct_6 rfl
theorem fX9_clearProduct_7 : ft 148 7 = some (.iload_n 2, 0, 0, 0, .null) := by decide +kernel
theorem gX9_clearProduct_7 {l0 l1 : Option Value} {u : Int32} {st : List Value} {H : HP} {Q : Option Value → HP → Prop} : Go 148 7 [l0, l1, some (.int u)] st H Q ↔ Go 148 8 [l0, l1, some (.int u)] (.int u :: st) H Q := G_iload_n fX9_clearProduct_7 rfl
theorem fX9_clearProduct_8 : ft 148 8 = some (.iload_n 1, 0, 0, 0, .null) := by decide +kernel
theorem gX9_clearProduct_8 {l0 l2 : Option Value} {u : Int32} {st : List Value} {H : HP} {Q : Option Value → HP → Prop} : Go 148 8 [l0, some (.int u), l2] st H Q ↔ Go 148 9 [l0, some (.int u), l2] (.int u :: st) H Q := G_iload_n fX9_clearProduct_8 rfl
theorem fX9_clearProduct_9 : ft 148 9 = some (.if_icmp .ge 23, 0, 0, 0, .null) := by decide +kernel
theorem gX9_clearProduct_9T {L : List (Option Value)} {a b : Int} (c : (-2147483648 ≤ a ∧ a ≤ 2147483647 ∧ -2147483648 ≤ b ∧ b ≤ 2147483647) ∧ b ≤ a) {st : List Value} {H : HP} {Q : Option Value → HP → Prop} : Go 148 9 L (vi b :: vi a :: st) H Q ↔ Go 148 32 L st H Q := G_icT fX9_clearProduct_9 (by decide) c
theorem gX9_clearProduct_9F {L : List (Option Value)} {a b : Int} (c : (-2147483648 ≤ a ∧ a ≤ 2147483647 ∧ -2147483648 ≤ b ∧ b ≤ 2147483647) ∧ ¬ (b ≤ a)) {st : List Value} {H : HP} {Q : Option Value → HP → Prop} : Go 148 9 L (vi b :: vi a :: st) H Q ↔ Go 148 12 L st H Q := G_icF (tg := 32) fX9_clearProduct_9 (by decide) c
theorem fX9_clearProduct_12 : ft 148 12 = some (.aload_n 0, 0, 0, 0, .null) := by decide +kernel
theorem gX9_clearProduct_12 {l1 l2 : Option Value} {u : Nat} {st : List Value} {H : HP} {Q : Option Value → HP → Prop} : Go 148 12 [some (.ref u), l1, l2] st H Q ↔ Go 148 13 [some (.ref u), l1, l2] (.ref u :: st) H Q := G_aload_n fX9_clearProduct_12 rfl
theorem fX9_clearProduct_13 : ft 148 13 = some (.getfield 30, 9, 9, 763, .null) := by decide +kernel
theorem gX9_clearProduct_13 {L : List (Option Value)} {p : Nat} {st : List Value} {H : HP} {Q : Option Value → HP → Prop} : Go 148 13 L (.ref p :: st) H Q ↔ Rd (gF' 9 9 (hget H p)) 148 16 L st H Q := G_getf fX9_clearProduct_13 ⟨rfl, rfl⟩
theorem fX9_clearProduct_16 : ft 148 16 = some (.iload_n 2, 0, 0, 0, .null) := by decide +kernel
theorem gX9_clearProduct_16 {l0 l1 : Option Value} {u : Int32} {st : List Value} {H : HP} {Q : Option Value → HP → Prop} : Go 148 16 [l0, l1, some (.int u)] st H Q ↔ Go 148 17 [l0, l1, some (.int u)] (.int u :: st) H Q := G_iload_n fX9_clearProduct_16 rfl
theorem fX9_clearProduct_17 : ft 148 17 = some (.lconst 0, 0, 0, 0, .null) := by decide +kernel
theorem gX9_clearProduct_17 {L : List (Option Value)} {st : List Value} {H : HP} {Q : Option Value → HP → Prop} : Go 148 17 L st H Q ↔ Go 148 18 L (vl 0 :: st) H Q := G_lconst fX9_clearProduct_17 (by decide)
theorem fX9_clearProduct_18 : ft 148 18 = some (.lastore, 0, 0, 0, .null) := by decide +kernel
theorem gX9_clearProduct_18 {L : List (Option Value)} {p : Nat} {a : Int} {b : Int} (hp : p ≠ 0) {st : List Value} {H : HP} {Q : Option Value → HP → Prop} : Go 148 18 L (vl b :: vi a :: .ref p :: st) H Q ↔ Wr (sL' (hget H p) a b) p 148 19 L st H Q := G_last fX9_clearProduct_18 hp
theorem fX9_clearProduct_19 : ft 148 19 = some (.aload_n 0, 0, 0, 0, .null) := by decide +kernel
theorem gX9_clearProduct_19 {l1 l2 : Option Value} {u : Nat} {st : List Value} {H : HP} {Q : Option Value → HP → Prop} : Go 148 19 [some (.ref u), l1, l2] st H Q ↔ Go 148 20 [some (.ref u), l1, l2] (.ref u :: st) H Q := G_aload_n fX9_clearProduct_19 rfl
theorem fX9_clearProduct_20 : ft 148 20 = some (.getfield 33, 9, 10, 764, .null) := by decide +kernel
theorem gX9_clearProduct_20 {L : List (Option Value)} {p : Nat} {st : List Value} {H : HP} {Q : Option Value → HP → Prop} : Go 148 20 L (.ref p :: st) H Q ↔ Rd (gF' 9 10 (hget H p)) 148 23 L st H Q := G_getf fX9_clearProduct_20 ⟨rfl, rfl⟩
theorem fX9_clearProduct_23 : ft 148 23 = some (.iload_n 2, 0, 0, 0, .null) := by decide +kernel
theorem gX9_clearProduct_23 {l0 l1 : Option Value} {u : Int32} {st : List Value} {H : HP} {Q : Option Value → HP → Prop} : Go 148 23 [l0, l1, some (.int u)] st H Q ↔ Go 148 24 [l0, l1, some (.int u)] (.int u :: st) H Q := G_iload_n fX9_clearProduct_23 rfl
theorem fX9_clearProduct_24 : ft 148 24 = some (.lconst 0, 0, 0, 0, .null) := by decide +kernel
theorem gX9_clearProduct_24 {L : List (Option Value)} {st : List Value} {H : HP} {Q : Option Value → HP → Prop} : Go 148 24 L st H Q ↔ Go 148 25 L (vl 0 :: st) H Q := G_lconst fX9_clearProduct_24 (by decide)
theorem fX9_clearProduct_25 : ft 148 25 = some (.lastore, 0, 0, 0, .null) := by decide +kernel
theorem gX9_clearProduct_25 {L : List (Option Value)} {p : Nat} {a : Int} {b : Int} (hp : p ≠ 0) {st : List Value} {H : HP} {Q : Option Value → HP → Prop} : Go 148 25 L (vl b :: vi a :: .ref p :: st) H Q ↔ Wr (sL' (hget H p) a b) p 148 26 L st H Q := G_last fX9_clearProduct_25 hp
theorem fX9_clearProduct_26 : ft 148 26 = some (.iinc 2 1, 0, 0, 0, .null) := by decide +kernel
theorem gX9_clearProduct_26 {l0 l1 : Option Value} {a : Int} {st : List Value} {H : HP} {Q : Option Value → HP → Prop} : Go 148 26 [l0, l1, some (vi a)] st H Q ↔ Go 148 29 [l0, l1, some (vi (a + 1))] st H Q := G_iinc fX9_clearProduct_26 rfl rfl
theorem fX9_clearProduct_29 : ft 148 29 = some (.goto (-22), 0, 0, 0, .null) := by decide +kernel
theorem gX9_clearProduct_29 {L : List (Option Value)} {st : List Value} {H : HP} {Q : Option Value → HP → Prop} : Go 148 29 L st H Q ↔ Go 148 7 L st H Q := G_goto fX9_clearProduct_29 (by decide)
theorem fX9_clearProduct_32 : ft 148 32 = some (.return_, 0, 0, 0, .null) := by decide +kernel
theorem gX9_clearProduct_32 {L : List (Option Value)} {H : HP} {Q : Option Value → HP → Prop} : Go 148 32 L [] H Q ↔ Q none H := G_vret fX9_clearProduct_32 (by decide +kernel)
theorem fX9_add_0 : ft 149 0 = some (.aload_n 0, 0, 0, 0, .null) := by decide +kernel
theorem gX9_add_0 {l1 l2 l3 l4 l5 : Option Value} {u : Nat} {st : List Value} {H : HP} {Q : Option Value → HP → Prop} : Go 149 0 [some (.ref u), l1, l2, l3, l4, l5] st H Q ↔ Go 149 1 [some (.ref u), l1, l2, l3, l4, l5] (.ref u :: st) H Q := G_aload_n fX9_add_0 rfl
theorem fX9_add_1 : ft 149 1 = some (.getfield 33, 9, 10, 764, .null) := by decide +kernel
theorem gX9_add_1 {L : List (Option Value)} {p : Nat} {st : List Value} {H : HP} {Q : Option Value → HP → Prop} : Go 149 1 L (.ref p :: st) H Q ↔ Rd (gF' 9 10 (hget H p)) 149 4 L st H Q := G_getf fX9_add_1 ⟨rfl, rfl⟩
theorem fX9_add_4 : ft 149 4 = some (.iload_n 1, 0, 0, 0, .null) := by decide +kernel
theorem gX9_add_4 {l0 l2 l3 l4 l5 : Option Value} {u : Int32} {st : List Value} {H : HP} {Q : Option Value → HP → Prop} : Go 149 4 [l0, some (.int u), l2, l3, l4, l5] st H Q ↔ Go 149 5 [l0, some (.int u), l2, l3, l4, l5] (.int u :: st) H Q := G_iload_n fX9_add_4 rfl
theorem fX9_add_5 : ft 149 5 = some (.laload, 0, 0, 0, .null) := by decide +kernel
theorem gX9_add_5 {L : List (Option Value)} {p : Nat} {a : Int} {st : List Value} {H : HP} {Q : Option Value → HP → Prop} : Go 149 5 L (vi a :: .ref p :: st) H Q ↔ Rd (aL' (hget H p) a) 149 6 L st H Q := G_lald fX9_add_5
theorem fX9_add_6 : ft 149 6 = some (.lstore 4, 0, 0, 0, .null) := by decide +kernel
theorem gX9_add_6 {l0 l1 l2 l3 l4 l5 : Option Value} {u : Int64} {st : List Value} {H : HP} {Q : Option Value → HP → Prop} : Go 149 6 [l0, l1, l2, l3, l4, l5] (.long u :: st) H Q ↔ Go 149 8 [l0, l1, l2, l3, some (.long u), none] st H Q := G_lstore fX9_add_6 rfl
theorem fX9_add_8 : ft 149 8 = some (.aload_n 0, 0, 0, 0, .null) := by decide +kernel
theorem gX9_add_8 {l1 l2 l3 l4 l5 : Option Value} {u : Nat} {st : List Value} {H : HP} {Q : Option Value → HP → Prop} : Go 149 8 [some (.ref u), l1, l2, l3, l4, l5] st H Q ↔ Go 149 9 [some (.ref u), l1, l2, l3, l4, l5] (.ref u :: st) H Q := G_aload_n fX9_add_8 rfl
theorem fX9_add_9 : ft 149 9 = some (.getfield 33, 9, 10, 764, .null) := by decide +kernel
theorem gX9_add_9 {L : List (Option Value)} {p : Nat} {st : List Value} {H : HP} {Q : Option Value → HP → Prop} : Go 149 9 L (.ref p :: st) H Q ↔ Rd (gF' 9 10 (hget H p)) 149 12 L st H Q := G_getf fX9_add_9 ⟨rfl, rfl⟩
theorem fX9_add_12 : ft 149 12 = some (.iload_n 1, 0, 0, 0, .null) := by decide +kernel
theorem gX9_add_12 {l0 l2 l3 l4 l5 : Option Value} {u : Int32} {st : List Value} {H : HP} {Q : Option Value → HP → Prop} : Go 149 12 [l0, some (.int u), l2, l3, l4, l5] st H Q ↔ Go 149 13 [l0, some (.int u), l2, l3, l4, l5] (.int u :: st) H Q := G_iload_n fX9_add_12 rfl
theorem fX9_add_13 : ft 149 13 = some (.lload 4, 0, 0, 0, .null) := by decide +kernel
theorem gX9_add_13 {l0 l1 l2 l3 : Option Value} {u : Int64} {st : List Value} {H : HP} {Q : Option Value → HP → Prop} : Go 149 13 [l0, l1, l2, l3, some (.long u), none] st H Q ↔ Go 149 15 [l0, l1, l2, l3, some (.long u), none] (.long u :: st) H Q := G_lload fX9_add_13 rfl
theorem fX9_add_15 : ft 149 15 = some (.lload_n 2, 0, 0, 0, .null) := by decide +kernel
theorem gX9_add_15 {l0 l1 l4 l5 : Option Value} {u : Int64} {st : List Value} {H : HP} {Q : Option Value → HP → Prop} : Go 149 15 [l0, l1, some (.long u), none, l4, l5] st H Q ↔ Go 149 16 [l0, l1, some (.long u), none, l4, l5] (.long u :: st) H Q := G_lload_n fX9_add_15 rfl
theorem fX9_add_16 : ft 149 16 = some (.ladd, 0, 0, 0, .null) := by decide +kernel
theorem gX9_add_16 {L : List (Option Value)} {a b : Int} {st : List Value} {H : HP} {Q : Option Value → HP → Prop} : Go 149 16 L (vl b :: vl a :: st) H Q ↔ Go 149 17 L (vl (a + b) :: st) H Q := G_ladd fX9_add_16
theorem fX9_add_17 : ft 149 17 = some (.lastore, 0, 0, 0, .null) := by decide +kernel
theorem gX9_add_17 {L : List (Option Value)} {p : Nat} {a : Int} {b : Int} (hp : p ≠ 0) {st : List Value} {H : HP} {Q : Option Value → HP → Prop} : Go 149 17 L (vl b :: vi a :: .ref p :: st) H Q ↔ Wr (sL' (hget H p) a b) p 149 18 L st H Q := G_last fX9_add_17 hp
theorem fX9_add_18 : ft 149 18 = some (.aload_n 0, 0, 0, 0, .null) := by decide +kernel
theorem gX9_add_18 {l1 l2 l3 l4 l5 : Option Value} {u : Nat} {st : List Value} {H : HP} {Q : Option Value → HP → Prop} : Go 149 18 [some (.ref u), l1, l2, l3, l4, l5] st H Q ↔ Go 149 19 [some (.ref u), l1, l2, l3, l4, l5] (.ref u :: st) H Q := G_aload_n fX9_add_18 rfl
theorem fX9_add_19 : ft 149 19 = some (.getfield 30, 9, 9, 763, .null) := by decide +kernel
theorem gX9_add_19 {L : List (Option Value)} {p : Nat} {st : List Value} {H : HP} {Q : Option Value → HP → Prop} : Go 149 19 L (.ref p :: st) H Q ↔ Rd (gF' 9 9 (hget H p)) 149 22 L st H Q := G_getf fX9_add_19 ⟨rfl, rfl⟩
theorem fX9_add_22 : ft 149 22 = some (.iload_n 1, 0, 0, 0, .null) := by decide +kernel
theorem gX9_add_22 {l0 l2 l3 l4 l5 : Option Value} {u : Int32} {st : List Value} {H : HP} {Q : Option Value → HP → Prop} : Go 149 22 [l0, some (.int u), l2, l3, l4, l5] st H Q ↔ Go 149 23 [l0, some (.int u), l2, l3, l4, l5] (.int u :: st) H Q := G_iload_n fX9_add_22 rfl
theorem fX9_add_23 : ft 149 23 = some (.dup2, 0, 0, 0, .null) := by decide +kernel
theorem gX9_add_23 {L : List (Option Value)} {u : Int32} {w : Nat} {st : List Value} {H : HP} {Q : Option Value → HP → Prop} : Go 149 23 L (.int u :: .ref w :: st) H Q ↔ Go 149 24 L (.int u :: .ref w :: .int u :: .ref w :: st) H Q := G_dup2 fX9_add_23 ⟨rfl, rfl⟩
theorem fX9_add_24 : ft 149 24 = some (.laload, 0, 0, 0, .null) := by decide +kernel
theorem gX9_add_24 {L : List (Option Value)} {p : Nat} {a : Int} {st : List Value} {H : HP} {Q : Option Value → HP → Prop} : Go 149 24 L (vi a :: .ref p :: st) H Q ↔ Rd (aL' (hget H p) a) 149 25 L st H Q := G_lald fX9_add_24
theorem fX9_add_25 : ft 149 25 = some (.lload_n 2, 0, 0, 0, .null) := by decide +kernel
theorem gX9_add_25 {l0 l1 l4 l5 : Option Value} {u : Int64} {st : List Value} {H : HP} {Q : Option Value → HP → Prop} : Go 149 25 [l0, l1, some (.long u), none, l4, l5] st H Q ↔ Go 149 26 [l0, l1, some (.long u), none, l4, l5] (.long u :: st) H Q := G_lload_n fX9_add_25 rfl
theorem fX9_add_26 : ft 149 26 = some (.lconst 0, 0, 0, 0, .null) := by decide +kernel
theorem gX9_add_26 {L : List (Option Value)} {st : List Value} {H : HP} {Q : Option Value → HP → Prop} : Go 149 26 L st H Q ↔ Go 149 27 L (vl 0 :: st) H Q := G_lconst fX9_add_26 (by decide)
theorem fX9_add_27 : ft 149 27 = some (.lcmp, 0, 0, 0, .null) := by decide +kernel
theorem fX9_add_27' : ft 149 28 = some (.ifCond .ge 9, 0, 0, 0, .null) := by decide +kernel
theorem gX9_add_27T {L : List (Option Value)} {a b : Int} (c : (-9223372036854775808 ≤ a ∧ a ≤ 9223372036854775807 ∧ -9223372036854775808 ≤ b ∧ b ≤ 9223372036854775807) ∧ b ≤ a) {st : List Value} {H : HP} {Q : Option Value → HP → Prop} : Go 149 27 L (vl b :: vl a :: st) H Q ↔ Go 149 37 L st H Q := G_lcT fX9_add_27 fX9_add_27' (by decide) c
theorem gX9_add_27F {L : List (Option Value)} {a b : Int} (c : (-9223372036854775808 ≤ a ∧ a ≤ 9223372036854775807 ∧ -9223372036854775808 ≤ b ∧ b ≤ 9223372036854775807) ∧ ¬ (b ≤ a)) {st : List Value} {H : HP} {Q : Option Value → HP → Prop} : Go 149 27 L (vl b :: vl a :: st) H Q ↔ Go 149 31 L st H Q := G_lcF (tg := 37) fX9_add_27 fX9_add_27' (by decide) c
theorem fX9_add_28 : ft 149 28 = some (.ifCond .ge 9, 0, 0, 0, .null) := by decide +kernel
theorem gX9_add_28T {L : List (Option Value)} {a : Int} (c : (-2147483648 ≤ a ∧ a ≤ 2147483647) ∧ 0 ≤ a) {st : List Value} {H : HP} {Q : Option Value → HP → Prop} : Go 149 28 L (vi a :: st) H Q ↔ Go 149 37 L st H Q := G_ifT fX9_add_28 (by decide) c
theorem gX9_add_28F {L : List (Option Value)} {a : Int} (c : (-2147483648 ≤ a ∧ a ≤ 2147483647) ∧ ¬ (0 ≤ a)) {st : List Value} {H : HP} {Q : Option Value → HP → Prop} : Go 149 28 L (vi a :: st) H Q ↔ Go 149 31 L st H Q := G_ifF (tg := 37) fX9_add_28 (by decide) c
theorem fX9_add_31 : ft 149 31 = some (.ldc2_w 158, 0, 0, 951, .long (-1)) := by decide +kernel
theorem gX9_add_31 {L : List (Option Value)} {st : List Value} {H : HP} {Q : Option Value → HP → Prop} : Go 149 31 L st H Q ↔ Go 149 34 L (vl (-1) :: st) H Q := G_ldcl fX9_add_31 (by decide +kernel)
theorem fX9_add_34 : ft 149 34 = some (.goto 4, 0, 0, 0, .null) := by decide +kernel
theorem gX9_add_34 {L : List (Option Value)} {st : List Value} {H : HP} {Q : Option Value → HP → Prop} : Go 149 34 L st H Q ↔ Go 149 38 L st H Q := G_goto fX9_add_34 (by decide)
theorem fX9_add_37 : ft 149 37 = some (.lconst 0, 0, 0, 0, .null) := by decide +kernel
theorem gX9_add_37 {L : List (Option Value)} {st : List Value} {H : HP} {Q : Option Value → HP → Prop} : Go 149 37 L st H Q ↔ Go 149 38 L (vl 0 :: st) H Q := G_lconst fX9_add_37 (by decide)
theorem fX9_add_38 : ft 149 38 = some (.aload_n 0, 0, 0, 0, .null) := by decide +kernel
theorem gX9_add_38 {l1 l2 l3 l4 l5 : Option Value} {u : Nat} {st : List Value} {H : HP} {Q : Option Value → HP → Prop} : Go 149 38 [some (.ref u), l1, l2, l3, l4, l5] st H Q ↔ Go 149 39 [some (.ref u), l1, l2, l3, l4, l5] (.ref u :: st) H Q := G_aload_n fX9_add_38 rfl
theorem fX9_add_39 : ft 149 39 = some (.getfield 33, 9, 10, 764, .null) := by decide +kernel
theorem gX9_add_39 {L : List (Option Value)} {p : Nat} {st : List Value} {H : HP} {Q : Option Value → HP → Prop} : Go 149 39 L (.ref p :: st) H Q ↔ Rd (gF' 9 10 (hget H p)) 149 42 L st H Q := G_getf fX9_add_39 ⟨rfl, rfl⟩
theorem fX9_add_42 : ft 149 42 = some (.iload_n 1, 0, 0, 0, .null) := by decide +kernel
theorem gX9_add_42 {l0 l2 l3 l4 l5 : Option Value} {u : Int32} {st : List Value} {H : HP} {Q : Option Value → HP → Prop} : Go 149 42 [l0, some (.int u), l2, l3, l4, l5] st H Q ↔ Go 149 43 [l0, some (.int u), l2, l3, l4, l5] (.int u :: st) H Q := G_iload_n fX9_add_42 rfl
theorem fX9_add_43 : ft 149 43 = some (.laload, 0, 0, 0, .null) := by decide +kernel
theorem gX9_add_43 {L : List (Option Value)} {p : Nat} {a : Int} {st : List Value} {H : HP} {Q : Option Value → HP → Prop} : Go 149 43 L (vi a :: .ref p :: st) H Q ↔ Rd (aL' (hget H p) a) 149 44 L st H Q := G_lald fX9_add_43
theorem fX9_add_44 : ft 149 44 = some (.ldc2_w 166, 0, 0, 979, .long (-9223372036854775808)) := by decide +kernel
theorem gX9_add_44 {L : List (Option Value)} {st : List Value} {H : HP} {Q : Option Value → HP → Prop} : Go 149 44 L st H Q ↔ Go 149 47 L (vl (-9223372036854775808) :: st) H Q := G_ldcl fX9_add_44 (by decide +kernel)
theorem fX9_add_47 : ft 149 47 = some (.lxor, 0, 0, 0, .null) := by decide +kernel
theorem gX9_add_47 {L : List (Option Value)} {a b : Int} {st : List Value} {H : HP} {Q : Option Value → HP → Prop} : Go 149 47 L (vl b :: vl a :: st) H Q ↔ Go 149 48 L (vl (bXor a b) :: st) H Q := G_lxor fX9_add_47
theorem fX9_add_48 : ft 149 48 = some (.lload 4, 0, 0, 0, .null) := by decide +kernel
theorem gX9_add_48 {l0 l1 l2 l3 : Option Value} {u : Int64} {st : List Value} {H : HP} {Q : Option Value → HP → Prop} : Go 149 48 [l0, l1, l2, l3, some (.long u), none] st H Q ↔ Go 149 50 [l0, l1, l2, l3, some (.long u), none] (.long u :: st) H Q := G_lload fX9_add_48 rfl
theorem fX9_add_50 : ft 149 50 = some (.ldc2_w 166, 0, 0, 979, .long (-9223372036854775808)) := by decide +kernel
theorem gX9_add_50 {L : List (Option Value)} {st : List Value} {H : HP} {Q : Option Value → HP → Prop} : Go 149 50 L st H Q ↔ Go 149 53 L (vl (-9223372036854775808) :: st) H Q := G_ldcl fX9_add_50 (by decide +kernel)
theorem fX9_add_53 : ft 149 53 = some (.lxor, 0, 0, 0, .null) := by decide +kernel
theorem gX9_add_53 {L : List (Option Value)} {a b : Int} {st : List Value} {H : HP} {Q : Option Value → HP → Prop} : Go 149 53 L (vl b :: vl a :: st) H Q ↔ Go 149 54 L (vl (bXor a b) :: st) H Q := G_lxor fX9_add_53
theorem fX9_add_54 : ft 149 54 = some (.lcmp, 0, 0, 0, .null) := by decide +kernel
theorem fX9_add_54' : ft 149 55 = some (.ifCond .ge 7, 0, 0, 0, .null) := by decide +kernel
theorem gX9_add_54T {L : List (Option Value)} {a b : Int} (c : (-9223372036854775808 ≤ a ∧ a ≤ 9223372036854775807 ∧ -9223372036854775808 ≤ b ∧ b ≤ 9223372036854775807) ∧ b ≤ a) {st : List Value} {H : HP} {Q : Option Value → HP → Prop} : Go 149 54 L (vl b :: vl a :: st) H Q ↔ Go 149 62 L st H Q := G_lcT fX9_add_54 fX9_add_54' (by decide) c
theorem gX9_add_54F {L : List (Option Value)} {a b : Int} (c : (-9223372036854775808 ≤ a ∧ a ≤ 9223372036854775807 ∧ -9223372036854775808 ≤ b ∧ b ≤ 9223372036854775807) ∧ ¬ (b ≤ a)) {st : List Value} {H : HP} {Q : Option Value → HP → Prop} : Go 149 54 L (vl b :: vl a :: st) H Q ↔ Go 149 58 L st H Q := G_lcF (tg := 62) fX9_add_54 fX9_add_54' (by decide) c
theorem fX9_add_55 : ft 149 55 = some (.ifCond .ge 7, 0, 0, 0, .null) := by decide +kernel
theorem gX9_add_55T {L : List (Option Value)} {a : Int} (c : (-2147483648 ≤ a ∧ a ≤ 2147483647) ∧ 0 ≤ a) {st : List Value} {H : HP} {Q : Option Value → HP → Prop} : Go 149 55 L (vi a :: st) H Q ↔ Go 149 62 L st H Q := G_ifT fX9_add_55 (by decide) c
theorem gX9_add_55F {L : List (Option Value)} {a : Int} (c : (-2147483648 ≤ a ∧ a ≤ 2147483647) ∧ ¬ (0 ≤ a)) {st : List Value} {H : HP} {Q : Option Value → HP → Prop} : Go 149 55 L (vi a :: st) H Q ↔ Go 149 58 L st H Q := G_ifF (tg := 62) fX9_add_55 (by decide) c
theorem fX9_add_58 : ft 149 58 = some (.lconst 1, 0, 0, 0, .null) := by decide +kernel
theorem gX9_add_58 {L : List (Option Value)} {st : List Value} {H : HP} {Q : Option Value → HP → Prop} : Go 149 58 L st H Q ↔ Go 149 59 L (vl 1 :: st) H Q := G_lconst fX9_add_58 (by decide)
theorem fX9_add_59 : ft 149 59 = some (.goto 4, 0, 0, 0, .null) := by decide +kernel
theorem gX9_add_59 {L : List (Option Value)} {st : List Value} {H : HP} {Q : Option Value → HP → Prop} : Go 149 59 L st H Q ↔ Go 149 63 L st H Q := G_goto fX9_add_59 (by decide)
theorem fX9_add_62 : ft 149 62 = some (.lconst 0, 0, 0, 0, .null) := by decide +kernel
theorem gX9_add_62 {L : List (Option Value)} {st : List Value} {H : HP} {Q : Option Value → HP → Prop} : Go 149 62 L st H Q ↔ Go 149 63 L (vl 0 :: st) H Q := G_lconst fX9_add_62 (by decide)
theorem fX9_add_63 : ft 149 63 = some (.ladd, 0, 0, 0, .null) := by decide +kernel
theorem gX9_add_63 {L : List (Option Value)} {a b : Int} {st : List Value} {H : HP} {Q : Option Value → HP → Prop} : Go 149 63 L (vl b :: vl a :: st) H Q ↔ Go 149 64 L (vl (a + b) :: st) H Q := G_ladd fX9_add_63
theorem fX9_add_64 : ft 149 64 = some (.ladd, 0, 0, 0, .null) := by decide +kernel
theorem gX9_add_64 {L : List (Option Value)} {a b : Int} {st : List Value} {H : HP} {Q : Option Value → HP → Prop} : Go 149 64 L (vl b :: vl a :: st) H Q ↔ Go 149 65 L (vl (a + b) :: st) H Q := G_ladd fX9_add_64
theorem fX9_add_65 : ft 149 65 = some (.lastore, 0, 0, 0, .null) := by decide +kernel
theorem gX9_add_65 {L : List (Option Value)} {p : Nat} {a : Int} {b : Int} (hp : p ≠ 0) {st : List Value} {H : HP} {Q : Option Value → HP → Prop} : Go 149 65 L (vl b :: vi a :: .ref p :: st) H Q ↔ Wr (sL' (hget H p) a b) p 149 66 L st H Q := G_last fX9_add_65 hp
theorem fX9_add_66 : ft 149 66 = some (.return_, 0, 0, 0, .null) := by decide +kernel
theorem gX9_add_66 {L : List (Option Value)} {H : HP} {Q : Option Value → HP → Prop} : Go 149 66 L [] H Q ↔ Q none H := G_vret fX9_add_66 (by decide +kernel)
theorem fX9_against_0 : ft 150 0 = some (.aload_n 0, 0, 0, 0, .null) := by decide +kernel
theorem gX9_against_0 {l1 l2 : Option Value} {u : Nat} {st : List Value} {H : HP} {Q : Option Value → HP → Prop} : Go 150 0 [some (.ref u), l1, l2] st H Q ↔ Go 150 1 [some (.ref u), l1, l2] (.ref u :: st) H Q := G_aload_n fX9_against_0 rfl
theorem fX9_against_1 : ft 150 1 = some (.getfield 9, 9, 1, 755, .null) := by decide +kernel
theorem gX9_against_1 {L : List (Option Value)} {p : Nat} {st : List Value} {H : HP} {Q : Option Value → HP → Prop} : Go 150 1 L (.ref p :: st) H Q ↔ Rd (gF' 9 1 (hget H p)) 150 4 L st H Q := G_getf fX9_against_1 ⟨rfl, rfl⟩
theorem fX9_against_4 : ft 150 4 = some (.iload_n 1, 0, 0, 0, .null) := by decide +kernel
theorem gX9_against_4 {l0 l2 : Option Value} {u : Int32} {st : List Value} {H : HP} {Q : Option Value → HP → Prop} : Go 150 4 [l0, some (.int u), l2] st H Q ↔ Go 150 5 [l0, some (.int u), l2] (.int u :: st) H Q := G_iload_n fX9_against_4 rfl
theorem fX9_against_5 : ft 150 5 = some (.iaload, 0, 0, 0, .null) := by decide +kernel
theorem gX9_against_5 {L : List (Option Value)} {p : Nat} {a : Int} {st : List Value} {H : HP} {Q : Option Value → HP → Prop} : Go 150 5 L (vi a :: .ref p :: st) H Q ↔ Rd (aJ' (hget H p) a) 150 6 L st H Q := G_iald fX9_against_5
theorem fX9_against_6 : ft 150 6 = some (.bipush (-9), 0, 0, 0, .null) := by decide +kernel
theorem gX9_against_6 {L : List (Option Value)} {st : List Value} {H : HP} {Q : Option Value → HP → Prop} : Go 150 6 L st H Q ↔ Go 150 8 L (vi (-9) :: st) H Q := G_bipush fX9_against_6 (by decide)
theorem fX9_against_8 : ft 150 8 = some (.if_icmp .eq 14, 0, 0, 0, .null) := by decide +kernel
theorem gX9_against_8T {L : List (Option Value)} {a b : Int} (c : (-2147483648 ≤ a ∧ a ≤ 2147483647 ∧ -2147483648 ≤ b ∧ b ≤ 2147483647) ∧ a = b) {st : List Value} {H : HP} {Q : Option Value → HP → Prop} : Go 150 8 L (vi b :: vi a :: st) H Q ↔ Go 150 22 L st H Q := G_icT fX9_against_8 (by decide) c
theorem gX9_against_8F {L : List (Option Value)} {a b : Int} (c : (-2147483648 ≤ a ∧ a ≤ 2147483647 ∧ -2147483648 ≤ b ∧ b ≤ 2147483647) ∧ ¬ (a = b)) {st : List Value} {H : HP} {Q : Option Value → HP → Prop} : Go 150 8 L (vi b :: vi a :: st) H Q ↔ Go 150 11 L st H Q := G_icF (tg := 22) fX9_against_8 (by decide) c
theorem fX9_against_11 : ft 150 11 = some (.aload_n 0, 0, 0, 0, .null) := by decide +kernel
theorem gX9_against_11 {l1 l2 : Option Value} {u : Nat} {st : List Value} {H : HP} {Q : Option Value → HP → Prop} : Go 150 11 [some (.ref u), l1, l2] st H Q ↔ Go 150 12 [some (.ref u), l1, l2] (.ref u :: st) H Q := G_aload_n fX9_against_11 rfl
theorem fX9_against_12 : ft 150 12 = some (.getfield 9, 9, 1, 755, .null) := by decide +kernel
theorem gX9_against_12 {L : List (Option Value)} {p : Nat} {st : List Value} {H : HP} {Q : Option Value → HP → Prop} : Go 150 12 L (.ref p :: st) H Q ↔ Rd (gF' 9 1 (hget H p)) 150 15 L st H Q := G_getf fX9_against_12 ⟨rfl, rfl⟩
theorem fX9_against_15 : ft 150 15 = some (.iload_n 2, 0, 0, 0, .null) := by decide +kernel
theorem gX9_against_15 {l0 l1 : Option Value} {u : Int32} {st : List Value} {H : HP} {Q : Option Value → HP → Prop} : Go 150 15 [l0, l1, some (.int u)] st H Q ↔ Go 150 16 [l0, l1, some (.int u)] (.int u :: st) H Q := G_iload_n fX9_against_15 rfl
theorem fX9_against_16 : ft 150 16 = some (.iaload, 0, 0, 0, .null) := by decide +kernel
theorem gX9_against_16 {L : List (Option Value)} {p : Nat} {a : Int} {st : List Value} {H : HP} {Q : Option Value → HP → Prop} : Go 150 16 L (vi a :: .ref p :: st) H Q ↔ Rd (aJ' (hget H p) a) 150 17 L st H Q := G_iald fX9_against_16
theorem fX9_against_17 : ft 150 17 = some (.bipush (-9), 0, 0, 0, .null) := by decide +kernel
theorem gX9_against_17 {L : List (Option Value)} {st : List Value} {H : HP} {Q : Option Value → HP → Prop} : Go 150 17 L st H Q ↔ Go 150 19 L (vi (-9) :: st) H Q := G_bipush fX9_against_17 (by decide)
theorem fX9_against_19 : ft 150 19 = some (.if_icmp .ne 9, 0, 0, 0, .null) := by decide +kernel
theorem gX9_against_19T {L : List (Option Value)} {a b : Int} (c : (-2147483648 ≤ a ∧ a ≤ 2147483647 ∧ -2147483648 ≤ b ∧ b ≤ 2147483647) ∧ ¬ a = b) {st : List Value} {H : HP} {Q : Option Value → HP → Prop} : Go 150 19 L (vi b :: vi a :: st) H Q ↔ Go 150 28 L st H Q := G_icT fX9_against_19 (by decide) c
theorem gX9_against_19F {L : List (Option Value)} {a b : Int} (c : (-2147483648 ≤ a ∧ a ≤ 2147483647 ∧ -2147483648 ≤ b ∧ b ≤ 2147483647) ∧ ¬ (¬ a = b)) {st : List Value} {H : HP} {Q : Option Value → HP → Prop} : Go 150 19 L (vi b :: vi a :: st) H Q ↔ Go 150 22 L st H Q := G_icF (tg := 28) fX9_against_19 (by decide) c
theorem fX9_against_22 : ft 150 22 = some (.aload_n 0, 0, 0, 0, .null) := by decide +kernel
theorem gX9_against_22 {l1 l2 : Option Value} {u : Nat} {st : List Value} {H : HP} {Q : Option Value → HP → Prop} : Go 150 22 [some (.ref u), l1, l2] st H Q ↔ Go 150 23 [some (.ref u), l1, l2] (.ref u :: st) H Q := G_aload_n fX9_against_22 rfl
theorem fX9_against_23 : ft 150 23 = some (.iconst 1, 0, 0, 0, .null) := by decide +kernel
theorem gX9_against_23 {L : List (Option Value)} {st : List Value} {H : HP} {Q : Option Value → HP → Prop} : Go 150 23 L st H Q ↔ Go 150 24 L (vi 1 :: st) H Q := G_iconst fX9_against_23
theorem fX9_against_24 : ft 150 24 = some (.invokevirtual 89, 117, 0, 847, .null) := by decide +kernel
theorem gX9_against_24 {L : List (Option Value)} {p : Nat} {a0 : Int32}  {H : HP} {Q : Option Value → HP → Prop} : Go 150 24 L (.int a0 :: .ref p :: []) H Q ↔ (iso 9 (hget H p) = true ∧ Go 117 0 [some (.ref p), some (.int a0)] [] H (Cont 150 27 L [] Q)) := G_cV (n := 1) (N := 2) (as := [.int a0]) (st := []) fX9_against_24 (by decide +kernel) rfl (Nat.le_of_ble_eq_true rfl) (Nat.le_of_ble_eq_true rfl) rfl
theorem fX9_against_27 : ft 150 27 = some (.ireturn, 0, 0, 0, .null) := by decide +kernel
theorem gX9_against_27 {L : List (Option Value)} {u : Int32} {H : HP} {Q : Option Value → HP → Prop} : Go 150 27 L [.int u] H Q ↔ Q (some (.int u)) H := G_iret fX9_against_27 (by decide +kernel)
theorem fX9_against_28 : ft 150 28 = some (.aload_n 0, 0, 0, 0, .null) := by decide +kernel
theorem gX9_against_28 {l1 l2 : Option Value} {u : Nat} {st : List Value} {H : HP} {Q : Option Value → HP → Prop} : Go 150 28 [some (.ref u), l1, l2] st H Q ↔ Go 150 29 [some (.ref u), l1, l2] (.ref u :: st) H Q := G_aload_n fX9_against_28 rfl
theorem fX9_against_29 : ft 150 29 = some (.iload_n 1, 0, 0, 0, .null) := by decide +kernel
theorem gX9_against_29 {l0 l2 : Option Value} {u : Int32} {st : List Value} {H : HP} {Q : Option Value → HP → Prop} : Go 150 29 [l0, some (.int u), l2] st H Q ↔ Go 150 30 [l0, some (.int u), l2] (.int u :: st) H Q := G_iload_n fX9_against_29 rfl
theorem fX9_against_30 : ft 150 30 = some (.invokevirtual 97, 125, 0, 863, .null) := by decide +kernel
theorem gX9_against_30 {L : List (Option Value)} {p : Nat} {a0 : Int32}  {H : HP} {Q : Option Value → HP → Prop} : Go 150 30 L (.int a0 :: .ref p :: []) H Q ↔ (iso 9 (hget H p) = true ∧ Go 125 0 [some (.ref p), some (.int a0)] [] H (Cont 150 33 L [] Q)) := G_cV (n := 1) (N := 2) (as := [.int a0]) (st := []) fX9_against_30 (by decide +kernel) rfl (Nat.le_of_ble_eq_true rfl) (Nat.le_of_ble_eq_true rfl) rfl
theorem fX9_against_33 : ft 150 33 = some (.iconst 2, 0, 0, 0, .null) := by decide +kernel
theorem gX9_against_33 {L : List (Option Value)} {st : List Value} {H : HP} {Q : Option Value → HP → Prop} : Go 150 33 L st H Q ↔ Go 150 34 L (vi 2 :: st) H Q := G_iconst fX9_against_33
theorem fX9_against_34 : ft 150 34 = some (.if_icmp .gt 12, 0, 0, 0, .null) := by decide +kernel
theorem gX9_against_34T {L : List (Option Value)} {a b : Int} (c : (-2147483648 ≤ a ∧ a ≤ 2147483647 ∧ -2147483648 ≤ b ∧ b ≤ 2147483647) ∧ b < a) {st : List Value} {H : HP} {Q : Option Value → HP → Prop} : Go 150 34 L (vi b :: vi a :: st) H Q ↔ Go 150 46 L st H Q := G_icT fX9_against_34 (by decide) c
theorem gX9_against_34F {L : List (Option Value)} {a b : Int} (c : (-2147483648 ≤ a ∧ a ≤ 2147483647 ∧ -2147483648 ≤ b ∧ b ≤ 2147483647) ∧ ¬ (b < a)) {st : List Value} {H : HP} {Q : Option Value → HP → Prop} : Go 150 34 L (vi b :: vi a :: st) H Q ↔ Go 150 37 L st H Q := G_icF (tg := 46) fX9_against_34 (by decide) c
theorem fX9_against_37 : ft 150 37 = some (.aload_n 0, 0, 0, 0, .null) := by decide +kernel
theorem gX9_against_37 {l1 l2 : Option Value} {u : Nat} {st : List Value} {H : HP} {Q : Option Value → HP → Prop} : Go 150 37 [some (.ref u), l1, l2] st H Q ↔ Go 150 38 [some (.ref u), l1, l2] (.ref u :: st) H Q := G_aload_n fX9_against_37 rfl
theorem fX9_against_38 : ft 150 38 = some (.iload_n 2, 0, 0, 0, .null) := by decide +kernel
theorem gX9_against_38 {l0 l1 : Option Value} {u : Int32} {st : List Value} {H : HP} {Q : Option Value → HP → Prop} : Go 150 38 [l0, l1, some (.int u)] st H Q ↔ Go 150 39 [l0, l1, some (.int u)] (.int u :: st) H Q := G_iload_n fX9_against_38 rfl
theorem fX9_against_39 : ft 150 39 = some (.invokevirtual 97, 125, 0, 863, .null) := by decide +kernel
theorem gX9_against_39 {L : List (Option Value)} {p : Nat} {a0 : Int32}  {H : HP} {Q : Option Value → HP → Prop} : Go 150 39 L (.int a0 :: .ref p :: []) H Q ↔ (iso 9 (hget H p) = true ∧ Go 125 0 [some (.ref p), some (.int a0)] [] H (Cont 150 42 L [] Q)) := G_cV (n := 1) (N := 2) (as := [.int a0]) (st := []) fX9_against_39 (by decide +kernel) rfl (Nat.le_of_ble_eq_true rfl) (Nat.le_of_ble_eq_true rfl) rfl
theorem fX9_against_42 : ft 150 42 = some (.iconst 2, 0, 0, 0, .null) := by decide +kernel
theorem gX9_against_42 {L : List (Option Value)} {st : List Value} {H : HP} {Q : Option Value → HP → Prop} : Go 150 42 L st H Q ↔ Go 150 43 L (vi 2 :: st) H Q := G_iconst fX9_against_42
theorem fX9_against_43 : ft 150 43 = some (.if_icmp .le 11, 0, 0, 0, .null) := by decide +kernel
theorem gX9_against_43T {L : List (Option Value)} {a b : Int} (c : (-2147483648 ≤ a ∧ a ≤ 2147483647 ∧ -2147483648 ≤ b ∧ b ≤ 2147483647) ∧ a ≤ b) {st : List Value} {H : HP} {Q : Option Value → HP → Prop} : Go 150 43 L (vi b :: vi a :: st) H Q ↔ Go 150 54 L st H Q := G_icT fX9_against_43 (by decide) c
theorem gX9_against_43F {L : List (Option Value)} {a b : Int} (c : (-2147483648 ≤ a ∧ a ≤ 2147483647 ∧ -2147483648 ≤ b ∧ b ≤ 2147483647) ∧ ¬ (a ≤ b)) {st : List Value} {H : HP} {Q : Option Value → HP → Prop} : Go 150 43 L (vi b :: vi a :: st) H Q ↔ Go 150 46 L st H Q := G_icF (tg := 54) fX9_against_43 (by decide) c
theorem fX9_against_46 : ft 150 46 = some (.aload_n 0, 0, 0, 0, .null) := by decide +kernel
theorem gX9_against_46 {l1 l2 : Option Value} {u : Nat} {st : List Value} {H : HP} {Q : Option Value → HP → Prop} : Go 150 46 [some (.ref u), l1, l2] st H Q ↔ Go 150 47 [some (.ref u), l1, l2] (.ref u :: st) H Q := G_aload_n fX9_against_46 rfl
theorem fX9_against_47 : ft 150 47 = some (.iconst 2, 0, 0, 0, .null) := by decide +kernel
theorem gX9_against_47 {L : List (Option Value)} {st : List Value} {H : HP} {Q : Option Value → HP → Prop} : Go 150 47 L st H Q ↔ Go 150 48 L (vi 2 :: st) H Q := G_iconst fX9_against_47
theorem fX9_against_48 : ft 150 48 = some (.invokevirtual 89, 117, 0, 847, .null) := by decide +kernel
theorem gX9_against_48 {L : List (Option Value)} {p : Nat} {a0 : Int32}  {H : HP} {Q : Option Value → HP → Prop} : Go 150 48 L (.int a0 :: .ref p :: []) H Q ↔ (iso 9 (hget H p) = true ∧ Go 117 0 [some (.ref p), some (.int a0)] [] H (Cont 150 51 L [] Q)) := G_cV (n := 1) (N := 2) (as := [.int a0]) (st := []) fX9_against_48 (by decide +kernel) rfl (Nat.le_of_ble_eq_true rfl) (Nat.le_of_ble_eq_true rfl) rfl
theorem fX9_against_51 : ft 150 51 = some (.goto 4, 0, 0, 0, .null) := by decide +kernel
theorem gX9_against_51 {L : List (Option Value)} {st : List Value} {H : HP} {Q : Option Value → HP → Prop} : Go 150 51 L st H Q ↔ Go 150 55 L st H Q := G_goto fX9_against_51 (by decide)
theorem fX9_against_54 : ft 150 54 = some (.iconst 0, 0, 0, 0, .null) := by decide +kernel
theorem gX9_against_54 {L : List (Option Value)} {st : List Value} {H : HP} {Q : Option Value → HP → Prop} : Go 150 54 L st H Q ↔ Go 150 55 L (vi 0 :: st) H Q := G_iconst fX9_against_54
theorem fX9_against_55 : ft 150 55 = some (.ireturn, 0, 0, 0, .null) := by decide +kernel
theorem gX9_against_55 {L : List (Option Value)} {u : Int32} {H : HP} {Q : Option Value → HP → Prop} : Go 150 55 L [.int u] H Q ↔ Q (some (.int u)) H := G_iret fX9_against_55 (by decide +kernel)
theorem fX9_greatest_0 : ft 151 0 = some (.lconst 0, 0, 0, 0, .null) := by decide +kernel
theorem gX9_greatest_0 {L : List (Option Value)} {st : List Value} {H : HP} {Q : Option Value → HP → Prop} : Go 151 0 L st H Q ↔ Go 151 1 L (vl 0 :: st) H Q := G_lconst fX9_greatest_0 (by decide)
theorem fX9_greatest_1 : ft 151 1 = some (.lstore_n 2, 0, 0, 0, .null) := by decide +kernel
theorem gX9_greatest_1 {l0 l1 l2 l3 l4 l5 l6 : Option Value} {u : Int64} {st : List Value} {H : HP} {Q : Option Value → HP → Prop} : Go 151 1 [l0, l1, l2, l3, l4, l5, l6] (.long u :: st) H Q ↔ Go 151 2 [l0, l1, some (.long u), none, l4, l5, l6] st H Q := G_lstore_n fX9_greatest_1 rfl
theorem fX9_greatest_2 : ft 151 2 = some (.iconst 0, 0, 0, 0, .null) := by decide +kernel
theorem gX9_greatest_2 {L : List (Option Value)} {st : List Value} {H : HP} {Q : Option Value → HP → Prop} : Go 151 2 L st H Q ↔ Go 151 3 L (vi 0 :: st) H Q := G_iconst fX9_greatest_2
theorem fX9_greatest_3 : ft 151 3 = some (.istore 4, 0, 0, 0, .null) := by decide +kernel
theorem gX9_greatest_3 {l0 l1 l2 l3 l4 l5 l6 : Option Value} {u : Int32} {st : List Value} {H : HP} {Q : Option Value → HP → Prop} : Go 151 3 [l0, l1, l2, l3, l4, l5, l6] (.int u :: st) H Q ↔ Go 151 5 [l0, l1, l2, l3, some (.int u), l5, l6] st H Q := G_istore fX9_greatest_3 rfl
theorem fX9_greatest_5 : ft 151 5 = some (.iload 4, 0, 0, 0, .null) := by decide +kernel
theorem gX9_greatest_5 {l0 l1 l2 l3 l5 l6 : Option Value} {u : Int32} {st : List Value} {H : HP} {Q : Option Value → HP → Prop} : Go 151 5 [l0, l1, l2, l3, some (.int u), l5, l6] st H Q ↔ Go 151 7 [l0, l1, l2, l3, some (.int u), l5, l6] (.int u :: st) H Q := G_iload fX9_greatest_5 rfl
theorem fX9_greatest_7 : ft 151 7 = some (.aload_n 0, 0, 0, 0, .null) := by decide +kernel
theorem gX9_greatest_7 {l1 l2 l3 l4 l5 l6 : Option Value} {u : Nat} {st : List Value} {H : HP} {Q : Option Value → HP → Prop} : Go 151 7 [some (.ref u), l1, l2, l3, l4, l5, l6] st H Q ↔ Go 151 8 [some (.ref u), l1, l2, l3, l4, l5, l6] (.ref u :: st) H Q := G_aload_n fX9_greatest_7 rfl
theorem fX9_greatest_8 : ft 151 8 = some (.iload_n 1, 0, 0, 0, .null) := by decide +kernel
theorem gX9_greatest_8 {l0 l2 l3 l4 l5 l6 : Option Value} {u : Int32} {st : List Value} {H : HP} {Q : Option Value → HP → Prop} : Go 151 8 [l0, some (.int u), l2, l3, l4, l5, l6] st H Q ↔ Go 151 9 [l0, some (.int u), l2, l3, l4, l5, l6] (.int u :: st) H Q := G_iload_n fX9_greatest_8 rfl
theorem fX9_greatest_9 : ft 151 9 = some (.invokevirtual 100, 124, 0, 867, .null) := by decide +kernel
theorem gX9_greatest_9 {L : List (Option Value)} {p : Nat} {a0 : Int32} {r0 : Int32} {H : HP} {Q : Option Value → HP → Prop} : Go 151 9 L (.int a0 :: .ref p :: [.int r0]) H Q ↔ (iso 9 (hget H p) = true ∧ Go 124 0 [some (.ref p), some (.int a0)] [] H (Cont 151 12 L [.int r0] Q)) := G_cV (n := 1) (N := 2) (as := [.int a0]) (st := [.int r0]) fX9_greatest_9 (by decide +kernel) rfl (Nat.le_of_ble_eq_true rfl) (Nat.le_of_ble_eq_true rfl) rfl
theorem fX9_greatest_12 : ft 151 12 = some (.if_icmp .ge 55, 0, 0, 0, .null) := by decide +kernel
theorem gX9_greatest_12T {L : List (Option Value)} {a b : Int} (c : (-2147483648 ≤ a ∧ a ≤ 2147483647 ∧ -2147483648 ≤ b ∧ b ≤ 2147483647) ∧ b ≤ a) {st : List Value} {H : HP} {Q : Option Value → HP → Prop} : Go 151 12 L (vi b :: vi a :: st) H Q ↔ Go 151 67 L st H Q := G_icT fX9_greatest_12 (by decide) c
theorem gX9_greatest_12F {L : List (Option Value)} {a b : Int} (c : (-2147483648 ≤ a ∧ a ≤ 2147483647 ∧ -2147483648 ≤ b ∧ b ≤ 2147483647) ∧ ¬ (b ≤ a)) {st : List Value} {H : HP} {Q : Option Value → HP → Prop} : Go 151 12 L (vi b :: vi a :: st) H Q ↔ Go 151 15 L st H Q := G_icF (tg := 67) fX9_greatest_12 (by decide) c
theorem fX9_greatest_15 : ft 151 15 = some (.aload_n 0, 0, 0, 0, .null) := by decide +kernel
theorem gX9_greatest_15 {l1 l2 l3 l4 l5 l6 : Option Value} {u : Nat} {st : List Value} {H : HP} {Q : Option Value → HP → Prop} : Go 151 15 [some (.ref u), l1, l2, l3, l4, l5, l6] st H Q ↔ Go 151 16 [some (.ref u), l1, l2, l3, l4, l5, l6] (.ref u :: st) H Q := G_aload_n fX9_greatest_15 rfl
theorem fX9_greatest_16 : ft 151 16 = some (.iload_n 1, 0, 0, 0, .null) := by decide +kernel
theorem gX9_greatest_16 {l0 l2 l3 l4 l5 l6 : Option Value} {u : Int32} {st : List Value} {H : HP} {Q : Option Value → HP → Prop} : Go 151 16 [l0, some (.int u), l2, l3, l4, l5, l6] st H Q ↔ Go 151 17 [l0, some (.int u), l2, l3, l4, l5, l6] (.int u :: st) H Q := G_iload_n fX9_greatest_16 rfl
theorem fX9_greatest_17 : ft 151 17 = some (.iload 4, 0, 0, 0, .null) := by decide +kernel
theorem gX9_greatest_17 {l0 l1 l2 l3 l5 l6 : Option Value} {u : Int32} {st : List Value} {H : HP} {Q : Option Value → HP → Prop} : Go 151 17 [l0, l1, l2, l3, some (.int u), l5, l6] st H Q ↔ Go 151 19 [l0, l1, l2, l3, some (.int u), l5, l6] (.int u :: st) H Q := G_iload fX9_greatest_17 rfl
theorem fX9_greatest_19 : ft 151 19 = some (.invokevirtual 117, 123, 0, 888, .null) := by decide +kernel
theorem gX9_greatest_19 {L : List (Option Value)} {p : Nat} {a0 : Int32} {a1 : Int32}  {H : HP} {Q : Option Value → HP → Prop} : Go 151 19 L (.int a1 :: .int a0 :: .ref p :: []) H Q ↔ (iso 9 (hget H p) = true ∧ Go 123 0 [some (.ref p), some (.int a0), some (.int a1)] [] H (Cont 151 22 L [] Q)) := G_cV (n := 2) (N := 3) (as := [.int a1, .int a0]) (st := []) fX9_greatest_19 (by decide +kernel) rfl (Nat.le_of_ble_eq_true rfl) (Nat.le_of_ble_eq_true rfl) rfl
theorem fX9_greatest_22 : ft 151 22 = some (.lconst 0, 0, 0, 0, .null) := by decide +kernel
theorem gX9_greatest_22 {L : List (Option Value)} {st : List Value} {H : HP} {Q : Option Value → HP → Prop} : Go 151 22 L st H Q ↔ Go 151 23 L (vl 0 :: st) H Q := G_lconst fX9_greatest_22 (by decide)
theorem fX9_greatest_23 : ft 151 23 = some (.lcmp, 0, 0, 0, .null) := by decide +kernel
theorem fX9_greatest_23' : ft 151 24 = some (.ifCond .ge 14, 0, 0, 0, .null) := by decide +kernel
theorem gX9_greatest_23T {L : List (Option Value)} {a b : Int} (c : (-9223372036854775808 ≤ a ∧ a ≤ 9223372036854775807 ∧ -9223372036854775808 ≤ b ∧ b ≤ 9223372036854775807) ∧ b ≤ a) {st : List Value} {H : HP} {Q : Option Value → HP → Prop} : Go 151 23 L (vl b :: vl a :: st) H Q ↔ Go 151 38 L st H Q := G_lcT fX9_greatest_23 fX9_greatest_23' (by decide) c
theorem gX9_greatest_23F {L : List (Option Value)} {a b : Int} (c : (-9223372036854775808 ≤ a ∧ a ≤ 9223372036854775807 ∧ -9223372036854775808 ≤ b ∧ b ≤ 9223372036854775807) ∧ ¬ (b ≤ a)) {st : List Value} {H : HP} {Q : Option Value → HP → Prop} : Go 151 23 L (vl b :: vl a :: st) H Q ↔ Go 151 27 L st H Q := G_lcF (tg := 38) fX9_greatest_23 fX9_greatest_23' (by decide) c
theorem fX9_greatest_24 : ft 151 24 = some (.ifCond .ge 14, 0, 0, 0, .null) := by decide +kernel
theorem gX9_greatest_24T {L : List (Option Value)} {a : Int} (c : (-2147483648 ≤ a ∧ a ≤ 2147483647) ∧ 0 ≤ a) {st : List Value} {H : HP} {Q : Option Value → HP → Prop} : Go 151 24 L (vi a :: st) H Q ↔ Go 151 38 L st H Q := G_ifT fX9_greatest_24 (by decide) c
theorem gX9_greatest_24F {L : List (Option Value)} {a : Int} (c : (-2147483648 ≤ a ∧ a ≤ 2147483647) ∧ ¬ (0 ≤ a)) {st : List Value} {H : HP} {Q : Option Value → HP → Prop} : Go 151 24 L (vi a :: st) H Q ↔ Go 151 27 L st H Q := G_ifF (tg := 38) fX9_greatest_24 (by decide) c
theorem fX9_greatest_27 : ft 151 27 = some (.aload_n 0, 0, 0, 0, .null) := by decide +kernel
theorem gX9_greatest_27 {l1 l2 l3 l4 l5 l6 : Option Value} {u : Nat} {st : List Value} {H : HP} {Q : Option Value → HP → Prop} : Go 151 27 [some (.ref u), l1, l2, l3, l4, l5, l6] st H Q ↔ Go 151 28 [some (.ref u), l1, l2, l3, l4, l5, l6] (.ref u :: st) H Q := G_aload_n fX9_greatest_27 rfl
theorem fX9_greatest_28 : ft 151 28 = some (.iload_n 1, 0, 0, 0, .null) := by decide +kernel
theorem gX9_greatest_28 {l0 l2 l3 l4 l5 l6 : Option Value} {u : Int32} {st : List Value} {H : HP} {Q : Option Value → HP → Prop} : Go 151 28 [l0, some (.int u), l2, l3, l4, l5, l6] st H Q ↔ Go 151 29 [l0, some (.int u), l2, l3, l4, l5, l6] (.int u :: st) H Q := G_iload_n fX9_greatest_28 rfl
theorem fX9_greatest_29 : ft 151 29 = some (.iload 4, 0, 0, 0, .null) := by decide +kernel
theorem gX9_greatest_29 {l0 l1 l2 l3 l5 l6 : Option Value} {u : Int32} {st : List Value} {H : HP} {Q : Option Value → HP → Prop} : Go 151 29 [l0, l1, l2, l3, some (.int u), l5, l6] st H Q ↔ Go 151 31 [l0, l1, l2, l3, some (.int u), l5, l6] (.int u :: st) H Q := G_iload fX9_greatest_29 rfl
theorem fX9_greatest_31 : ft 151 31 = some (.invokevirtual 117, 123, 0, 888, .null) := by decide +kernel
theorem gX9_greatest_31 {L : List (Option Value)} {p : Nat} {a0 : Int32} {a1 : Int32}  {H : HP} {Q : Option Value → HP → Prop} : Go 151 31 L (.int a1 :: .int a0 :: .ref p :: []) H Q ↔ (iso 9 (hget H p) = true ∧ Go 123 0 [some (.ref p), some (.int a0), some (.int a1)] [] H (Cont 151 34 L [] Q)) := G_cV (n := 2) (N := 3) (as := [.int a1, .int a0]) (st := []) fX9_greatest_31 (by decide +kernel) rfl (Nat.le_of_ble_eq_true rfl) (Nat.le_of_ble_eq_true rfl) rfl
theorem fX9_greatest_34 : ft 151 34 = some (.lneg, 0, 0, 0, .null) := by decide +kernel
theorem gX9_greatest_34 {L : List (Option Value)} {a : Int} {st : List Value} {H : HP} {Q : Option Value → HP → Prop} : Go 151 34 L (vl a :: st) H Q ↔ Go 151 35 L (vl (-a) :: st) H Q := G_lneg fX9_greatest_34
theorem fX9_greatest_35 : ft 151 35 = some (.goto 10, 0, 0, 0, .null) := by decide +kernel
theorem gX9_greatest_35 {L : List (Option Value)} {st : List Value} {H : HP} {Q : Option Value → HP → Prop} : Go 151 35 L st H Q ↔ Go 151 45 L st H Q := G_goto fX9_greatest_35 (by decide)
theorem fX9_greatest_38 : ft 151 38 = some (.aload_n 0, 0, 0, 0, .null) := by decide +kernel
theorem gX9_greatest_38 {l1 l2 l3 l4 l5 l6 : Option Value} {u : Nat} {st : List Value} {H : HP} {Q : Option Value → HP → Prop} : Go 151 38 [some (.ref u), l1, l2, l3, l4, l5, l6] st H Q ↔ Go 151 39 [some (.ref u), l1, l2, l3, l4, l5, l6] (.ref u :: st) H Q := G_aload_n fX9_greatest_38 rfl
theorem fX9_greatest_39 : ft 151 39 = some (.iload_n 1, 0, 0, 0, .null) := by decide +kernel
theorem gX9_greatest_39 {l0 l2 l3 l4 l5 l6 : Option Value} {u : Int32} {st : List Value} {H : HP} {Q : Option Value → HP → Prop} : Go 151 39 [l0, some (.int u), l2, l3, l4, l5, l6] st H Q ↔ Go 151 40 [l0, some (.int u), l2, l3, l4, l5, l6] (.int u :: st) H Q := G_iload_n fX9_greatest_39 rfl
theorem fX9_greatest_40 : ft 151 40 = some (.iload 4, 0, 0, 0, .null) := by decide +kernel
theorem gX9_greatest_40 {l0 l1 l2 l3 l5 l6 : Option Value} {u : Int32} {st : List Value} {H : HP} {Q : Option Value → HP → Prop} : Go 151 40 [l0, l1, l2, l3, some (.int u), l5, l6] st H Q ↔ Go 151 42 [l0, l1, l2, l3, some (.int u), l5, l6] (.int u :: st) H Q := G_iload fX9_greatest_40 rfl
theorem fX9_greatest_42 : ft 151 42 = some (.invokevirtual 117, 123, 0, 888, .null) := by decide +kernel
theorem gX9_greatest_42 {L : List (Option Value)} {p : Nat} {a0 : Int32} {a1 : Int32}  {H : HP} {Q : Option Value → HP → Prop} : Go 151 42 L (.int a1 :: .int a0 :: .ref p :: []) H Q ↔ (iso 9 (hget H p) = true ∧ Go 123 0 [some (.ref p), some (.int a0), some (.int a1)] [] H (Cont 151 45 L [] Q)) := G_cV (n := 2) (N := 3) (as := [.int a1, .int a0]) (st := []) fX9_greatest_42 (by decide +kernel) rfl (Nat.le_of_ble_eq_true rfl) (Nat.le_of_ble_eq_true rfl) rfl
theorem fX9_greatest_45 : ft 151 45 = some (.lstore 5, 0, 0, 0, .null) := by decide +kernel
theorem gX9_greatest_45 {l0 l1 l2 l3 l4 l5 l6 : Option Value} {u : Int64} {st : List Value} {H : HP} {Q : Option Value → HP → Prop} : Go 151 45 [l0, l1, l2, l3, l4, l5, l6] (.long u :: st) H Q ↔ Go 151 47 [l0, l1, l2, l3, l4, some (.long u), none] st H Q := G_lstore fX9_greatest_45 rfl
theorem fX9_greatest_47 : ft 151 47 = some (.lload 5, 0, 0, 0, .null) := by decide +kernel
theorem gX9_greatest_47 {l0 l1 l2 l3 l4 : Option Value} {u : Int64} {st : List Value} {H : HP} {Q : Option Value → HP → Prop} : Go 151 47 [l0, l1, l2, l3, l4, some (.long u), none] st H Q ↔ Go 151 49 [l0, l1, l2, l3, l4, some (.long u), none] (.long u :: st) H Q := G_lload fX9_greatest_47 rfl
theorem fX9_greatest_49 : ft 151 49 = some (.lload_n 2, 0, 0, 0, .null) := by decide +kernel
theorem gX9_greatest_49 {l0 l1 l4 l5 l6 : Option Value} {u : Int64} {st : List Value} {H : HP} {Q : Option Value → HP → Prop} : Go 151 49 [l0, l1, some (.long u), none, l4, l5, l6] st H Q ↔ Go 151 50 [l0, l1, some (.long u), none, l4, l5, l6] (.long u :: st) H Q := G_lload_n fX9_greatest_49 rfl
theorem fX9_greatest_50 : ft 151 50 = some (.lcmp, 0, 0, 0, .null) := by decide +kernel
theorem fX9_greatest_50' : ft 151 51 = some (.ifCond .le 8, 0, 0, 0, .null) := by decide +kernel
theorem gX9_greatest_50T {L : List (Option Value)} {a b : Int} (c : (-9223372036854775808 ≤ a ∧ a ≤ 9223372036854775807 ∧ -9223372036854775808 ≤ b ∧ b ≤ 9223372036854775807) ∧ a ≤ b) {st : List Value} {H : HP} {Q : Option Value → HP → Prop} : Go 151 50 L (vl b :: vl a :: st) H Q ↔ Go 151 59 L st H Q := G_lcT fX9_greatest_50 fX9_greatest_50' (by decide) c
theorem gX9_greatest_50F {L : List (Option Value)} {a b : Int} (c : (-9223372036854775808 ≤ a ∧ a ≤ 9223372036854775807 ∧ -9223372036854775808 ≤ b ∧ b ≤ 9223372036854775807) ∧ ¬ (a ≤ b)) {st : List Value} {H : HP} {Q : Option Value → HP → Prop} : Go 151 50 L (vl b :: vl a :: st) H Q ↔ Go 151 54 L st H Q := G_lcF (tg := 59) fX9_greatest_50 fX9_greatest_50' (by decide) c
theorem fX9_greatest_51 : ft 151 51 = some (.ifCond .le 8, 0, 0, 0, .null) := by decide +kernel
theorem gX9_greatest_51T {L : List (Option Value)} {a : Int} (c : (-2147483648 ≤ a ∧ a ≤ 2147483647) ∧ a ≤ 0) {st : List Value} {H : HP} {Q : Option Value → HP → Prop} : Go 151 51 L (vi a :: st) H Q ↔ Go 151 59 L st H Q := G_ifT fX9_greatest_51 (by decide) c
theorem gX9_greatest_51F {L : List (Option Value)} {a : Int} (c : (-2147483648 ≤ a ∧ a ≤ 2147483647) ∧ ¬ (a ≤ 0)) {st : List Value} {H : HP} {Q : Option Value → HP → Prop} : Go 151 51 L (vi a :: st) H Q ↔ Go 151 54 L st H Q := G_ifF (tg := 59) fX9_greatest_51 (by decide) c
theorem fX9_greatest_54 : ft 151 54 = some (.lload 5, 0, 0, 0, .null) := by decide +kernel
theorem gX9_greatest_54 {l0 l1 l2 l3 l4 : Option Value} {u : Int64} {st : List Value} {H : HP} {Q : Option Value → HP → Prop} : Go 151 54 [l0, l1, l2, l3, l4, some (.long u), none] st H Q ↔ Go 151 56 [l0, l1, l2, l3, l4, some (.long u), none] (.long u :: st) H Q := G_lload fX9_greatest_54 rfl
theorem fX9_greatest_56 : ft 151 56 = some (.goto 4, 0, 0, 0, .null) := by decide +kernel
theorem gX9_greatest_56 {L : List (Option Value)} {st : List Value} {H : HP} {Q : Option Value → HP → Prop} : Go 151 56 L st H Q ↔ Go 151 60 L st H Q := G_goto fX9_greatest_56 (by decide)
theorem fX9_greatest_59 : ft 151 59 = some (.lload_n 2, 0, 0, 0, .null) := by decide +kernel
theorem gX9_greatest_59 {l0 l1 l4 l5 l6 : Option Value} {u : Int64} {st : List Value} {H : HP} {Q : Option Value → HP → Prop} : Go 151 59 [l0, l1, some (.long u), none, l4, l5, l6] st H Q ↔ Go 151 60 [l0, l1, some (.long u), none, l4, l5, l6] (.long u :: st) H Q := G_lload_n fX9_greatest_59 rfl
theorem fX9_greatest_60 : ft 151 60 = some (.lstore_n 2, 0, 0, 0, .null) := by decide +kernel
theorem gX9_greatest_60 {l0 l1 l2 l3 l4 l5 l6 : Option Value} {u : Int64} {st : List Value} {H : HP} {Q : Option Value → HP → Prop} : Go 151 60 [l0, l1, l2, l3, l4, l5, l6] (.long u :: st) H Q ↔ Go 151 61 [l0, l1, some (.long u), none, l4, l5, l6] st H Q := G_lstore_n fX9_greatest_60 rfl
theorem fX9_greatest_61 : ft 151 61 = some (.iinc 4 1, 0, 0, 0, .null) := by decide +kernel
theorem gX9_greatest_61 {l0 l1 l2 l3 l5 l6 : Option Value} {a : Int} {st : List Value} {H : HP} {Q : Option Value → HP → Prop} : Go 151 61 [l0, l1, l2, l3, some (vi a), l5, l6] st H Q ↔ Go 151 64 [l0, l1, l2, l3, some (vi (a + 1)), l5, l6] st H Q := G_iinc fX9_greatest_61 rfl rfl
theorem fX9_greatest_64 : ft 151 64 = some (.goto (-59), 0, 0, 0, .null) := by decide +kernel
theorem gX9_greatest_64 {L : List (Option Value)} {st : List Value} {H : HP} {Q : Option Value → HP → Prop} : Go 151 64 L st H Q ↔ Go 151 5 L st H Q := G_goto fX9_greatest_64 (by decide)
theorem fX9_greatest_67 : ft 151 67 = some (.lload_n 2, 0, 0, 0, .null) := by decide +kernel
theorem gX9_greatest_67 {l0 l1 l4 l5 l6 : Option Value} {u : Int64} {st : List Value} {H : HP} {Q : Option Value → HP → Prop} : Go 151 67 [l0, l1, some (.long u), none, l4, l5, l6] st H Q ↔ Go 151 68 [l0, l1, some (.long u), none, l4, l5, l6] (.long u :: st) H Q := G_lload_n fX9_greatest_67 rfl
theorem fX9_greatest_68 : ft 151 68 = some (.lreturn, 0, 0, 0, .null) := by decide +kernel
theorem gX9_greatest_68 {L : List (Option Value)} {u : Int64} {H : HP} {Q : Option Value → HP → Prop} : Go 151 68 L [.long u] H Q ↔ Q (some (.long u)) H := G_lret fX9_greatest_68 (by decide +kernel)
theorem fX9_multiply_0 : ft 152 0 = some (.aload_n 0, 0, 0, 0, .null) := by decide +kernel
theorem gX9_multiply_0 {l1 l2 l3 l4 l5 l6 l7 l8 : Option Value} {u : Nat} {st : List Value} {H : HP} {Q : Option Value → HP → Prop} : Go 152 0 [some (.ref u), l1, l2, l3, l4, l5, l6, l7, l8] st H Q ↔ Go 152 1 [some (.ref u), l1, l2, l3, l4, l5, l6, l7, l8] (.ref u :: st) H Q := G_aload_n fX9_multiply_0 rfl
theorem fX9_multiply_1 : ft 152 1 = some (.iconst 0, 0, 0, 0, .null) := by decide +kernel
theorem gX9_multiply_1 {L : List (Option Value)} {st : List Value} {H : HP} {Q : Option Value → HP → Prop} : Go 152 1 L st H Q ↔ Go 152 2 L (vi 0 :: st) H Q := G_iconst fX9_multiply_1
theorem fX9_multiply_2 : ft 152 2 = some (.putfield 72, 9, 0, 754, .null) := by decide +kernel
theorem gX9_multiply_2 {L : List (Option Value)} {p : Nat} {u : Int32} (hp : p ≠ 0) {st : List Value} {H : HP} {Q : Option Value → HP → Prop} : Go 152 2 L (.int u :: .ref p :: st) H Q ↔ Wr (pF' 9 0 (hget H p) (.int u)) p 152 5 L st H Q := G_putf fX9_multiply_2 ⟨⟨rfl, rfl⟩, rfl, Or.inl rfl⟩ hp
theorem fX9_multiply_5 : ft 152 5 = some (.iload_n 1, 0, 0, 0, .null) := by decide +kernel
theorem gX9_multiply_5 {l0 l2 l3 l4 l5 l6 l7 l8 : Option Value} {u : Int32} {st : List Value} {H : HP} {Q : Option Value → HP → Prop} : Go 152 5 [l0, some (.int u), l2, l3, l4, l5, l6, l7, l8] st H Q ↔ Go 152 6 [l0, some (.int u), l2, l3, l4, l5, l6, l7, l8] (.int u :: st) H Q := G_iload_n fX9_multiply_5 rfl
theorem fX9_multiply_6 : ft 152 6 = some (.invokestatic 85, 119, 0, 841, .null) := by decide +kernel
theorem gX9_multiply_6 {L : List (Option Value)} {a0 : Int32}  {H : HP} {Q : Option Value → HP → Prop} : Go 152 6 L (.int a0 :: []) H Q ↔ Go 119 0 [some (.int a0)] [] H (Cont 152 9 L [] Q) := G_cS (n := 1) (N := 1) (as := [.int a0]) (st := []) fX9_multiply_6 (by decide +kernel) rfl (Nat.le_of_ble_eq_true rfl) (Nat.le_of_ble_eq_true rfl) rfl
theorem fX9_multiply_9 : ft 152 9 = some (.ifCond .eq 10, 0, 0, 0, .null) := by decide +kernel
theorem gX9_multiply_9T {L : List (Option Value)} {a : Int} (c : (-2147483648 ≤ a ∧ a ≤ 2147483647) ∧ a = 0) {st : List Value} {H : HP} {Q : Option Value → HP → Prop} : Go 152 9 L (vi a :: st) H Q ↔ Go 152 19 L st H Q := G_ifT fX9_multiply_9 (by decide) c
theorem gX9_multiply_9F {L : List (Option Value)} {a : Int} (c : (-2147483648 ≤ a ∧ a ≤ 2147483647) ∧ ¬ (a = 0)) {st : List Value} {H : HP} {Q : Option Value → HP → Prop} : Go 152 9 L (vi a :: st) H Q ↔ Go 152 12 L st H Q := G_ifF (tg := 19) fX9_multiply_9 (by decide) c
theorem fX9_multiply_12 : ft 152 12 = some (.iload_n 2, 0, 0, 0, .null) := by decide +kernel
theorem gX9_multiply_12 {l0 l1 l3 l4 l5 l6 l7 l8 : Option Value} {u : Int32} {st : List Value} {H : HP} {Q : Option Value → HP → Prop} : Go 152 12 [l0, l1, some (.int u), l3, l4, l5, l6, l7, l8] st H Q ↔ Go 152 13 [l0, l1, some (.int u), l3, l4, l5, l6, l7, l8] (.int u :: st) H Q := G_iload_n fX9_multiply_12 rfl
theorem fX9_multiply_13 : ft 152 13 = some (.invokestatic 85, 119, 0, 841, .null) := by decide +kernel
theorem gX9_multiply_13 {L : List (Option Value)} {a0 : Int32}  {H : HP} {Q : Option Value → HP → Prop} : Go 152 13 L (.int a0 :: []) H Q ↔ Go 119 0 [some (.int a0)] [] H (Cont 152 16 L [] Q) := G_cS (n := 1) (N := 1) (as := [.int a0]) (st := []) fX9_multiply_13 (by decide +kernel) rfl (Nat.le_of_ble_eq_true rfl) (Nat.le_of_ble_eq_true rfl) rfl
theorem fX9_multiply_16 : ft 152 16 = some (.ifCond .ne 5, 0, 0, 0, .null) := by decide +kernel
theorem gX9_multiply_16T {L : List (Option Value)} {a : Int} (c : (-2147483648 ≤ a ∧ a ≤ 2147483647) ∧ ¬ a = 0) {st : List Value} {H : HP} {Q : Option Value → HP → Prop} : Go 152 16 L (vi a :: st) H Q ↔ Go 152 21 L st H Q := G_ifT fX9_multiply_16 (by decide) c
theorem gX9_multiply_16F {L : List (Option Value)} {a : Int} (c : (-2147483648 ≤ a ∧ a ≤ 2147483647) ∧ ¬ (¬ a = 0)) {st : List Value} {H : HP} {Q : Option Value → HP → Prop} : Go 152 16 L (vi a :: st) H Q ↔ Go 152 19 L st H Q := G_ifF (tg := 21) fX9_multiply_16 (by decide) c
theorem fX9_multiply_19 : ft 152 19 = some (.iconst (-1), 0, 0, 0, .null) := by decide +kernel
theorem gX9_multiply_19 {L : List (Option Value)} {st : List Value} {H : HP} {Q : Option Value → HP → Prop} : Go 152 19 L st H Q ↔ Go 152 20 L (vi (-1) :: st) H Q := G_iconst fX9_multiply_19
theorem fX9_multiply_20 : ft 152 20 = some (.ireturn, 0, 0, 0, .null) := by decide +kernel
theorem gX9_multiply_20 {L : List (Option Value)} {u : Int32} {H : HP} {Q : Option Value → HP → Prop} : Go 152 20 L [.int u] H Q ↔ Q (some (.int u)) H := G_iret fX9_multiply_20 (by decide +kernel)
theorem fX9_multiply_21 : ft 152 21 = some (.iload_n 3, 0, 0, 0, .null) := by decide +kernel
theorem gX9_multiply_21 {l0 l1 l2 l4 l5 l6 l7 l8 : Option Value} {u : Int32} {st : List Value} {H : HP} {Q : Option Value → HP → Prop} : Go 152 21 [l0, l1, l2, some (.int u), l4, l5, l6, l7, l8] st H Q ↔ Go 152 22 [l0, l1, l2, some (.int u), l4, l5, l6, l7, l8] (.int u :: st) H Q := G_iload_n fX9_multiply_21 rfl
theorem fX9_multiply_22 : ft 152 22 = some (.iconst 0, 0, 0, 0, .null) := by decide +kernel
theorem gX9_multiply_22 {L : List (Option Value)} {st : List Value} {H : HP} {Q : Option Value → HP → Prop} : Go 152 22 L st H Q ↔ Go 152 23 L (vi 0 :: st) H Q := G_iconst fX9_multiply_22
theorem fX9_multiply_23 : ft 152 23 = some (.iconst 2, 0, 0, 0, .null) := by decide +kernel
theorem gX9_multiply_23 {L : List (Option Value)} {st : List Value} {H : HP} {Q : Option Value → HP → Prop} : Go 152 23 L st H Q ↔ Go 152 24 L (vi 2 :: st) H Q := G_iconst fX9_multiply_23
theorem fX9_multiply_24 : ft 152 24 = some (.invokestatic 75, 118, 0, 844, .null) := by decide +kernel
theorem gX9_multiply_24 {L : List (Option Value)} {a0 : Int32} {a1 : Int32} {a2 : Int32}  {H : HP} {Q : Option Value → HP → Prop} : Go 152 24 L (.int a2 :: .int a1 :: .int a0 :: []) H Q ↔ Go 118 0 [some (.int a0), some (.int a1), some (.int a2)] [] H (Cont 152 27 L [] Q) := G_cS (n := 3) (N := 3) (as := [.int a2, .int a1, .int a0]) (st := []) fX9_multiply_24 (by decide +kernel) rfl (Nat.le_of_ble_eq_true rfl) (Nat.le_of_ble_eq_true rfl) rfl
theorem fX9_multiply_27 : ft 152 27 = some (.ifCond .ne 6, 0, 0, 0, .null) := by decide +kernel
theorem gX9_multiply_27T {L : List (Option Value)} {a : Int} (c : (-2147483648 ≤ a ∧ a ≤ 2147483647) ∧ ¬ a = 0) {st : List Value} {H : HP} {Q : Option Value → HP → Prop} : Go 152 27 L (vi a :: st) H Q ↔ Go 152 33 L st H Q := G_ifT fX9_multiply_27 (by decide) c
theorem gX9_multiply_27F {L : List (Option Value)} {a : Int} (c : (-2147483648 ≤ a ∧ a ≤ 2147483647) ∧ ¬ (¬ a = 0)) {st : List Value} {H : HP} {Q : Option Value → HP → Prop} : Go 152 27 L (vi a :: st) H Q ↔ Go 152 30 L st H Q := G_ifF (tg := 33) fX9_multiply_27 (by decide) c
theorem fX9_multiply_30 : ft 152 30 = some (.bipush (-2), 0, 0, 0, .null) := by decide +kernel
theorem gX9_multiply_30 {L : List (Option Value)} {st : List Value} {H : HP} {Q : Option Value → HP → Prop} : Go 152 30 L st H Q ↔ Go 152 32 L (vi (-2) :: st) H Q := G_bipush fX9_multiply_30 (by decide)
theorem fX9_multiply_32 : ft 152 32 = some (.ireturn, 0, 0, 0, .null) := by decide +kernel
theorem gX9_multiply_32 {L : List (Option Value)} {u : Int32} {H : HP} {Q : Option Value → HP → Prop} : Go 152 32 L [.int u] H Q ↔ Q (some (.int u)) H := G_iret fX9_multiply_32 (by decide +kernel)
theorem fX9_multiply_33 : ft 152 33 = some (.aload_n 0, 0, 0, 0, .null) := by decide +kernel
theorem gX9_multiply_33 {l1 l2 l3 l4 l5 l6 l7 l8 : Option Value} {u : Nat} {st : List Value} {H : HP} {Q : Option Value → HP → Prop} : Go 152 33 [some (.ref u), l1, l2, l3, l4, l5, l6, l7, l8] st H Q ↔ Go 152 34 [some (.ref u), l1, l2, l3, l4, l5, l6, l7, l8] (.ref u :: st) H Q := G_aload_n fX9_multiply_33 rfl
theorem fX9_multiply_34 : ft 152 34 = some (.iload_n 1, 0, 0, 0, .null) := by decide +kernel
theorem gX9_multiply_34 {l0 l2 l3 l4 l5 l6 l7 l8 : Option Value} {u : Int32} {st : List Value} {H : HP} {Q : Option Value → HP → Prop} : Go 152 34 [l0, some (.int u), l2, l3, l4, l5, l6, l7, l8] st H Q ↔ Go 152 35 [l0, some (.int u), l2, l3, l4, l5, l6, l7, l8] (.int u :: st) H Q := G_iload_n fX9_multiply_34 rfl
theorem fX9_multiply_35 : ft 152 35 = some (.iload_n 2, 0, 0, 0, .null) := by decide +kernel
theorem gX9_multiply_35 {l0 l1 l3 l4 l5 l6 l7 l8 : Option Value} {u : Int32} {st : List Value} {H : HP} {Q : Option Value → HP → Prop} : Go 152 35 [l0, l1, some (.int u), l3, l4, l5, l6, l7, l8] st H Q ↔ Go 152 36 [l0, l1, some (.int u), l3, l4, l5, l6, l7, l8] (.int u :: st) H Q := G_iload_n fX9_multiply_35 rfl
theorem fX9_multiply_36 : ft 152 36 = some (.invokevirtual 168, 150, 0, 963, .null) := by decide +kernel
theorem gX9_multiply_36 {L : List (Option Value)} {p : Nat} {a0 : Int32} {a1 : Int32}  {H : HP} {Q : Option Value → HP → Prop} : Go 152 36 L (.int a1 :: .int a0 :: .ref p :: []) H Q ↔ (iso 9 (hget H p) = true ∧ Go 150 0 [some (.ref p), some (.int a0), some (.int a1)] [] H (Cont 152 39 L [] Q)) := G_cV (n := 2) (N := 3) (as := [.int a1, .int a0]) (st := []) fX9_multiply_36 (by decide +kernel) rfl (Nat.le_of_ble_eq_true rfl) (Nat.le_of_ble_eq_true rfl) rfl
theorem fX9_multiply_39 : ft 152 39 = some (.istore 4, 0, 0, 0, .null) := by decide +kernel
theorem gX9_multiply_39 {l0 l1 l2 l3 l4 l5 l6 l7 l8 : Option Value} {u : Int32} {st : List Value} {H : HP} {Q : Option Value → HP → Prop} : Go 152 39 [l0, l1, l2, l3, l4, l5, l6, l7, l8] (.int u :: st) H Q ↔ Go 152 41 [l0, l1, l2, l3, some (.int u), l5, l6, l7, l8] st H Q := G_istore fX9_multiply_39 rfl
theorem fX9_multiply_41 : ft 152 41 = some (.iload 4, 0, 0, 0, .null) := by decide +kernel
theorem gX9_multiply_41 {l0 l1 l2 l3 l5 l6 l7 l8 : Option Value} {u : Int32} {st : List Value} {H : HP} {Q : Option Value → HP → Prop} : Go 152 41 [l0, l1, l2, l3, some (.int u), l5, l6, l7, l8] st H Q ↔ Go 152 43 [l0, l1, l2, l3, some (.int u), l5, l6, l7, l8] (.int u :: st) H Q := G_iload fX9_multiply_41 rfl
theorem fX9_multiply_43 : ft 152 43 = some (.ifCond .eq 6, 0, 0, 0, .null) := by decide +kernel
theorem gX9_multiply_43T {L : List (Option Value)} {a : Int} (c : (-2147483648 ≤ a ∧ a ≤ 2147483647) ∧ a = 0) {st : List Value} {H : HP} {Q : Option Value → HP → Prop} : Go 152 43 L (vi a :: st) H Q ↔ Go 152 49 L st H Q := G_ifT fX9_multiply_43 (by decide) c
theorem gX9_multiply_43F {L : List (Option Value)} {a : Int} (c : (-2147483648 ≤ a ∧ a ≤ 2147483647) ∧ ¬ (a = 0)) {st : List Value} {H : HP} {Q : Option Value → HP → Prop} : Go 152 43 L (vi a :: st) H Q ↔ Go 152 46 L st H Q := G_ifF (tg := 49) fX9_multiply_43 (by decide) c
theorem fX9_multiply_46 : ft 152 46 = some (.iload 4, 0, 0, 0, .null) := by decide +kernel
theorem gX9_multiply_46 {l0 l1 l2 l3 l5 l6 l7 l8 : Option Value} {u : Int32} {st : List Value} {H : HP} {Q : Option Value → HP → Prop} : Go 152 46 [l0, l1, l2, l3, some (.int u), l5, l6, l7, l8] st H Q ↔ Go 152 48 [l0, l1, l2, l3, some (.int u), l5, l6, l7, l8] (.int u :: st) H Q := G_iload fX9_multiply_46 rfl
theorem fX9_multiply_48 : ft 152 48 = some (.ireturn, 0, 0, 0, .null) := by decide +kernel
theorem gX9_multiply_48 {L : List (Option Value)} {u : Int32} {H : HP} {Q : Option Value → HP → Prop} : Go 152 48 L [.int u] H Q ↔ Q (some (.int u)) H := G_iret fX9_multiply_48 (by decide +kernel)
theorem fX9_multiply_49 : ft 152 49 = some (.aload_n 0, 0, 0, 0, .null) := by decide +kernel
theorem gX9_multiply_49 {l1 l2 l3 l4 l5 l6 l7 l8 : Option Value} {u : Nat} {st : List Value} {H : HP} {Q : Option Value → HP → Prop} : Go 152 49 [some (.ref u), l1, l2, l3, l4, l5, l6, l7, l8] st H Q ↔ Go 152 50 [some (.ref u), l1, l2, l3, l4, l5, l6, l7, l8] (.ref u :: st) H Q := G_aload_n fX9_multiply_49 rfl
theorem fX9_multiply_50 : ft 152 50 = some (.iload_n 1, 0, 0, 0, .null) := by decide +kernel
theorem gX9_multiply_50 {l0 l2 l3 l4 l5 l6 l7 l8 : Option Value} {u : Int32} {st : List Value} {H : HP} {Q : Option Value → HP → Prop} : Go 152 50 [l0, some (.int u), l2, l3, l4, l5, l6, l7, l8] st H Q ↔ Go 152 51 [l0, some (.int u), l2, l3, l4, l5, l6, l7, l8] (.int u :: st) H Q := G_iload_n fX9_multiply_50 rfl
theorem fX9_multiply_51 : ft 152 51 = some (.invokevirtual 172, 151, 0, 967, .null) := by decide +kernel
theorem gX9_multiply_51 {L : List (Option Value)} {p : Nat} {a0 : Int32}  {H : HP} {Q : Option Value → HP → Prop} : Go 152 51 L (.int a0 :: .ref p :: []) H Q ↔ (iso 9 (hget H p) = true ∧ Go 151 0 [some (.ref p), some (.int a0), none, none, none, none, none] [] H (Cont 152 54 L [] Q)) := G_cV (n := 1) (N := 7) (as := [.int a0]) (st := []) fX9_multiply_51 (by decide +kernel) rfl (Nat.le_of_ble_eq_true rfl) (Nat.le_of_ble_eq_true rfl) rfl
theorem fX9_multiply_54 : ft 152 54 = some (.aload_n 0, 0, 0, 0, .null) := by decide +kernel
theorem gX9_multiply_54 {l1 l2 l3 l4 l5 l6 l7 l8 : Option Value} {u : Nat} {st : List Value} {H : HP} {Q : Option Value → HP → Prop} : Go 152 54 [some (.ref u), l1, l2, l3, l4, l5, l6, l7, l8] st H Q ↔ Go 152 55 [some (.ref u), l1, l2, l3, l4, l5, l6, l7, l8] (.ref u :: st) H Q := G_aload_n fX9_multiply_54 rfl
theorem fX9_multiply_55 : ft 152 55 = some (.iload_n 2, 0, 0, 0, .null) := by decide +kernel
theorem gX9_multiply_55 {l0 l1 l3 l4 l5 l6 l7 l8 : Option Value} {u : Int32} {st : List Value} {H : HP} {Q : Option Value → HP → Prop} : Go 152 55 [l0, l1, some (.int u), l3, l4, l5, l6, l7, l8] st H Q ↔ Go 152 56 [l0, l1, some (.int u), l3, l4, l5, l6, l7, l8] (.int u :: st) H Q := G_iload_n fX9_multiply_55 rfl
theorem fX9_multiply_56 : ft 152 56 = some (.invokevirtual 172, 151, 0, 967, .null) := by decide +kernel
theorem gX9_multiply_56 {L : List (Option Value)} {p : Nat} {a0 : Int32} {r0 : Int64} {H : HP} {Q : Option Value → HP → Prop} : Go 152 56 L (.int a0 :: .ref p :: [.long r0]) H Q ↔ (iso 9 (hget H p) = true ∧ Go 151 0 [some (.ref p), some (.int a0), none, none, none, none, none] [] H (Cont 152 59 L [.long r0] Q)) := G_cV (n := 1) (N := 7) (as := [.int a0]) (st := [.long r0]) fX9_multiply_56 (by decide +kernel) rfl (Nat.le_of_ble_eq_true rfl) (Nat.le_of_ble_eq_true rfl) rfl
theorem fX9_multiply_59 : ft 152 59 = some (.lmul, 0, 0, 0, .null) := by decide +kernel
theorem gX9_multiply_59 {L : List (Option Value)} {a b : Int} {st : List Value} {H : HP} {Q : Option Value → HP → Prop} : Go 152 59 L (vl b :: vl a :: st) H Q ↔ Go 152 60 L (vl (a * b) :: st) H Q := G_lmul fX9_multiply_59
theorem fX9_multiply_60 : ft 152 60 = some (.lstore 5, 0, 0, 0, .null) := by decide +kernel
theorem gX9_multiply_60 {l0 l1 l2 l3 l4 l5 l6 l7 l8 : Option Value} {u : Int64} {st : List Value} {H : HP} {Q : Option Value → HP → Prop} : Go 152 60 [l0, l1, l2, l3, l4, l5, l6, l7, l8] (.long u :: st) H Q ↔ Go 152 62 [l0, l1, l2, l3, l4, some (.long u), none, l7, l8] st H Q := G_lstore fX9_multiply_60 rfl
theorem fX9_multiply_62 : ft 152 62 = some (.iload_n 3, 0, 0, 0, .null) := by decide +kernel
theorem gX9_multiply_62 {l0 l1 l2 l4 l5 l6 l7 l8 : Option Value} {u : Int32} {st : List Value} {H : HP} {Q : Option Value → HP → Prop} : Go 152 62 [l0, l1, l2, some (.int u), l4, l5, l6, l7, l8] st H Q ↔ Go 152 63 [l0, l1, l2, some (.int u), l4, l5, l6, l7, l8] (.int u :: st) H Q := G_iload_n fX9_multiply_62 rfl
theorem fX9_multiply_63 : ft 152 63 = some (.iconst 1, 0, 0, 0, .null) := by decide +kernel
theorem gX9_multiply_63 {L : List (Option Value)} {st : List Value} {H : HP} {Q : Option Value → HP → Prop} : Go 152 63 L st H Q ↔ Go 152 64 L (vi 1 :: st) H Q := G_iconst fX9_multiply_63
theorem fX9_multiply_64 : ft 152 64 = some (.if_icmp .ne 58, 0, 0, 0, .null) := by decide +kernel
theorem gX9_multiply_64T {L : List (Option Value)} {a b : Int} (c : (-2147483648 ≤ a ∧ a ≤ 2147483647 ∧ -2147483648 ≤ b ∧ b ≤ 2147483647) ∧ ¬ a = b) {st : List Value} {H : HP} {Q : Option Value → HP → Prop} : Go 152 64 L (vi b :: vi a :: st) H Q ↔ Go 152 122 L st H Q := G_icT fX9_multiply_64 (by decide) c
theorem gX9_multiply_64F {L : List (Option Value)} {a b : Int} (c : (-2147483648 ≤ a ∧ a ≤ 2147483647 ∧ -2147483648 ≤ b ∧ b ≤ 2147483647) ∧ ¬ (¬ a = b)) {st : List Value} {H : HP} {Q : Option Value → HP → Prop} : Go 152 64 L (vi b :: vi a :: st) H Q ↔ Go 152 67 L st H Q := G_icF (tg := 122) fX9_multiply_64 (by decide) c
theorem fX9_multiply_67 : ft 152 67 = some (.lload 5, 0, 0, 0, .null) := by decide +kernel
theorem gX9_multiply_67 {l0 l1 l2 l3 l4 l7 l8 : Option Value} {u : Int64} {st : List Value} {H : HP} {Q : Option Value → HP → Prop} : Go 152 67 [l0, l1, l2, l3, l4, some (.long u), none, l7, l8] st H Q ↔ Go 152 69 [l0, l1, l2, l3, l4, some (.long u), none, l7, l8] (.long u :: st) H Q := G_lload fX9_multiply_67 rfl
theorem fX9_multiply_69 : ft 152 69 = some (.iconst 0, 0, 0, 0, .null) := by decide +kernel
theorem gX9_multiply_69 {L : List (Option Value)} {st : List Value} {H : HP} {Q : Option Value → HP → Prop} : Go 152 69 L st H Q ↔ Go 152 70 L (vi 0 :: st) H Q := G_iconst fX9_multiply_69
theorem fX9_multiply_70 : ft 152 70 = some (.invokestatic 133, 121, 0, 918, .null) := by decide +kernel
theorem gX9_multiply_70 {L : List (Option Value)} {a0 : Int32} {r0 : Int64} {H : HP} {Q : Option Value → HP → Prop} : Go 152 70 L (.int a0 :: [.long r0]) H Q ↔ Go 121 0 [some (.int a0)] [] H (Cont 152 73 L [.long r0] Q) := G_cS (n := 1) (N := 1) (as := [.int a0]) (st := [.long r0]) fX9_multiply_70 (by decide +kernel) rfl (Nat.le_of_ble_eq_true rfl) (Nat.le_of_ble_eq_true rfl) rfl
theorem fX9_multiply_73 : ft 152 73 = some (.lcmp, 0, 0, 0, .null) := by decide +kernel
theorem fX9_multiply_73' : ft 152 74 = some (.ifCond .ge 45, 0, 0, 0, .null) := by decide +kernel
theorem gX9_multiply_73T {L : List (Option Value)} {a b : Int} (c : (-9223372036854775808 ≤ a ∧ a ≤ 9223372036854775807 ∧ -9223372036854775808 ≤ b ∧ b ≤ 9223372036854775807) ∧ b ≤ a) {st : List Value} {H : HP} {Q : Option Value → HP → Prop} : Go 152 73 L (vl b :: vl a :: st) H Q ↔ Go 152 119 L st H Q := G_lcT fX9_multiply_73 fX9_multiply_73' (by decide) c
theorem gX9_multiply_73F {L : List (Option Value)} {a b : Int} (c : (-9223372036854775808 ≤ a ∧ a ≤ 9223372036854775807 ∧ -9223372036854775808 ≤ b ∧ b ≤ 9223372036854775807) ∧ ¬ (b ≤ a)) {st : List Value} {H : HP} {Q : Option Value → HP → Prop} : Go 152 73 L (vl b :: vl a :: st) H Q ↔ Go 152 77 L st H Q := G_lcF (tg := 119) fX9_multiply_73 fX9_multiply_73' (by decide) c
theorem fX9_multiply_74 : ft 152 74 = some (.ifCond .ge 45, 0, 0, 0, .null) := by decide +kernel
theorem gX9_multiply_74T {L : List (Option Value)} {a : Int} (c : (-2147483648 ≤ a ∧ a ≤ 2147483647) ∧ 0 ≤ a) {st : List Value} {H : HP} {Q : Option Value → HP → Prop} : Go 152 74 L (vi a :: st) H Q ↔ Go 152 119 L st H Q := G_ifT fX9_multiply_74 (by decide) c
theorem gX9_multiply_74F {L : List (Option Value)} {a : Int} (c : (-2147483648 ≤ a ∧ a ≤ 2147483647) ∧ ¬ (0 ≤ a)) {st : List Value} {H : HP} {Q : Option Value → HP → Prop} : Go 152 74 L (vi a :: st) H Q ↔ Go 152 77 L st H Q := G_ifF (tg := 119) fX9_multiply_74 (by decide) c
theorem fX9_multiply_77 : ft 152 77 = some (.ldc2_w 125, 0, 0, 931, .long (2)) := by decide +kernel
theorem gX9_multiply_77 {L : List (Option Value)} {st : List Value} {H : HP} {Q : Option Value → HP → Prop} : Go 152 77 L st H Q ↔ Go 152 80 L (vl (2) :: st) H Q := G_ldcl fX9_multiply_77 (by decide +kernel)
theorem fX9_multiply_80 : ft 152 80 = some (.aload_n 0, 0, 0, 0, .null) := by decide +kernel
theorem gX9_multiply_80 {l1 l2 l3 l4 l5 l6 l7 l8 : Option Value} {u : Nat} {st : List Value} {H : HP} {Q : Option Value → HP → Prop} : Go 152 80 [some (.ref u), l1, l2, l3, l4, l5, l6, l7, l8] st H Q ↔ Go 152 81 [some (.ref u), l1, l2, l3, l4, l5, l6, l7, l8] (.ref u :: st) H Q := G_aload_n fX9_multiply_80 rfl
theorem fX9_multiply_81 : ft 152 81 = some (.iload_n 1, 0, 0, 0, .null) := by decide +kernel
theorem gX9_multiply_81 {l0 l2 l3 l4 l5 l6 l7 l8 : Option Value} {u : Int32} {st : List Value} {H : HP} {Q : Option Value → HP → Prop} : Go 152 81 [l0, some (.int u), l2, l3, l4, l5, l6, l7, l8] st H Q ↔ Go 152 82 [l0, some (.int u), l2, l3, l4, l5, l6, l7, l8] (.int u :: st) H Q := G_iload_n fX9_multiply_81 rfl
theorem fX9_multiply_82 : ft 152 82 = some (.invokevirtual 100, 124, 0, 867, .null) := by decide +kernel
theorem gX9_multiply_82 {L : List (Option Value)} {p : Nat} {a0 : Int32} {r0 : Int64} {H : HP} {Q : Option Value → HP → Prop} : Go 152 82 L (.int a0 :: .ref p :: [.long r0]) H Q ↔ (iso 9 (hget H p) = true ∧ Go 124 0 [some (.ref p), some (.int a0)] [] H (Cont 152 85 L [.long r0] Q)) := G_cV (n := 1) (N := 2) (as := [.int a0]) (st := [.long r0]) fX9_multiply_82 (by decide +kernel) rfl (Nat.le_of_ble_eq_true rfl) (Nat.le_of_ble_eq_true rfl) rfl
theorem fX9_multiply_85 : ft 152 85 = some (.aload_n 0, 0, 0, 0, .null) := by decide +kernel
theorem gX9_multiply_85 {l1 l2 l3 l4 l5 l6 l7 l8 : Option Value} {u : Nat} {st : List Value} {H : HP} {Q : Option Value → HP → Prop} : Go 152 85 [some (.ref u), l1, l2, l3, l4, l5, l6, l7, l8] st H Q ↔ Go 152 86 [some (.ref u), l1, l2, l3, l4, l5, l6, l7, l8] (.ref u :: st) H Q := G_aload_n fX9_multiply_85 rfl
theorem fX9_multiply_86 : ft 152 86 = some (.iload_n 2, 0, 0, 0, .null) := by decide +kernel
theorem gX9_multiply_86 {l0 l1 l3 l4 l5 l6 l7 l8 : Option Value} {u : Int32} {st : List Value} {H : HP} {Q : Option Value → HP → Prop} : Go 152 86 [l0, l1, some (.int u), l3, l4, l5, l6, l7, l8] st H Q ↔ Go 152 87 [l0, l1, some (.int u), l3, l4, l5, l6, l7, l8] (.int u :: st) H Q := G_iload_n fX9_multiply_86 rfl
theorem fX9_multiply_87 : ft 152 87 = some (.invokevirtual 100, 124, 0, 867, .null) := by decide +kernel
theorem gX9_multiply_87 {L : List (Option Value)} {p : Nat} {a0 : Int32} {r0 : Int32} {r1 : Int64} {H : HP} {Q : Option Value → HP → Prop} : Go 152 87 L (.int a0 :: .ref p :: [.int r0, .long r1]) H Q ↔ (iso 9 (hget H p) = true ∧ Go 124 0 [some (.ref p), some (.int a0)] [] H (Cont 152 90 L [.int r0, .long r1] Q)) := G_cV (n := 1) (N := 2) (as := [.int a0]) (st := [.int r0, .long r1]) fX9_multiply_87 (by decide +kernel) rfl (Nat.le_of_ble_eq_true rfl) (Nat.le_of_ble_eq_true rfl) rfl
theorem fX9_multiply_90 : ft 152 90 = some (.if_icmp .ge 11, 0, 0, 0, .null) := by decide +kernel
theorem gX9_multiply_90T {L : List (Option Value)} {a b : Int} (c : (-2147483648 ≤ a ∧ a ≤ 2147483647 ∧ -2147483648 ≤ b ∧ b ≤ 2147483647) ∧ b ≤ a) {st : List Value} {H : HP} {Q : Option Value → HP → Prop} : Go 152 90 L (vi b :: vi a :: st) H Q ↔ Go 152 101 L st H Q := G_icT fX9_multiply_90 (by decide) c
theorem gX9_multiply_90F {L : List (Option Value)} {a b : Int} (c : (-2147483648 ≤ a ∧ a ≤ 2147483647 ∧ -2147483648 ≤ b ∧ b ≤ 2147483647) ∧ ¬ (b ≤ a)) {st : List Value} {H : HP} {Q : Option Value → HP → Prop} : Go 152 90 L (vi b :: vi a :: st) H Q ↔ Go 152 93 L st H Q := G_icF (tg := 101) fX9_multiply_90 (by decide) c
theorem fX9_multiply_93 : ft 152 93 = some (.aload_n 0, 0, 0, 0, .null) := by decide +kernel
theorem gX9_multiply_93 {l1 l2 l3 l4 l5 l6 l7 l8 : Option Value} {u : Nat} {st : List Value} {H : HP} {Q : Option Value → HP → Prop} : Go 152 93 [some (.ref u), l1, l2, l3, l4, l5, l6, l7, l8] st H Q ↔ Go 152 94 [some (.ref u), l1, l2, l3, l4, l5, l6, l7, l8] (.ref u :: st) H Q := G_aload_n fX9_multiply_93 rfl
theorem fX9_multiply_94 : ft 152 94 = some (.iload_n 1, 0, 0, 0, .null) := by decide +kernel
theorem gX9_multiply_94 {l0 l2 l3 l4 l5 l6 l7 l8 : Option Value} {u : Int32} {st : List Value} {H : HP} {Q : Option Value → HP → Prop} : Go 152 94 [l0, some (.int u), l2, l3, l4, l5, l6, l7, l8] st H Q ↔ Go 152 95 [l0, some (.int u), l2, l3, l4, l5, l6, l7, l8] (.int u :: st) H Q := G_iload_n fX9_multiply_94 rfl
theorem fX9_multiply_95 : ft 152 95 = some (.invokevirtual 100, 124, 0, 867, .null) := by decide +kernel
theorem gX9_multiply_95 {L : List (Option Value)} {p : Nat} {a0 : Int32} {r0 : Int64} {H : HP} {Q : Option Value → HP → Prop} : Go 152 95 L (.int a0 :: .ref p :: [.long r0]) H Q ↔ (iso 9 (hget H p) = true ∧ Go 124 0 [some (.ref p), some (.int a0)] [] H (Cont 152 98 L [.long r0] Q)) := G_cV (n := 1) (N := 2) (as := [.int a0]) (st := [.long r0]) fX9_multiply_95 (by decide +kernel) rfl (Nat.le_of_ble_eq_true rfl) (Nat.le_of_ble_eq_true rfl) rfl
theorem fX9_multiply_98 : ft 152 98 = some (.goto 8, 0, 0, 0, .null) := by decide +kernel
theorem gX9_multiply_98 {L : List (Option Value)} {st : List Value} {H : HP} {Q : Option Value → HP → Prop} : Go 152 98 L st H Q ↔ Go 152 106 L st H Q := G_goto fX9_multiply_98 (by decide)
theorem fX9_multiply_101 : ft 152 101 = some (.aload_n 0, 0, 0, 0, .null) := by decide +kernel
theorem gX9_multiply_101 {l1 l2 l3 l4 l5 l6 l7 l8 : Option Value} {u : Nat} {st : List Value} {H : HP} {Q : Option Value → HP → Prop} : Go 152 101 [some (.ref u), l1, l2, l3, l4, l5, l6, l7, l8] st H Q ↔ Go 152 102 [some (.ref u), l1, l2, l3, l4, l5, l6, l7, l8] (.ref u :: st) H Q := G_aload_n fX9_multiply_101 rfl
theorem fX9_multiply_102 : ft 152 102 = some (.iload_n 2, 0, 0, 0, .null) := by decide +kernel
theorem gX9_multiply_102 {l0 l1 l3 l4 l5 l6 l7 l8 : Option Value} {u : Int32} {st : List Value} {H : HP} {Q : Option Value → HP → Prop} : Go 152 102 [l0, l1, some (.int u), l3, l4, l5, l6, l7, l8] st H Q ↔ Go 152 103 [l0, l1, some (.int u), l3, l4, l5, l6, l7, l8] (.int u :: st) H Q := G_iload_n fX9_multiply_102 rfl
theorem fX9_multiply_103 : ft 152 103 = some (.invokevirtual 100, 124, 0, 867, .null) := by decide +kernel
theorem gX9_multiply_103 {L : List (Option Value)} {p : Nat} {a0 : Int32} {r0 : Int64} {H : HP} {Q : Option Value → HP → Prop} : Go 152 103 L (.int a0 :: .ref p :: [.long r0]) H Q ↔ (iso 9 (hget H p) = true ∧ Go 124 0 [some (.ref p), some (.int a0)] [] H (Cont 152 106 L [.long r0] Q)) := G_cV (n := 1) (N := 2) (as := [.int a0]) (st := [.long r0]) fX9_multiply_103 (by decide +kernel) rfl (Nat.le_of_ble_eq_true rfl) (Nat.le_of_ble_eq_true rfl) rfl
theorem fX9_multiply_106 : ft 152 106 = some (.i2l, 0, 0, 0, .null) := by decide +kernel
theorem gX9_multiply_106 {L : List (Option Value)} {a : Int} (c : -2147483648 ≤ a ∧ a ≤ 2147483647) {st : List Value} {H : HP} {Q : Option Value → HP → Prop} : Go 152 106 L (vi a :: st) H Q ↔ Go 152 107 L (vl a :: st) H Q := G_i2l fX9_multiply_106 c
theorem fX9_multiply_107 : ft 152 107 = some (.lmul, 0, 0, 0, .null) := by decide +kernel
theorem gX9_multiply_107 {L : List (Option Value)} {a b : Int} {st : List Value} {H : HP} {Q : Option Value → HP → Prop} : Go 152 107 L (vl b :: vl a :: st) H Q ↔ Go 152 108 L (vl (a * b) :: st) H Q := G_lmul fX9_multiply_107
theorem fX9_multiply_108 : ft 152 108 = some (.lload 5, 0, 0, 0, .null) := by decide +kernel
theorem gX9_multiply_108 {l0 l1 l2 l3 l4 l7 l8 : Option Value} {u : Int64} {st : List Value} {H : HP} {Q : Option Value → HP → Prop} : Go 152 108 [l0, l1, l2, l3, l4, some (.long u), none, l7, l8] st H Q ↔ Go 152 110 [l0, l1, l2, l3, l4, some (.long u), none, l7, l8] (.long u :: st) H Q := G_lload fX9_multiply_108 rfl
theorem fX9_multiply_110 : ft 152 110 = some (.lmul, 0, 0, 0, .null) := by decide +kernel
theorem gX9_multiply_110 {L : List (Option Value)} {a b : Int} {st : List Value} {H : HP} {Q : Option Value → HP → Prop} : Go 152 110 L (vl b :: vl a :: st) H Q ↔ Go 152 111 L (vl (a * b) :: st) H Q := G_lmul fX9_multiply_110
theorem fX9_multiply_111 : ft 152 111 = some (.iconst 0, 0, 0, 0, .null) := by decide +kernel
theorem gX9_multiply_111 {L : List (Option Value)} {st : List Value} {H : HP} {Q : Option Value → HP → Prop} : Go 152 111 L st H Q ↔ Go 152 112 L (vi 0 :: st) H Q := G_iconst fX9_multiply_111
theorem fX9_multiply_112 : ft 152 112 = some (.invokestatic 133, 121, 0, 918, .null) := by decide +kernel
theorem gX9_multiply_112 {L : List (Option Value)} {a0 : Int32} {r0 : Int64} {H : HP} {Q : Option Value → HP → Prop} : Go 152 112 L (.int a0 :: [.long r0]) H Q ↔ Go 121 0 [some (.int a0)] [] H (Cont 152 115 L [.long r0] Q) := G_cS (n := 1) (N := 1) (as := [.int a0]) (st := [.long r0]) fX9_multiply_112 (by decide +kernel) rfl (Nat.le_of_ble_eq_true rfl) (Nat.le_of_ble_eq_true rfl) rfl
theorem fX9_multiply_115 : ft 152 115 = some (.lcmp, 0, 0, 0, .null) := by decide +kernel
theorem fX9_multiply_115' : ft 152 116 = some (.ifCond .lt 6, 0, 0, 0, .null) := by decide +kernel
theorem gX9_multiply_115T {L : List (Option Value)} {a b : Int} (c : (-9223372036854775808 ≤ a ∧ a ≤ 9223372036854775807 ∧ -9223372036854775808 ≤ b ∧ b ≤ 9223372036854775807) ∧ a < b) {st : List Value} {H : HP} {Q : Option Value → HP → Prop} : Go 152 115 L (vl b :: vl a :: st) H Q ↔ Go 152 122 L st H Q := G_lcT fX9_multiply_115 fX9_multiply_115' (by decide) c
theorem gX9_multiply_115F {L : List (Option Value)} {a b : Int} (c : (-9223372036854775808 ≤ a ∧ a ≤ 9223372036854775807 ∧ -9223372036854775808 ≤ b ∧ b ≤ 9223372036854775807) ∧ ¬ (a < b)) {st : List Value} {H : HP} {Q : Option Value → HP → Prop} : Go 152 115 L (vl b :: vl a :: st) H Q ↔ Go 152 119 L st H Q := G_lcF (tg := 122) fX9_multiply_115 fX9_multiply_115' (by decide) c
theorem fX9_multiply_116 : ft 152 116 = some (.ifCond .lt 6, 0, 0, 0, .null) := by decide +kernel
theorem gX9_multiply_116T {L : List (Option Value)} {a : Int} (c : (-2147483648 ≤ a ∧ a ≤ 2147483647) ∧ a < 0) {st : List Value} {H : HP} {Q : Option Value → HP → Prop} : Go 152 116 L (vi a :: st) H Q ↔ Go 152 122 L st H Q := G_ifT fX9_multiply_116 (by decide) c
theorem gX9_multiply_116F {L : List (Option Value)} {a : Int} (c : (-2147483648 ≤ a ∧ a ≤ 2147483647) ∧ ¬ (a < 0)) {st : List Value} {H : HP} {Q : Option Value → HP → Prop} : Go 152 116 L (vi a :: st) H Q ↔ Go 152 119 L st H Q := G_ifF (tg := 122) fX9_multiply_116 (by decide) c
theorem fX9_multiply_119 : ft 152 119 = some (.bipush (-3), 0, 0, 0, .null) := by decide +kernel
theorem gX9_multiply_119 {L : List (Option Value)} {st : List Value} {H : HP} {Q : Option Value → HP → Prop} : Go 152 119 L st H Q ↔ Go 152 121 L (vi (-3) :: st) H Q := G_bipush fX9_multiply_119 (by decide)
theorem fX9_multiply_121 : ft 152 121 = some (.ireturn, 0, 0, 0, .null) := by decide +kernel
theorem gX9_multiply_121 {L : List (Option Value)} {u : Int32} {H : HP} {Q : Option Value → HP → Prop} : Go 152 121 L [.int u] H Q ↔ Q (some (.int u)) H := G_iret fX9_multiply_121 (by decide +kernel)
theorem fX9_multiply_122 : ft 152 122 = some (.aload_n 0, 0, 0, 0, .null) := by decide +kernel
theorem gX9_multiply_122 {l1 l2 l3 l4 l5 l6 l7 l8 : Option Value} {u : Nat} {st : List Value} {H : HP} {Q : Option Value → HP → Prop} : Go 152 122 [some (.ref u), l1, l2, l3, l4, l5, l6, l7, l8] st H Q ↔ Go 152 123 [some (.ref u), l1, l2, l3, l4, l5, l6, l7, l8] (.ref u :: st) H Q := G_aload_n fX9_multiply_122 rfl
theorem fX9_multiply_123 : ft 152 123 = some (.aload_n 0, 0, 0, 0, .null) := by decide +kernel
theorem gX9_multiply_123 {l1 l2 l3 l4 l5 l6 l7 l8 : Option Value} {u : Nat} {st : List Value} {H : HP} {Q : Option Value → HP → Prop} : Go 152 123 [some (.ref u), l1, l2, l3, l4, l5, l6, l7, l8] st H Q ↔ Go 152 124 [some (.ref u), l1, l2, l3, l4, l5, l6, l7, l8] (.ref u :: st) H Q := G_aload_n fX9_multiply_123 rfl
theorem fX9_multiply_124 : ft 152 124 = some (.iload_n 1, 0, 0, 0, .null) := by decide +kernel
theorem gX9_multiply_124 {l0 l2 l3 l4 l5 l6 l7 l8 : Option Value} {u : Int32} {st : List Value} {H : HP} {Q : Option Value → HP → Prop} : Go 152 124 [l0, some (.int u), l2, l3, l4, l5, l6, l7, l8] st H Q ↔ Go 152 125 [l0, some (.int u), l2, l3, l4, l5, l6, l7, l8] (.int u :: st) H Q := G_iload_n fX9_multiply_124 rfl
theorem fX9_multiply_125 : ft 152 125 = some (.invokevirtual 100, 124, 0, 867, .null) := by decide +kernel
theorem gX9_multiply_125 {L : List (Option Value)} {p : Nat} {a0 : Int32} {r0 : Nat} {H : HP} {Q : Option Value → HP → Prop} : Go 152 125 L (.int a0 :: .ref p :: [.ref r0]) H Q ↔ (iso 9 (hget H p) = true ∧ Go 124 0 [some (.ref p), some (.int a0)] [] H (Cont 152 128 L [.ref r0] Q)) := G_cV (n := 1) (N := 2) (as := [.int a0]) (st := [.ref r0]) fX9_multiply_125 (by decide +kernel) rfl (Nat.le_of_ble_eq_true rfl) (Nat.le_of_ble_eq_true rfl) rfl
theorem fX9_multiply_128 : ft 152 128 = some (.aload_n 0, 0, 0, 0, .null) := by decide +kernel
theorem gX9_multiply_128 {l1 l2 l3 l4 l5 l6 l7 l8 : Option Value} {u : Nat} {st : List Value} {H : HP} {Q : Option Value → HP → Prop} : Go 152 128 [some (.ref u), l1, l2, l3, l4, l5, l6, l7, l8] st H Q ↔ Go 152 129 [some (.ref u), l1, l2, l3, l4, l5, l6, l7, l8] (.ref u :: st) H Q := G_aload_n fX9_multiply_128 rfl
theorem fX9_multiply_129 : ft 152 129 = some (.iload_n 2, 0, 0, 0, .null) := by decide +kernel
theorem gX9_multiply_129 {l0 l1 l3 l4 l5 l6 l7 l8 : Option Value} {u : Int32} {st : List Value} {H : HP} {Q : Option Value → HP → Prop} : Go 152 129 [l0, l1, some (.int u), l3, l4, l5, l6, l7, l8] st H Q ↔ Go 152 130 [l0, l1, some (.int u), l3, l4, l5, l6, l7, l8] (.int u :: st) H Q := G_iload_n fX9_multiply_129 rfl
theorem fX9_multiply_130 : ft 152 130 = some (.invokevirtual 100, 124, 0, 867, .null) := by decide +kernel
theorem gX9_multiply_130 {L : List (Option Value)} {p : Nat} {a0 : Int32} {r0 : Int32} {r1 : Nat} {H : HP} {Q : Option Value → HP → Prop} : Go 152 130 L (.int a0 :: .ref p :: [.int r0, .ref r1]) H Q ↔ (iso 9 (hget H p) = true ∧ Go 124 0 [some (.ref p), some (.int a0)] [] H (Cont 152 133 L [.int r0, .ref r1] Q)) := G_cV (n := 1) (N := 2) (as := [.int a0]) (st := [.int r0, .ref r1]) fX9_multiply_130 (by decide +kernel) rfl (Nat.le_of_ble_eq_true rfl) (Nat.le_of_ble_eq_true rfl) rfl
theorem fX9_multiply_133 : ft 152 133 = some (.iadd, 0, 0, 0, .null) := by decide +kernel
theorem gX9_multiply_133 {L : List (Option Value)} {a b : Int} {st : List Value} {H : HP} {Q : Option Value → HP → Prop} : Go 152 133 L (vi b :: vi a :: st) H Q ↔ Go 152 134 L (vi (a + b) :: st) H Q := G_iadd fX9_multiply_133
theorem fX9_multiply_134 : ft 152 134 = some (.iconst 1, 0, 0, 0, .null) := by decide +kernel
theorem gX9_multiply_134 {L : List (Option Value)} {st : List Value} {H : HP} {Q : Option Value → HP → Prop} : Go 152 134 L st H Q ↔ Go 152 135 L (vi 1 :: st) H Q := G_iconst fX9_multiply_134
theorem fX9_multiply_135 : ft 152 135 = some (.isub, 0, 0, 0, .null) := by decide +kernel
theorem gX9_multiply_135 {L : List (Option Value)} {a b : Int} {st : List Value} {H : HP} {Q : Option Value → HP → Prop} : Go 152 135 L (vi b :: vi a :: st) H Q ↔ Go 152 136 L (vi (a - b) :: st) H Q := G_isub fX9_multiply_135
theorem fX9_multiply_136 : ft 152 136 = some (.invokevirtual 175, 148, 0, 971, .null) := by decide +kernel
theorem gX9_multiply_136 {L : List (Option Value)} {p : Nat} {a0 : Int32}  {H : HP} {Q : Option Value → HP → Prop} : Go 152 136 L (.int a0 :: .ref p :: []) H Q ↔ (iso 9 (hget H p) = true ∧ Go 148 0 [some (.ref p), some (.int a0), none] [] H (Cont 152 139 L [] Q)) := G_cV (n := 1) (N := 3) (as := [.int a0]) (st := []) fX9_multiply_136 (by decide +kernel) rfl (Nat.le_of_ble_eq_true rfl) (Nat.le_of_ble_eq_true rfl) rfl
theorem fX9_multiply_139 : ft 152 139 = some (.iconst 0, 0, 0, 0, .null) := by decide +kernel
theorem gX9_multiply_139 {L : List (Option Value)} {st : List Value} {H : HP} {Q : Option Value → HP → Prop} : Go 152 139 L st H Q ↔ Go 152 140 L (vi 0 :: st) H Q := G_iconst fX9_multiply_139
theorem fX9_multiply_140 : ft 152 140 = some (.istore 7, 0, 0, 0, .null) := by decide +kernel
theorem gX9_multiply_140 {l0 l1 l2 l3 l4 l5 l6 l7 l8 : Option Value} {u : Int32} {st : List Value} {H : HP} {Q : Option Value → HP → Prop} : Go 152 140 [l0, l1, l2, l3, l4, l5, l6, l7, l8] (.int u :: st) H Q ↔ Go 152 142 [l0, l1, l2, l3, l4, l5, l6, some (.int u), l8] st H Q := G_istore fX9_multiply_140 rfl
theorem fX9_multiply_142 : ft 152 142 = some (.iload 7, 0, 0, 0, .null) := by decide +kernel
theorem gX9_multiply_142 {l0 l1 l2 l3 l4 l5 l6 l8 : Option Value} {u : Int32} {st : List Value} {H : HP} {Q : Option Value → HP → Prop} : Go 152 142 [l0, l1, l2, l3, l4, l5, l6, some (.int u), l8] st H Q ↔ Go 152 144 [l0, l1, l2, l3, l4, l5, l6, some (.int u), l8] (.int u :: st) H Q := G_iload fX9_multiply_142 rfl
theorem fX9_multiply_144 : ft 152 144 = some (.aload_n 0, 0, 0, 0, .null) := by decide +kernel
theorem gX9_multiply_144 {l1 l2 l3 l4 l5 l6 l7 l8 : Option Value} {u : Nat} {st : List Value} {H : HP} {Q : Option Value → HP → Prop} : Go 152 144 [some (.ref u), l1, l2, l3, l4, l5, l6, l7, l8] st H Q ↔ Go 152 145 [some (.ref u), l1, l2, l3, l4, l5, l6, l7, l8] (.ref u :: st) H Q := G_aload_n fX9_multiply_144 rfl
theorem fX9_multiply_145 : ft 152 145 = some (.iload_n 1, 0, 0, 0, .null) := by decide +kernel
theorem gX9_multiply_145 {l0 l2 l3 l4 l5 l6 l7 l8 : Option Value} {u : Int32} {st : List Value} {H : HP} {Q : Option Value → HP → Prop} : Go 152 145 [l0, some (.int u), l2, l3, l4, l5, l6, l7, l8] st H Q ↔ Go 152 146 [l0, some (.int u), l2, l3, l4, l5, l6, l7, l8] (.int u :: st) H Q := G_iload_n fX9_multiply_145 rfl
theorem fX9_multiply_146 : ft 152 146 = some (.invokevirtual 100, 124, 0, 867, .null) := by decide +kernel
theorem gX9_multiply_146 {L : List (Option Value)} {p : Nat} {a0 : Int32} {r0 : Int32} {H : HP} {Q : Option Value → HP → Prop} : Go 152 146 L (.int a0 :: .ref p :: [.int r0]) H Q ↔ (iso 9 (hget H p) = true ∧ Go 124 0 [some (.ref p), some (.int a0)] [] H (Cont 152 149 L [.int r0] Q)) := G_cV (n := 1) (N := 2) (as := [.int a0]) (st := [.int r0]) fX9_multiply_146 (by decide +kernel) rfl (Nat.le_of_ble_eq_true rfl) (Nat.le_of_ble_eq_true rfl) rfl
theorem fX9_multiply_149 : ft 152 149 = some (.if_icmp .ge 52, 0, 0, 0, .null) := by decide +kernel
theorem gX9_multiply_149T {L : List (Option Value)} {a b : Int} (c : (-2147483648 ≤ a ∧ a ≤ 2147483647 ∧ -2147483648 ≤ b ∧ b ≤ 2147483647) ∧ b ≤ a) {st : List Value} {H : HP} {Q : Option Value → HP → Prop} : Go 152 149 L (vi b :: vi a :: st) H Q ↔ Go 152 201 L st H Q := G_icT fX9_multiply_149 (by decide) c
theorem gX9_multiply_149F {L : List (Option Value)} {a b : Int} (c : (-2147483648 ≤ a ∧ a ≤ 2147483647 ∧ -2147483648 ≤ b ∧ b ≤ 2147483647) ∧ ¬ (b ≤ a)) {st : List Value} {H : HP} {Q : Option Value → HP → Prop} : Go 152 149 L (vi b :: vi a :: st) H Q ↔ Go 152 152 L st H Q := G_icF (tg := 201) fX9_multiply_149 (by decide) c
theorem fX9_multiply_152 : ft 152 152 = some (.iconst 0, 0, 0, 0, .null) := by decide +kernel
theorem gX9_multiply_152 {L : List (Option Value)} {st : List Value} {H : HP} {Q : Option Value → HP → Prop} : Go 152 152 L st H Q ↔ Go 152 153 L (vi 0 :: st) H Q := G_iconst fX9_multiply_152
theorem fX9_multiply_153 : ft 152 153 = some (.istore 8, 0, 0, 0, .null) := by decide +kernel
theorem gX9_multiply_153 {l0 l1 l2 l3 l4 l5 l6 l7 l8 : Option Value} {u : Int32} {st : List Value} {H : HP} {Q : Option Value → HP → Prop} : Go 152 153 [l0, l1, l2, l3, l4, l5, l6, l7, l8] (.int u :: st) H Q ↔ Go 152 155 [l0, l1, l2, l3, l4, l5, l6, l7, some (.int u)] st H Q := G_istore fX9_multiply_153 rfl
theorem fX9_multiply_155 : ft 152 155 = some (.iload 8, 0, 0, 0, .null) := by decide +kernel
theorem gX9_multiply_155 {l0 l1 l2 l3 l4 l5 l6 l7 : Option Value} {u : Int32} {st : List Value} {H : HP} {Q : Option Value → HP → Prop} : Go 152 155 [l0, l1, l2, l3, l4, l5, l6, l7, some (.int u)] st H Q ↔ Go 152 157 [l0, l1, l2, l3, l4, l5, l6, l7, some (.int u)] (.int u :: st) H Q := G_iload fX9_multiply_155 rfl
theorem fX9_multiply_157 : ft 152 157 = some (.aload_n 0, 0, 0, 0, .null) := by decide +kernel
theorem gX9_multiply_157 {l1 l2 l3 l4 l5 l6 l7 l8 : Option Value} {u : Nat} {st : List Value} {H : HP} {Q : Option Value → HP → Prop} : Go 152 157 [some (.ref u), l1, l2, l3, l4, l5, l6, l7, l8] st H Q ↔ Go 152 158 [some (.ref u), l1, l2, l3, l4, l5, l6, l7, l8] (.ref u :: st) H Q := G_aload_n fX9_multiply_157 rfl
theorem fX9_multiply_158 : ft 152 158 = some (.iload_n 2, 0, 0, 0, .null) := by decide +kernel
theorem gX9_multiply_158 {l0 l1 l3 l4 l5 l6 l7 l8 : Option Value} {u : Int32} {st : List Value} {H : HP} {Q : Option Value → HP → Prop} : Go 152 158 [l0, l1, some (.int u), l3, l4, l5, l6, l7, l8] st H Q ↔ Go 152 159 [l0, l1, some (.int u), l3, l4, l5, l6, l7, l8] (.int u :: st) H Q := G_iload_n fX9_multiply_158 rfl
theorem fX9_multiply_159 : ft 152 159 = some (.invokevirtual 100, 124, 0, 867, .null) := by decide +kernel
theorem gX9_multiply_159 {L : List (Option Value)} {p : Nat} {a0 : Int32} {r0 : Int32} {H : HP} {Q : Option Value → HP → Prop} : Go 152 159 L (.int a0 :: .ref p :: [.int r0]) H Q ↔ (iso 9 (hget H p) = true ∧ Go 124 0 [some (.ref p), some (.int a0)] [] H (Cont 152 162 L [.int r0] Q)) := G_cV (n := 1) (N := 2) (as := [.int a0]) (st := [.int r0]) fX9_multiply_159 (by decide +kernel) rfl (Nat.le_of_ble_eq_true rfl) (Nat.le_of_ble_eq_true rfl) rfl
theorem fX9_multiply_162 : ft 152 162 = some (.if_icmp .ge 33, 0, 0, 0, .null) := by decide +kernel
theorem gX9_multiply_162T {L : List (Option Value)} {a b : Int} (c : (-2147483648 ≤ a ∧ a ≤ 2147483647 ∧ -2147483648 ≤ b ∧ b ≤ 2147483647) ∧ b ≤ a) {st : List Value} {H : HP} {Q : Option Value → HP → Prop} : Go 152 162 L (vi b :: vi a :: st) H Q ↔ Go 152 195 L st H Q := G_icT fX9_multiply_162 (by decide) c
theorem gX9_multiply_162F {L : List (Option Value)} {a b : Int} (c : (-2147483648 ≤ a ∧ a ≤ 2147483647 ∧ -2147483648 ≤ b ∧ b ≤ 2147483647) ∧ ¬ (b ≤ a)) {st : List Value} {H : HP} {Q : Option Value → HP → Prop} : Go 152 162 L (vi b :: vi a :: st) H Q ↔ Go 152 165 L st H Q := G_icF (tg := 195) fX9_multiply_162 (by decide) c
theorem fX9_multiply_165 : ft 152 165 = some (.aload_n 0, 0, 0, 0, .null) := by decide +kernel
theorem gX9_multiply_165 {l1 l2 l3 l4 l5 l6 l7 l8 : Option Value} {u : Nat} {st : List Value} {H : HP} {Q : Option Value → HP → Prop} : Go 152 165 [some (.ref u), l1, l2, l3, l4, l5, l6, l7, l8] st H Q ↔ Go 152 166 [some (.ref u), l1, l2, l3, l4, l5, l6, l7, l8] (.ref u :: st) H Q := G_aload_n fX9_multiply_165 rfl
theorem fX9_multiply_166 : ft 152 166 = some (.iload 7, 0, 0, 0, .null) := by decide +kernel
theorem gX9_multiply_166 {l0 l1 l2 l3 l4 l5 l6 l8 : Option Value} {u : Int32} {st : List Value} {H : HP} {Q : Option Value → HP → Prop} : Go 152 166 [l0, l1, l2, l3, l4, l5, l6, some (.int u), l8] st H Q ↔ Go 152 168 [l0, l1, l2, l3, l4, l5, l6, some (.int u), l8] (.int u :: st) H Q := G_iload fX9_multiply_166 rfl
theorem fX9_multiply_168 : ft 152 168 = some (.iload 8, 0, 0, 0, .null) := by decide +kernel
theorem gX9_multiply_168 {l0 l1 l2 l3 l4 l5 l6 l7 : Option Value} {u : Int32} {st : List Value} {H : HP} {Q : Option Value → HP → Prop} : Go 152 168 [l0, l1, l2, l3, l4, l5, l6, l7, some (.int u)] st H Q ↔ Go 152 170 [l0, l1, l2, l3, l4, l5, l6, l7, some (.int u)] (.int u :: st) H Q := G_iload fX9_multiply_168 rfl
theorem fX9_multiply_170 : ft 152 170 = some (.iadd, 0, 0, 0, .null) := by decide +kernel
theorem gX9_multiply_170 {L : List (Option Value)} {a b : Int} {st : List Value} {H : HP} {Q : Option Value → HP → Prop} : Go 152 170 L (vi b :: vi a :: st) H Q ↔ Go 152 171 L (vi (a + b) :: st) H Q := G_iadd fX9_multiply_170
theorem fX9_multiply_171 : ft 152 171 = some (.aload_n 0, 0, 0, 0, .null) := by decide +kernel
theorem gX9_multiply_171 {l1 l2 l3 l4 l5 l6 l7 l8 : Option Value} {u : Nat} {st : List Value} {H : HP} {Q : Option Value → HP → Prop} : Go 152 171 [some (.ref u), l1, l2, l3, l4, l5, l6, l7, l8] st H Q ↔ Go 152 172 [some (.ref u), l1, l2, l3, l4, l5, l6, l7, l8] (.ref u :: st) H Q := G_aload_n fX9_multiply_171 rfl
theorem fX9_multiply_172 : ft 152 172 = some (.iload_n 1, 0, 0, 0, .null) := by decide +kernel
theorem gX9_multiply_172 {l0 l2 l3 l4 l5 l6 l7 l8 : Option Value} {u : Int32} {st : List Value} {H : HP} {Q : Option Value → HP → Prop} : Go 152 172 [l0, some (.int u), l2, l3, l4, l5, l6, l7, l8] st H Q ↔ Go 152 173 [l0, some (.int u), l2, l3, l4, l5, l6, l7, l8] (.int u :: st) H Q := G_iload_n fX9_multiply_172 rfl
theorem fX9_multiply_173 : ft 152 173 = some (.iload 7, 0, 0, 0, .null) := by decide +kernel
theorem gX9_multiply_173 {l0 l1 l2 l3 l4 l5 l6 l8 : Option Value} {u : Int32} {st : List Value} {H : HP} {Q : Option Value → HP → Prop} : Go 152 173 [l0, l1, l2, l3, l4, l5, l6, some (.int u), l8] st H Q ↔ Go 152 175 [l0, l1, l2, l3, l4, l5, l6, some (.int u), l8] (.int u :: st) H Q := G_iload fX9_multiply_173 rfl
theorem fX9_multiply_175 : ft 152 175 = some (.invokevirtual 117, 123, 0, 888, .null) := by decide +kernel
theorem gX9_multiply_175 {L : List (Option Value)} {p : Nat} {a0 : Int32} {a1 : Int32} {r0 : Int32} {r1 : Nat} {H : HP} {Q : Option Value → HP → Prop} : Go 152 175 L (.int a1 :: .int a0 :: .ref p :: [.int r0, .ref r1]) H Q ↔ (iso 9 (hget H p) = true ∧ Go 123 0 [some (.ref p), some (.int a0), some (.int a1)] [] H (Cont 152 178 L [.int r0, .ref r1] Q)) := G_cV (n := 2) (N := 3) (as := [.int a1, .int a0]) (st := [.int r0, .ref r1]) fX9_multiply_175 (by decide +kernel) rfl (Nat.le_of_ble_eq_true rfl) (Nat.le_of_ble_eq_true rfl) rfl
theorem fX9_multiply_178 : ft 152 178 = some (.aload_n 0, 0, 0, 0, .null) := by decide +kernel
theorem gX9_multiply_178 {l1 l2 l3 l4 l5 l6 l7 l8 : Option Value} {u : Nat} {st : List Value} {H : HP} {Q : Option Value → HP → Prop} : Go 152 178 [some (.ref u), l1, l2, l3, l4, l5, l6, l7, l8] st H Q ↔ Go 152 179 [some (.ref u), l1, l2, l3, l4, l5, l6, l7, l8] (.ref u :: st) H Q := G_aload_n fX9_multiply_178 rfl
theorem fX9_multiply_179 : ft 152 179 = some (.iload_n 2, 0, 0, 0, .null) := by decide +kernel
theorem gX9_multiply_179 {l0 l1 l3 l4 l5 l6 l7 l8 : Option Value} {u : Int32} {st : List Value} {H : HP} {Q : Option Value → HP → Prop} : Go 152 179 [l0, l1, some (.int u), l3, l4, l5, l6, l7, l8] st H Q ↔ Go 152 180 [l0, l1, some (.int u), l3, l4, l5, l6, l7, l8] (.int u :: st) H Q := G_iload_n fX9_multiply_179 rfl
theorem fX9_multiply_180 : ft 152 180 = some (.iload 8, 0, 0, 0, .null) := by decide +kernel
theorem gX9_multiply_180 {l0 l1 l2 l3 l4 l5 l6 l7 : Option Value} {u : Int32} {st : List Value} {H : HP} {Q : Option Value → HP → Prop} : Go 152 180 [l0, l1, l2, l3, l4, l5, l6, l7, some (.int u)] st H Q ↔ Go 152 182 [l0, l1, l2, l3, l4, l5, l6, l7, some (.int u)] (.int u :: st) H Q := G_iload fX9_multiply_180 rfl
theorem fX9_multiply_182 : ft 152 182 = some (.invokevirtual 117, 123, 0, 888, .null) := by decide +kernel
theorem gX9_multiply_182 {L : List (Option Value)} {p : Nat} {a0 : Int32} {a1 : Int32} {r0 : Int64} {r1 : Int32} {r2 : Nat} {H : HP} {Q : Option Value → HP → Prop} : Go 152 182 L (.int a1 :: .int a0 :: .ref p :: [.long r0, .int r1, .ref r2]) H Q ↔ (iso 9 (hget H p) = true ∧ Go 123 0 [some (.ref p), some (.int a0), some (.int a1)] [] H (Cont 152 185 L [.long r0, .int r1, .ref r2] Q)) := G_cV (n := 2) (N := 3) (as := [.int a1, .int a0]) (st := [.long r0, .int r1, .ref r2]) fX9_multiply_182 (by decide +kernel) rfl (Nat.le_of_ble_eq_true rfl) (Nat.le_of_ble_eq_true rfl) rfl
theorem fX9_multiply_185 : ft 152 185 = some (.lmul, 0, 0, 0, .null) := by decide +kernel
theorem gX9_multiply_185 {L : List (Option Value)} {a b : Int} {st : List Value} {H : HP} {Q : Option Value → HP → Prop} : Go 152 185 L (vl b :: vl a :: st) H Q ↔ Go 152 186 L (vl (a * b) :: st) H Q := G_lmul fX9_multiply_185
theorem fX9_multiply_186 : ft 152 186 = some (.invokevirtual 178, 149, 0, 975, .null) := by decide +kernel
theorem gX9_multiply_186 {L : List (Option Value)} {p : Nat} {a0 : Int32} {a1 : Int64}  {H : HP} {Q : Option Value → HP → Prop} : Go 152 186 L (.long a1 :: .int a0 :: .ref p :: []) H Q ↔ (iso 9 (hget H p) = true ∧ Go 149 0 [some (.ref p), some (.int a0), some (.long a1), none, none, none] [] H (Cont 152 189 L [] Q)) := G_cV (n := 2) (N := 6) (as := [.long a1, .int a0]) (st := []) fX9_multiply_186 (by decide +kernel) rfl (Nat.le_of_ble_eq_true rfl) (Nat.le_of_ble_eq_true rfl) rfl
theorem fX9_multiply_189 : ft 152 189 = some (.iinc 8 1, 0, 0, 0, .null) := by decide +kernel
theorem gX9_multiply_189 {l0 l1 l2 l3 l4 l5 l6 l7 : Option Value} {a : Int} {st : List Value} {H : HP} {Q : Option Value → HP → Prop} : Go 152 189 [l0, l1, l2, l3, l4, l5, l6, l7, some (vi a)] st H Q ↔ Go 152 192 [l0, l1, l2, l3, l4, l5, l6, l7, some (vi (a + 1))] st H Q := G_iinc fX9_multiply_189 rfl rfl
theorem fX9_multiply_192 : ft 152 192 = some (.goto (-37), 0, 0, 0, .null) := by decide +kernel
theorem gX9_multiply_192 {L : List (Option Value)} {st : List Value} {H : HP} {Q : Option Value → HP → Prop} : Go 152 192 L st H Q ↔ Go 152 155 L st H Q := G_goto fX9_multiply_192 (by decide)
theorem fX9_multiply_195 : ft 152 195 = some (.iinc 7 1, 0, 0, 0, .null) := by decide +kernel
theorem gX9_multiply_195 {l0 l1 l2 l3 l4 l5 l6 l8 : Option Value} {a : Int} {st : List Value} {H : HP} {Q : Option Value → HP → Prop} : Go 152 195 [l0, l1, l2, l3, l4, l5, l6, some (vi a), l8] st H Q ↔ Go 152 198 [l0, l1, l2, l3, l4, l5, l6, some (vi (a + 1)), l8] st H Q := G_iinc fX9_multiply_195 rfl rfl
theorem fX9_multiply_198 : ft 152 198 = some (.goto (-56), 0, 0, 0, .null) := by decide +kernel
theorem gX9_multiply_198 {L : List (Option Value)} {st : List Value} {H : HP} {Q : Option Value → HP → Prop} : Go 152 198 L st H Q ↔ Go 152 142 L st H Q := G_goto fX9_multiply_198 (by decide)
theorem fX9_multiply_201 : ft 152 201 = some (.aload_n 0, 0, 0, 0, .null) := by decide +kernel
theorem gX9_multiply_201 {l1 l2 l3 l4 l5 l6 l7 l8 : Option Value} {u : Nat} {st : List Value} {H : HP} {Q : Option Value → HP → Prop} : Go 152 201 [some (.ref u), l1, l2, l3, l4, l5, l6, l7, l8] st H Q ↔ Go 152 202 [some (.ref u), l1, l2, l3, l4, l5, l6, l7, l8] (.ref u :: st) H Q := G_aload_n fX9_multiply_201 rfl
theorem fX9_multiply_202 : ft 152 202 = some (.getfield 163, 9, 8, 762, .null) := by decide +kernel
theorem gX9_multiply_202 {L : List (Option Value)} {p : Nat} {st : List Value} {H : HP} {Q : Option Value → HP → Prop} : Go 152 202 L (.ref p :: st) H Q ↔ Rd (gF' 9 8 (hget H p)) 152 205 L st H Q := G_getf fX9_multiply_202 ⟨rfl, rfl⟩
theorem fX9_multiply_205 : ft 152 205 = some (.ireturn, 0, 0, 0, .null) := by decide +kernel
theorem gX9_multiply_205 {L : List (Option Value)} {u : Int32} {H : HP} {Q : Option Value → HP → Prop} : Go 152 205 L [.int u] H Q ↔ Q (some (.int u)) H := G_iret fX9_multiply_205 (by decide +kernel)
theorem fX9_circular_0 : ft 153 0 = some (.aload_n 0, 0, 0, 0, .null) := by decide +kernel
theorem gX9_circular_0 {l1 l2 l3 l4 l5 l6 : Option Value} {u : Nat} {st : List Value} {H : HP} {Q : Option Value → HP → Prop} : Go 153 0 [some (.ref u), l1, l2, l3, l4, l5, l6] st H Q ↔ Go 153 1 [some (.ref u), l1, l2, l3, l4, l5, l6] (.ref u :: st) H Q := G_aload_n fX9_circular_0 rfl
theorem fX9_circular_1 : ft 153 1 = some (.iconst 0, 0, 0, 0, .null) := by decide +kernel
theorem gX9_circular_1 {L : List (Option Value)} {st : List Value} {H : HP} {Q : Option Value → HP → Prop} : Go 153 1 L st H Q ↔ Go 153 2 L (vi 0 :: st) H Q := G_iconst fX9_circular_1
theorem fX9_circular_2 : ft 153 2 = some (.putfield 72, 9, 0, 754, .null) := by decide +kernel
theorem gX9_circular_2 {L : List (Option Value)} {p : Nat} {u : Int32} (hp : p ≠ 0) {st : List Value} {H : HP} {Q : Option Value → HP → Prop} : Go 153 2 L (.int u :: .ref p :: st) H Q ↔ Wr (pF' 9 0 (hget H p) (.int u)) p 153 5 L st H Q := G_putf fX9_circular_2 ⟨⟨rfl, rfl⟩, rfl, Or.inl rfl⟩ hp
theorem fX9_circular_5 : ft 153 5 = some (.iload_n 1, 0, 0, 0, .null) := by decide +kernel
theorem gX9_circular_5 {l0 l2 l3 l4 l5 l6 : Option Value} {u : Int32} {st : List Value} {H : HP} {Q : Option Value → HP → Prop} : Go 153 5 [l0, some (.int u), l2, l3, l4, l5, l6] st H Q ↔ Go 153 6 [l0, some (.int u), l2, l3, l4, l5, l6] (.int u :: st) H Q := G_iload_n fX9_circular_5 rfl
theorem fX9_circular_6 : ft 153 6 = some (.invokestatic 85, 119, 0, 841, .null) := by decide +kernel
theorem gX9_circular_6 {L : List (Option Value)} {a0 : Int32}  {H : HP} {Q : Option Value → HP → Prop} : Go 153 6 L (.int a0 :: []) H Q ↔ Go 119 0 [some (.int a0)] [] H (Cont 153 9 L [] Q) := G_cS (n := 1) (N := 1) (as := [.int a0]) (st := []) fX9_circular_6 (by decide +kernel) rfl (Nat.le_of_ble_eq_true rfl) (Nat.le_of_ble_eq_true rfl) rfl
theorem fX9_circular_9 : ft 153 9 = some (.ifCond .eq 10, 0, 0, 0, .null) := by decide +kernel
theorem gX9_circular_9T {L : List (Option Value)} {a : Int} (c : (-2147483648 ≤ a ∧ a ≤ 2147483647) ∧ a = 0) {st : List Value} {H : HP} {Q : Option Value → HP → Prop} : Go 153 9 L (vi a :: st) H Q ↔ Go 153 19 L st H Q := G_ifT fX9_circular_9 (by decide) c
theorem gX9_circular_9F {L : List (Option Value)} {a : Int} (c : (-2147483648 ≤ a ∧ a ≤ 2147483647) ∧ ¬ (a = 0)) {st : List Value} {H : HP} {Q : Option Value → HP → Prop} : Go 153 9 L (vi a :: st) H Q ↔ Go 153 12 L st H Q := G_ifF (tg := 19) fX9_circular_9 (by decide) c
theorem fX9_circular_12 : ft 153 12 = some (.iload_n 2, 0, 0, 0, .null) := by decide +kernel
theorem gX9_circular_12 {l0 l1 l3 l4 l5 l6 : Option Value} {u : Int32} {st : List Value} {H : HP} {Q : Option Value → HP → Prop} : Go 153 12 [l0, l1, some (.int u), l3, l4, l5, l6] st H Q ↔ Go 153 13 [l0, l1, some (.int u), l3, l4, l5, l6] (.int u :: st) H Q := G_iload_n fX9_circular_12 rfl
theorem fX9_circular_13 : ft 153 13 = some (.invokestatic 85, 119, 0, 841, .null) := by decide +kernel
theorem gX9_circular_13 {L : List (Option Value)} {a0 : Int32}  {H : HP} {Q : Option Value → HP → Prop} : Go 153 13 L (.int a0 :: []) H Q ↔ Go 119 0 [some (.int a0)] [] H (Cont 153 16 L [] Q) := G_cS (n := 1) (N := 1) (as := [.int a0]) (st := []) fX9_circular_13 (by decide +kernel) rfl (Nat.le_of_ble_eq_true rfl) (Nat.le_of_ble_eq_true rfl) rfl
theorem fX9_circular_16 : ft 153 16 = some (.ifCond .ne 5, 0, 0, 0, .null) := by decide +kernel
theorem gX9_circular_16T {L : List (Option Value)} {a : Int} (c : (-2147483648 ≤ a ∧ a ≤ 2147483647) ∧ ¬ a = 0) {st : List Value} {H : HP} {Q : Option Value → HP → Prop} : Go 153 16 L (vi a :: st) H Q ↔ Go 153 21 L st H Q := G_ifT fX9_circular_16 (by decide) c
theorem gX9_circular_16F {L : List (Option Value)} {a : Int} (c : (-2147483648 ≤ a ∧ a ≤ 2147483647) ∧ ¬ (¬ a = 0)) {st : List Value} {H : HP} {Q : Option Value → HP → Prop} : Go 153 16 L (vi a :: st) H Q ↔ Go 153 19 L st H Q := G_ifF (tg := 21) fX9_circular_16 (by decide) c
theorem fX9_circular_19 : ft 153 19 = some (.iconst (-1), 0, 0, 0, .null) := by decide +kernel
theorem gX9_circular_19 {L : List (Option Value)} {st : List Value} {H : HP} {Q : Option Value → HP → Prop} : Go 153 19 L st H Q ↔ Go 153 20 L (vi (-1) :: st) H Q := G_iconst fX9_circular_19
theorem fX9_circular_20 : ft 153 20 = some (.ireturn, 0, 0, 0, .null) := by decide +kernel
theorem gX9_circular_20 {L : List (Option Value)} {u : Int32} {H : HP} {Q : Option Value → HP → Prop} : Go 153 20 L [.int u] H Q ↔ Q (some (.int u)) H := G_iret fX9_circular_20 (by decide +kernel)
theorem fX9_circular_21 : ft 153 21 = some (.iload_n 3, 0, 0, 0, .null) := by decide +kernel
theorem gX9_circular_21 {l0 l1 l2 l4 l5 l6 : Option Value} {u : Int32} {st : List Value} {H : HP} {Q : Option Value → HP → Prop} : Go 153 21 [l0, l1, l2, some (.int u), l4, l5, l6] st H Q ↔ Go 153 22 [l0, l1, l2, some (.int u), l4, l5, l6] (.int u :: st) H Q := G_iload_n fX9_circular_21 rfl
theorem fX9_circular_22 : ft 153 22 = some (.iconst 1, 0, 0, 0, .null) := by decide +kernel
theorem gX9_circular_22 {L : List (Option Value)} {st : List Value} {H : HP} {Q : Option Value → HP → Prop} : Go 153 22 L st H Q ↔ Go 153 23 L (vi 1 :: st) H Q := G_iconst fX9_circular_22
theorem fX9_circular_23 : ft 153 23 = some (.bipush 64, 0, 0, 0, .null) := by decide +kernel
theorem gX9_circular_23 {L : List (Option Value)} {st : List Value} {H : HP} {Q : Option Value → HP → Prop} : Go 153 23 L st H Q ↔ Go 153 25 L (vi 64 :: st) H Q := G_bipush fX9_circular_23 (by decide)
theorem fX9_circular_25 : ft 153 25 = some (.invokestatic 75, 118, 0, 844, .null) := by decide +kernel
theorem gX9_circular_25 {L : List (Option Value)} {a0 : Int32} {a1 : Int32} {a2 : Int32}  {H : HP} {Q : Option Value → HP → Prop} : Go 153 25 L (.int a2 :: .int a1 :: .int a0 :: []) H Q ↔ Go 118 0 [some (.int a0), some (.int a1), some (.int a2)] [] H (Cont 153 28 L [] Q) := G_cS (n := 3) (N := 3) (as := [.int a2, .int a1, .int a0]) (st := []) fX9_circular_25 (by decide +kernel) rfl (Nat.le_of_ble_eq_true rfl) (Nat.le_of_ble_eq_true rfl) rfl
theorem fX9_circular_28 : ft 153 28 = some (.ifCond .ne 6, 0, 0, 0, .null) := by decide +kernel
theorem gX9_circular_28T {L : List (Option Value)} {a : Int} (c : (-2147483648 ≤ a ∧ a ≤ 2147483647) ∧ ¬ a = 0) {st : List Value} {H : HP} {Q : Option Value → HP → Prop} : Go 153 28 L (vi a :: st) H Q ↔ Go 153 34 L st H Q := G_ifT fX9_circular_28 (by decide) c
theorem gX9_circular_28F {L : List (Option Value)} {a : Int} (c : (-2147483648 ≤ a ∧ a ≤ 2147483647) ∧ ¬ (¬ a = 0)) {st : List Value} {H : HP} {Q : Option Value → HP → Prop} : Go 153 28 L (vi a :: st) H Q ↔ Go 153 31 L st H Q := G_ifF (tg := 34) fX9_circular_28 (by decide) c
theorem fX9_circular_31 : ft 153 31 = some (.bipush (-2), 0, 0, 0, .null) := by decide +kernel
theorem gX9_circular_31 {L : List (Option Value)} {st : List Value} {H : HP} {Q : Option Value → HP → Prop} : Go 153 31 L st H Q ↔ Go 153 33 L (vi (-2) :: st) H Q := G_bipush fX9_circular_31 (by decide)
theorem fX9_circular_33 : ft 153 33 = some (.ireturn, 0, 0, 0, .null) := by decide +kernel
theorem gX9_circular_33 {L : List (Option Value)} {u : Int32} {H : HP} {Q : Option Value → HP → Prop} : Go 153 33 L [.int u] H Q ↔ Q (some (.int u)) H := G_iret fX9_circular_33 (by decide +kernel)
theorem fX9_circular_34 : ft 153 34 = some (.aload_n 0, 0, 0, 0, .null) := by decide +kernel
theorem gX9_circular_34 {l1 l2 l3 l4 l5 l6 : Option Value} {u : Nat} {st : List Value} {H : HP} {Q : Option Value → HP → Prop} : Go 153 34 [some (.ref u), l1, l2, l3, l4, l5, l6] st H Q ↔ Go 153 35 [some (.ref u), l1, l2, l3, l4, l5, l6] (.ref u :: st) H Q := G_aload_n fX9_circular_34 rfl
theorem fX9_circular_35 : ft 153 35 = some (.iload_n 1, 0, 0, 0, .null) := by decide +kernel
theorem gX9_circular_35 {l0 l2 l3 l4 l5 l6 : Option Value} {u : Int32} {st : List Value} {H : HP} {Q : Option Value → HP → Prop} : Go 153 35 [l0, some (.int u), l2, l3, l4, l5, l6] st H Q ↔ Go 153 36 [l0, some (.int u), l2, l3, l4, l5, l6] (.int u :: st) H Q := G_iload_n fX9_circular_35 rfl
theorem fX9_circular_36 : ft 153 36 = some (.iload_n 2, 0, 0, 0, .null) := by decide +kernel
theorem gX9_circular_36 {l0 l1 l3 l4 l5 l6 : Option Value} {u : Int32} {st : List Value} {H : HP} {Q : Option Value → HP → Prop} : Go 153 36 [l0, l1, some (.int u), l3, l4, l5, l6] st H Q ↔ Go 153 37 [l0, l1, some (.int u), l3, l4, l5, l6] (.int u :: st) H Q := G_iload_n fX9_circular_36 rfl
theorem fX9_circular_37 : ft 153 37 = some (.invokevirtual 168, 150, 0, 963, .null) := by decide +kernel
theorem gX9_circular_37 {L : List (Option Value)} {p : Nat} {a0 : Int32} {a1 : Int32}  {H : HP} {Q : Option Value → HP → Prop} : Go 153 37 L (.int a1 :: .int a0 :: .ref p :: []) H Q ↔ (iso 9 (hget H p) = true ∧ Go 150 0 [some (.ref p), some (.int a0), some (.int a1)] [] H (Cont 153 40 L [] Q)) := G_cV (n := 2) (N := 3) (as := [.int a1, .int a0]) (st := []) fX9_circular_37 (by decide +kernel) rfl (Nat.le_of_ble_eq_true rfl) (Nat.le_of_ble_eq_true rfl) rfl
theorem fX9_circular_40 : ft 153 40 = some (.istore 4, 0, 0, 0, .null) := by decide +kernel
theorem gX9_circular_40 {l0 l1 l2 l3 l4 l5 l6 : Option Value} {u : Int32} {st : List Value} {H : HP} {Q : Option Value → HP → Prop} : Go 153 40 [l0, l1, l2, l3, l4, l5, l6] (.int u :: st) H Q ↔ Go 153 42 [l0, l1, l2, l3, some (.int u), l5, l6] st H Q := G_istore fX9_circular_40 rfl
theorem fX9_circular_42 : ft 153 42 = some (.iload 4, 0, 0, 0, .null) := by decide +kernel
theorem gX9_circular_42 {l0 l1 l2 l3 l5 l6 : Option Value} {u : Int32} {st : List Value} {H : HP} {Q : Option Value → HP → Prop} : Go 153 42 [l0, l1, l2, l3, some (.int u), l5, l6] st H Q ↔ Go 153 44 [l0, l1, l2, l3, some (.int u), l5, l6] (.int u :: st) H Q := G_iload fX9_circular_42 rfl
theorem fX9_circular_44 : ft 153 44 = some (.ifCond .eq 6, 0, 0, 0, .null) := by decide +kernel
theorem gX9_circular_44T {L : List (Option Value)} {a : Int} (c : (-2147483648 ≤ a ∧ a ≤ 2147483647) ∧ a = 0) {st : List Value} {H : HP} {Q : Option Value → HP → Prop} : Go 153 44 L (vi a :: st) H Q ↔ Go 153 50 L st H Q := G_ifT fX9_circular_44 (by decide) c
theorem gX9_circular_44F {L : List (Option Value)} {a : Int} (c : (-2147483648 ≤ a ∧ a ≤ 2147483647) ∧ ¬ (a = 0)) {st : List Value} {H : HP} {Q : Option Value → HP → Prop} : Go 153 44 L (vi a :: st) H Q ↔ Go 153 47 L st H Q := G_ifF (tg := 50) fX9_circular_44 (by decide) c
theorem fX9_circular_47 : ft 153 47 = some (.iload 4, 0, 0, 0, .null) := by decide +kernel
theorem gX9_circular_47 {l0 l1 l2 l3 l5 l6 : Option Value} {u : Int32} {st : List Value} {H : HP} {Q : Option Value → HP → Prop} : Go 153 47 [l0, l1, l2, l3, some (.int u), l5, l6] st H Q ↔ Go 153 49 [l0, l1, l2, l3, some (.int u), l5, l6] (.int u :: st) H Q := G_iload fX9_circular_47 rfl
theorem fX9_circular_49 : ft 153 49 = some (.ireturn, 0, 0, 0, .null) := by decide +kernel
theorem gX9_circular_49 {L : List (Option Value)} {u : Int32} {H : HP} {Q : Option Value → HP → Prop} : Go 153 49 L [.int u] H Q ↔ Q (some (.int u)) H := G_iret fX9_circular_49 (by decide +kernel)
theorem fX9_circular_50 : ft 153 50 = some (.aload_n 0, 0, 0, 0, .null) := by decide +kernel
theorem gX9_circular_50 {l1 l2 l3 l4 l5 l6 : Option Value} {u : Nat} {st : List Value} {H : HP} {Q : Option Value → HP → Prop} : Go 153 50 [some (.ref u), l1, l2, l3, l4, l5, l6] st H Q ↔ Go 153 51 [some (.ref u), l1, l2, l3, l4, l5, l6] (.ref u :: st) H Q := G_aload_n fX9_circular_50 rfl
theorem fX9_circular_51 : ft 153 51 = some (.iload_n 3, 0, 0, 0, .null) := by decide +kernel
theorem gX9_circular_51 {l0 l1 l2 l4 l5 l6 : Option Value} {u : Int32} {st : List Value} {H : HP} {Q : Option Value → HP → Prop} : Go 153 51 [l0, l1, l2, some (.int u), l4, l5, l6] st H Q ↔ Go 153 52 [l0, l1, l2, some (.int u), l4, l5, l6] (.int u :: st) H Q := G_iload_n fX9_circular_51 rfl
theorem fX9_circular_52 : ft 153 52 = some (.invokevirtual 175, 148, 0, 971, .null) := by decide +kernel
theorem gX9_circular_52 {L : List (Option Value)} {p : Nat} {a0 : Int32}  {H : HP} {Q : Option Value → HP → Prop} : Go 153 52 L (.int a0 :: .ref p :: []) H Q ↔ (iso 9 (hget H p) = true ∧ Go 148 0 [some (.ref p), some (.int a0), none] [] H (Cont 153 55 L [] Q)) := G_cV (n := 1) (N := 3) (as := [.int a0]) (st := []) fX9_circular_52 (by decide +kernel) rfl (Nat.le_of_ble_eq_true rfl) (Nat.le_of_ble_eq_true rfl) rfl
theorem fX9_circular_55 : ft 153 55 = some (.iconst 0, 0, 0, 0, .null) := by decide +kernel
theorem gX9_circular_55 {L : List (Option Value)} {st : List Value} {H : HP} {Q : Option Value → HP → Prop} : Go 153 55 L st H Q ↔ Go 153 56 L (vi 0 :: st) H Q := G_iconst fX9_circular_55
theorem fX9_circular_56 : ft 153 56 = some (.istore 5, 0, 0, 0, .null) := by decide +kernel
theorem gX9_circular_56 {l0 l1 l2 l3 l4 l5 l6 : Option Value} {u : Int32} {st : List Value} {H : HP} {Q : Option Value → HP → Prop} : Go 153 56 [l0, l1, l2, l3, l4, l5, l6] (.int u :: st) H Q ↔ Go 153 58 [l0, l1, l2, l3, l4, some (.int u), l6] st H Q := G_istore fX9_circular_56 rfl
theorem fX9_circular_58 : ft 153 58 = some (.iload 5, 0, 0, 0, .null) := by decide +kernel
theorem gX9_circular_58 {l0 l1 l2 l3 l4 l6 : Option Value} {u : Int32} {st : List Value} {H : HP} {Q : Option Value → HP → Prop} : Go 153 58 [l0, l1, l2, l3, l4, some (.int u), l6] st H Q ↔ Go 153 60 [l0, l1, l2, l3, l4, some (.int u), l6] (.int u :: st) H Q := G_iload fX9_circular_58 rfl
theorem fX9_circular_60 : ft 153 60 = some (.aload_n 0, 0, 0, 0, .null) := by decide +kernel
theorem gX9_circular_60 {l1 l2 l3 l4 l5 l6 : Option Value} {u : Nat} {st : List Value} {H : HP} {Q : Option Value → HP → Prop} : Go 153 60 [some (.ref u), l1, l2, l3, l4, l5, l6] st H Q ↔ Go 153 61 [some (.ref u), l1, l2, l3, l4, l5, l6] (.ref u :: st) H Q := G_aload_n fX9_circular_60 rfl
theorem fX9_circular_61 : ft 153 61 = some (.iload_n 1, 0, 0, 0, .null) := by decide +kernel
theorem gX9_circular_61 {l0 l2 l3 l4 l5 l6 : Option Value} {u : Int32} {st : List Value} {H : HP} {Q : Option Value → HP → Prop} : Go 153 61 [l0, some (.int u), l2, l3, l4, l5, l6] st H Q ↔ Go 153 62 [l0, some (.int u), l2, l3, l4, l5, l6] (.int u :: st) H Q := G_iload_n fX9_circular_61 rfl
theorem fX9_circular_62 : ft 153 62 = some (.invokevirtual 100, 124, 0, 867, .null) := by decide +kernel
theorem gX9_circular_62 {L : List (Option Value)} {p : Nat} {a0 : Int32} {r0 : Int32} {H : HP} {Q : Option Value → HP → Prop} : Go 153 62 L (.int a0 :: .ref p :: [.int r0]) H Q ↔ (iso 9 (hget H p) = true ∧ Go 124 0 [some (.ref p), some (.int a0)] [] H (Cont 153 65 L [.int r0] Q)) := G_cV (n := 1) (N := 2) (as := [.int a0]) (st := [.int r0]) fX9_circular_62 (by decide +kernel) rfl (Nat.le_of_ble_eq_true rfl) (Nat.le_of_ble_eq_true rfl) rfl
theorem fX9_circular_65 : ft 153 65 = some (.if_icmp .ge 54, 0, 0, 0, .null) := by decide +kernel
theorem gX9_circular_65T {L : List (Option Value)} {a b : Int} (c : (-2147483648 ≤ a ∧ a ≤ 2147483647 ∧ -2147483648 ≤ b ∧ b ≤ 2147483647) ∧ b ≤ a) {st : List Value} {H : HP} {Q : Option Value → HP → Prop} : Go 153 65 L (vi b :: vi a :: st) H Q ↔ Go 153 119 L st H Q := G_icT fX9_circular_65 (by decide) c
theorem gX9_circular_65F {L : List (Option Value)} {a b : Int} (c : (-2147483648 ≤ a ∧ a ≤ 2147483647 ∧ -2147483648 ≤ b ∧ b ≤ 2147483647) ∧ ¬ (b ≤ a)) {st : List Value} {H : HP} {Q : Option Value → HP → Prop} : Go 153 65 L (vi b :: vi a :: st) H Q ↔ Go 153 68 L st H Q := G_icF (tg := 119) fX9_circular_65 (by decide) c
theorem fX9_circular_68 : ft 153 68 = some (.iconst 0, 0, 0, 0, .null) := by decide +kernel
theorem gX9_circular_68 {L : List (Option Value)} {st : List Value} {H : HP} {Q : Option Value → HP → Prop} : Go 153 68 L st H Q ↔ Go 153 69 L (vi 0 :: st) H Q := G_iconst fX9_circular_68
theorem fX9_circular_69 : ft 153 69 = some (.istore 6, 0, 0, 0, .null) := by decide +kernel
theorem gX9_circular_69 {l0 l1 l2 l3 l4 l5 l6 : Option Value} {u : Int32} {st : List Value} {H : HP} {Q : Option Value → HP → Prop} : Go 153 69 [l0, l1, l2, l3, l4, l5, l6] (.int u :: st) H Q ↔ Go 153 71 [l0, l1, l2, l3, l4, l5, some (.int u)] st H Q := G_istore fX9_circular_69 rfl
theorem fX9_circular_71 : ft 153 71 = some (.iload 6, 0, 0, 0, .null) := by decide +kernel
theorem gX9_circular_71 {l0 l1 l2 l3 l4 l5 : Option Value} {u : Int32} {st : List Value} {H : HP} {Q : Option Value → HP → Prop} : Go 153 71 [l0, l1, l2, l3, l4, l5, some (.int u)] st H Q ↔ Go 153 73 [l0, l1, l2, l3, l4, l5, some (.int u)] (.int u :: st) H Q := G_iload fX9_circular_71 rfl
theorem fX9_circular_73 : ft 153 73 = some (.aload_n 0, 0, 0, 0, .null) := by decide +kernel
theorem gX9_circular_73 {l1 l2 l3 l4 l5 l6 : Option Value} {u : Nat} {st : List Value} {H : HP} {Q : Option Value → HP → Prop} : Go 153 73 [some (.ref u), l1, l2, l3, l4, l5, l6] st H Q ↔ Go 153 74 [some (.ref u), l1, l2, l3, l4, l5, l6] (.ref u :: st) H Q := G_aload_n fX9_circular_73 rfl
theorem fX9_circular_74 : ft 153 74 = some (.iload_n 2, 0, 0, 0, .null) := by decide +kernel
theorem gX9_circular_74 {l0 l1 l3 l4 l5 l6 : Option Value} {u : Int32} {st : List Value} {H : HP} {Q : Option Value → HP → Prop} : Go 153 74 [l0, l1, some (.int u), l3, l4, l5, l6] st H Q ↔ Go 153 75 [l0, l1, some (.int u), l3, l4, l5, l6] (.int u :: st) H Q := G_iload_n fX9_circular_74 rfl
theorem fX9_circular_75 : ft 153 75 = some (.invokevirtual 100, 124, 0, 867, .null) := by decide +kernel
theorem gX9_circular_75 {L : List (Option Value)} {p : Nat} {a0 : Int32} {r0 : Int32} {H : HP} {Q : Option Value → HP → Prop} : Go 153 75 L (.int a0 :: .ref p :: [.int r0]) H Q ↔ (iso 9 (hget H p) = true ∧ Go 124 0 [some (.ref p), some (.int a0)] [] H (Cont 153 78 L [.int r0] Q)) := G_cV (n := 1) (N := 2) (as := [.int a0]) (st := [.int r0]) fX9_circular_75 (by decide +kernel) rfl (Nat.le_of_ble_eq_true rfl) (Nat.le_of_ble_eq_true rfl) rfl
theorem fX9_circular_78 : ft 153 78 = some (.if_icmp .ge 35, 0, 0, 0, .null) := by decide +kernel
theorem gX9_circular_78T {L : List (Option Value)} {a b : Int} (c : (-2147483648 ≤ a ∧ a ≤ 2147483647 ∧ -2147483648 ≤ b ∧ b ≤ 2147483647) ∧ b ≤ a) {st : List Value} {H : HP} {Q : Option Value → HP → Prop} : Go 153 78 L (vi b :: vi a :: st) H Q ↔ Go 153 113 L st H Q := G_icT fX9_circular_78 (by decide) c
theorem gX9_circular_78F {L : List (Option Value)} {a b : Int} (c : (-2147483648 ≤ a ∧ a ≤ 2147483647 ∧ -2147483648 ≤ b ∧ b ≤ 2147483647) ∧ ¬ (b ≤ a)) {st : List Value} {H : HP} {Q : Option Value → HP → Prop} : Go 153 78 L (vi b :: vi a :: st) H Q ↔ Go 153 81 L st H Q := G_icF (tg := 113) fX9_circular_78 (by decide) c
theorem fX9_circular_81 : ft 153 81 = some (.aload_n 0, 0, 0, 0, .null) := by decide +kernel
theorem gX9_circular_81 {l1 l2 l3 l4 l5 l6 : Option Value} {u : Nat} {st : List Value} {H : HP} {Q : Option Value → HP → Prop} : Go 153 81 [some (.ref u), l1, l2, l3, l4, l5, l6] st H Q ↔ Go 153 82 [some (.ref u), l1, l2, l3, l4, l5, l6] (.ref u :: st) H Q := G_aload_n fX9_circular_81 rfl
theorem fX9_circular_82 : ft 153 82 = some (.iload 5, 0, 0, 0, .null) := by decide +kernel
theorem gX9_circular_82 {l0 l1 l2 l3 l4 l6 : Option Value} {u : Int32} {st : List Value} {H : HP} {Q : Option Value → HP → Prop} : Go 153 82 [l0, l1, l2, l3, l4, some (.int u), l6] st H Q ↔ Go 153 84 [l0, l1, l2, l3, l4, some (.int u), l6] (.int u :: st) H Q := G_iload fX9_circular_82 rfl
theorem fX9_circular_84 : ft 153 84 = some (.iload 6, 0, 0, 0, .null) := by decide +kernel
theorem gX9_circular_84 {l0 l1 l2 l3 l4 l5 : Option Value} {u : Int32} {st : List Value} {H : HP} {Q : Option Value → HP → Prop} : Go 153 84 [l0, l1, l2, l3, l4, l5, some (.int u)] st H Q ↔ Go 153 86 [l0, l1, l2, l3, l4, l5, some (.int u)] (.int u :: st) H Q := G_iload fX9_circular_84 rfl
theorem fX9_circular_86 : ft 153 86 = some (.iadd, 0, 0, 0, .null) := by decide +kernel
theorem gX9_circular_86 {L : List (Option Value)} {a b : Int} {st : List Value} {H : HP} {Q : Option Value → HP → Prop} : Go 153 86 L (vi b :: vi a :: st) H Q ↔ Go 153 87 L (vi (a + b) :: st) H Q := G_iadd fX9_circular_86
theorem fX9_circular_87 : ft 153 87 = some (.iload_n 3, 0, 0, 0, .null) := by decide +kernel
theorem gX9_circular_87 {l0 l1 l2 l4 l5 l6 : Option Value} {u : Int32} {st : List Value} {H : HP} {Q : Option Value → HP → Prop} : Go 153 87 [l0, l1, l2, some (.int u), l4, l5, l6] st H Q ↔ Go 153 88 [l0, l1, l2, some (.int u), l4, l5, l6] (.int u :: st) H Q := G_iload_n fX9_circular_87 rfl
theorem fX9_circular_88 : ft 153 88 = some (.irem, 0, 0, 0, .null) := by decide +kernel
theorem gX9_circular_88 {L : List (Option Value)} {a b : Int} (c : -2147483648 ≤ a ∧ a ≤ 2147483647 ∧ -2147483648 ≤ b ∧ b ≤ 2147483647 ∧ ¬ b = 0) {st : List Value} {H : HP} {Q : Option Value → HP → Prop} : Go 153 88 L (vi b :: vi a :: st) H Q ↔ Go 153 89 L (vi (a.tmod b) :: st) H Q := G_irem fX9_circular_88 c
theorem fX9_circular_89 : ft 153 89 = some (.aload_n 0, 0, 0, 0, .null) := by decide +kernel
theorem gX9_circular_89 {l1 l2 l3 l4 l5 l6 : Option Value} {u : Nat} {st : List Value} {H : HP} {Q : Option Value → HP → Prop} : Go 153 89 [some (.ref u), l1, l2, l3, l4, l5, l6] st H Q ↔ Go 153 90 [some (.ref u), l1, l2, l3, l4, l5, l6] (.ref u :: st) H Q := G_aload_n fX9_circular_89 rfl
theorem fX9_circular_90 : ft 153 90 = some (.iload_n 1, 0, 0, 0, .null) := by decide +kernel
theorem gX9_circular_90 {l0 l2 l3 l4 l5 l6 : Option Value} {u : Int32} {st : List Value} {H : HP} {Q : Option Value → HP → Prop} : Go 153 90 [l0, some (.int u), l2, l3, l4, l5, l6] st H Q ↔ Go 153 91 [l0, some (.int u), l2, l3, l4, l5, l6] (.int u :: st) H Q := G_iload_n fX9_circular_90 rfl
theorem fX9_circular_91 : ft 153 91 = some (.iload 5, 0, 0, 0, .null) := by decide +kernel
theorem gX9_circular_91 {l0 l1 l2 l3 l4 l6 : Option Value} {u : Int32} {st : List Value} {H : HP} {Q : Option Value → HP → Prop} : Go 153 91 [l0, l1, l2, l3, l4, some (.int u), l6] st H Q ↔ Go 153 93 [l0, l1, l2, l3, l4, some (.int u), l6] (.int u :: st) H Q := G_iload fX9_circular_91 rfl
theorem fX9_circular_93 : ft 153 93 = some (.invokevirtual 117, 123, 0, 888, .null) := by decide +kernel
theorem gX9_circular_93 {L : List (Option Value)} {p : Nat} {a0 : Int32} {a1 : Int32} {r0 : Int32} {r1 : Nat} {H : HP} {Q : Option Value → HP → Prop} : Go 153 93 L (.int a1 :: .int a0 :: .ref p :: [.int r0, .ref r1]) H Q ↔ (iso 9 (hget H p) = true ∧ Go 123 0 [some (.ref p), some (.int a0), some (.int a1)] [] H (Cont 153 96 L [.int r0, .ref r1] Q)) := G_cV (n := 2) (N := 3) (as := [.int a1, .int a0]) (st := [.int r0, .ref r1]) fX9_circular_93 (by decide +kernel) rfl (Nat.le_of_ble_eq_true rfl) (Nat.le_of_ble_eq_true rfl) rfl
theorem fX9_circular_96 : ft 153 96 = some (.aload_n 0, 0, 0, 0, .null) := by decide +kernel
theorem gX9_circular_96 {l1 l2 l3 l4 l5 l6 : Option Value} {u : Nat} {st : List Value} {H : HP} {Q : Option Value → HP → Prop} : Go 153 96 [some (.ref u), l1, l2, l3, l4, l5, l6] st H Q ↔ Go 153 97 [some (.ref u), l1, l2, l3, l4, l5, l6] (.ref u :: st) H Q := G_aload_n fX9_circular_96 rfl
theorem fX9_circular_97 : ft 153 97 = some (.iload_n 2, 0, 0, 0, .null) := by decide +kernel
theorem gX9_circular_97 {l0 l1 l3 l4 l5 l6 : Option Value} {u : Int32} {st : List Value} {H : HP} {Q : Option Value → HP → Prop} : Go 153 97 [l0, l1, some (.int u), l3, l4, l5, l6] st H Q ↔ Go 153 98 [l0, l1, some (.int u), l3, l4, l5, l6] (.int u :: st) H Q := G_iload_n fX9_circular_97 rfl
theorem fX9_circular_98 : ft 153 98 = some (.iload 6, 0, 0, 0, .null) := by decide +kernel
theorem gX9_circular_98 {l0 l1 l2 l3 l4 l5 : Option Value} {u : Int32} {st : List Value} {H : HP} {Q : Option Value → HP → Prop} : Go 153 98 [l0, l1, l2, l3, l4, l5, some (.int u)] st H Q ↔ Go 153 100 [l0, l1, l2, l3, l4, l5, some (.int u)] (.int u :: st) H Q := G_iload fX9_circular_98 rfl
theorem fX9_circular_100 : ft 153 100 = some (.invokevirtual 117, 123, 0, 888, .null) := by decide +kernel
theorem gX9_circular_100 {L : List (Option Value)} {p : Nat} {a0 : Int32} {a1 : Int32} {r0 : Int64} {r1 : Int32} {r2 : Nat} {H : HP} {Q : Option Value → HP → Prop} : Go 153 100 L (.int a1 :: .int a0 :: .ref p :: [.long r0, .int r1, .ref r2]) H Q ↔ (iso 9 (hget H p) = true ∧ Go 123 0 [some (.ref p), some (.int a0), some (.int a1)] [] H (Cont 153 103 L [.long r0, .int r1, .ref r2] Q)) := G_cV (n := 2) (N := 3) (as := [.int a1, .int a0]) (st := [.long r0, .int r1, .ref r2]) fX9_circular_100 (by decide +kernel) rfl (Nat.le_of_ble_eq_true rfl) (Nat.le_of_ble_eq_true rfl) rfl
theorem fX9_circular_103 : ft 153 103 = some (.lmul, 0, 0, 0, .null) := by decide +kernel
theorem gX9_circular_103 {L : List (Option Value)} {a b : Int} {st : List Value} {H : HP} {Q : Option Value → HP → Prop} : Go 153 103 L (vl b :: vl a :: st) H Q ↔ Go 153 104 L (vl (a * b) :: st) H Q := G_lmul fX9_circular_103
theorem fX9_circular_104 : ft 153 104 = some (.invokevirtual 178, 149, 0, 975, .null) := by decide +kernel
theorem gX9_circular_104 {L : List (Option Value)} {p : Nat} {a0 : Int32} {a1 : Int64}  {H : HP} {Q : Option Value → HP → Prop} : Go 153 104 L (.long a1 :: .int a0 :: .ref p :: []) H Q ↔ (iso 9 (hget H p) = true ∧ Go 149 0 [some (.ref p), some (.int a0), some (.long a1), none, none, none] [] H (Cont 153 107 L [] Q)) := G_cV (n := 2) (N := 6) (as := [.long a1, .int a0]) (st := []) fX9_circular_104 (by decide +kernel) rfl (Nat.le_of_ble_eq_true rfl) (Nat.le_of_ble_eq_true rfl) rfl
theorem fX9_circular_107 : ft 153 107 = some (.iinc 6 1, 0, 0, 0, .null) := by decide +kernel
theorem gX9_circular_107 {l0 l1 l2 l3 l4 l5 : Option Value} {a : Int} {st : List Value} {H : HP} {Q : Option Value → HP → Prop} : Go 153 107 [l0, l1, l2, l3, l4, l5, some (vi a)] st H Q ↔ Go 153 110 [l0, l1, l2, l3, l4, l5, some (vi (a + 1))] st H Q := G_iinc fX9_circular_107 rfl rfl
theorem fX9_circular_110 : ft 153 110 = some (.goto (-39), 0, 0, 0, .null) := by decide +kernel
theorem gX9_circular_110 {L : List (Option Value)} {st : List Value} {H : HP} {Q : Option Value → HP → Prop} : Go 153 110 L st H Q ↔ Go 153 71 L st H Q := G_goto fX9_circular_110 (by decide)
theorem fX9_circular_113 : ft 153 113 = some (.iinc 5 1, 0, 0, 0, .null) := by decide +kernel
theorem gX9_circular_113 {l0 l1 l2 l3 l4 l6 : Option Value} {a : Int} {st : List Value} {H : HP} {Q : Option Value → HP → Prop} : Go 153 113 [l0, l1, l2, l3, l4, some (vi a), l6] st H Q ↔ Go 153 116 [l0, l1, l2, l3, l4, some (vi (a + 1)), l6] st H Q := G_iinc fX9_circular_113 rfl rfl
theorem fX9_circular_116 : ft 153 116 = some (.goto (-58), 0, 0, 0, .null) := by decide +kernel
theorem gX9_circular_116 {L : List (Option Value)} {st : List Value} {H : HP} {Q : Option Value → HP → Prop} : Go 153 116 L st H Q ↔ Go 153 58 L st H Q := G_goto fX9_circular_116 (by decide)
theorem fX9_circular_119 : ft 153 119 = some (.iload_n 3, 0, 0, 0, .null) := by decide +kernel
theorem gX9_circular_119 {l0 l1 l2 l4 l5 l6 : Option Value} {u : Int32} {st : List Value} {H : HP} {Q : Option Value → HP → Prop} : Go 153 119 [l0, l1, l2, some (.int u), l4, l5, l6] st H Q ↔ Go 153 120 [l0, l1, l2, some (.int u), l4, l5, l6] (.int u :: st) H Q := G_iload_n fX9_circular_119 rfl
theorem fX9_circular_120 : ft 153 120 = some (.ireturn, 0, 0, 0, .null) := by decide +kernel
theorem gX9_circular_120 {L : List (Option Value)} {u : Int32} {H : HP} {Q : Option Value → HP → Prop} : Go 153 120 L [.int u] H Q ↔ Q (some (.int u)) H := G_iret fX9_circular_120 (by decide +kernel)
theorem fX9_correlate_0 : ft 154 0 = some (.aload_n 0, 0, 0, 0, .null) := by decide +kernel
theorem gX9_correlate_0 {l1 l2 l3 l4 l5 l6 l7 : Option Value} {u : Nat} {st : List Value} {H : HP} {Q : Option Value → HP → Prop} : Go 154 0 [some (.ref u), l1, l2, l3, l4, l5, l6, l7] st H Q ↔ Go 154 1 [some (.ref u), l1, l2, l3, l4, l5, l6, l7] (.ref u :: st) H Q := G_aload_n fX9_correlate_0 rfl
theorem fX9_correlate_1 : ft 154 1 = some (.iconst 0, 0, 0, 0, .null) := by decide +kernel
theorem gX9_correlate_1 {L : List (Option Value)} {st : List Value} {H : HP} {Q : Option Value → HP → Prop} : Go 154 1 L st H Q ↔ Go 154 2 L (vi 0 :: st) H Q := G_iconst fX9_correlate_1
theorem fX9_correlate_2 : ft 154 2 = some (.putfield 72, 9, 0, 754, .null) := by decide +kernel
theorem gX9_correlate_2 {L : List (Option Value)} {p : Nat} {u : Int32} (hp : p ≠ 0) {st : List Value} {H : HP} {Q : Option Value → HP → Prop} : Go 154 2 L (.int u :: .ref p :: st) H Q ↔ Wr (pF' 9 0 (hget H p) (.int u)) p 154 5 L st H Q := G_putf fX9_correlate_2 ⟨⟨rfl, rfl⟩, rfl, Or.inl rfl⟩ hp
theorem fX9_correlate_5 : ft 154 5 = some (.iload_n 1, 0, 0, 0, .null) := by decide +kernel
theorem gX9_correlate_5 {l0 l2 l3 l4 l5 l6 l7 : Option Value} {u : Int32} {st : List Value} {H : HP} {Q : Option Value → HP → Prop} : Go 154 5 [l0, some (.int u), l2, l3, l4, l5, l6, l7] st H Q ↔ Go 154 6 [l0, some (.int u), l2, l3, l4, l5, l6, l7] (.int u :: st) H Q := G_iload_n fX9_correlate_5 rfl
theorem fX9_correlate_6 : ft 154 6 = some (.invokestatic 85, 119, 0, 841, .null) := by decide +kernel
theorem gX9_correlate_6 {L : List (Option Value)} {a0 : Int32}  {H : HP} {Q : Option Value → HP → Prop} : Go 154 6 L (.int a0 :: []) H Q ↔ Go 119 0 [some (.int a0)] [] H (Cont 154 9 L [] Q) := G_cS (n := 1) (N := 1) (as := [.int a0]) (st := []) fX9_correlate_6 (by decide +kernel) rfl (Nat.le_of_ble_eq_true rfl) (Nat.le_of_ble_eq_true rfl) rfl
theorem fX9_correlate_9 : ft 154 9 = some (.ifCond .eq 10, 0, 0, 0, .null) := by decide +kernel
theorem gX9_correlate_9T {L : List (Option Value)} {a : Int} (c : (-2147483648 ≤ a ∧ a ≤ 2147483647) ∧ a = 0) {st : List Value} {H : HP} {Q : Option Value → HP → Prop} : Go 154 9 L (vi a :: st) H Q ↔ Go 154 19 L st H Q := G_ifT fX9_correlate_9 (by decide) c
theorem gX9_correlate_9F {L : List (Option Value)} {a : Int} (c : (-2147483648 ≤ a ∧ a ≤ 2147483647) ∧ ¬ (a = 0)) {st : List Value} {H : HP} {Q : Option Value → HP → Prop} : Go 154 9 L (vi a :: st) H Q ↔ Go 154 12 L st H Q := G_ifF (tg := 19) fX9_correlate_9 (by decide) c
theorem fX9_correlate_12 : ft 154 12 = some (.iload_n 2, 0, 0, 0, .null) := by decide +kernel
theorem gX9_correlate_12 {l0 l1 l3 l4 l5 l6 l7 : Option Value} {u : Int32} {st : List Value} {H : HP} {Q : Option Value → HP → Prop} : Go 154 12 [l0, l1, some (.int u), l3, l4, l5, l6, l7] st H Q ↔ Go 154 13 [l0, l1, some (.int u), l3, l4, l5, l6, l7] (.int u :: st) H Q := G_iload_n fX9_correlate_12 rfl
theorem fX9_correlate_13 : ft 154 13 = some (.invokestatic 85, 119, 0, 841, .null) := by decide +kernel
theorem gX9_correlate_13 {L : List (Option Value)} {a0 : Int32}  {H : HP} {Q : Option Value → HP → Prop} : Go 154 13 L (.int a0 :: []) H Q ↔ Go 119 0 [some (.int a0)] [] H (Cont 154 16 L [] Q) := G_cS (n := 1) (N := 1) (as := [.int a0]) (st := []) fX9_correlate_13 (by decide +kernel) rfl (Nat.le_of_ble_eq_true rfl) (Nat.le_of_ble_eq_true rfl) rfl
theorem fX9_correlate_16 : ft 154 16 = some (.ifCond .ne 5, 0, 0, 0, .null) := by decide +kernel
theorem gX9_correlate_16T {L : List (Option Value)} {a : Int} (c : (-2147483648 ≤ a ∧ a ≤ 2147483647) ∧ ¬ a = 0) {st : List Value} {H : HP} {Q : Option Value → HP → Prop} : Go 154 16 L (vi a :: st) H Q ↔ Go 154 21 L st H Q := G_ifT fX9_correlate_16 (by decide) c
theorem gX9_correlate_16F {L : List (Option Value)} {a : Int} (c : (-2147483648 ≤ a ∧ a ≤ 2147483647) ∧ ¬ (¬ a = 0)) {st : List Value} {H : HP} {Q : Option Value → HP → Prop} : Go 154 16 L (vi a :: st) H Q ↔ Go 154 19 L st H Q := G_ifF (tg := 21) fX9_correlate_16 (by decide) c
theorem fX9_correlate_19 : ft 154 19 = some (.iconst (-1), 0, 0, 0, .null) := by decide +kernel
theorem gX9_correlate_19 {L : List (Option Value)} {st : List Value} {H : HP} {Q : Option Value → HP → Prop} : Go 154 19 L st H Q ↔ Go 154 20 L (vi (-1) :: st) H Q := G_iconst fX9_correlate_19
theorem fX9_correlate_20 : ft 154 20 = some (.ireturn, 0, 0, 0, .null) := by decide +kernel
theorem gX9_correlate_20 {L : List (Option Value)} {u : Int32} {H : HP} {Q : Option Value → HP → Prop} : Go 154 20 L [.int u] H Q ↔ Q (some (.int u)) H := G_iret fX9_correlate_20 (by decide +kernel)
theorem fX9_correlate_21 : ft 154 21 = some (.aload_n 0, 0, 0, 0, .null) := by decide +kernel
theorem gX9_correlate_21 {l1 l2 l3 l4 l5 l6 l7 : Option Value} {u : Nat} {st : List Value} {H : HP} {Q : Option Value → HP → Prop} : Go 154 21 [some (.ref u), l1, l2, l3, l4, l5, l6, l7] st H Q ↔ Go 154 22 [some (.ref u), l1, l2, l3, l4, l5, l6, l7] (.ref u :: st) H Q := G_aload_n fX9_correlate_21 rfl
theorem fX9_correlate_22 : ft 154 22 = some (.iload_n 1, 0, 0, 0, .null) := by decide +kernel
theorem gX9_correlate_22 {l0 l2 l3 l4 l5 l6 l7 : Option Value} {u : Int32} {st : List Value} {H : HP} {Q : Option Value → HP → Prop} : Go 154 22 [l0, some (.int u), l2, l3, l4, l5, l6, l7] st H Q ↔ Go 154 23 [l0, some (.int u), l2, l3, l4, l5, l6, l7] (.int u :: st) H Q := G_iload_n fX9_correlate_22 rfl
theorem fX9_correlate_23 : ft 154 23 = some (.iload_n 2, 0, 0, 0, .null) := by decide +kernel
theorem gX9_correlate_23 {l0 l1 l3 l4 l5 l6 l7 : Option Value} {u : Int32} {st : List Value} {H : HP} {Q : Option Value → HP → Prop} : Go 154 23 [l0, l1, some (.int u), l3, l4, l5, l6, l7] st H Q ↔ Go 154 24 [l0, l1, some (.int u), l3, l4, l5, l6, l7] (.int u :: st) H Q := G_iload_n fX9_correlate_23 rfl
theorem fX9_correlate_24 : ft 154 24 = some (.invokevirtual 168, 150, 0, 963, .null) := by decide +kernel
theorem gX9_correlate_24 {L : List (Option Value)} {p : Nat} {a0 : Int32} {a1 : Int32}  {H : HP} {Q : Option Value → HP → Prop} : Go 154 24 L (.int a1 :: .int a0 :: .ref p :: []) H Q ↔ (iso 9 (hget H p) = true ∧ Go 150 0 [some (.ref p), some (.int a0), some (.int a1)] [] H (Cont 154 27 L [] Q)) := G_cV (n := 2) (N := 3) (as := [.int a1, .int a0]) (st := []) fX9_correlate_24 (by decide +kernel) rfl (Nat.le_of_ble_eq_true rfl) (Nat.le_of_ble_eq_true rfl) rfl
theorem fX9_correlate_27 : ft 154 27 = some (.istore_n 3, 0, 0, 0, .null) := by decide +kernel
theorem gX9_correlate_27 {l0 l1 l2 l3 l4 l5 l6 l7 : Option Value} {u : Int32} {st : List Value} {H : HP} {Q : Option Value → HP → Prop} : Go 154 27 [l0, l1, l2, l3, l4, l5, l6, l7] (.int u :: st) H Q ↔ Go 154 28 [l0, l1, l2, some (.int u), l4, l5, l6, l7] st H Q := G_istore_n fX9_correlate_27 rfl
theorem fX9_correlate_28 : ft 154 28 = some (.iload_n 3, 0, 0, 0, .null) := by decide +kernel
theorem gX9_correlate_28 {l0 l1 l2 l4 l5 l6 l7 : Option Value} {u : Int32} {st : List Value} {H : HP} {Q : Option Value → HP → Prop} : Go 154 28 [l0, l1, l2, some (.int u), l4, l5, l6, l7] st H Q ↔ Go 154 29 [l0, l1, l2, some (.int u), l4, l5, l6, l7] (.int u :: st) H Q := G_iload_n fX9_correlate_28 rfl
theorem fX9_correlate_29 : ft 154 29 = some (.ifCond .eq 5, 0, 0, 0, .null) := by decide +kernel
theorem gX9_correlate_29T {L : List (Option Value)} {a : Int} (c : (-2147483648 ≤ a ∧ a ≤ 2147483647) ∧ a = 0) {st : List Value} {H : HP} {Q : Option Value → HP → Prop} : Go 154 29 L (vi a :: st) H Q ↔ Go 154 34 L st H Q := G_ifT fX9_correlate_29 (by decide) c
theorem gX9_correlate_29F {L : List (Option Value)} {a : Int} (c : (-2147483648 ≤ a ∧ a ≤ 2147483647) ∧ ¬ (a = 0)) {st : List Value} {H : HP} {Q : Option Value → HP → Prop} : Go 154 29 L (vi a :: st) H Q ↔ Go 154 32 L st H Q := G_ifF (tg := 34) fX9_correlate_29 (by decide) c
theorem fX9_correlate_32 : ft 154 32 = some (.iload_n 3, 0, 0, 0, .null) := by decide +kernel
theorem gX9_correlate_32 {l0 l1 l2 l4 l5 l6 l7 : Option Value} {u : Int32} {st : List Value} {H : HP} {Q : Option Value → HP → Prop} : Go 154 32 [l0, l1, l2, some (.int u), l4, l5, l6, l7] st H Q ↔ Go 154 33 [l0, l1, l2, some (.int u), l4, l5, l6, l7] (.int u :: st) H Q := G_iload_n fX9_correlate_32 rfl
theorem fX9_correlate_33 : ft 154 33 = some (.ireturn, 0, 0, 0, .null) := by decide +kernel
theorem gX9_correlate_33 {L : List (Option Value)} {u : Int32} {H : HP} {Q : Option Value → HP → Prop} : Go 154 33 L [.int u] H Q ↔ Q (some (.int u)) H := G_iret fX9_correlate_33 (by decide +kernel)
theorem fX9_correlate_34 : ft 154 34 = some (.aload_n 0, 0, 0, 0, .null) := by decide +kernel
theorem gX9_correlate_34 {l1 l2 l3 l4 l5 l6 l7 : Option Value} {u : Nat} {st : List Value} {H : HP} {Q : Option Value → HP → Prop} : Go 154 34 [some (.ref u), l1, l2, l3, l4, l5, l6, l7] st H Q ↔ Go 154 35 [some (.ref u), l1, l2, l3, l4, l5, l6, l7] (.ref u :: st) H Q := G_aload_n fX9_correlate_34 rfl
theorem fX9_correlate_35 : ft 154 35 = some (.iload_n 2, 0, 0, 0, .null) := by decide +kernel
theorem gX9_correlate_35 {l0 l1 l3 l4 l5 l6 l7 : Option Value} {u : Int32} {st : List Value} {H : HP} {Q : Option Value → HP → Prop} : Go 154 35 [l0, l1, some (.int u), l3, l4, l5, l6, l7] st H Q ↔ Go 154 36 [l0, l1, some (.int u), l3, l4, l5, l6, l7] (.int u :: st) H Q := G_iload_n fX9_correlate_35 rfl
theorem fX9_correlate_36 : ft 154 36 = some (.invokevirtual 100, 124, 0, 867, .null) := by decide +kernel
theorem gX9_correlate_36 {L : List (Option Value)} {p : Nat} {a0 : Int32}  {H : HP} {Q : Option Value → HP → Prop} : Go 154 36 L (.int a0 :: .ref p :: []) H Q ↔ (iso 9 (hget H p) = true ∧ Go 124 0 [some (.ref p), some (.int a0)] [] H (Cont 154 39 L [] Q)) := G_cV (n := 1) (N := 2) (as := [.int a0]) (st := []) fX9_correlate_36 (by decide +kernel) rfl (Nat.le_of_ble_eq_true rfl) (Nat.le_of_ble_eq_true rfl) rfl
theorem fX9_correlate_39 : ft 154 39 = some (.istore 4, 0, 0, 0, .null) := by decide +kernel
theorem gX9_correlate_39 {l0 l1 l2 l3 l4 l5 l6 l7 : Option Value} {u : Int32} {st : List Value} {H : HP} {Q : Option Value → HP → Prop} : Go 154 39 [l0, l1, l2, l3, l4, l5, l6, l7] (.int u :: st) H Q ↔ Go 154 41 [l0, l1, l2, l3, some (.int u), l5, l6, l7] st H Q := G_istore fX9_correlate_39 rfl
theorem fX9_correlate_41 : ft 154 41 = some (.aload_n 0, 0, 0, 0, .null) := by decide +kernel
theorem gX9_correlate_41 {l1 l2 l3 l4 l5 l6 l7 : Option Value} {u : Nat} {st : List Value} {H : HP} {Q : Option Value → HP → Prop} : Go 154 41 [some (.ref u), l1, l2, l3, l4, l5, l6, l7] st H Q ↔ Go 154 42 [some (.ref u), l1, l2, l3, l4, l5, l6, l7] (.ref u :: st) H Q := G_aload_n fX9_correlate_41 rfl
theorem fX9_correlate_42 : ft 154 42 = some (.aload_n 0, 0, 0, 0, .null) := by decide +kernel
theorem gX9_correlate_42 {l1 l2 l3 l4 l5 l6 l7 : Option Value} {u : Nat} {st : List Value} {H : HP} {Q : Option Value → HP → Prop} : Go 154 42 [some (.ref u), l1, l2, l3, l4, l5, l6, l7] st H Q ↔ Go 154 43 [some (.ref u), l1, l2, l3, l4, l5, l6, l7] (.ref u :: st) H Q := G_aload_n fX9_correlate_42 rfl
theorem fX9_correlate_43 : ft 154 43 = some (.iload_n 1, 0, 0, 0, .null) := by decide +kernel
theorem gX9_correlate_43 {l0 l2 l3 l4 l5 l6 l7 : Option Value} {u : Int32} {st : List Value} {H : HP} {Q : Option Value → HP → Prop} : Go 154 43 [l0, some (.int u), l2, l3, l4, l5, l6, l7] st H Q ↔ Go 154 44 [l0, some (.int u), l2, l3, l4, l5, l6, l7] (.int u :: st) H Q := G_iload_n fX9_correlate_43 rfl
theorem fX9_correlate_44 : ft 154 44 = some (.invokevirtual 100, 124, 0, 867, .null) := by decide +kernel
theorem gX9_correlate_44 {L : List (Option Value)} {p : Nat} {a0 : Int32} {r0 : Nat} {H : HP} {Q : Option Value → HP → Prop} : Go 154 44 L (.int a0 :: .ref p :: [.ref r0]) H Q ↔ (iso 9 (hget H p) = true ∧ Go 124 0 [some (.ref p), some (.int a0)] [] H (Cont 154 47 L [.ref r0] Q)) := G_cV (n := 1) (N := 2) (as := [.int a0]) (st := [.ref r0]) fX9_correlate_44 (by decide +kernel) rfl (Nat.le_of_ble_eq_true rfl) (Nat.le_of_ble_eq_true rfl) rfl
theorem fX9_correlate_47 : ft 154 47 = some (.iload 4, 0, 0, 0, .null) := by decide +kernel
theorem gX9_correlate_47 {l0 l1 l2 l3 l5 l6 l7 : Option Value} {u : Int32} {st : List Value} {H : HP} {Q : Option Value → HP → Prop} : Go 154 47 [l0, l1, l2, l3, some (.int u), l5, l6, l7] st H Q ↔ Go 154 49 [l0, l1, l2, l3, some (.int u), l5, l6, l7] (.int u :: st) H Q := G_iload fX9_correlate_47 rfl
theorem fX9_correlate_49 : ft 154 49 = some (.iadd, 0, 0, 0, .null) := by decide +kernel
theorem gX9_correlate_49 {L : List (Option Value)} {a b : Int} {st : List Value} {H : HP} {Q : Option Value → HP → Prop} : Go 154 49 L (vi b :: vi a :: st) H Q ↔ Go 154 50 L (vi (a + b) :: st) H Q := G_iadd fX9_correlate_49
theorem fX9_correlate_50 : ft 154 50 = some (.iconst 1, 0, 0, 0, .null) := by decide +kernel
theorem gX9_correlate_50 {L : List (Option Value)} {st : List Value} {H : HP} {Q : Option Value → HP → Prop} : Go 154 50 L st H Q ↔ Go 154 51 L (vi 1 :: st) H Q := G_iconst fX9_correlate_50
theorem fX9_correlate_51 : ft 154 51 = some (.isub, 0, 0, 0, .null) := by decide +kernel
theorem gX9_correlate_51 {L : List (Option Value)} {a b : Int} {st : List Value} {H : HP} {Q : Option Value → HP → Prop} : Go 154 51 L (vi b :: vi a :: st) H Q ↔ Go 154 52 L (vi (a - b) :: st) H Q := G_isub fX9_correlate_51
theorem fX9_correlate_52 : ft 154 52 = some (.invokevirtual 175, 148, 0, 971, .null) := by decide +kernel
theorem gX9_correlate_52 {L : List (Option Value)} {p : Nat} {a0 : Int32}  {H : HP} {Q : Option Value → HP → Prop} : Go 154 52 L (.int a0 :: .ref p :: []) H Q ↔ (iso 9 (hget H p) = true ∧ Go 148 0 [some (.ref p), some (.int a0), none] [] H (Cont 154 55 L [] Q)) := G_cV (n := 1) (N := 3) (as := [.int a0]) (st := []) fX9_correlate_52 (by decide +kernel) rfl (Nat.le_of_ble_eq_true rfl) (Nat.le_of_ble_eq_true rfl) rfl
theorem fX9_correlate_55 : ft 154 55 = some (.iconst 0, 0, 0, 0, .null) := by decide +kernel
theorem gX9_correlate_55 {L : List (Option Value)} {st : List Value} {H : HP} {Q : Option Value → HP → Prop} : Go 154 55 L st H Q ↔ Go 154 56 L (vi 0 :: st) H Q := G_iconst fX9_correlate_55
theorem fX9_correlate_56 : ft 154 56 = some (.istore 5, 0, 0, 0, .null) := by decide +kernel
theorem gX9_correlate_56 {l0 l1 l2 l3 l4 l5 l6 l7 : Option Value} {u : Int32} {st : List Value} {H : HP} {Q : Option Value → HP → Prop} : Go 154 56 [l0, l1, l2, l3, l4, l5, l6, l7] (.int u :: st) H Q ↔ Go 154 58 [l0, l1, l2, l3, l4, some (.int u), l6, l7] st H Q := G_istore fX9_correlate_56 rfl
theorem fX9_correlate_58 : ft 154 58 = some (.iload 5, 0, 0, 0, .null) := by decide +kernel
theorem gX9_correlate_58 {l0 l1 l2 l3 l4 l6 l7 : Option Value} {u : Int32} {st : List Value} {H : HP} {Q : Option Value → HP → Prop} : Go 154 58 [l0, l1, l2, l3, l4, some (.int u), l6, l7] st H Q ↔ Go 154 60 [l0, l1, l2, l3, l4, some (.int u), l6, l7] (.int u :: st) H Q := G_iload fX9_correlate_58 rfl
theorem fX9_correlate_60 : ft 154 60 = some (.aload_n 0, 0, 0, 0, .null) := by decide +kernel
theorem gX9_correlate_60 {l1 l2 l3 l4 l5 l6 l7 : Option Value} {u : Nat} {st : List Value} {H : HP} {Q : Option Value → HP → Prop} : Go 154 60 [some (.ref u), l1, l2, l3, l4, l5, l6, l7] st H Q ↔ Go 154 61 [some (.ref u), l1, l2, l3, l4, l5, l6, l7] (.ref u :: st) H Q := G_aload_n fX9_correlate_60 rfl
theorem fX9_correlate_61 : ft 154 61 = some (.getfield 163, 9, 8, 762, .null) := by decide +kernel
theorem gX9_correlate_61 {L : List (Option Value)} {p : Nat} {st : List Value} {H : HP} {Q : Option Value → HP → Prop} : Go 154 61 L (.ref p :: st) H Q ↔ Rd (gF' 9 8 (hget H p)) 154 64 L st H Q := G_getf fX9_correlate_61 ⟨rfl, rfl⟩
theorem fX9_correlate_64 : ft 154 64 = some (.if_icmp .ge 73, 0, 0, 0, .null) := by decide +kernel
theorem gX9_correlate_64T {L : List (Option Value)} {a b : Int} (c : (-2147483648 ≤ a ∧ a ≤ 2147483647 ∧ -2147483648 ≤ b ∧ b ≤ 2147483647) ∧ b ≤ a) {st : List Value} {H : HP} {Q : Option Value → HP → Prop} : Go 154 64 L (vi b :: vi a :: st) H Q ↔ Go 154 137 L st H Q := G_icT fX9_correlate_64 (by decide) c
theorem gX9_correlate_64F {L : List (Option Value)} {a b : Int} (c : (-2147483648 ≤ a ∧ a ≤ 2147483647 ∧ -2147483648 ≤ b ∧ b ≤ 2147483647) ∧ ¬ (b ≤ a)) {st : List Value} {H : HP} {Q : Option Value → HP → Prop} : Go 154 64 L (vi b :: vi a :: st) H Q ↔ Go 154 67 L st H Q := G_icF (tg := 137) fX9_correlate_64 (by decide) c
theorem fX9_correlate_67 : ft 154 67 = some (.iconst 0, 0, 0, 0, .null) := by decide +kernel
theorem gX9_correlate_67 {L : List (Option Value)} {st : List Value} {H : HP} {Q : Option Value → HP → Prop} : Go 154 67 L st H Q ↔ Go 154 68 L (vi 0 :: st) H Q := G_iconst fX9_correlate_67
theorem fX9_correlate_68 : ft 154 68 = some (.istore 6, 0, 0, 0, .null) := by decide +kernel
theorem gX9_correlate_68 {l0 l1 l2 l3 l4 l5 l6 l7 : Option Value} {u : Int32} {st : List Value} {H : HP} {Q : Option Value → HP → Prop} : Go 154 68 [l0, l1, l2, l3, l4, l5, l6, l7] (.int u :: st) H Q ↔ Go 154 70 [l0, l1, l2, l3, l4, l5, some (.int u), l7] st H Q := G_istore fX9_correlate_68 rfl
theorem fX9_correlate_70 : ft 154 70 = some (.iload 6, 0, 0, 0, .null) := by decide +kernel
theorem gX9_correlate_70 {l0 l1 l2 l3 l4 l5 l7 : Option Value} {u : Int32} {st : List Value} {H : HP} {Q : Option Value → HP → Prop} : Go 154 70 [l0, l1, l2, l3, l4, l5, some (.int u), l7] st H Q ↔ Go 154 72 [l0, l1, l2, l3, l4, l5, some (.int u), l7] (.int u :: st) H Q := G_iload fX9_correlate_70 rfl
theorem fX9_correlate_72 : ft 154 72 = some (.iload 4, 0, 0, 0, .null) := by decide +kernel
theorem gX9_correlate_72 {l0 l1 l2 l3 l5 l6 l7 : Option Value} {u : Int32} {st : List Value} {H : HP} {Q : Option Value → HP → Prop} : Go 154 72 [l0, l1, l2, l3, some (.int u), l5, l6, l7] st H Q ↔ Go 154 74 [l0, l1, l2, l3, some (.int u), l5, l6, l7] (.int u :: st) H Q := G_iload fX9_correlate_72 rfl
theorem fX9_correlate_74 : ft 154 74 = some (.if_icmp .ge 57, 0, 0, 0, .null) := by decide +kernel
theorem gX9_correlate_74T {L : List (Option Value)} {a b : Int} (c : (-2147483648 ≤ a ∧ a ≤ 2147483647 ∧ -2147483648 ≤ b ∧ b ≤ 2147483647) ∧ b ≤ a) {st : List Value} {H : HP} {Q : Option Value → HP → Prop} : Go 154 74 L (vi b :: vi a :: st) H Q ↔ Go 154 131 L st H Q := G_icT fX9_correlate_74 (by decide) c
theorem gX9_correlate_74F {L : List (Option Value)} {a b : Int} (c : (-2147483648 ≤ a ∧ a ≤ 2147483647 ∧ -2147483648 ≤ b ∧ b ≤ 2147483647) ∧ ¬ (b ≤ a)) {st : List Value} {H : HP} {Q : Option Value → HP → Prop} : Go 154 74 L (vi b :: vi a :: st) H Q ↔ Go 154 77 L st H Q := G_icF (tg := 131) fX9_correlate_74 (by decide) c
theorem fX9_correlate_77 : ft 154 77 = some (.iload 6, 0, 0, 0, .null) := by decide +kernel
theorem gX9_correlate_77 {l0 l1 l2 l3 l4 l5 l7 : Option Value} {u : Int32} {st : List Value} {H : HP} {Q : Option Value → HP → Prop} : Go 154 77 [l0, l1, l2, l3, l4, l5, some (.int u), l7] st H Q ↔ Go 154 79 [l0, l1, l2, l3, l4, l5, some (.int u), l7] (.int u :: st) H Q := G_iload fX9_correlate_77 rfl
theorem fX9_correlate_79 : ft 154 79 = some (.iload 5, 0, 0, 0, .null) := by decide +kernel
theorem gX9_correlate_79 {l0 l1 l2 l3 l4 l6 l7 : Option Value} {u : Int32} {st : List Value} {H : HP} {Q : Option Value → HP → Prop} : Go 154 79 [l0, l1, l2, l3, l4, some (.int u), l6, l7] st H Q ↔ Go 154 81 [l0, l1, l2, l3, l4, some (.int u), l6, l7] (.int u :: st) H Q := G_iload fX9_correlate_79 rfl
theorem fX9_correlate_81 : ft 154 81 = some (.iadd, 0, 0, 0, .null) := by decide +kernel
theorem gX9_correlate_81 {L : List (Option Value)} {a b : Int} {st : List Value} {H : HP} {Q : Option Value → HP → Prop} : Go 154 81 L (vi b :: vi a :: st) H Q ↔ Go 154 82 L (vi (a + b) :: st) H Q := G_iadd fX9_correlate_81
theorem fX9_correlate_82 : ft 154 82 = some (.iload 4, 0, 0, 0, .null) := by decide +kernel
theorem gX9_correlate_82 {l0 l1 l2 l3 l5 l6 l7 : Option Value} {u : Int32} {st : List Value} {H : HP} {Q : Option Value → HP → Prop} : Go 154 82 [l0, l1, l2, l3, some (.int u), l5, l6, l7] st H Q ↔ Go 154 84 [l0, l1, l2, l3, some (.int u), l5, l6, l7] (.int u :: st) H Q := G_iload fX9_correlate_82 rfl
theorem fX9_correlate_84 : ft 154 84 = some (.iconst 1, 0, 0, 0, .null) := by decide +kernel
theorem gX9_correlate_84 {L : List (Option Value)} {st : List Value} {H : HP} {Q : Option Value → HP → Prop} : Go 154 84 L st H Q ↔ Go 154 85 L (vi 1 :: st) H Q := G_iconst fX9_correlate_84
theorem fX9_correlate_85 : ft 154 85 = some (.isub, 0, 0, 0, .null) := by decide +kernel
theorem gX9_correlate_85 {L : List (Option Value)} {a b : Int} {st : List Value} {H : HP} {Q : Option Value → HP → Prop} : Go 154 85 L (vi b :: vi a :: st) H Q ↔ Go 154 86 L (vi (a - b) :: st) H Q := G_isub fX9_correlate_85
theorem fX9_correlate_86 : ft 154 86 = some (.isub, 0, 0, 0, .null) := by decide +kernel
theorem gX9_correlate_86 {L : List (Option Value)} {a b : Int} {st : List Value} {H : HP} {Q : Option Value → HP → Prop} : Go 154 86 L (vi b :: vi a :: st) H Q ↔ Go 154 87 L (vi (a - b) :: st) H Q := G_isub fX9_correlate_86
theorem fX9_correlate_87 : ft 154 87 = some (.istore 7, 0, 0, 0, .null) := by decide +kernel
theorem gX9_correlate_87 {l0 l1 l2 l3 l4 l5 l6 l7 : Option Value} {u : Int32} {st : List Value} {H : HP} {Q : Option Value → HP → Prop} : Go 154 87 [l0, l1, l2, l3, l4, l5, l6, l7] (.int u :: st) H Q ↔ Go 154 89 [l0, l1, l2, l3, l4, l5, l6, some (.int u)] st H Q := G_istore fX9_correlate_87 rfl
theorem fX9_correlate_89 : ft 154 89 = some (.iload 7, 0, 0, 0, .null) := by decide +kernel
theorem gX9_correlate_89 {l0 l1 l2 l3 l4 l5 l6 : Option Value} {u : Int32} {st : List Value} {H : HP} {Q : Option Value → HP → Prop} : Go 154 89 [l0, l1, l2, l3, l4, l5, l6, some (.int u)] st H Q ↔ Go 154 91 [l0, l1, l2, l3, l4, l5, l6, some (.int u)] (.int u :: st) H Q := G_iload fX9_correlate_89 rfl
theorem fX9_correlate_91 : ft 154 91 = some (.ifCond .lt 34, 0, 0, 0, .null) := by decide +kernel
theorem gX9_correlate_91T {L : List (Option Value)} {a : Int} (c : (-2147483648 ≤ a ∧ a ≤ 2147483647) ∧ a < 0) {st : List Value} {H : HP} {Q : Option Value → HP → Prop} : Go 154 91 L (vi a :: st) H Q ↔ Go 154 125 L st H Q := G_ifT fX9_correlate_91 (by decide) c
theorem gX9_correlate_91F {L : List (Option Value)} {a : Int} (c : (-2147483648 ≤ a ∧ a ≤ 2147483647) ∧ ¬ (a < 0)) {st : List Value} {H : HP} {Q : Option Value → HP → Prop} : Go 154 91 L (vi a :: st) H Q ↔ Go 154 94 L st H Q := G_ifF (tg := 125) fX9_correlate_91 (by decide) c
theorem fX9_correlate_94 : ft 154 94 = some (.iload 7, 0, 0, 0, .null) := by decide +kernel
theorem gX9_correlate_94 {l0 l1 l2 l3 l4 l5 l6 : Option Value} {u : Int32} {st : List Value} {H : HP} {Q : Option Value → HP → Prop} : Go 154 94 [l0, l1, l2, l3, l4, l5, l6, some (.int u)] st H Q ↔ Go 154 96 [l0, l1, l2, l3, l4, l5, l6, some (.int u)] (.int u :: st) H Q := G_iload fX9_correlate_94 rfl
theorem fX9_correlate_96 : ft 154 96 = some (.aload_n 0, 0, 0, 0, .null) := by decide +kernel
theorem gX9_correlate_96 {l1 l2 l3 l4 l5 l6 l7 : Option Value} {u : Nat} {st : List Value} {H : HP} {Q : Option Value → HP → Prop} : Go 154 96 [some (.ref u), l1, l2, l3, l4, l5, l6, l7] st H Q ↔ Go 154 97 [some (.ref u), l1, l2, l3, l4, l5, l6, l7] (.ref u :: st) H Q := G_aload_n fX9_correlate_96 rfl
theorem fX9_correlate_97 : ft 154 97 = some (.iload_n 1, 0, 0, 0, .null) := by decide +kernel
theorem gX9_correlate_97 {l0 l2 l3 l4 l5 l6 l7 : Option Value} {u : Int32} {st : List Value} {H : HP} {Q : Option Value → HP → Prop} : Go 154 97 [l0, some (.int u), l2, l3, l4, l5, l6, l7] st H Q ↔ Go 154 98 [l0, some (.int u), l2, l3, l4, l5, l6, l7] (.int u :: st) H Q := G_iload_n fX9_correlate_97 rfl
theorem fX9_correlate_98 : ft 154 98 = some (.invokevirtual 100, 124, 0, 867, .null) := by decide +kernel
theorem gX9_correlate_98 {L : List (Option Value)} {p : Nat} {a0 : Int32} {r0 : Int32} {H : HP} {Q : Option Value → HP → Prop} : Go 154 98 L (.int a0 :: .ref p :: [.int r0]) H Q ↔ (iso 9 (hget H p) = true ∧ Go 124 0 [some (.ref p), some (.int a0)] [] H (Cont 154 101 L [.int r0] Q)) := G_cV (n := 1) (N := 2) (as := [.int a0]) (st := [.int r0]) fX9_correlate_98 (by decide +kernel) rfl (Nat.le_of_ble_eq_true rfl) (Nat.le_of_ble_eq_true rfl) rfl
theorem fX9_correlate_101 : ft 154 101 = some (.if_icmp .ge 24, 0, 0, 0, .null) := by decide +kernel
theorem gX9_correlate_101T {L : List (Option Value)} {a b : Int} (c : (-2147483648 ≤ a ∧ a ≤ 2147483647 ∧ -2147483648 ≤ b ∧ b ≤ 2147483647) ∧ b ≤ a) {st : List Value} {H : HP} {Q : Option Value → HP → Prop} : Go 154 101 L (vi b :: vi a :: st) H Q ↔ Go 154 125 L st H Q := G_icT fX9_correlate_101 (by decide) c
theorem gX9_correlate_101F {L : List (Option Value)} {a b : Int} (c : (-2147483648 ≤ a ∧ a ≤ 2147483647 ∧ -2147483648 ≤ b ∧ b ≤ 2147483647) ∧ ¬ (b ≤ a)) {st : List Value} {H : HP} {Q : Option Value → HP → Prop} : Go 154 101 L (vi b :: vi a :: st) H Q ↔ Go 154 104 L st H Q := G_icF (tg := 125) fX9_correlate_101 (by decide) c
theorem fX9_correlate_104 : ft 154 104 = some (.aload_n 0, 0, 0, 0, .null) := by decide +kernel
theorem gX9_correlate_104 {l1 l2 l3 l4 l5 l6 l7 : Option Value} {u : Nat} {st : List Value} {H : HP} {Q : Option Value → HP → Prop} : Go 154 104 [some (.ref u), l1, l2, l3, l4, l5, l6, l7] st H Q ↔ Go 154 105 [some (.ref u), l1, l2, l3, l4, l5, l6, l7] (.ref u :: st) H Q := G_aload_n fX9_correlate_104 rfl
theorem fX9_correlate_105 : ft 154 105 = some (.iload 5, 0, 0, 0, .null) := by decide +kernel
theorem gX9_correlate_105 {l0 l1 l2 l3 l4 l6 l7 : Option Value} {u : Int32} {st : List Value} {H : HP} {Q : Option Value → HP → Prop} : Go 154 105 [l0, l1, l2, l3, l4, some (.int u), l6, l7] st H Q ↔ Go 154 107 [l0, l1, l2, l3, l4, some (.int u), l6, l7] (.int u :: st) H Q := G_iload fX9_correlate_105 rfl
theorem fX9_correlate_107 : ft 154 107 = some (.aload_n 0, 0, 0, 0, .null) := by decide +kernel
theorem gX9_correlate_107 {l1 l2 l3 l4 l5 l6 l7 : Option Value} {u : Nat} {st : List Value} {H : HP} {Q : Option Value → HP → Prop} : Go 154 107 [some (.ref u), l1, l2, l3, l4, l5, l6, l7] st H Q ↔ Go 154 108 [some (.ref u), l1, l2, l3, l4, l5, l6, l7] (.ref u :: st) H Q := G_aload_n fX9_correlate_107 rfl
theorem fX9_correlate_108 : ft 154 108 = some (.iload_n 1, 0, 0, 0, .null) := by decide +kernel
theorem gX9_correlate_108 {l0 l2 l3 l4 l5 l6 l7 : Option Value} {u : Int32} {st : List Value} {H : HP} {Q : Option Value → HP → Prop} : Go 154 108 [l0, some (.int u), l2, l3, l4, l5, l6, l7] st H Q ↔ Go 154 109 [l0, some (.int u), l2, l3, l4, l5, l6, l7] (.int u :: st) H Q := G_iload_n fX9_correlate_108 rfl
theorem fX9_correlate_109 : ft 154 109 = some (.iload 7, 0, 0, 0, .null) := by decide +kernel
theorem gX9_correlate_109 {l0 l1 l2 l3 l4 l5 l6 : Option Value} {u : Int32} {st : List Value} {H : HP} {Q : Option Value → HP → Prop} : Go 154 109 [l0, l1, l2, l3, l4, l5, l6, some (.int u)] st H Q ↔ Go 154 111 [l0, l1, l2, l3, l4, l5, l6, some (.int u)] (.int u :: st) H Q := G_iload fX9_correlate_109 rfl
theorem fX9_correlate_111 : ft 154 111 = some (.invokevirtual 117, 123, 0, 888, .null) := by decide +kernel
theorem gX9_correlate_111 {L : List (Option Value)} {p : Nat} {a0 : Int32} {a1 : Int32} {r0 : Int32} {r1 : Nat} {H : HP} {Q : Option Value → HP → Prop} : Go 154 111 L (.int a1 :: .int a0 :: .ref p :: [.int r0, .ref r1]) H Q ↔ (iso 9 (hget H p) = true ∧ Go 123 0 [some (.ref p), some (.int a0), some (.int a1)] [] H (Cont 154 114 L [.int r0, .ref r1] Q)) := G_cV (n := 2) (N := 3) (as := [.int a1, .int a0]) (st := [.int r0, .ref r1]) fX9_correlate_111 (by decide +kernel) rfl (Nat.le_of_ble_eq_true rfl) (Nat.le_of_ble_eq_true rfl) rfl
theorem fX9_correlate_114 : ft 154 114 = some (.aload_n 0, 0, 0, 0, .null) := by decide +kernel
theorem gX9_correlate_114 {l1 l2 l3 l4 l5 l6 l7 : Option Value} {u : Nat} {st : List Value} {H : HP} {Q : Option Value → HP → Prop} : Go 154 114 [some (.ref u), l1, l2, l3, l4, l5, l6, l7] st H Q ↔ Go 154 115 [some (.ref u), l1, l2, l3, l4, l5, l6, l7] (.ref u :: st) H Q := G_aload_n fX9_correlate_114 rfl
theorem fX9_correlate_115 : ft 154 115 = some (.iload_n 2, 0, 0, 0, .null) := by decide +kernel
theorem gX9_correlate_115 {l0 l1 l3 l4 l5 l6 l7 : Option Value} {u : Int32} {st : List Value} {H : HP} {Q : Option Value → HP → Prop} : Go 154 115 [l0, l1, some (.int u), l3, l4, l5, l6, l7] st H Q ↔ Go 154 116 [l0, l1, some (.int u), l3, l4, l5, l6, l7] (.int u :: st) H Q := G_iload_n fX9_correlate_115 rfl
theorem fX9_correlate_116 : ft 154 116 = some (.iload 6, 0, 0, 0, .null) := by decide +kernel
theorem gX9_correlate_116 {l0 l1 l2 l3 l4 l5 l7 : Option Value} {u : Int32} {st : List Value} {H : HP} {Q : Option Value → HP → Prop} : Go 154 116 [l0, l1, l2, l3, l4, l5, some (.int u), l7] st H Q ↔ Go 154 118 [l0, l1, l2, l3, l4, l5, some (.int u), l7] (.int u :: st) H Q := G_iload fX9_correlate_116 rfl
theorem fX9_correlate_118 : ft 154 118 = some (.invokevirtual 117, 123, 0, 888, .null) := by decide +kernel
theorem gX9_correlate_118 {L : List (Option Value)} {p : Nat} {a0 : Int32} {a1 : Int32} {r0 : Int64} {r1 : Int32} {r2 : Nat} {H : HP} {Q : Option Value → HP → Prop} : Go 154 118 L (.int a1 :: .int a0 :: .ref p :: [.long r0, .int r1, .ref r2]) H Q ↔ (iso 9 (hget H p) = true ∧ Go 123 0 [some (.ref p), some (.int a0), some (.int a1)] [] H (Cont 154 121 L [.long r0, .int r1, .ref r2] Q)) := G_cV (n := 2) (N := 3) (as := [.int a1, .int a0]) (st := [.long r0, .int r1, .ref r2]) fX9_correlate_118 (by decide +kernel) rfl (Nat.le_of_ble_eq_true rfl) (Nat.le_of_ble_eq_true rfl) rfl
theorem fX9_correlate_121 : ft 154 121 = some (.lmul, 0, 0, 0, .null) := by decide +kernel
theorem gX9_correlate_121 {L : List (Option Value)} {a b : Int} {st : List Value} {H : HP} {Q : Option Value → HP → Prop} : Go 154 121 L (vl b :: vl a :: st) H Q ↔ Go 154 122 L (vl (a * b) :: st) H Q := G_lmul fX9_correlate_121
theorem fX9_correlate_122 : ft 154 122 = some (.invokevirtual 178, 149, 0, 975, .null) := by decide +kernel
theorem gX9_correlate_122 {L : List (Option Value)} {p : Nat} {a0 : Int32} {a1 : Int64}  {H : HP} {Q : Option Value → HP → Prop} : Go 154 122 L (.long a1 :: .int a0 :: .ref p :: []) H Q ↔ (iso 9 (hget H p) = true ∧ Go 149 0 [some (.ref p), some (.int a0), some (.long a1), none, none, none] [] H (Cont 154 125 L [] Q)) := G_cV (n := 2) (N := 6) (as := [.long a1, .int a0]) (st := []) fX9_correlate_122 (by decide +kernel) rfl (Nat.le_of_ble_eq_true rfl) (Nat.le_of_ble_eq_true rfl) rfl
theorem fX9_correlate_125 : ft 154 125 = some (.iinc 6 1, 0, 0, 0, .null) := by decide +kernel
theorem gX9_correlate_125 {l0 l1 l2 l3 l4 l5 l7 : Option Value} {a : Int} {st : List Value} {H : HP} {Q : Option Value → HP → Prop} : Go 154 125 [l0, l1, l2, l3, l4, l5, some (vi a), l7] st H Q ↔ Go 154 128 [l0, l1, l2, l3, l4, l5, some (vi (a + 1)), l7] st H Q := G_iinc fX9_correlate_125 rfl rfl
theorem fX9_correlate_128 : ft 154 128 = some (.goto (-58), 0, 0, 0, .null) := by decide +kernel
theorem gX9_correlate_128 {L : List (Option Value)} {st : List Value} {H : HP} {Q : Option Value → HP → Prop} : Go 154 128 L st H Q ↔ Go 154 70 L st H Q := G_goto fX9_correlate_128 (by decide)
theorem fX9_correlate_131 : ft 154 131 = some (.iinc 5 1, 0, 0, 0, .null) := by decide +kernel
theorem gX9_correlate_131 {l0 l1 l2 l3 l4 l6 l7 : Option Value} {a : Int} {st : List Value} {H : HP} {Q : Option Value → HP → Prop} : Go 154 131 [l0, l1, l2, l3, l4, some (vi a), l6, l7] st H Q ↔ Go 154 134 [l0, l1, l2, l3, l4, some (vi (a + 1)), l6, l7] st H Q := G_iinc fX9_correlate_131 rfl rfl
theorem fX9_correlate_134 : ft 154 134 = some (.goto (-76), 0, 0, 0, .null) := by decide +kernel
theorem gX9_correlate_134 {L : List (Option Value)} {st : List Value} {H : HP} {Q : Option Value → HP → Prop} : Go 154 134 L st H Q ↔ Go 154 58 L st H Q := G_goto fX9_correlate_134 (by decide)
theorem fX9_correlate_137 : ft 154 137 = some (.aload_n 0, 0, 0, 0, .null) := by decide +kernel
theorem gX9_correlate_137 {l1 l2 l3 l4 l5 l6 l7 : Option Value} {u : Nat} {st : List Value} {H : HP} {Q : Option Value → HP → Prop} : Go 154 137 [some (.ref u), l1, l2, l3, l4, l5, l6, l7] st H Q ↔ Go 154 138 [some (.ref u), l1, l2, l3, l4, l5, l6, l7] (.ref u :: st) H Q := G_aload_n fX9_correlate_137 rfl
theorem fX9_correlate_138 : ft 154 138 = some (.getfield 163, 9, 8, 762, .null) := by decide +kernel
theorem gX9_correlate_138 {L : List (Option Value)} {p : Nat} {st : List Value} {H : HP} {Q : Option Value → HP → Prop} : Go 154 138 L (.ref p :: st) H Q ↔ Rd (gF' 9 8 (hget H p)) 154 141 L st H Q := G_getf fX9_correlate_138 ⟨rfl, rfl⟩
theorem fX9_correlate_141 : ft 154 141 = some (.ireturn, 0, 0, 0, .null) := by decide +kernel
theorem gX9_correlate_141 {L : List (Option Value)} {u : Int32} {H : HP} {Q : Option Value → HP → Prop} : Go 154 141 L [.int u] H Q ↔ Q (some (.int u)) H := G_iret fX9_correlate_141 (by decide +kernel)

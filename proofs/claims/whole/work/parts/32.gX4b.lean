theorem fX4_windows_0 : ft 52 0 = some (.aload_n 0, 0, 0, 0, .null) := by decide +kernel
theorem gX4_windows_0 {l1 l2 l3 l4 : Option Value} {u : Nat} {st : List Value} {H : HP} {Q : Option Value → HP → Prop} : Go 52 0 [some (.ref u), l1, l2, l3, l4] st H Q ↔ Go 52 1 [some (.ref u), l1, l2, l3, l4] (.ref u :: st) H Q := G_aload_n fX4_windows_0 rfl
theorem fX4_windows_1 : ft 52 1 = some (.aload_n 1, 0, 0, 0, .null) := by decide +kernel
theorem gX4_windows_1 {l0 l2 l3 l4 : Option Value} {u : Nat} {st : List Value} {H : HP} {Q : Option Value → HP → Prop} : Go 52 1 [l0, some (.ref u), l2, l3, l4] st H Q ↔ Go 52 2 [l0, some (.ref u), l2, l3, l4] (.ref u :: st) H Q := G_aload_n fX4_windows_1 rfl
theorem fX4_windows_2 : ft 52 2 = some (.invokevirtual 68, 55, 0, 454, .null) := by decide +kernel
theorem gX4_windows_2 {L : List (Option Value)} {p : Nat}  {r0 : Nat} {H : HP} {Q : Option Value → HP → Prop} : Go 52 2 L (.ref p :: [.ref r0]) H Q ↔ (iso 5 (hget H p) = true ∧ Go 55 0 [some (.ref p)] [] H (Cont 52 5 L [.ref r0] Q)) := G_cV (n := 0) (N := 1) (as := []) (st := [.ref r0]) fX4_windows_2 (by decide +kernel) rfl (Nat.le_of_ble_eq_true rfl) (Nat.le_of_ble_eq_true rfl) rfl
theorem fX4_windows_5 : ft 52 5 = some (.iload_n 2, 0, 0, 0, .null) := by decide +kernel
theorem gX4_windows_5 {l0 l1 l3 l4 : Option Value} {u : Int32} {st : List Value} {H : HP} {Q : Option Value → HP → Prop} : Go 52 5 [l0, l1, some (.int u), l3, l4] st H Q ↔ Go 52 6 [l0, l1, some (.int u), l3, l4] (.int u :: st) H Q := G_iload_n fX4_windows_5 rfl
theorem fX4_windows_6 : ft 52 6 = some (.isub, 0, 0, 0, .null) := by decide +kernel
theorem gX4_windows_6 {L : List (Option Value)} {a b : Int} {st : List Value} {H : HP} {Q : Option Value → HP → Prop} : Go 52 6 L (vi b :: vi a :: st) H Q ↔ Go 52 7 L (vi (a - b) :: st) H Q := G_isub fX4_windows_6
theorem fX4_windows_7 : ft 52 7 = some (.iconst 1, 0, 0, 0, .null) := by decide +kernel
theorem gX4_windows_7 {L : List (Option Value)} {st : List Value} {H : HP} {Q : Option Value → HP → Prop} : Go 52 7 L st H Q ↔ Go 52 8 L (vi 1 :: st) H Q := G_iconst fX4_windows_7
theorem fX4_windows_8 : ft 52 8 = some (.iadd, 0, 0, 0, .null) := by decide +kernel
theorem gX4_windows_8 {L : List (Option Value)} {a b : Int} {st : List Value} {H : HP} {Q : Option Value → HP → Prop} : Go 52 8 L (vi b :: vi a :: st) H Q ↔ Go 52 9 L (vi (a + b) :: st) H Q := G_iadd fX4_windows_8
theorem fX4_windows_9 : ft 52 9 = some (.iconst 0, 0, 0, 0, .null) := by decide +kernel
theorem gX4_windows_9 {L : List (Option Value)} {st : List Value} {H : HP} {Q : Option Value → HP → Prop} : Go 52 9 L st H Q ↔ Go 52 10 L (vi 0 :: st) H Q := G_iconst fX4_windows_9
theorem fX4_windows_10 : ft 52 10 = some (.invokestatic 77, 187, 0, 464, .null) := by decide +kernel
theorem gX4_windows_10 {L : List (Option Value)} {a0 : Int32} {a1 : Int32} {r0 : Nat} {H : HP} {Q : Option Value → HP → Prop} : Go 52 10 L (.int a1 :: .int a0 :: [.ref r0]) H Q ↔ Go 187 0 [some (.int a0), some (.int a1)] [] H (Cont 52 13 L [.ref r0] Q) := G_cS (n := 2) (N := 2) (as := [.int a1, .int a0]) (st := [.ref r0]) fX4_windows_10 (by decide +kernel) rfl (Nat.le_of_ble_eq_true rfl) (Nat.le_of_ble_eq_true rfl) rfl
theorem fX4_windows_13 : ft 52 13 = some (.putfield 18, 4, 2, 194, .null) := by decide +kernel
theorem gX4_windows_13 {L : List (Option Value)} {p : Nat} {u : Int32} (hp : p ≠ 0) {st : List Value} {H : HP} {Q : Option Value → HP → Prop} : Go 52 13 L (.int u :: .ref p :: st) H Q ↔ Wr (pF' 4 2 (hget H p) (.int u)) p 52 16 L st H Q := G_putf fX4_windows_13 ⟨⟨rfl, rfl⟩, rfl, Or.inl rfl⟩ hp
theorem fX4_windows_16 : ft 52 16 = some (.iconst 0, 0, 0, 0, .null) := by decide +kernel
theorem gX4_windows_16 {L : List (Option Value)} {st : List Value} {H : HP} {Q : Option Value → HP → Prop} : Go 52 16 L st H Q ↔ Go 52 17 L (vi 0 :: st) H Q := G_iconst fX4_windows_16
theorem fX4_windows_17 : ft 52 17 = some (.istore_n 3, 0, 0, 0, .null) := by decide +kernel
theorem gX4_windows_17 {l0 l1 l2 l3 l4 : Option Value} {u : Int32} {st : List Value} {H : HP} {Q : Option Value → HP → Prop} : Go 52 17 [l0, l1, l2, l3, l4] (.int u :: st) H Q ↔ Go 52 18 [l0, l1, l2, some (.int u), l4] st H Q := G_istore_n fX4_windows_17 rfl
theorem fX4_windows_18 : ft 52 18 = some (.iload_n 3, 0, 0, 0, .null) := by decide +kernel
theorem gX4_windows_18 {l0 l1 l2 l4 : Option Value} {u : Int32} {st : List Value} {H : HP} {Q : Option Value → HP → Prop} : Go 52 18 [l0, l1, l2, some (.int u), l4] st H Q ↔ Go 52 19 [l0, l1, l2, some (.int u), l4] (.int u :: st) H Q := G_iload_n fX4_windows_18 rfl
theorem fX4_windows_19 : ft 52 19 = some (.aload_n 0, 0, 0, 0, .null) := by decide +kernel
theorem gX4_windows_19 {l1 l2 l3 l4 : Option Value} {u : Nat} {st : List Value} {H : HP} {Q : Option Value → HP → Prop} : Go 52 19 [some (.ref u), l1, l2, l3, l4] st H Q ↔ Go 52 20 [some (.ref u), l1, l2, l3, l4] (.ref u :: st) H Q := G_aload_n fX4_windows_19 rfl
theorem fX4_windows_20 : ft 52 20 = some (.getfield 18, 4, 2, 194, .null) := by decide +kernel
theorem gX4_windows_20 {L : List (Option Value)} {p : Nat} {st : List Value} {H : HP} {Q : Option Value → HP → Prop} : Go 52 20 L (.ref p :: st) H Q ↔ Rd (gF' 4 2 (hget H p)) 52 23 L st H Q := G_getf fX4_windows_20 ⟨rfl, rfl⟩
theorem fX4_windows_23 : ft 52 23 = some (.if_icmp .ge 61, 0, 0, 0, .null) := by decide +kernel
theorem gX4_windows_23T {L : List (Option Value)} {a b : Int} (c : (-2147483648 ≤ a ∧ a ≤ 2147483647 ∧ -2147483648 ≤ b ∧ b ≤ 2147483647) ∧ b ≤ a) {st : List Value} {H : HP} {Q : Option Value → HP → Prop} : Go 52 23 L (vi b :: vi a :: st) H Q ↔ Go 52 84 L st H Q := G_icT fX4_windows_23 (by decide) c
theorem gX4_windows_23F {L : List (Option Value)} {a b : Int} (c : (-2147483648 ≤ a ∧ a ≤ 2147483647 ∧ -2147483648 ≤ b ∧ b ≤ 2147483647) ∧ ¬ (b ≤ a)) {st : List Value} {H : HP} {Q : Option Value → HP → Prop} : Go 52 23 L (vi b :: vi a :: st) H Q ↔ Go 52 26 L st H Q := G_icF (tg := 84) fX4_windows_23 (by decide) c
theorem fX4_windows_26 : ft 52 26 = some (.aload_n 0, 0, 0, 0, .null) := by decide +kernel
theorem gX4_windows_26 {l1 l2 l3 l4 : Option Value} {u : Nat} {st : List Value} {H : HP} {Q : Option Value → HP → Prop} : Go 52 26 [some (.ref u), l1, l2, l3, l4] st H Q ↔ Go 52 27 [some (.ref u), l1, l2, l3, l4] (.ref u :: st) H Q := G_aload_n fX4_windows_26 rfl
theorem fX4_windows_27 : ft 52 27 = some (.getfield 25, 4, 3, 196, .null) := by decide +kernel
theorem gX4_windows_27 {L : List (Option Value)} {p : Nat} {st : List Value} {H : HP} {Q : Option Value → HP → Prop} : Go 52 27 L (.ref p :: st) H Q ↔ Rd (gF' 4 3 (hget H p)) 52 30 L st H Q := G_getf fX4_windows_27 ⟨rfl, rfl⟩
theorem fX4_windows_30 : ft 52 30 = some (.invokevirtual 74, 64, 0, 460, .null) := by decide +kernel
theorem gX4_windows_30 {L : List (Option Value)} {p : Nat}   {H : HP} {Q : Option Value → HP → Prop} : Go 52 30 L (.ref p :: []) H Q ↔ (iso 7 (hget H p) = true ∧ Go 64 0 [some (.ref p)] [] H (Cont 52 33 L [] Q)) := G_cV (n := 0) (N := 1) (as := []) (st := []) fX4_windows_30 (by decide +kernel) rfl (Nat.le_of_ble_eq_true rfl) (Nat.le_of_ble_eq_true rfl) rfl
theorem fX4_windows_33 : ft 52 33 = some (.iload_n 3, 0, 0, 0, .null) := by decide +kernel
theorem gX4_windows_33 {l0 l1 l2 l4 : Option Value} {u : Int32} {st : List Value} {H : HP} {Q : Option Value → HP → Prop} : Go 52 33 [l0, l1, l2, some (.int u), l4] st H Q ↔ Go 52 34 [l0, l1, l2, some (.int u), l4] (.int u :: st) H Q := G_iload_n fX4_windows_33 rfl
theorem fX4_windows_34 : ft 52 34 = some (.istore 4, 0, 0, 0, .null) := by decide +kernel
theorem gX4_windows_34 {l0 l1 l2 l3 l4 : Option Value} {u : Int32} {st : List Value} {H : HP} {Q : Option Value → HP → Prop} : Go 52 34 [l0, l1, l2, l3, l4] (.int u :: st) H Q ↔ Go 52 36 [l0, l1, l2, l3, some (.int u)] st H Q := G_istore fX4_windows_34 rfl
theorem fX4_windows_36 : ft 52 36 = some (.iload 4, 0, 0, 0, .null) := by decide +kernel
theorem gX4_windows_36 {l0 l1 l2 l3 : Option Value} {u : Int32} {st : List Value} {H : HP} {Q : Option Value → HP → Prop} : Go 52 36 [l0, l1, l2, l3, some (.int u)] st H Q ↔ Go 52 38 [l0, l1, l2, l3, some (.int u)] (.int u :: st) H Q := G_iload fX4_windows_36 rfl
theorem fX4_windows_38 : ft 52 38 = some (.iload_n 3, 0, 0, 0, .null) := by decide +kernel
theorem gX4_windows_38 {l0 l1 l2 l4 : Option Value} {u : Int32} {st : List Value} {H : HP} {Q : Option Value → HP → Prop} : Go 52 38 [l0, l1, l2, some (.int u), l4] st H Q ↔ Go 52 39 [l0, l1, l2, some (.int u), l4] (.int u :: st) H Q := G_iload_n fX4_windows_38 rfl
theorem fX4_windows_39 : ft 52 39 = some (.iload_n 2, 0, 0, 0, .null) := by decide +kernel
theorem gX4_windows_39 {l0 l1 l3 l4 : Option Value} {u : Int32} {st : List Value} {H : HP} {Q : Option Value → HP → Prop} : Go 52 39 [l0, l1, some (.int u), l3, l4] st H Q ↔ Go 52 40 [l0, l1, some (.int u), l3, l4] (.int u :: st) H Q := G_iload_n fX4_windows_39 rfl
theorem fX4_windows_40 : ft 52 40 = some (.iadd, 0, 0, 0, .null) := by decide +kernel
theorem gX4_windows_40 {L : List (Option Value)} {a b : Int} {st : List Value} {H : HP} {Q : Option Value → HP → Prop} : Go 52 40 L (vi b :: vi a :: st) H Q ↔ Go 52 41 L (vi (a + b) :: st) H Q := G_iadd fX4_windows_40
theorem fX4_windows_41 : ft 52 41 = some (.if_icmp .ge 32, 0, 0, 0, .null) := by decide +kernel
theorem gX4_windows_41T {L : List (Option Value)} {a b : Int} (c : (-2147483648 ≤ a ∧ a ≤ 2147483647 ∧ -2147483648 ≤ b ∧ b ≤ 2147483647) ∧ b ≤ a) {st : List Value} {H : HP} {Q : Option Value → HP → Prop} : Go 52 41 L (vi b :: vi a :: st) H Q ↔ Go 52 73 L st H Q := G_icT fX4_windows_41 (by decide) c
theorem gX4_windows_41F {L : List (Option Value)} {a b : Int} (c : (-2147483648 ≤ a ∧ a ≤ 2147483647 ∧ -2147483648 ≤ b ∧ b ≤ 2147483647) ∧ ¬ (b ≤ a)) {st : List Value} {H : HP} {Q : Option Value → HP → Prop} : Go 52 41 L (vi b :: vi a :: st) H Q ↔ Go 52 44 L st H Q := G_icF (tg := 73) fX4_windows_41 (by decide) c
theorem fX4_windows_44 : ft 52 44 = some (.iload 4, 0, 0, 0, .null) := by decide +kernel
theorem gX4_windows_44 {l0 l1 l2 l3 : Option Value} {u : Int32} {st : List Value} {H : HP} {Q : Option Value → HP → Prop} : Go 52 44 [l0, l1, l2, l3, some (.int u)] st H Q ↔ Go 52 46 [l0, l1, l2, l3, some (.int u)] (.int u :: st) H Q := G_iload fX4_windows_44 rfl
theorem fX4_windows_46 : ft 52 46 = some (.aload_n 1, 0, 0, 0, .null) := by decide +kernel
theorem gX4_windows_46 {l0 l2 l3 l4 : Option Value} {u : Nat} {st : List Value} {H : HP} {Q : Option Value → HP → Prop} : Go 52 46 [l0, some (.ref u), l2, l3, l4] st H Q ↔ Go 52 47 [l0, some (.ref u), l2, l3, l4] (.ref u :: st) H Q := G_aload_n fX4_windows_46 rfl
theorem fX4_windows_47 : ft 52 47 = some (.invokevirtual 68, 55, 0, 454, .null) := by decide +kernel
theorem gX4_windows_47 {L : List (Option Value)} {p : Nat}  {r0 : Int32} {H : HP} {Q : Option Value → HP → Prop} : Go 52 47 L (.ref p :: [.int r0]) H Q ↔ (iso 5 (hget H p) = true ∧ Go 55 0 [some (.ref p)] [] H (Cont 52 50 L [.int r0] Q)) := G_cV (n := 0) (N := 1) (as := []) (st := [.int r0]) fX4_windows_47 (by decide +kernel) rfl (Nat.le_of_ble_eq_true rfl) (Nat.le_of_ble_eq_true rfl) rfl
theorem fX4_windows_50 : ft 52 50 = some (.if_icmp .ge 23, 0, 0, 0, .null) := by decide +kernel
theorem gX4_windows_50T {L : List (Option Value)} {a b : Int} (c : (-2147483648 ≤ a ∧ a ≤ 2147483647 ∧ -2147483648 ≤ b ∧ b ≤ 2147483647) ∧ b ≤ a) {st : List Value} {H : HP} {Q : Option Value → HP → Prop} : Go 52 50 L (vi b :: vi a :: st) H Q ↔ Go 52 73 L st H Q := G_icT fX4_windows_50 (by decide) c
theorem gX4_windows_50F {L : List (Option Value)} {a b : Int} (c : (-2147483648 ≤ a ∧ a ≤ 2147483647 ∧ -2147483648 ≤ b ∧ b ≤ 2147483647) ∧ ¬ (b ≤ a)) {st : List Value} {H : HP} {Q : Option Value → HP → Prop} : Go 52 50 L (vi b :: vi a :: st) H Q ↔ Go 52 53 L st H Q := G_icF (tg := 73) fX4_windows_50 (by decide) c
theorem fX4_windows_53 : ft 52 53 = some (.aload_n 0, 0, 0, 0, .null) := by decide +kernel
theorem gX4_windows_53 {l1 l2 l3 l4 : Option Value} {u : Nat} {st : List Value} {H : HP} {Q : Option Value → HP → Prop} : Go 52 53 [some (.ref u), l1, l2, l3, l4] st H Q ↔ Go 52 54 [some (.ref u), l1, l2, l3, l4] (.ref u :: st) H Q := G_aload_n fX4_windows_53 rfl
theorem fX4_windows_54 : ft 52 54 = some (.getfield 25, 4, 3, 196, .null) := by decide +kernel
theorem gX4_windows_54 {L : List (Option Value)} {p : Nat} {st : List Value} {H : HP} {Q : Option Value → HP → Prop} : Go 52 54 L (.ref p :: st) H Q ↔ Rd (gF' 4 3 (hget H p)) 52 57 L st H Q := G_getf fX4_windows_54 ⟨rfl, rfl⟩
theorem fX4_windows_57 : ft 52 57 = some (.aload_n 1, 0, 0, 0, .null) := by decide +kernel
theorem gX4_windows_57 {l0 l2 l3 l4 : Option Value} {u : Nat} {st : List Value} {H : HP} {Q : Option Value → HP → Prop} : Go 52 57 [l0, some (.ref u), l2, l3, l4] st H Q ↔ Go 52 58 [l0, some (.ref u), l2, l3, l4] (.ref u :: st) H Q := G_aload_n fX4_windows_57 rfl
theorem fX4_windows_58 : ft 52 58 = some (.getfield 83, 5, 1, 287, .null) := by decide +kernel
theorem gX4_windows_58 {L : List (Option Value)} {p : Nat} {st : List Value} {H : HP} {Q : Option Value → HP → Prop} : Go 52 58 L (.ref p :: st) H Q ↔ Rd (gF' 5 1 (hget H p)) 52 61 L st H Q := G_getf fX4_windows_58 ⟨rfl, rfl⟩
theorem fX4_windows_61 : ft 52 61 = some (.iload 4, 0, 0, 0, .null) := by decide +kernel
theorem gX4_windows_61 {l0 l1 l2 l3 : Option Value} {u : Int32} {st : List Value} {H : HP} {Q : Option Value → HP → Prop} : Go 52 61 [l0, l1, l2, l3, some (.int u)] st H Q ↔ Go 52 63 [l0, l1, l2, l3, some (.int u)] (.int u :: st) H Q := G_iload fX4_windows_61 rfl
theorem fX4_windows_63 : ft 52 63 = some (.laload, 0, 0, 0, .null) := by decide +kernel
theorem gX4_windows_63 {L : List (Option Value)} {p : Nat} {a : Int} {st : List Value} {H : HP} {Q : Option Value → HP → Prop} : Go 52 63 L (vi a :: .ref p :: st) H Q ↔ Rd (aL' (hget H p) a) 52 64 L st H Q := G_lald fX4_windows_63
theorem fX4_windows_64 : ft 52 64 = some (.invokevirtual 86, 65, 0, 465, .null) := by decide +kernel
theorem gX4_windows_64 {L : List (Option Value)} {p : Nat} {a0 : Int64}  {H : HP} {Q : Option Value → HP → Prop} : Go 52 64 L (.long a0 :: .ref p :: []) H Q ↔ (iso 7 (hget H p) = true ∧ Go 65 0 [some (.ref p), some (.long a0), none] [] H (Cont 52 67 L [] Q)) := G_cV (n := 1) (N := 3) (as := [.long a0]) (st := []) fX4_windows_64 (by decide +kernel) rfl (Nat.le_of_ble_eq_true rfl) (Nat.le_of_ble_eq_true rfl) rfl
theorem fX4_windows_67 : ft 52 67 = some (.iinc 4 1, 0, 0, 0, .null) := by decide +kernel
theorem gX4_windows_67 {l0 l1 l2 l3 : Option Value} {a : Int} {st : List Value} {H : HP} {Q : Option Value → HP → Prop} : Go 52 67 [l0, l1, l2, l3, some (vi a)] st H Q ↔ Go 52 70 [l0, l1, l2, l3, some (vi (a + 1))] st H Q := G_iinc fX4_windows_67 rfl rfl
theorem fX4_windows_70 : ft 52 70 = some (.goto (-34), 0, 0, 0, .null) := by decide +kernel
theorem gX4_windows_70 {L : List (Option Value)} {st : List Value} {H : HP} {Q : Option Value → HP → Prop} : Go 52 70 L st H Q ↔ Go 52 36 L st H Q := G_goto fX4_windows_70 (by decide)
theorem fX4_windows_73 : ft 52 73 = some (.aload_n 0, 0, 0, 0, .null) := by decide +kernel
theorem gX4_windows_73 {l1 l2 l3 l4 : Option Value} {u : Nat} {st : List Value} {H : HP} {Q : Option Value → HP → Prop} : Go 52 73 [some (.ref u), l1, l2, l3, l4] st H Q ↔ Go 52 74 [some (.ref u), l1, l2, l3, l4] (.ref u :: st) H Q := G_aload_n fX4_windows_73 rfl
theorem fX4_windows_74 : ft 52 74 = some (.iload_n 3, 0, 0, 0, .null) := by decide +kernel
theorem gX4_windows_74 {l0 l1 l2 l4 : Option Value} {u : Int32} {st : List Value} {H : HP} {Q : Option Value → HP → Prop} : Go 52 74 [l0, l1, l2, some (.int u), l4] st H Q ↔ Go 52 75 [l0, l1, l2, some (.int u), l4] (.int u :: st) H Q := G_iload_n fX4_windows_74 rfl
theorem fX4_windows_75 : ft 52 75 = some (.invokevirtual 90, 44, 0, 474, .null) := by decide +kernel
theorem gX4_windows_75 {L : List (Option Value)} {p : Nat} {a0 : Int32}  {H : HP} {Q : Option Value → HP → Prop} : Go 52 75 L (.int a0 :: .ref p :: []) H Q ↔ (iso 4 (hget H p) = true ∧ Go 44 0 [some (.ref p), some (.int a0)] [] H (Cont 52 78 L [] Q)) := G_cV (n := 1) (N := 2) (as := [.int a0]) (st := []) fX4_windows_75 (by decide +kernel) rfl (Nat.le_of_ble_eq_true rfl) (Nat.le_of_ble_eq_true rfl) rfl
theorem fX4_windows_78 : ft 52 78 = some (.iinc 3 1, 0, 0, 0, .null) := by decide +kernel
theorem gX4_windows_78 {l0 l1 l2 l4 : Option Value} {a : Int} {st : List Value} {H : HP} {Q : Option Value → HP → Prop} : Go 52 78 [l0, l1, l2, some (vi a), l4] st H Q ↔ Go 52 81 [l0, l1, l2, some (vi (a + 1)), l4] st H Q := G_iinc fX4_windows_78 rfl rfl
theorem fX4_windows_81 : ft 52 81 = some (.goto (-63), 0, 0, 0, .null) := by decide +kernel
theorem gX4_windows_81 {L : List (Option Value)} {st : List Value} {H : HP} {Q : Option Value → HP → Prop} : Go 52 81 L st H Q ↔ Go 52 18 L st H Q := G_goto fX4_windows_81 (by decide)
theorem fX4_windows_84 : ft 52 84 = some (.return_, 0, 0, 0, .null) := by decide +kernel
theorem gX4_windows_84 {L : List (Option Value)} {H : HP} {Q : Option Value → HP → Prop} : Go 52 84 L [] H Q ↔ Q none H := G_vret fX4_windows_84 (by decide +kernel)
theorem fX4_digitsInto_0 : ft 53 0 = some (.iconst 0, 0, 0, 0, .null) := by decide +kernel
theorem gX4_digitsInto_0 {L : List (Option Value)} {st : List Value} {H : HP} {Q : Option Value → HP → Prop} : Go 53 0 L st H Q ↔ Go 53 1 L (vi 0 :: st) H Q := G_iconst fX4_digitsInto_0
theorem fX4_digitsInto_1 : ft 53 1 = some (.istore_n 3, 0, 0, 0, .null) := by decide +kernel
theorem gX4_digitsInto_1 {l0 l1 l2 l3 l4 l5 l6 : Option Value} {u : Int32} {st : List Value} {H : HP} {Q : Option Value → HP → Prop} : Go 53 1 [l0, l1, l2, l3, l4, l5, l6] (.int u :: st) H Q ↔ Go 53 2 [l0, l1, l2, some (.int u), l4, l5, l6] st H Q := G_istore_n fX4_digitsInto_1 rfl
theorem fX4_digitsInto_2 : ft 53 2 = some (.aload_n 0, 0, 0, 0, .null) := by decide +kernel
theorem gX4_digitsInto_2 {l1 l2 l3 l4 l5 l6 : Option Value} {u : Nat} {st : List Value} {H : HP} {Q : Option Value → HP → Prop} : Go 53 2 [some (.ref u), l1, l2, l3, l4, l5, l6] st H Q ↔ Go 53 3 [some (.ref u), l1, l2, l3, l4, l5, l6] (.ref u :: st) H Q := G_aload_n fX4_digitsInto_2 rfl
theorem fX4_digitsInto_3 : ft 53 3 = some (.getfield 25, 4, 3, 196, .null) := by decide +kernel
theorem gX4_digitsInto_3 {L : List (Option Value)} {p : Nat} {st : List Value} {H : HP} {Q : Option Value → HP → Prop} : Go 53 3 L (.ref p :: st) H Q ↔ Rd (gF' 4 3 (hget H p)) 53 6 L st H Q := G_getf fX4_digitsInto_3 ⟨rfl, rfl⟩
theorem fX4_digitsInto_6 : ft 53 6 = some (.invokevirtual 74, 64, 0, 460, .null) := by decide +kernel
theorem gX4_digitsInto_6 {L : List (Option Value)} {p : Nat}   {H : HP} {Q : Option Value → HP → Prop} : Go 53 6 L (.ref p :: []) H Q ↔ (iso 7 (hget H p) = true ∧ Go 64 0 [some (.ref p)] [] H (Cont 53 9 L [] Q)) := G_cV (n := 0) (N := 1) (as := []) (st := []) fX4_digitsInto_6 (by decide +kernel) rfl (Nat.le_of_ble_eq_true rfl) (Nat.le_of_ble_eq_true rfl) rfl
theorem fX4_digitsInto_9 : ft 53 9 = some (.iconst 0, 0, 0, 0, .null) := by decide +kernel
theorem gX4_digitsInto_9 {L : List (Option Value)} {st : List Value} {H : HP} {Q : Option Value → HP → Prop} : Go 53 9 L st H Q ↔ Go 53 10 L (vi 0 :: st) H Q := G_iconst fX4_digitsInto_9
theorem fX4_digitsInto_10 : ft 53 10 = some (.istore 4, 0, 0, 0, .null) := by decide +kernel
theorem gX4_digitsInto_10 {l0 l1 l2 l3 l4 l5 l6 : Option Value} {u : Int32} {st : List Value} {H : HP} {Q : Option Value → HP → Prop} : Go 53 10 [l0, l1, l2, l3, l4, l5, l6] (.int u :: st) H Q ↔ Go 53 12 [l0, l1, l2, l3, some (.int u), l5, l6] st H Q := G_istore fX4_digitsInto_10 rfl
theorem fX4_digitsInto_12 : ft 53 12 = some (.iload 4, 0, 0, 0, .null) := by decide +kernel
theorem gX4_digitsInto_12 {l0 l1 l2 l3 l5 l6 : Option Value} {u : Int32} {st : List Value} {H : HP} {Q : Option Value → HP → Prop} : Go 53 12 [l0, l1, l2, l3, some (.int u), l5, l6] st H Q ↔ Go 53 14 [l0, l1, l2, l3, some (.int u), l5, l6] (.int u :: st) H Q := G_iload fX4_digitsInto_12 rfl
theorem fX4_digitsInto_14 : ft 53 14 = some (.aload_n 0, 0, 0, 0, .null) := by decide +kernel
theorem gX4_digitsInto_14 {l1 l2 l3 l4 l5 l6 : Option Value} {u : Nat} {st : List Value} {H : HP} {Q : Option Value → HP → Prop} : Go 53 14 [some (.ref u), l1, l2, l3, l4, l5, l6] st H Q ↔ Go 53 15 [some (.ref u), l1, l2, l3, l4, l5, l6] (.ref u :: st) H Q := G_aload_n fX4_digitsInto_14 rfl
theorem fX4_digitsInto_15 : ft 53 15 = some (.getfield 18, 4, 2, 194, .null) := by decide +kernel
theorem gX4_digitsInto_15 {L : List (Option Value)} {p : Nat} {st : List Value} {H : HP} {Q : Option Value → HP → Prop} : Go 53 15 L (.ref p :: st) H Q ↔ Rd (gF' 4 2 (hget H p)) 53 18 L st H Q := G_getf fX4_digitsInto_15 ⟨rfl, rfl⟩
theorem fX4_digitsInto_18 : ft 53 18 = some (.sipush 128, 0, 0, 0, .null) := by decide +kernel
theorem gX4_digitsInto_18 {L : List (Option Value)} {st : List Value} {H : HP} {Q : Option Value → HP → Prop} : Go 53 18 L st H Q ↔ Go 53 21 L (vi 128 :: st) H Q := G_sipush fX4_digitsInto_18 (by decide)
theorem fX4_digitsInto_21 : ft 53 21 = some (.iadd, 0, 0, 0, .null) := by decide +kernel
theorem gX4_digitsInto_21 {L : List (Option Value)} {a b : Int} {st : List Value} {H : HP} {Q : Option Value → HP → Prop} : Go 53 21 L (vi b :: vi a :: st) H Q ↔ Go 53 22 L (vi (a + b) :: st) H Q := G_iadd fX4_digitsInto_21
theorem fX4_digitsInto_22 : ft 53 22 = some (.if_icmp .ge 72, 0, 0, 0, .null) := by decide +kernel
theorem gX4_digitsInto_22T {L : List (Option Value)} {a b : Int} (c : (-2147483648 ≤ a ∧ a ≤ 2147483647 ∧ -2147483648 ≤ b ∧ b ≤ 2147483647) ∧ b ≤ a) {st : List Value} {H : HP} {Q : Option Value → HP → Prop} : Go 53 22 L (vi b :: vi a :: st) H Q ↔ Go 53 94 L st H Q := G_icT fX4_digitsInto_22 (by decide) c
theorem gX4_digitsInto_22F {L : List (Option Value)} {a b : Int} (c : (-2147483648 ≤ a ∧ a ≤ 2147483647 ∧ -2147483648 ≤ b ∧ b ≤ 2147483647) ∧ ¬ (b ≤ a)) {st : List Value} {H : HP} {Q : Option Value → HP → Prop} : Go 53 22 L (vi b :: vi a :: st) H Q ↔ Go 53 25 L st H Q := G_icF (tg := 94) fX4_digitsInto_22 (by decide) c
theorem fX4_digitsInto_25 : ft 53 25 = some (.iload 4, 0, 0, 0, .null) := by decide +kernel
theorem gX4_digitsInto_25 {l0 l1 l2 l3 l5 l6 : Option Value} {u : Int32} {st : List Value} {H : HP} {Q : Option Value → HP → Prop} : Go 53 25 [l0, l1, l2, l3, some (.int u), l5, l6] st H Q ↔ Go 53 27 [l0, l1, l2, l3, some (.int u), l5, l6] (.int u :: st) H Q := G_iload fX4_digitsInto_25 rfl
theorem fX4_digitsInto_27 : ft 53 27 = some (.aload_n 0, 0, 0, 0, .null) := by decide +kernel
theorem gX4_digitsInto_27 {l1 l2 l3 l4 l5 l6 : Option Value} {u : Nat} {st : List Value} {H : HP} {Q : Option Value → HP → Prop} : Go 53 27 [some (.ref u), l1, l2, l3, l4, l5, l6] st H Q ↔ Go 53 28 [some (.ref u), l1, l2, l3, l4, l5, l6] (.ref u :: st) H Q := G_aload_n fX4_digitsInto_27 rfl
theorem fX4_digitsInto_28 : ft 53 28 = some (.getfield 18, 4, 2, 194, .null) := by decide +kernel
theorem gX4_digitsInto_28 {L : List (Option Value)} {p : Nat} {st : List Value} {H : HP} {Q : Option Value → HP → Prop} : Go 53 28 L (.ref p :: st) H Q ↔ Rd (gF' 4 2 (hget H p)) 53 31 L st H Q := G_getf fX4_digitsInto_28 ⟨rfl, rfl⟩
theorem fX4_digitsInto_31 : ft 53 31 = some (.if_icmp .ge 24, 0, 0, 0, .null) := by decide +kernel
theorem gX4_digitsInto_31T {L : List (Option Value)} {a b : Int} (c : (-2147483648 ≤ a ∧ a ≤ 2147483647 ∧ -2147483648 ≤ b ∧ b ≤ 2147483647) ∧ b ≤ a) {st : List Value} {H : HP} {Q : Option Value → HP → Prop} : Go 53 31 L (vi b :: vi a :: st) H Q ↔ Go 53 55 L st H Q := G_icT fX4_digitsInto_31 (by decide) c
theorem gX4_digitsInto_31F {L : List (Option Value)} {a b : Int} (c : (-2147483648 ≤ a ∧ a ≤ 2147483647 ∧ -2147483648 ≤ b ∧ b ≤ 2147483647) ∧ ¬ (b ≤ a)) {st : List Value} {H : HP} {Q : Option Value → HP → Prop} : Go 53 31 L (vi b :: vi a :: st) H Q ↔ Go 53 34 L st H Q := G_icF (tg := 55) fX4_digitsInto_31 (by decide) c
theorem fX4_digitsInto_34 : ft 53 34 = some (.aload_n 0, 0, 0, 0, .null) := by decide +kernel
theorem gX4_digitsInto_34 {l1 l2 l3 l4 l5 l6 : Option Value} {u : Nat} {st : List Value} {H : HP} {Q : Option Value → HP → Prop} : Go 53 34 [some (.ref u), l1, l2, l3, l4, l5, l6] st H Q ↔ Go 53 35 [some (.ref u), l1, l2, l3, l4, l5, l6] (.ref u :: st) H Q := G_aload_n fX4_digitsInto_34 rfl
theorem fX4_digitsInto_35 : ft 53 35 = some (.getfield 25, 4, 3, 196, .null) := by decide +kernel
theorem gX4_digitsInto_35 {L : List (Option Value)} {p : Nat} {st : List Value} {H : HP} {Q : Option Value → HP → Prop} : Go 53 35 L (.ref p :: st) H Q ↔ Rd (gF' 4 3 (hget H p)) 53 38 L st H Q := G_getf fX4_digitsInto_35 ⟨rfl, rfl⟩
theorem fX4_digitsInto_38 : ft 53 38 = some (.aload_n 0, 0, 0, 0, .null) := by decide +kernel
theorem gX4_digitsInto_38 {l1 l2 l3 l4 l5 l6 : Option Value} {u : Nat} {st : List Value} {H : HP} {Q : Option Value → HP → Prop} : Go 53 38 [some (.ref u), l1, l2, l3, l4, l5, l6] st H Q ↔ Go 53 39 [some (.ref u), l1, l2, l3, l4, l5, l6] (.ref u :: st) H Q := G_aload_n fX4_digitsInto_38 rfl
theorem fX4_digitsInto_39 : ft 53 39 = some (.getfield 9, 4, 0, 190, .null) := by decide +kernel
theorem gX4_digitsInto_39 {L : List (Option Value)} {p : Nat} {st : List Value} {H : HP} {Q : Option Value → HP → Prop} : Go 53 39 L (.ref p :: st) H Q ↔ Rd (gF' 4 0 (hget H p)) 53 42 L st H Q := G_getf fX4_digitsInto_39 ⟨rfl, rfl⟩
theorem fX4_digitsInto_42 : ft 53 42 = some (.iload 4, 0, 0, 0, .null) := by decide +kernel
theorem gX4_digitsInto_42 {l0 l1 l2 l3 l5 l6 : Option Value} {u : Int32} {st : List Value} {H : HP} {Q : Option Value → HP → Prop} : Go 53 42 [l0, l1, l2, l3, some (.int u), l5, l6] st H Q ↔ Go 53 44 [l0, l1, l2, l3, some (.int u), l5, l6] (.int u :: st) H Q := G_iload fX4_digitsInto_42 rfl
theorem fX4_digitsInto_44 : ft 53 44 = some (.laload, 0, 0, 0, .null) := by decide +kernel
theorem gX4_digitsInto_44 {L : List (Option Value)} {p : Nat} {a : Int} {st : List Value} {H : HP} {Q : Option Value → HP → Prop} : Go 53 44 L (vi a :: .ref p :: st) H Q ↔ Rd (aL' (hget H p) a) 53 45 L st H Q := G_lald fX4_digitsInto_44
theorem fX4_digitsInto_45 : ft 53 45 = some (.aload_n 0, 0, 0, 0, .null) := by decide +kernel
theorem gX4_digitsInto_45 {l1 l2 l3 l4 l5 l6 : Option Value} {u : Nat} {st : List Value} {H : HP} {Q : Option Value → HP → Prop} : Go 53 45 [some (.ref u), l1, l2, l3, l4, l5, l6] st H Q ↔ Go 53 46 [some (.ref u), l1, l2, l3, l4, l5, l6] (.ref u :: st) H Q := G_aload_n fX4_digitsInto_45 rfl
theorem fX4_digitsInto_46 : ft 53 46 = some (.getfield 15, 4, 1, 192, .null) := by decide +kernel
theorem gX4_digitsInto_46 {L : List (Option Value)} {p : Nat} {st : List Value} {H : HP} {Q : Option Value → HP → Prop} : Go 53 46 L (.ref p :: st) H Q ↔ Rd (gF' 4 1 (hget H p)) 53 49 L st H Q := G_getf fX4_digitsInto_46 ⟨rfl, rfl⟩
theorem fX4_digitsInto_49 : ft 53 49 = some (.iload 4, 0, 0, 0, .null) := by decide +kernel
theorem gX4_digitsInto_49 {l0 l1 l2 l3 l5 l6 : Option Value} {u : Int32} {st : List Value} {H : HP} {Q : Option Value → HP → Prop} : Go 53 49 [l0, l1, l2, l3, some (.int u), l5, l6] st H Q ↔ Go 53 51 [l0, l1, l2, l3, some (.int u), l5, l6] (.int u :: st) H Q := G_iload fX4_digitsInto_49 rfl
theorem fX4_digitsInto_51 : ft 53 51 = some (.laload, 0, 0, 0, .null) := by decide +kernel
theorem gX4_digitsInto_51 {L : List (Option Value)} {p : Nat} {a : Int} {st : List Value} {H : HP} {Q : Option Value → HP → Prop} : Go 53 51 L (vi a :: .ref p :: st) H Q ↔ Rd (aL' (hget H p) a) 53 52 L st H Q := G_lald fX4_digitsInto_51
theorem fX4_digitsInto_52 : ft 53 52 = some (.invokevirtual 135, 66, 0, 578, .null) := by decide +kernel
theorem gX4_digitsInto_52 {L : List (Option Value)} {p : Nat} {a0 : Int64} {a1 : Int64}  {H : HP} {Q : Option Value → HP → Prop} : Go 53 52 L (.long a1 :: .long a0 :: .ref p :: []) H Q ↔ (iso 7 (hget H p) = true ∧ Go 66 0 [some (.ref p), some (.long a0), none, some (.long a1), none, none, none, none, none] [] H (Cont 53 55 L [] Q)) := G_cV (n := 2) (N := 9) (as := [.long a1, .long a0]) (st := []) fX4_digitsInto_52 (by decide +kernel) rfl (Nat.le_of_ble_eq_true rfl) (Nat.le_of_ble_eq_true rfl) rfl
theorem fX4_digitsInto_55 : ft 53 55 = some (.aload_n 0, 0, 0, 0, .null) := by decide +kernel
theorem gX4_digitsInto_55 {l1 l2 l3 l4 l5 l6 : Option Value} {u : Nat} {st : List Value} {H : HP} {Q : Option Value → HP → Prop} : Go 53 55 [some (.ref u), l1, l2, l3, l4, l5, l6] st H Q ↔ Go 53 56 [some (.ref u), l1, l2, l3, l4, l5, l6] (.ref u :: st) H Q := G_aload_n fX4_digitsInto_55 rfl
theorem fX4_digitsInto_56 : ft 53 56 = some (.getfield 25, 4, 3, 196, .null) := by decide +kernel
theorem gX4_digitsInto_56 {L : List (Option Value)} {p : Nat} {st : List Value} {H : HP} {Q : Option Value → HP → Prop} : Go 53 56 L (.ref p :: st) H Q ↔ Rd (gF' 4 3 (hget H p)) 53 59 L st H Q := G_getf fX4_digitsInto_56 ⟨rfl, rfl⟩
theorem fX4_digitsInto_59 : ft 53 59 = some (.iload_n 2, 0, 0, 0, .null) := by decide +kernel
theorem gX4_digitsInto_59 {l0 l1 l3 l4 l5 l6 : Option Value} {u : Int32} {st : List Value} {H : HP} {Q : Option Value → HP → Prop} : Go 53 59 [l0, l1, some (.int u), l3, l4, l5, l6] st H Q ↔ Go 53 60 [l0, l1, some (.int u), l3, l4, l5, l6] (.int u :: st) H Q := G_iload_n fX4_digitsInto_59 rfl
theorem fX4_digitsInto_60 : ft 53 60 = some (.invokevirtual 138, 68, 0, 579, .null) := by decide +kernel
theorem gX4_digitsInto_60 {L : List (Option Value)} {p : Nat} {a0 : Int32}  {H : HP} {Q : Option Value → HP → Prop} : Go 53 60 L (.int a0 :: .ref p :: []) H Q ↔ (iso 7 (hget H p) = true ∧ Go 68 0 [some (.ref p), some (.int a0), none, none, none, none, none, none] [] H (Cont 53 63 L [] Q)) := G_cV (n := 1) (N := 8) (as := [.int a0]) (st := []) fX4_digitsInto_60 (by decide +kernel) rfl (Nat.le_of_ble_eq_true rfl) (Nat.le_of_ble_eq_true rfl) rfl
theorem fX4_digitsInto_63 : ft 53 63 = some (.lstore 5, 0, 0, 0, .null) := by decide +kernel
theorem gX4_digitsInto_63 {l0 l1 l2 l3 l4 l5 l6 : Option Value} {u : Int64} {st : List Value} {H : HP} {Q : Option Value → HP → Prop} : Go 53 63 [l0, l1, l2, l3, l4, l5, l6] (.long u :: st) H Q ↔ Go 53 65 [l0, l1, l2, l3, l4, some (.long u), none] st H Q := G_lstore fX4_digitsInto_63 rfl
theorem fX4_digitsInto_65 : ft 53 65 = some (.iload 4, 0, 0, 0, .null) := by decide +kernel
theorem gX4_digitsInto_65 {l0 l1 l2 l3 l5 l6 : Option Value} {u : Int32} {st : List Value} {H : HP} {Q : Option Value → HP → Prop} : Go 53 65 [l0, l1, l2, l3, some (.int u), l5, l6] st H Q ↔ Go 53 67 [l0, l1, l2, l3, some (.int u), l5, l6] (.int u :: st) H Q := G_iload fX4_digitsInto_65 rfl
theorem fX4_digitsInto_67 : ft 53 67 = some (.aload_n 1, 0, 0, 0, .null) := by decide +kernel
theorem gX4_digitsInto_67 {l0 l2 l3 l4 l5 l6 : Option Value} {u : Nat} {st : List Value} {H : HP} {Q : Option Value → HP → Prop} : Go 53 67 [l0, some (.ref u), l2, l3, l4, l5, l6] st H Q ↔ Go 53 68 [l0, some (.ref u), l2, l3, l4, l5, l6] (.ref u :: st) H Q := G_aload_n fX4_digitsInto_67 rfl
theorem fX4_digitsInto_68 : ft 53 68 = some (.arraylength, 0, 0, 0, .null) := by decide +kernel
theorem gX4_digitsInto_68 {L : List (Option Value)} {p : Nat} {st : List Value} {H : HP} {Q : Option Value → HP → Prop} : Go 53 68 L (.ref p :: st) H Q ↔ Rd (aN' (hget H p)) 53 69 L st H Q := G_alen fX4_digitsInto_68
theorem fX4_digitsInto_69 : ft 53 69 = some (.if_icmp .ge 9, 0, 0, 0, .null) := by decide +kernel
theorem gX4_digitsInto_69T {L : List (Option Value)} {a b : Int} (c : (-2147483648 ≤ a ∧ a ≤ 2147483647 ∧ -2147483648 ≤ b ∧ b ≤ 2147483647) ∧ b ≤ a) {st : List Value} {H : HP} {Q : Option Value → HP → Prop} : Go 53 69 L (vi b :: vi a :: st) H Q ↔ Go 53 78 L st H Q := G_icT fX4_digitsInto_69 (by decide) c
theorem gX4_digitsInto_69F {L : List (Option Value)} {a b : Int} (c : (-2147483648 ≤ a ∧ a ≤ 2147483647 ∧ -2147483648 ≤ b ∧ b ≤ 2147483647) ∧ ¬ (b ≤ a)) {st : List Value} {H : HP} {Q : Option Value → HP → Prop} : Go 53 69 L (vi b :: vi a :: st) H Q ↔ Go 53 72 L st H Q := G_icF (tg := 78) fX4_digitsInto_69 (by decide) c
theorem fX4_digitsInto_72 : ft 53 72 = some (.aload_n 1, 0, 0, 0, .null) := by decide +kernel
theorem gX4_digitsInto_72 {l0 l2 l3 l4 l5 l6 : Option Value} {u : Nat} {st : List Value} {H : HP} {Q : Option Value → HP → Prop} : Go 53 72 [l0, some (.ref u), l2, l3, l4, l5, l6] st H Q ↔ Go 53 73 [l0, some (.ref u), l2, l3, l4, l5, l6] (.ref u :: st) H Q := G_aload_n fX4_digitsInto_72 rfl
theorem fX4_digitsInto_73 : ft 53 73 = some (.iload 4, 0, 0, 0, .null) := by decide +kernel
theorem gX4_digitsInto_73 {l0 l1 l2 l3 l5 l6 : Option Value} {u : Int32} {st : List Value} {H : HP} {Q : Option Value → HP → Prop} : Go 53 73 [l0, l1, l2, l3, some (.int u), l5, l6] st H Q ↔ Go 53 75 [l0, l1, l2, l3, some (.int u), l5, l6] (.int u :: st) H Q := G_iload fX4_digitsInto_73 rfl
theorem fX4_digitsInto_75 : ft 53 75 = some (.lload 5, 0, 0, 0, .null) := by decide +kernel
theorem gX4_digitsInto_75 {l0 l1 l2 l3 l4 : Option Value} {u : Int64} {st : List Value} {H : HP} {Q : Option Value → HP → Prop} : Go 53 75 [l0, l1, l2, l3, l4, some (.long u), none] st H Q ↔ Go 53 77 [l0, l1, l2, l3, l4, some (.long u), none] (.long u :: st) H Q := G_lload fX4_digitsInto_75 rfl
theorem fX4_digitsInto_77 : ft 53 77 = some (.lastore, 0, 0, 0, .null) := by decide +kernel
theorem gX4_digitsInto_77 {L : List (Option Value)} {p : Nat} {a : Int} {b : Int} (hp : p ≠ 0) {st : List Value} {H : HP} {Q : Option Value → HP → Prop} : Go 53 77 L (vl b :: vi a :: .ref p :: st) H Q ↔ Wr (sL' (hget H p) a b) p 53 78 L st H Q := G_last fX4_digitsInto_77 hp
theorem fX4_digitsInto_78 : ft 53 78 = some (.lload 5, 0, 0, 0, .null) := by decide +kernel
theorem gX4_digitsInto_78 {l0 l1 l2 l3 l4 : Option Value} {u : Int64} {st : List Value} {H : HP} {Q : Option Value → HP → Prop} : Go 53 78 [l0, l1, l2, l3, l4, some (.long u), none] st H Q ↔ Go 53 80 [l0, l1, l2, l3, l4, some (.long u), none] (.long u :: st) H Q := G_lload fX4_digitsInto_78 rfl
theorem fX4_digitsInto_80 : ft 53 80 = some (.lconst 0, 0, 0, 0, .null) := by decide +kernel
theorem gX4_digitsInto_80 {L : List (Option Value)} {st : List Value} {H : HP} {Q : Option Value → HP → Prop} : Go 53 80 L st H Q ↔ Go 53 81 L (vl 0 :: st) H Q := G_lconst fX4_digitsInto_80 (by decide)
theorem fX4_digitsInto_81 : ft 53 81 = some (.lcmp, 0, 0, 0, .null) := by decide +kernel
theorem fX4_digitsInto_81' : ft 53 82 = some (.ifCond .eq 6, 0, 0, 0, .null) := by decide +kernel
theorem gX4_digitsInto_81T {L : List (Option Value)} {a b : Int} (c : (-9223372036854775808 ≤ a ∧ a ≤ 9223372036854775807 ∧ -9223372036854775808 ≤ b ∧ b ≤ 9223372036854775807) ∧ a = b) {st : List Value} {H : HP} {Q : Option Value → HP → Prop} : Go 53 81 L (vl b :: vl a :: st) H Q ↔ Go 53 88 L st H Q := G_lcT fX4_digitsInto_81 fX4_digitsInto_81' (by decide) c
theorem gX4_digitsInto_81F {L : List (Option Value)} {a b : Int} (c : (-9223372036854775808 ≤ a ∧ a ≤ 9223372036854775807 ∧ -9223372036854775808 ≤ b ∧ b ≤ 9223372036854775807) ∧ ¬ (a = b)) {st : List Value} {H : HP} {Q : Option Value → HP → Prop} : Go 53 81 L (vl b :: vl a :: st) H Q ↔ Go 53 85 L st H Q := G_lcF (tg := 88) fX4_digitsInto_81 fX4_digitsInto_81' (by decide) c
theorem fX4_digitsInto_82 : ft 53 82 = some (.ifCond .eq 6, 0, 0, 0, .null) := by decide +kernel
theorem gX4_digitsInto_82T {L : List (Option Value)} {a : Int} (c : (-2147483648 ≤ a ∧ a ≤ 2147483647) ∧ a = 0) {st : List Value} {H : HP} {Q : Option Value → HP → Prop} : Go 53 82 L (vi a :: st) H Q ↔ Go 53 88 L st H Q := G_ifT fX4_digitsInto_82 (by decide) c
theorem gX4_digitsInto_82F {L : List (Option Value)} {a : Int} (c : (-2147483648 ≤ a ∧ a ≤ 2147483647) ∧ ¬ (a = 0)) {st : List Value} {H : HP} {Q : Option Value → HP → Prop} : Go 53 82 L (vi a :: st) H Q ↔ Go 53 85 L st H Q := G_ifF (tg := 88) fX4_digitsInto_82 (by decide) c
theorem fX4_digitsInto_85 : ft 53 85 = some (.iload 4, 0, 0, 0, .null) := by decide +kernel
theorem gX4_digitsInto_85 {l0 l1 l2 l3 l5 l6 : Option Value} {u : Int32} {st : List Value} {H : HP} {Q : Option Value → HP → Prop} : Go 53 85 [l0, l1, l2, l3, some (.int u), l5, l6] st H Q ↔ Go 53 87 [l0, l1, l2, l3, some (.int u), l5, l6] (.int u :: st) H Q := G_iload fX4_digitsInto_85 rfl
theorem fX4_digitsInto_87 : ft 53 87 = some (.istore_n 3, 0, 0, 0, .null) := by decide +kernel
theorem gX4_digitsInto_87 {l0 l1 l2 l3 l4 l5 l6 : Option Value} {u : Int32} {st : List Value} {H : HP} {Q : Option Value → HP → Prop} : Go 53 87 [l0, l1, l2, l3, l4, l5, l6] (.int u :: st) H Q ↔ Go 53 88 [l0, l1, l2, some (.int u), l4, l5, l6] st H Q := G_istore_n fX4_digitsInto_87 rfl
theorem fX4_digitsInto_88 : ft 53 88 = some (.iinc 4 1, 0, 0, 0, .null) := by decide +kernel
theorem gX4_digitsInto_88 {l0 l1 l2 l3 l5 l6 : Option Value} {a : Int} {st : List Value} {H : HP} {Q : Option Value → HP → Prop} : Go 53 88 [l0, l1, l2, l3, some (vi a), l5, l6] st H Q ↔ Go 53 91 [l0, l1, l2, l3, some (vi (a + 1)), l5, l6] st H Q := G_iinc fX4_digitsInto_88 rfl rfl
theorem fX4_digitsInto_91 : ft 53 91 = some (.goto (-79), 0, 0, 0, .null) := by decide +kernel
theorem gX4_digitsInto_91 {L : List (Option Value)} {st : List Value} {H : HP} {Q : Option Value → HP → Prop} : Go 53 91 L st H Q ↔ Go 53 12 L st H Q := G_goto fX4_digitsInto_91 (by decide)
theorem fX4_digitsInto_94 : ft 53 94 = some (.iload_n 3, 0, 0, 0, .null) := by decide +kernel
theorem gX4_digitsInto_94 {l0 l1 l2 l4 l5 l6 : Option Value} {u : Int32} {st : List Value} {H : HP} {Q : Option Value → HP → Prop} : Go 53 94 [l0, l1, l2, some (.int u), l4, l5, l6] st H Q ↔ Go 53 95 [l0, l1, l2, some (.int u), l4, l5, l6] (.int u :: st) H Q := G_iload_n fX4_digitsInto_94 rfl
theorem fX4_digitsInto_95 : ft 53 95 = some (.aload_n 1, 0, 0, 0, .null) := by decide +kernel
theorem gX4_digitsInto_95 {l0 l2 l3 l4 l5 l6 : Option Value} {u : Nat} {st : List Value} {H : HP} {Q : Option Value → HP → Prop} : Go 53 95 [l0, some (.ref u), l2, l3, l4, l5, l6] st H Q ↔ Go 53 96 [l0, some (.ref u), l2, l3, l4, l5, l6] (.ref u :: st) H Q := G_aload_n fX4_digitsInto_95 rfl
theorem fX4_digitsInto_96 : ft 53 96 = some (.arraylength, 0, 0, 0, .null) := by decide +kernel
theorem gX4_digitsInto_96 {L : List (Option Value)} {p : Nat} {st : List Value} {H : HP} {Q : Option Value → HP → Prop} : Go 53 96 L (.ref p :: st) H Q ↔ Rd (aN' (hget H p)) 53 97 L st H Q := G_alen fX4_digitsInto_96
theorem fX4_digitsInto_97 : ft 53 97 = some (.if_icmp .ge 9, 0, 0, 0, .null) := by decide +kernel
theorem gX4_digitsInto_97T {L : List (Option Value)} {a b : Int} (c : (-2147483648 ≤ a ∧ a ≤ 2147483647 ∧ -2147483648 ≤ b ∧ b ≤ 2147483647) ∧ b ≤ a) {st : List Value} {H : HP} {Q : Option Value → HP → Prop} : Go 53 97 L (vi b :: vi a :: st) H Q ↔ Go 53 106 L st H Q := G_icT fX4_digitsInto_97 (by decide) c
theorem gX4_digitsInto_97F {L : List (Option Value)} {a b : Int} (c : (-2147483648 ≤ a ∧ a ≤ 2147483647 ∧ -2147483648 ≤ b ∧ b ≤ 2147483647) ∧ ¬ (b ≤ a)) {st : List Value} {H : HP} {Q : Option Value → HP → Prop} : Go 53 97 L (vi b :: vi a :: st) H Q ↔ Go 53 100 L st H Q := G_icF (tg := 106) fX4_digitsInto_97 (by decide) c
theorem fX4_digitsInto_100 : ft 53 100 = some (.iload_n 3, 0, 0, 0, .null) := by decide +kernel
theorem gX4_digitsInto_100 {l0 l1 l2 l4 l5 l6 : Option Value} {u : Int32} {st : List Value} {H : HP} {Q : Option Value → HP → Prop} : Go 53 100 [l0, l1, l2, some (.int u), l4, l5, l6] st H Q ↔ Go 53 101 [l0, l1, l2, some (.int u), l4, l5, l6] (.int u :: st) H Q := G_iload_n fX4_digitsInto_100 rfl
theorem fX4_digitsInto_101 : ft 53 101 = some (.iconst 1, 0, 0, 0, .null) := by decide +kernel
theorem gX4_digitsInto_101 {L : List (Option Value)} {st : List Value} {H : HP} {Q : Option Value → HP → Prop} : Go 53 101 L st H Q ↔ Go 53 102 L (vi 1 :: st) H Q := G_iconst fX4_digitsInto_101
theorem fX4_digitsInto_102 : ft 53 102 = some (.iadd, 0, 0, 0, .null) := by decide +kernel
theorem gX4_digitsInto_102 {L : List (Option Value)} {a b : Int} {st : List Value} {H : HP} {Q : Option Value → HP → Prop} : Go 53 102 L (vi b :: vi a :: st) H Q ↔ Go 53 103 L (vi (a + b) :: st) H Q := G_iadd fX4_digitsInto_102
theorem fX4_digitsInto_103 : ft 53 103 = some (.goto 4, 0, 0, 0, .null) := by decide +kernel
theorem gX4_digitsInto_103 {L : List (Option Value)} {st : List Value} {H : HP} {Q : Option Value → HP → Prop} : Go 53 103 L st H Q ↔ Go 53 107 L st H Q := G_goto fX4_digitsInto_103 (by decide)
theorem fX4_digitsInto_106 : ft 53 106 = some (.iconst 0, 0, 0, 0, .null) := by decide +kernel
theorem gX4_digitsInto_106 {L : List (Option Value)} {st : List Value} {H : HP} {Q : Option Value → HP → Prop} : Go 53 106 L st H Q ↔ Go 53 107 L (vi 0 :: st) H Q := G_iconst fX4_digitsInto_106
theorem fX4_digitsInto_107 : ft 53 107 = some (.ireturn, 0, 0, 0, .null) := by decide +kernel
theorem gX4_digitsInto_107 {L : List (Option Value)} {u : Int32} {H : HP} {Q : Option Value → HP → Prop} : Go 53 107 L [.int u] H Q ↔ Q (some (.int u)) H := G_iret fX4_digitsInto_107 (by decide +kernel)

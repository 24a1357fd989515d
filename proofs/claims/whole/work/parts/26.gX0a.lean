theorem fX0_init_0 : ft 0 0 = some (.aload_n 0, 0, 0, 0, .null) := by decide +kernel
theorem gX0_init_0 {l1 : Option Value} {u : Nat} {st : List Value} {H : HP} {Q : Option Value → HP → Prop} : Go 0 0 [some (.ref u), l1] st H Q ↔ Go 0 1 [some (.ref u), l1] (.ref u :: st) H Q := G_aload_n fX0_init_0 rfl
theorem fX0_init_1 : ft 0 1 = some (.invokespecial 3, 1000, 0, 78, .null) := by decide +kernel
theorem gX0_init_1 {L : List (Option Value)} {p : Nat}  {H : HP} {Q : Option Value → HP → Prop} : Go 0 1 L (.ref p :: []) H Q ↔ Go 0 4 L [] H Q := G_obj fX0_init_1 rfl ⟨by decide +kernel, Nat.le_trans (m := 20) (Nat.le_of_ble_eq_true rfl) (by decide +kernel)⟩
theorem fX0_init_4 : ft 0 4 = some (.aload_n 0, 0, 0, 0, .null) := by decide +kernel
theorem gX0_init_4 {l1 : Option Value} {u : Nat} {st : List Value} {H : HP} {Q : Option Value → HP → Prop} : Go 0 4 [some (.ref u), l1] st H Q ↔ Go 0 5 [some (.ref u), l1] (.ref u :: st) H Q := G_aload_n fX0_init_4 rfl
theorem fX0_init_5 : ft 0 5 = some (.bipush 10, 0, 0, 0, .null) := by decide +kernel
theorem gX0_init_5 {L : List (Option Value)} {st : List Value} {H : HP} {Q : Option Value → HP → Prop} : Go 0 5 L st H Q ↔ Go 0 7 L (vi 10 :: st) H Q := G_bipush fX0_init_5 (by decide)
theorem fX0_init_7 : ft 0 7 = some (.newarray .double, 0, 0, 0, .null) := by decide +kernel
theorem gX0_init_7 {L : List (Option Value)} {a : Int} (c : 0 ≤ a ∧ a ≤ 1000000) {st : List Value} {H : HP} {Q : Option Value → HP → Prop} : Go 0 7 L (vi a :: st) H Q ↔ Go 0 9 L (.ref H.1 :: st) (hnew H (cD a fun _ => 0) a.toNat) Q := G_newD fX0_init_7 c
theorem fX0_init_9 : ft 0 9 = some (.putfield 11, 0, 0, 80, .null) := by decide +kernel
theorem gX0_init_9 {L : List (Option Value)} {p : Nat} {u : Nat} (hp : p ≠ 0) {st : List Value} {H : HP} {Q : Option Value → HP → Prop} : Go 0 9 L (.ref u :: .ref p :: st) H Q ↔ Wr (pF' 0 0 (hget H p) (.ref u)) p 0 12 L st H Q := G_putf fX0_init_9 ⟨⟨rfl, rfl⟩, rfl, Or.inr (by decide +kernel)⟩ hp
theorem fX0_init_12 : ft 0 12 = some (.aload_n 0, 0, 0, 0, .null) := by decide +kernel
theorem gX0_init_12 {l1 : Option Value} {u : Nat} {st : List Value} {H : HP} {Q : Option Value → HP → Prop} : Go 0 12 [some (.ref u), l1] st H Q ↔ Go 0 13 [some (.ref u), l1] (.ref u :: st) H Q := G_aload_n fX0_init_12 rfl
theorem fX0_init_13 : ft 0 13 = some (.bipush 64, 0, 0, 0, .null) := by decide +kernel
theorem gX0_init_13 {L : List (Option Value)} {st : List Value} {H : HP} {Q : Option Value → HP → Prop} : Go 0 13 L st H Q ↔ Go 0 15 L (vi 64 :: st) H Q := G_bipush fX0_init_13 (by decide)
theorem fX0_init_15 : ft 0 15 = some (.newarray .double, 0, 0, 0, .null) := by decide +kernel
theorem gX0_init_15 {L : List (Option Value)} {a : Int} (c : 0 ≤ a ∧ a ≤ 1000000) {st : List Value} {H : HP} {Q : Option Value → HP → Prop} : Go 0 15 L (vi a :: st) H Q ↔ Go 0 17 L (.ref H.1 :: st) (hnew H (cD a fun _ => 0) a.toNat) Q := G_newD fX0_init_15 c
theorem fX0_init_17 : ft 0 17 = some (.putfield 15, 0, 1, 81, .null) := by decide +kernel
theorem gX0_init_17 {L : List (Option Value)} {p : Nat} {u : Nat} (hp : p ≠ 0) {st : List Value} {H : HP} {Q : Option Value → HP → Prop} : Go 0 17 L (.ref u :: .ref p :: st) H Q ↔ Wr (pF' 0 1 (hget H p) (.ref u)) p 0 20 L st H Q := G_putf fX0_init_17 ⟨⟨rfl, rfl⟩, rfl, Or.inr (by decide +kernel)⟩ hp
theorem fX0_init_20 : ft 0 20 = some (.aload_n 0, 0, 0, 0, .null) := by decide +kernel
theorem gX0_init_20 {l1 : Option Value} {u : Nat} {st : List Value} {H : HP} {Q : Option Value → HP → Prop} : Go 0 20 [some (.ref u), l1] st H Q ↔ Go 0 21 [some (.ref u), l1] (.ref u :: st) H Q := G_aload_n fX0_init_20 rfl
theorem fX0_init_21 : ft 0 21 = some (.bipush 64, 0, 0, 0, .null) := by decide +kernel
theorem gX0_init_21 {L : List (Option Value)} {st : List Value} {H : HP} {Q : Option Value → HP → Prop} : Go 0 21 L st H Q ↔ Go 0 23 L (vi 64 :: st) H Q := G_bipush fX0_init_21 (by decide)
theorem fX0_init_23 : ft 0 23 = some (.newarray .double, 0, 0, 0, .null) := by decide +kernel
theorem gX0_init_23 {L : List (Option Value)} {a : Int} (c : 0 ≤ a ∧ a ≤ 1000000) {st : List Value} {H : HP} {Q : Option Value → HP → Prop} : Go 0 23 L (vi a :: st) H Q ↔ Go 0 25 L (.ref H.1 :: st) (hnew H (cD a fun _ => 0) a.toNat) Q := G_newD fX0_init_23 c
theorem fX0_init_25 : ft 0 25 = some (.putfield 18, 0, 2, 82, .null) := by decide +kernel
theorem gX0_init_25 {L : List (Option Value)} {p : Nat} {u : Nat} (hp : p ≠ 0) {st : List Value} {H : HP} {Q : Option Value → HP → Prop} : Go 0 25 L (.ref u :: .ref p :: st) H Q ↔ Wr (pF' 0 2 (hget H p) (.ref u)) p 0 28 L st H Q := G_putf fX0_init_25 ⟨⟨rfl, rfl⟩, rfl, Or.inr (by decide +kernel)⟩ hp
theorem fX0_init_28 : ft 0 28 = some (.aload_n 0, 0, 0, 0, .null) := by decide +kernel
theorem gX0_init_28 {l1 : Option Value} {u : Nat} {st : List Value} {H : HP} {Q : Option Value → HP → Prop} : Go 0 28 [some (.ref u), l1] st H Q ↔ Go 0 29 [some (.ref u), l1] (.ref u :: st) H Q := G_aload_n fX0_init_28 rfl
theorem fX0_init_29 : ft 0 29 = some (.bipush 64, 0, 0, 0, .null) := by decide +kernel
theorem gX0_init_29 {L : List (Option Value)} {st : List Value} {H : HP} {Q : Option Value → HP → Prop} : Go 0 29 L st H Q ↔ Go 0 31 L (vi 64 :: st) H Q := G_bipush fX0_init_29 (by decide)
theorem fX0_init_31 : ft 0 31 = some (.newarray .boolean, 0, 0, 0, .null) := by decide +kernel
theorem gX0_init_31 {L : List (Option Value)} {a : Int} (c : 0 ≤ a ∧ a ≤ 1000000) {st : List Value} {H : HP} {Q : Option Value → HP → Prop} : Go 0 31 L (vi a :: st) H Q ↔ Go 0 33 L (.ref H.1 :: st) (hnew H (cZ a fun _ => 0) a.toNat) Q := G_newZ fX0_init_31 c
theorem fX0_init_33 : ft 0 33 = some (.putfield 21, 0, 3, 83, .null) := by decide +kernel
theorem gX0_init_33 {L : List (Option Value)} {p : Nat} {u : Nat} (hp : p ≠ 0) {st : List Value} {H : HP} {Q : Option Value → HP → Prop} : Go 0 33 L (.ref u :: .ref p :: st) H Q ↔ Wr (pF' 0 3 (hget H p) (.ref u)) p 0 36 L st H Q := G_putf fX0_init_33 ⟨⟨rfl, rfl⟩, rfl, Or.inr (by decide +kernel)⟩ hp
theorem fX0_init_36 : ft 0 36 = some (.aload_n 0, 0, 0, 0, .null) := by decide +kernel
theorem gX0_init_36 {l1 : Option Value} {u : Nat} {st : List Value} {H : HP} {Q : Option Value → HP → Prop} : Go 0 36 [some (.ref u), l1] st H Q ↔ Go 0 37 [some (.ref u), l1] (.ref u :: st) H Q := G_aload_n fX0_init_36 rfl
theorem fX0_init_37 : ft 0 37 = some (.bipush 64, 0, 0, 0, .null) := by decide +kernel
theorem gX0_init_37 {L : List (Option Value)} {st : List Value} {H : HP} {Q : Option Value → HP → Prop} : Go 0 37 L st H Q ↔ Go 0 39 L (vi 64 :: st) H Q := G_bipush fX0_init_37 (by decide)
theorem fX0_init_39 : ft 0 39 = some (.newarray .boolean, 0, 0, 0, .null) := by decide +kernel
theorem gX0_init_39 {L : List (Option Value)} {a : Int} (c : 0 ≤ a ∧ a ≤ 1000000) {st : List Value} {H : HP} {Q : Option Value → HP → Prop} : Go 0 39 L (vi a :: st) H Q ↔ Go 0 41 L (.ref H.1 :: st) (hnew H (cZ a fun _ => 0) a.toNat) Q := G_newZ fX0_init_39 c
theorem fX0_init_41 : ft 0 41 = some (.putfield 25, 0, 4, 84, .null) := by decide +kernel
theorem gX0_init_41 {L : List (Option Value)} {p : Nat} {u : Nat} (hp : p ≠ 0) {st : List Value} {H : HP} {Q : Option Value → HP → Prop} : Go 0 41 L (.ref u :: .ref p :: st) H Q ↔ Wr (pF' 0 4 (hget H p) (.ref u)) p 0 44 L st H Q := G_putf fX0_init_41 ⟨⟨rfl, rfl⟩, rfl, Or.inr (by decide +kernel)⟩ hp
theorem fX0_init_44 : ft 0 44 = some (.aload_n 0, 0, 0, 0, .null) := by decide +kernel
theorem gX0_init_44 {l1 : Option Value} {u : Nat} {st : List Value} {H : HP} {Q : Option Value → HP → Prop} : Go 0 44 [some (.ref u), l1] st H Q ↔ Go 0 45 [some (.ref u), l1] (.ref u :: st) H Q := G_aload_n fX0_init_44 rfl
theorem fX0_init_45 : ft 0 45 = some (.getfield 11, 0, 0, 80, .null) := by decide +kernel
theorem gX0_init_45 {L : List (Option Value)} {p : Nat} {st : List Value} {H : HP} {Q : Option Value → HP → Prop} : Go 0 45 L (.ref p :: st) H Q ↔ Rd (gF' 0 0 (hget H p)) 0 48 L st H Q := G_getf fX0_init_45 ⟨rfl, rfl⟩
theorem fX0_init_48 : ft 0 48 = some (.iconst 0, 0, 0, 0, .null) := by decide +kernel
theorem gX0_init_48 {L : List (Option Value)} {st : List Value} {H : HP} {Q : Option Value → HP → Prop} : Go 0 48 L st H Q ↔ Go 0 49 L (vi 0 :: st) H Q := G_iconst fX0_init_48
theorem fX0_init_49 : ft 0 49 = some (.ldc2_w 28, 0, 0, 79, .double 4611686018427387904) := by decide +kernel
theorem gX0_init_49 {L : List (Option Value)} {st : List Value} {H : HP} {Q : Option Value → HP → Prop} : Go 0 49 L st H Q ↔ Go 0 52 L (.double 4611686018427387904 :: st) H Q := G_ldcd fX0_init_49 rfl
theorem fX0_init_52 : ft 0 52 = some (.dastore, 0, 0, 0, .null) := by decide +kernel
theorem gX0_init_52 {L : List (Option Value)} {p : Nat} {a : Int} {b : UInt64} (hp : p ≠ 0) {st : List Value} {H : HP} {Q : Option Value → HP → Prop} : Go 0 52 L (.double b :: vi a :: .ref p :: st) H Q ↔ Wr (sD' (hget H p) a b) p 0 53 L st H Q := G_dast fX0_init_52 hp
theorem fX0_init_53 : ft 0 53 = some (.iconst 1, 0, 0, 0, .null) := by decide +kernel
theorem gX0_init_53 {L : List (Option Value)} {st : List Value} {H : HP} {Q : Option Value → HP → Prop} : Go 0 53 L st H Q ↔ Go 0 54 L (vi 1 :: st) H Q := G_iconst fX0_init_53
theorem fX0_init_54 : ft 0 54 = some (.istore_n 1, 0, 0, 0, .null) := by decide +kernel
theorem gX0_init_54 {l0 l1 : Option Value} {u : Int32} {st : List Value} {H : HP} {Q : Option Value → HP → Prop} : Go 0 54 [l0, l1] (.int u :: st) H Q ↔ Go 0 55 [l0, some (.int u)] st H Q := G_istore_n fX0_init_54 rfl
theorem fX0_init_55 : ft 0 55 = some (.iload_n 1, 0, 0, 0, .null) := by decide +kernel
theorem gX0_init_55 {l0 : Option Value} {u : Int32} {st : List Value} {H : HP} {Q : Option Value → HP → Prop} : Go 0 55 [l0, some (.int u)] st H Q ↔ Go 0 56 [l0, some (.int u)] (.int u :: st) H Q := G_iload_n fX0_init_55 rfl
theorem fX0_init_56 : ft 0 56 = some (.bipush 10, 0, 0, 0, .null) := by decide +kernel
theorem gX0_init_56 {L : List (Option Value)} {st : List Value} {H : HP} {Q : Option Value → HP → Prop} : Go 0 56 L st H Q ↔ Go 0 58 L (vi 10 :: st) H Q := G_bipush fX0_init_56 (by decide)
theorem fX0_init_58 : ft 0 58 = some (.if_icmp .ge 32, 0, 0, 0, .null) := by decide +kernel
theorem gX0_init_58T {L : List (Option Value)} {a b : Int} (c : (-2147483648 ≤ a ∧ a ≤ 2147483647 ∧ -2147483648 ≤ b ∧ b ≤ 2147483647) ∧ b ≤ a) {st : List Value} {H : HP} {Q : Option Value → HP → Prop} : Go 0 58 L (vi b :: vi a :: st) H Q ↔ Go 0 90 L st H Q := G_icT fX0_init_58 (by decide) c
theorem gX0_init_58F {L : List (Option Value)} {a b : Int} (c : (-2147483648 ≤ a ∧ a ≤ 2147483647 ∧ -2147483648 ≤ b ∧ b ≤ 2147483647) ∧ ¬ (b ≤ a)) {st : List Value} {H : HP} {Q : Option Value → HP → Prop} : Go 0 58 L (vi b :: vi a :: st) H Q ↔ Go 0 61 L st H Q := G_icF (tg := 90) fX0_init_58 (by decide) c
theorem fX0_init_61 : ft 0 61 = some (.aload_n 0, 0, 0, 0, .null) := by decide +kernel
theorem gX0_init_61 {l1 : Option Value} {u : Nat} {st : List Value} {H : HP} {Q : Option Value → HP → Prop} : Go 0 61 [some (.ref u), l1] st H Q ↔ Go 0 62 [some (.ref u), l1] (.ref u :: st) H Q := G_aload_n fX0_init_61 rfl
theorem fX0_init_62 : ft 0 62 = some (.getfield 11, 0, 0, 80, .null) := by decide +kernel
theorem gX0_init_62 {L : List (Option Value)} {p : Nat} {st : List Value} {H : HP} {Q : Option Value → HP → Prop} : Go 0 62 L (.ref p :: st) H Q ↔ Rd (gF' 0 0 (hget H p)) 0 65 L st H Q := G_getf fX0_init_62 ⟨rfl, rfl⟩
theorem fX0_init_65 : ft 0 65 = some (.iload_n 1, 0, 0, 0, .null) := by decide +kernel
theorem gX0_init_65 {l0 : Option Value} {u : Int32} {st : List Value} {H : HP} {Q : Option Value → HP → Prop} : Go 0 65 [l0, some (.int u)] st H Q ↔ Go 0 66 [l0, some (.int u)] (.int u :: st) H Q := G_iload_n fX0_init_65 rfl
theorem fX0_init_66 : ft 0 66 = some (.aload_n 0, 0, 0, 0, .null) := by decide +kernel
theorem gX0_init_66 {l1 : Option Value} {u : Nat} {st : List Value} {H : HP} {Q : Option Value → HP → Prop} : Go 0 66 [some (.ref u), l1] st H Q ↔ Go 0 67 [some (.ref u), l1] (.ref u :: st) H Q := G_aload_n fX0_init_66 rfl
theorem fX0_init_67 : ft 0 67 = some (.getfield 11, 0, 0, 80, .null) := by decide +kernel
theorem gX0_init_67 {L : List (Option Value)} {p : Nat} {st : List Value} {H : HP} {Q : Option Value → HP → Prop} : Go 0 67 L (.ref p :: st) H Q ↔ Rd (gF' 0 0 (hget H p)) 0 70 L st H Q := G_getf fX0_init_67 ⟨rfl, rfl⟩
theorem fX0_init_70 : ft 0 70 = some (.iload_n 1, 0, 0, 0, .null) := by decide +kernel
theorem gX0_init_70 {l0 : Option Value} {u : Int32} {st : List Value} {H : HP} {Q : Option Value → HP → Prop} : Go 0 70 [l0, some (.int u)] st H Q ↔ Go 0 71 [l0, some (.int u)] (.int u :: st) H Q := G_iload_n fX0_init_70 rfl
theorem fX0_init_71 : ft 0 71 = some (.iconst 1, 0, 0, 0, .null) := by decide +kernel
theorem gX0_init_71 {L : List (Option Value)} {st : List Value} {H : HP} {Q : Option Value → HP → Prop} : Go 0 71 L st H Q ↔ Go 0 72 L (vi 1 :: st) H Q := G_iconst fX0_init_71
theorem fX0_init_72 : ft 0 72 = some (.isub, 0, 0, 0, .null) := by decide +kernel
theorem gX0_init_72 {L : List (Option Value)} {a b : Int} {st : List Value} {H : HP} {Q : Option Value → HP → Prop} : Go 0 72 L (vi b :: vi a :: st) H Q ↔ Go 0 73 L (vi (a - b) :: st) H Q := G_isub fX0_init_72
theorem fX0_init_73 : ft 0 73 = some (.daload, 0, 0, 0, .null) := by decide +kernel
theorem gX0_init_73 {L : List (Option Value)} {p : Nat} {a : Int} {st : List Value} {H : HP} {Q : Option Value → HP → Prop} : Go 0 73 L (vi a :: .ref p :: st) H Q ↔ Rd (aD' (hget H p) a) 0 74 L st H Q := G_dald fX0_init_73
theorem fX0_init_74 : ft 0 74 = some (.aload_n 0, 0, 0, 0, .null) := by decide +kernel
theorem gX0_init_74 {l1 : Option Value} {u : Nat} {st : List Value} {H : HP} {Q : Option Value → HP → Prop} : Go 0 74 [some (.ref u), l1] st H Q ↔ Go 0 75 [some (.ref u), l1] (.ref u :: st) H Q := G_aload_n fX0_init_74 rfl
theorem fX0_init_75 : ft 0 75 = some (.getfield 11, 0, 0, 80, .null) := by decide +kernel
theorem gX0_init_75 {L : List (Option Value)} {p : Nat} {st : List Value} {H : HP} {Q : Option Value → HP → Prop} : Go 0 75 L (.ref p :: st) H Q ↔ Rd (gF' 0 0 (hget H p)) 0 78 L st H Q := G_getf fX0_init_75 ⟨rfl, rfl⟩
theorem fX0_init_78 : ft 0 78 = some (.iload_n 1, 0, 0, 0, .null) := by decide +kernel
theorem gX0_init_78 {l0 : Option Value} {u : Int32} {st : List Value} {H : HP} {Q : Option Value → HP → Prop} : Go 0 78 [l0, some (.int u)] st H Q ↔ Go 0 79 [l0, some (.int u)] (.int u :: st) H Q := G_iload_n fX0_init_78 rfl
theorem fX0_init_79 : ft 0 79 = some (.iconst 1, 0, 0, 0, .null) := by decide +kernel
theorem gX0_init_79 {L : List (Option Value)} {st : List Value} {H : HP} {Q : Option Value → HP → Prop} : Go 0 79 L st H Q ↔ Go 0 80 L (vi 1 :: st) H Q := G_iconst fX0_init_79
theorem fX0_init_80 : ft 0 80 = some (.isub, 0, 0, 0, .null) := by decide +kernel
theorem gX0_init_80 {L : List (Option Value)} {a b : Int} {st : List Value} {H : HP} {Q : Option Value → HP → Prop} : Go 0 80 L (vi b :: vi a :: st) H Q ↔ Go 0 81 L (vi (a - b) :: st) H Q := G_isub fX0_init_80
theorem fX0_init_81 : ft 0 81 = some (.daload, 0, 0, 0, .null) := by decide +kernel
theorem gX0_init_81 {L : List (Option Value)} {p : Nat} {a : Int} {st : List Value} {H : HP} {Q : Option Value → HP → Prop} : Go 0 81 L (vi a :: .ref p :: st) H Q ↔ Rd (aD' (hget H p) a) 0 82 L st H Q := G_dald fX0_init_81
theorem fX0_init_82 : ft 0 82 = some (.dmul, 0, 0, 0, .null) := by decide +kernel
theorem gX0_init_82 {L : List (Option Value)} {x w : UInt64} (c : vf_n64 (FP.dmul x w)) {st : List Value} {H : HP} {Q : Option Value → HP → Prop} : Go 0 82 L (.double w :: .double x :: st) H Q ↔ Go 0 83 L (.double (FP.dmul x w) :: st) H Q := G_dmul fX0_init_82 c
theorem fX0_init_83 : ft 0 83 = some (.dastore, 0, 0, 0, .null) := by decide +kernel
theorem gX0_init_83 {L : List (Option Value)} {p : Nat} {a : Int} {b : UInt64} (hp : p ≠ 0) {st : List Value} {H : HP} {Q : Option Value → HP → Prop} : Go 0 83 L (.double b :: vi a :: .ref p :: st) H Q ↔ Wr (sD' (hget H p) a b) p 0 84 L st H Q := G_dast fX0_init_83 hp
theorem fX0_init_84 : ft 0 84 = some (.iinc 1 1, 0, 0, 0, .null) := by decide +kernel
theorem gX0_init_84 {l0 : Option Value} {a : Int} {st : List Value} {H : HP} {Q : Option Value → HP → Prop} : Go 0 84 [l0, some (vi a)] st H Q ↔ Go 0 87 [l0, some (vi (a + 1))] st H Q := G_iinc fX0_init_84 rfl rfl
theorem fX0_init_87 : ft 0 87 = some (.goto (-32), 0, 0, 0, .null) := by decide +kernel
theorem gX0_init_87 {L : List (Option Value)} {st : List Value} {H : HP} {Q : Option Value → HP → Prop} : Go 0 87 L st H Q ↔ Go 0 55 L st H Q := G_goto fX0_init_87 (by decide)
theorem fX0_init_90 : ft 0 90 = some (.return_, 0, 0, 0, .null) := by decide +kernel
theorem gX0_init_90 {L : List (Option Value)} {H : HP} {Q : Option Value → HP → Prop} : Go 0 90 L [] H Q ↔ Q none H := G_vret fX0_init_90 (by decide +kernel)
theorem fX0_isNone_0 : ft 1 0 = some (.lload_n 0, 0, 0, 0, .null) := by decide +kernel
theorem gX0_isNone_0  {u : Int64} {st : List Value} {H : HP} {Q : Option Value → HP → Prop} : Go 1 0 [some (.long u), none] st H Q ↔ Go 1 1 [some (.long u), none] (.long u :: st) H Q := G_lload_n fX0_isNone_0 rfl
theorem fX0_isNone_1 : ft 1 1 = some (.ldc2_w 30, 0, 0, 321, .long (9223372036854775807)) := by decide +kernel
theorem gX0_isNone_1 {L : List (Option Value)} {st : List Value} {H : HP} {Q : Option Value → HP → Prop} : Go 1 1 L st H Q ↔ Go 1 4 L (vl (9223372036854775807) :: st) H Q := G_ldcl fX0_isNone_1 (by decide +kernel)
theorem fX0_isNone_4 : ft 1 4 = some (.land, 0, 0, 0, .null) := by decide +kernel
theorem gX0_isNone_4 {L : List (Option Value)} {a b : Int} {st : List Value} {H : HP} {Q : Option Value → HP → Prop} : Go 1 4 L (vl b :: vl a :: st) H Q ↔ Go 1 5 L (vl (bAnd a b) :: st) H Q := G_land fX0_isNone_4
theorem fX0_isNone_5 : ft 1 5 = some (.ldc2_w 32, 0, 0, 322, .long (9218868437227405312)) := by decide +kernel
theorem gX0_isNone_5 {L : List (Option Value)} {st : List Value} {H : HP} {Q : Option Value → HP → Prop} : Go 1 5 L st H Q ↔ Go 1 8 L (vl (9218868437227405312) :: st) H Q := G_ldcl fX0_isNone_5 (by decide +kernel)
theorem fX0_isNone_8 : ft 1 8 = some (.lcmp, 0, 0, 0, .null) := by decide +kernel
theorem fX0_isNone_8' : ft 1 9 = some (.ifCond .le 7, 0, 0, 0, .null) := by decide +kernel
theorem gX0_isNone_8T {L : List (Option Value)} {a b : Int} (c : (-9223372036854775808 ≤ a ∧ a ≤ 9223372036854775807 ∧ -9223372036854775808 ≤ b ∧ b ≤ 9223372036854775807) ∧ a ≤ b) {st : List Value} {H : HP} {Q : Option Value → HP → Prop} : Go 1 8 L (vl b :: vl a :: st) H Q ↔ Go 1 16 L st H Q := G_lcT fX0_isNone_8 fX0_isNone_8' (by decide) c
theorem gX0_isNone_8F {L : List (Option Value)} {a b : Int} (c : (-9223372036854775808 ≤ a ∧ a ≤ 9223372036854775807 ∧ -9223372036854775808 ≤ b ∧ b ≤ 9223372036854775807) ∧ ¬ (a ≤ b)) {st : List Value} {H : HP} {Q : Option Value → HP → Prop} : Go 1 8 L (vl b :: vl a :: st) H Q ↔ Go 1 12 L st H Q := G_lcF (tg := 16) fX0_isNone_8 fX0_isNone_8' (by decide) c
theorem fX0_isNone_9 : ft 1 9 = some (.ifCond .le 7, 0, 0, 0, .null) := by decide +kernel
theorem gX0_isNone_9T {L : List (Option Value)} {a : Int} (c : (-2147483648 ≤ a ∧ a ≤ 2147483647) ∧ a ≤ 0) {st : List Value} {H : HP} {Q : Option Value → HP → Prop} : Go 1 9 L (vi a :: st) H Q ↔ Go 1 16 L st H Q := G_ifT fX0_isNone_9 (by decide) c
theorem gX0_isNone_9F {L : List (Option Value)} {a : Int} (c : (-2147483648 ≤ a ∧ a ≤ 2147483647) ∧ ¬ (a ≤ 0)) {st : List Value} {H : HP} {Q : Option Value → HP → Prop} : Go 1 9 L (vi a :: st) H Q ↔ Go 1 12 L st H Q := G_ifF (tg := 16) fX0_isNone_9 (by decide) c
theorem fX0_isNone_12 : ft 1 12 = some (.iconst 1, 0, 0, 0, .null) := by decide +kernel
theorem gX0_isNone_12 {L : List (Option Value)} {st : List Value} {H : HP} {Q : Option Value → HP → Prop} : Go 1 12 L st H Q ↔ Go 1 13 L (vi 1 :: st) H Q := G_iconst fX0_isNone_12
theorem fX0_isNone_13 : ft 1 13 = some (.goto 4, 0, 0, 0, .null) := by decide +kernel
theorem gX0_isNone_13 {L : List (Option Value)} {st : List Value} {H : HP} {Q : Option Value → HP → Prop} : Go 1 13 L st H Q ↔ Go 1 17 L st H Q := G_goto fX0_isNone_13 (by decide)
theorem fX0_isNone_16 : ft 1 16 = some (.iconst 0, 0, 0, 0, .null) := by decide +kernel
theorem gX0_isNone_16 {L : List (Option Value)} {st : List Value} {H : HP} {Q : Option Value → HP → Prop} : Go 1 16 L st H Q ↔ Go 1 17 L (vi 0 :: st) H Q := G_iconst fX0_isNone_16
theorem fX0_isNone_17 : ft 1 17 = some (.ireturn, 0, 0, 0, .null) := by decide +kernel
theorem gX0_isNone_17 {L : List (Option Value)} {a : Int} (c : a = 0 ∨ a = 1) {H : HP} {Q : Option Value → HP → Prop} : Go 1 17 L [vi a] H Q ↔ Q (some (vi a)) H := G_zret fX0_isNone_17 (by decide +kernel) c
theorem fX0_product_0 : ft 2 0 = some (.aload_n 0, 0, 0, 0, .null) := by decide +kernel
theorem gX0_product_0 {l1 l2 l3 l4 : Option Value} {u : Nat} {st : List Value} {H : HP} {Q : Option Value → HP → Prop} : Go 2 0 [some (.ref u), l1, l2, l3, l4] st H Q ↔ Go 2 1 [some (.ref u), l1, l2, l3, l4] (.ref u :: st) H Q := G_aload_n fX0_product_0 rfl
theorem fX0_product_1 : ft 2 1 = some (.aload_n 1, 0, 0, 0, .null) := by decide +kernel
theorem gX0_product_1 {l0 l2 l3 l4 : Option Value} {u : Nat} {st : List Value} {H : HP} {Q : Option Value → HP → Prop} : Go 2 1 [l0, some (.ref u), l2, l3, l4] st H Q ↔ Go 2 2 [l0, some (.ref u), l2, l3, l4] (.ref u :: st) H Q := G_aload_n fX0_product_1 rfl
theorem fX0_product_2 : ft 2 2 = some (.aload_n 0, 0, 0, 0, .null) := by decide +kernel
theorem gX0_product_2 {l1 l2 l3 l4 : Option Value} {u : Nat} {st : List Value} {H : HP} {Q : Option Value → HP → Prop} : Go 2 2 [some (.ref u), l1, l2, l3, l4] st H Q ↔ Go 2 3 [some (.ref u), l1, l2, l3, l4] (.ref u :: st) H Q := G_aload_n fX0_product_2 rfl
theorem fX0_product_3 : ft 2 3 = some (.getfield 15, 0, 1, 81, .null) := by decide +kernel
theorem gX0_product_3 {L : List (Option Value)} {p : Nat} {st : List Value} {H : HP} {Q : Option Value → HP → Prop} : Go 2 3 L (.ref p :: st) H Q ↔ Rd (gF' 0 1 (hget H p)) 2 6 L st H Q := G_getf fX0_product_3 ⟨rfl, rfl⟩
theorem fX0_product_6 : ft 2 6 = some (.aload_n 0, 0, 0, 0, .null) := by decide +kernel
theorem gX0_product_6 {l1 l2 l3 l4 : Option Value} {u : Nat} {st : List Value} {H : HP} {Q : Option Value → HP → Prop} : Go 2 6 [some (.ref u), l1, l2, l3, l4] st H Q ↔ Go 2 7 [some (.ref u), l1, l2, l3, l4] (.ref u :: st) H Q := G_aload_n fX0_product_6 rfl
theorem fX0_product_7 : ft 2 7 = some (.getfield 21, 0, 3, 83, .null) := by decide +kernel
theorem gX0_product_7 {L : List (Option Value)} {p : Nat} {st : List Value} {H : HP} {Q : Option Value → HP → Prop} : Go 2 7 L (.ref p :: st) H Q ↔ Rd (gF' 0 3 (hget H p)) 2 10 L st H Q := G_getf fX0_product_7 ⟨rfl, rfl⟩
theorem fX0_product_10 : ft 2 10 = some (.invokevirtual 34, 3, 0, 687, .null) := by decide +kernel
theorem gX0_product_10 {L : List (Option Value)} {p : Nat} {a0 : Nat} {a1 : Nat} {a2 : Nat}  {H : HP} {Q : Option Value → HP → Prop} : Go 2 10 L (.ref a2 :: .ref a1 :: .ref a0 :: .ref p :: []) H Q ↔ (iso 0 (hget H p) = true ∧ Go 3 0 [some (.ref p), some (.ref a0), some (.ref a1), some (.ref a2), none] [] H (Cont 2 13 L [] Q)) := G_cV (n := 3) (N := 5) (as := [.ref a2, .ref a1, .ref a0]) (st := []) fX0_product_10 (by decide +kernel) rfl (Nat.le_of_ble_eq_true rfl) (Nat.le_of_ble_eq_true rfl) rfl
theorem fX0_product_13 : ft 2 13 = some (.aload_n 0, 0, 0, 0, .null) := by decide +kernel
theorem gX0_product_13 {l1 l2 l3 l4 : Option Value} {u : Nat} {st : List Value} {H : HP} {Q : Option Value → HP → Prop} : Go 2 13 [some (.ref u), l1, l2, l3, l4] st H Q ↔ Go 2 14 [some (.ref u), l1, l2, l3, l4] (.ref u :: st) H Q := G_aload_n fX0_product_13 rfl
theorem fX0_product_14 : ft 2 14 = some (.aload_n 2, 0, 0, 0, .null) := by decide +kernel
theorem gX0_product_14 {l0 l1 l3 l4 : Option Value} {u : Nat} {st : List Value} {H : HP} {Q : Option Value → HP → Prop} : Go 2 14 [l0, l1, some (.ref u), l3, l4] st H Q ↔ Go 2 15 [l0, l1, some (.ref u), l3, l4] (.ref u :: st) H Q := G_aload_n fX0_product_14 rfl
theorem fX0_product_15 : ft 2 15 = some (.aload_n 0, 0, 0, 0, .null) := by decide +kernel
theorem gX0_product_15 {l1 l2 l3 l4 : Option Value} {u : Nat} {st : List Value} {H : HP} {Q : Option Value → HP → Prop} : Go 2 15 [some (.ref u), l1, l2, l3, l4] st H Q ↔ Go 2 16 [some (.ref u), l1, l2, l3, l4] (.ref u :: st) H Q := G_aload_n fX0_product_15 rfl
theorem fX0_product_16 : ft 2 16 = some (.getfield 18, 0, 2, 82, .null) := by decide +kernel
theorem gX0_product_16 {L : List (Option Value)} {p : Nat} {st : List Value} {H : HP} {Q : Option Value → HP → Prop} : Go 2 16 L (.ref p :: st) H Q ↔ Rd (gF' 0 2 (hget H p)) 2 19 L st H Q := G_getf fX0_product_16 ⟨rfl, rfl⟩
theorem fX0_product_19 : ft 2 19 = some (.aload_n 0, 0, 0, 0, .null) := by decide +kernel
theorem gX0_product_19 {l1 l2 l3 l4 : Option Value} {u : Nat} {st : List Value} {H : HP} {Q : Option Value → HP → Prop} : Go 2 19 [some (.ref u), l1, l2, l3, l4] st H Q ↔ Go 2 20 [some (.ref u), l1, l2, l3, l4] (.ref u :: st) H Q := G_aload_n fX0_product_19 rfl
theorem fX0_product_20 : ft 2 20 = some (.getfield 25, 0, 4, 84, .null) := by decide +kernel
theorem gX0_product_20 {L : List (Option Value)} {p : Nat} {st : List Value} {H : HP} {Q : Option Value → HP → Prop} : Go 2 20 L (.ref p :: st) H Q ↔ Rd (gF' 0 4 (hget H p)) 2 23 L st H Q := G_getf fX0_product_20 ⟨rfl, rfl⟩
theorem fX0_product_23 : ft 2 23 = some (.invokevirtual 34, 3, 0, 687, .null) := by decide +kernel
theorem gX0_product_23 {L : List (Option Value)} {p : Nat} {a0 : Nat} {a1 : Nat} {a2 : Nat}  {H : HP} {Q : Option Value → HP → Prop} : Go 2 23 L (.ref a2 :: .ref a1 :: .ref a0 :: .ref p :: []) H Q ↔ (iso 0 (hget H p) = true ∧ Go 3 0 [some (.ref p), some (.ref a0), some (.ref a1), some (.ref a2), none] [] H (Cont 2 26 L [] Q)) := G_cV (n := 3) (N := 5) (as := [.ref a2, .ref a1, .ref a0]) (st := []) fX0_product_23 (by decide +kernel) rfl (Nat.le_of_ble_eq_true rfl) (Nat.le_of_ble_eq_true rfl) rfl
theorem fX0_product_26 : ft 2 26 = some (.iconst 0, 0, 0, 0, .null) := by decide +kernel
theorem gX0_product_26 {L : List (Option Value)} {st : List Value} {H : HP} {Q : Option Value → HP → Prop} : Go 2 26 L st H Q ↔ Go 2 27 L (vi 0 :: st) H Q := G_iconst fX0_product_26
theorem fX0_product_27 : ft 2 27 = some (.istore 4, 0, 0, 0, .null) := by decide +kernel
theorem gX0_product_27 {l0 l1 l2 l3 l4 : Option Value} {u : Int32} {st : List Value} {H : HP} {Q : Option Value → HP → Prop} : Go 2 27 [l0, l1, l2, l3, l4] (.int u :: st) H Q ↔ Go 2 29 [l0, l1, l2, l3, some (.int u)] st H Q := G_istore fX0_product_27 rfl
theorem fX0_product_29 : ft 2 29 = some (.iload 4, 0, 0, 0, .null) := by decide +kernel
theorem gX0_product_29 {l0 l1 l2 l3 : Option Value} {u : Int32} {st : List Value} {H : HP} {Q : Option Value → HP → Prop} : Go 2 29 [l0, l1, l2, l3, some (.int u)] st H Q ↔ Go 2 31 [l0, l1, l2, l3, some (.int u)] (.int u :: st) H Q := G_iload fX0_product_29 rfl
theorem fX0_product_31 : ft 2 31 = some (.aload_n 3, 0, 0, 0, .null) := by decide +kernel
theorem gX0_product_31 {l0 l1 l2 l4 : Option Value} {u : Nat} {st : List Value} {H : HP} {Q : Option Value → HP → Prop} : Go 2 31 [l0, l1, l2, some (.ref u), l4] st H Q ↔ Go 2 32 [l0, l1, l2, some (.ref u), l4] (.ref u :: st) H Q := G_aload_n fX0_product_31 rfl
theorem fX0_product_32 : ft 2 32 = some (.getfield 38, 6, 1, 110, .null) := by decide +kernel
theorem gX0_product_32 {L : List (Option Value)} {p : Nat} {st : List Value} {H : HP} {Q : Option Value → HP → Prop} : Go 2 32 L (.ref p :: st) H Q ↔ Rd (gF' 6 1 (hget H p)) 2 35 L st H Q := G_getf fX0_product_32 ⟨rfl, rfl⟩
theorem fX0_product_35 : ft 2 35 = some (.if_icmp .ge 30, 0, 0, 0, .null) := by decide +kernel
theorem gX0_product_35T {L : List (Option Value)} {a b : Int} (c : (-2147483648 ≤ a ∧ a ≤ 2147483647 ∧ -2147483648 ≤ b ∧ b ≤ 2147483647) ∧ b ≤ a) {st : List Value} {H : HP} {Q : Option Value → HP → Prop} : Go 2 35 L (vi b :: vi a :: st) H Q ↔ Go 2 65 L st H Q := G_icT fX0_product_35 (by decide) c
theorem gX0_product_35F {L : List (Option Value)} {a b : Int} (c : (-2147483648 ≤ a ∧ a ≤ 2147483647 ∧ -2147483648 ≤ b ∧ b ≤ 2147483647) ∧ ¬ (b ≤ a)) {st : List Value} {H : HP} {Q : Option Value → HP → Prop} : Go 2 35 L (vi b :: vi a :: st) H Q ↔ Go 2 38 L st H Q := G_icF (tg := 65) fX0_product_35 (by decide) c
theorem fX0_product_38 : ft 2 38 = some (.aload_n 3, 0, 0, 0, .null) := by decide +kernel
theorem gX0_product_38 {l0 l1 l2 l4 : Option Value} {u : Nat} {st : List Value} {H : HP} {Q : Option Value → HP → Prop} : Go 2 38 [l0, l1, l2, some (.ref u), l4] st H Q ↔ Go 2 39 [l0, l1, l2, some (.ref u), l4] (.ref u :: st) H Q := G_aload_n fX0_product_38 rfl
theorem fX0_product_39 : ft 2 39 = some (.getfield 44, 6, 0, 106, .null) := by decide +kernel
theorem gX0_product_39 {L : List (Option Value)} {p : Nat} {st : List Value} {H : HP} {Q : Option Value → HP → Prop} : Go 2 39 L (.ref p :: st) H Q ↔ Rd (gF' 6 0 (hget H p)) 2 42 L st H Q := G_getf fX0_product_39 ⟨rfl, rfl⟩
theorem fX0_product_42 : ft 2 42 = some (.iload 4, 0, 0, 0, .null) := by decide +kernel
theorem gX0_product_42 {l0 l1 l2 l3 : Option Value} {u : Int32} {st : List Value} {H : HP} {Q : Option Value → HP → Prop} : Go 2 42 [l0, l1, l2, l3, some (.int u)] st H Q ↔ Go 2 44 [l0, l1, l2, l3, some (.int u)] (.int u :: st) H Q := G_iload fX0_product_42 rfl
theorem fX0_product_44 : ft 2 44 = some (.aload_n 0, 0, 0, 0, .null) := by decide +kernel
theorem gX0_product_44 {l1 l2 l3 l4 : Option Value} {u : Nat} {st : List Value} {H : HP} {Q : Option Value → HP → Prop} : Go 2 44 [some (.ref u), l1, l2, l3, l4] st H Q ↔ Go 2 45 [some (.ref u), l1, l2, l3, l4] (.ref u :: st) H Q := G_aload_n fX0_product_44 rfl
theorem fX0_product_45 : ft 2 45 = some (.iload 4, 0, 0, 0, .null) := by decide +kernel
theorem gX0_product_45 {l0 l1 l2 l3 : Option Value} {u : Int32} {st : List Value} {H : HP} {Q : Option Value → HP → Prop} : Go 2 45 [l0, l1, l2, l3, some (.int u)] st H Q ↔ Go 2 47 [l0, l1, l2, l3, some (.int u)] (.int u :: st) H Q := G_iload fX0_product_45 rfl
theorem fX0_product_47 : ft 2 47 = some (.aload_n 1, 0, 0, 0, .null) := by decide +kernel
theorem gX0_product_47 {l0 l2 l3 l4 : Option Value} {u : Nat} {st : List Value} {H : HP} {Q : Option Value → HP → Prop} : Go 2 47 [l0, some (.ref u), l2, l3, l4] st H Q ↔ Go 2 48 [l0, some (.ref u), l2, l3, l4] (.ref u :: st) H Q := G_aload_n fX0_product_47 rfl
theorem fX0_product_48 : ft 2 48 = some (.invokevirtual 48, 55, 0, 691, .null) := by decide +kernel
theorem gX0_product_48 {L : List (Option Value)} {p : Nat}  {r0 : Int32} {r1 : Nat} {r2 : Int32} {r3 : Nat} {H : HP} {Q : Option Value → HP → Prop} : Go 2 48 L (.ref p :: [.int r0, .ref r1, .int r2, .ref r3]) H Q ↔ (iso 5 (hget H p) = true ∧ Go 55 0 [some (.ref p)] [] H (Cont 2 51 L [.int r0, .ref r1, .int r2, .ref r3] Q)) := G_cV (n := 0) (N := 1) (as := []) (st := [.int r0, .ref r1, .int r2, .ref r3]) fX0_product_48 (by decide +kernel) rfl (Nat.le_of_ble_eq_true rfl) (Nat.le_of_ble_eq_true rfl) rfl
theorem fX0_product_51 : ft 2 51 = some (.aload_n 2, 0, 0, 0, .null) := by decide +kernel
theorem gX0_product_51 {l0 l1 l3 l4 : Option Value} {u : Nat} {st : List Value} {H : HP} {Q : Option Value → HP → Prop} : Go 2 51 [l0, l1, some (.ref u), l3, l4] st H Q ↔ Go 2 52 [l0, l1, some (.ref u), l3, l4] (.ref u :: st) H Q := G_aload_n fX0_product_51 rfl
theorem fX0_product_52 : ft 2 52 = some (.invokevirtual 48, 55, 0, 691, .null) := by decide +kernel
theorem gX0_product_52 {L : List (Option Value)} {p : Nat}  {r0 : Int32} {r1 : Int32} {r2 : Nat} {r3 : Int32} {r4 : Nat} {H : HP} {Q : Option Value → HP → Prop} : Go 2 52 L (.ref p :: [.int r0, .int r1, .ref r2, .int r3, .ref r4]) H Q ↔ (iso 5 (hget H p) = true ∧ Go 55 0 [some (.ref p)] [] H (Cont 2 55 L [.int r0, .int r1, .ref r2, .int r3, .ref r4] Q)) := G_cV (n := 0) (N := 1) (as := []) (st := [.int r0, .int r1, .ref r2, .int r3, .ref r4]) fX0_product_52 (by decide +kernel) rfl (Nat.le_of_ble_eq_true rfl) (Nat.le_of_ble_eq_true rfl) rfl
theorem fX0_product_55 : ft 2 55 = some (.invokevirtual 54, 4, 0, 708, .null) := by decide +kernel
theorem gX0_product_55 {L : List (Option Value)} {p : Nat} {a0 : Int32} {a1 : Int32} {a2 : Int32} {r0 : Int32} {r1 : Nat} {H : HP} {Q : Option Value → HP → Prop} : Go 2 55 L (.int a2 :: .int a1 :: .int a0 :: .ref p :: [.int r0, .ref r1]) H Q ↔ (iso 0 (hget H p) = true ∧ Go 4 0 [some (.ref p), some (.int a0), some (.int a1), some (.int a2), none, none, none, none, none, none, none, none, none] [] H (Cont 2 58 L [.int r0, .ref r1] Q)) := G_cV (n := 3) (N := 13) (as := [.int a2, .int a1, .int a0]) (st := [.int r0, .ref r1]) fX0_product_55 (by decide +kernel) rfl (Nat.le_of_ble_eq_true rfl) (Nat.le_of_ble_eq_true rfl) rfl
theorem fX0_product_58 : ft 2 58 = some (.lastore, 0, 0, 0, .null) := by decide +kernel
theorem gX0_product_58 {L : List (Option Value)} {p : Nat} {a : Int} {b : Int} (hp : p ≠ 0) {st : List Value} {H : HP} {Q : Option Value → HP → Prop} : Go 2 58 L (vl b :: vi a :: .ref p :: st) H Q ↔ Wr (sL' (hget H p) a b) p 2 59 L st H Q := G_last fX0_product_58 hp
theorem fX0_product_59 : ft 2 59 = some (.iinc 4 1, 0, 0, 0, .null) := by decide +kernel
theorem gX0_product_59 {l0 l1 l2 l3 : Option Value} {a : Int} {st : List Value} {H : HP} {Q : Option Value → HP → Prop} : Go 2 59 [l0, l1, l2, l3, some (vi a)] st H Q ↔ Go 2 62 [l0, l1, l2, l3, some (vi (a + 1))] st H Q := G_iinc fX0_product_59 rfl rfl
theorem fX0_product_62 : ft 2 62 = some (.goto (-33), 0, 0, 0, .null) := by decide +kernel
theorem gX0_product_62 {L : List (Option Value)} {st : List Value} {H : HP} {Q : Option Value → HP → Prop} : Go 2 62 L st H Q ↔ Go 2 29 L st H Q := G_goto fX0_product_62 (by decide)
theorem fX0_product_65 : ft 2 65 = some (.return_, 0, 0, 0, .null) := by decide +kernel
theorem gX0_product_65 {L : List (Option Value)} {H : HP} {Q : Option Value → HP → Prop} : Go 2 65 L [] H Q ↔ Q none H := G_vret fX0_product_65 (by decide +kernel)
theorem fX0_load_0 : ft 3 0 = some (.iconst 0, 0, 0, 0, .null) := by decide +kernel
theorem gX0_load_0 {L : List (Option Value)} {st : List Value} {H : HP} {Q : Option Value → HP → Prop} : Go 3 0 L st H Q ↔ Go 3 1 L (vi 0 :: st) H Q := G_iconst fX0_load_0
theorem fX0_load_1 : ft 3 1 = some (.istore 4, 0, 0, 0, .null) := by decide +kernel
theorem gX0_load_1 {l0 l1 l2 l3 l4 : Option Value} {u : Int32} {st : List Value} {H : HP} {Q : Option Value → HP → Prop} : Go 3 1 [l0, l1, l2, l3, l4] (.int u :: st) H Q ↔ Go 3 3 [l0, l1, l2, l3, some (.int u)] st H Q := G_istore fX0_load_1 rfl
theorem fX0_load_3 : ft 3 3 = some (.iload 4, 0, 0, 0, .null) := by decide +kernel
theorem gX0_load_3 {l0 l1 l2 l3 : Option Value} {u : Int32} {st : List Value} {H : HP} {Q : Option Value → HP → Prop} : Go 3 3 [l0, l1, l2, l3, some (.int u)] st H Q ↔ Go 3 5 [l0, l1, l2, l3, some (.int u)] (.int u :: st) H Q := G_iload fX0_load_3 rfl
theorem fX0_load_5 : ft 3 5 = some (.aload_n 1, 0, 0, 0, .null) := by decide +kernel
theorem gX0_load_5 {l0 l2 l3 l4 : Option Value} {u : Nat} {st : List Value} {H : HP} {Q : Option Value → HP → Prop} : Go 3 5 [l0, some (.ref u), l2, l3, l4] st H Q ↔ Go 3 6 [l0, some (.ref u), l2, l3, l4] (.ref u :: st) H Q := G_aload_n fX0_load_5 rfl
theorem fX0_load_6 : ft 3 6 = some (.invokevirtual 48, 55, 0, 691, .null) := by decide +kernel
theorem gX0_load_6 {L : List (Option Value)} {p : Nat}  {r0 : Int32} {H : HP} {Q : Option Value → HP → Prop} : Go 3 6 L (.ref p :: [.int r0]) H Q ↔ (iso 5 (hget H p) = true ∧ Go 55 0 [some (.ref p)] [] H (Cont 3 9 L [.int r0] Q)) := G_cV (n := 0) (N := 1) (as := []) (st := [.int r0]) fX0_load_6 (by decide +kernel) rfl (Nat.le_of_ble_eq_true rfl) (Nat.le_of_ble_eq_true rfl) rfl
theorem fX0_load_9 : ft 3 9 = some (.if_icmp .ge 73, 0, 0, 0, .null) := by decide +kernel
theorem gX0_load_9T {L : List (Option Value)} {a b : Int} (c : (-2147483648 ≤ a ∧ a ≤ 2147483647 ∧ -2147483648 ≤ b ∧ b ≤ 2147483647) ∧ b ≤ a) {st : List Value} {H : HP} {Q : Option Value → HP → Prop} : Go 3 9 L (vi b :: vi a :: st) H Q ↔ Go 3 82 L st H Q := G_icT fX0_load_9 (by decide) c
theorem gX0_load_9F {L : List (Option Value)} {a b : Int} (c : (-2147483648 ≤ a ∧ a ≤ 2147483647 ∧ -2147483648 ≤ b ∧ b ≤ 2147483647) ∧ ¬ (b ≤ a)) {st : List Value} {H : HP} {Q : Option Value → HP → Prop} : Go 3 9 L (vi b :: vi a :: st) H Q ↔ Go 3 12 L st H Q := G_icF (tg := 82) fX0_load_9 (by decide) c
theorem fX0_load_12 : ft 3 12 = some (.aload_n 3, 0, 0, 0, .null) := by decide +kernel
theorem gX0_load_12 {l0 l1 l2 l4 : Option Value} {u : Nat} {st : List Value} {H : HP} {Q : Option Value → HP → Prop} : Go 3 12 [l0, l1, l2, some (.ref u), l4] st H Q ↔ Go 3 13 [l0, l1, l2, some (.ref u), l4] (.ref u :: st) H Q := G_aload_n fX0_load_12 rfl
theorem fX0_load_13 : ft 3 13 = some (.iload 4, 0, 0, 0, .null) := by decide +kernel
theorem gX0_load_13 {l0 l1 l2 l3 : Option Value} {u : Int32} {st : List Value} {H : HP} {Q : Option Value → HP → Prop} : Go 3 13 [l0, l1, l2, l3, some (.int u)] st H Q ↔ Go 3 15 [l0, l1, l2, l3, some (.int u)] (.int u :: st) H Q := G_iload fX0_load_13 rfl
theorem fX0_load_15 : ft 3 15 = some (.aload_n 1, 0, 0, 0, .null) := by decide +kernel
theorem gX0_load_15 {l0 l2 l3 l4 : Option Value} {u : Nat} {st : List Value} {H : HP} {Q : Option Value → HP → Prop} : Go 3 15 [l0, some (.ref u), l2, l3, l4] st H Q ↔ Go 3 16 [l0, some (.ref u), l2, l3, l4] (.ref u :: st) H Q := G_aload_n fX0_load_15 rfl
theorem fX0_load_16 : ft 3 16 = some (.getfield 58, 5, 0, 281, .null) := by decide +kernel
theorem gX0_load_16 {L : List (Option Value)} {p : Nat} {st : List Value} {H : HP} {Q : Option Value → HP → Prop} : Go 3 16 L (.ref p :: st) H Q ↔ Rd (gF' 5 0 (hget H p)) 3 19 L st H Q := G_getf fX0_load_16 ⟨rfl, rfl⟩
theorem fX0_load_19 : ft 3 19 = some (.iconst 4, 0, 0, 0, .null) := by decide +kernel
theorem gX0_load_19 {L : List (Option Value)} {st : List Value} {H : HP} {Q : Option Value → HP → Prop} : Go 3 19 L st H Q ↔ Go 3 20 L (vi 4 :: st) H Q := G_iconst fX0_load_19
theorem fX0_load_20 : ft 3 20 = some (.if_icmp .ne 20, 0, 0, 0, .null) := by decide +kernel
theorem gX0_load_20T {L : List (Option Value)} {a b : Int} (c : (-2147483648 ≤ a ∧ a ≤ 2147483647 ∧ -2147483648 ≤ b ∧ b ≤ 2147483647) ∧ ¬ a = b) {st : List Value} {H : HP} {Q : Option Value → HP → Prop} : Go 3 20 L (vi b :: vi a :: st) H Q ↔ Go 3 40 L st H Q := G_icT fX0_load_20 (by decide) c
theorem gX0_load_20F {L : List (Option Value)} {a b : Int} (c : (-2147483648 ≤ a ∧ a ≤ 2147483647 ∧ -2147483648 ≤ b ∧ b ≤ 2147483647) ∧ ¬ (¬ a = b)) {st : List Value} {H : HP} {Q : Option Value → HP → Prop} : Go 3 20 L (vi b :: vi a :: st) H Q ↔ Go 3 23 L st H Q := G_icF (tg := 40) fX0_load_20 (by decide) c
theorem fX0_load_23 : ft 3 23 = some (.aload_n 1, 0, 0, 0, .null) := by decide +kernel
theorem gX0_load_23 {l0 l2 l3 l4 : Option Value} {u : Nat} {st : List Value} {H : HP} {Q : Option Value → HP → Prop} : Go 3 23 [l0, some (.ref u), l2, l3, l4] st H Q ↔ Go 3 24 [l0, some (.ref u), l2, l3, l4] (.ref u :: st) H Q := G_aload_n fX0_load_23 rfl
theorem fX0_load_24 : ft 3 24 = some (.getfield 61, 5, 1, 285, .null) := by decide +kernel
theorem gX0_load_24 {L : List (Option Value)} {p : Nat} {st : List Value} {H : HP} {Q : Option Value → HP → Prop} : Go 3 24 L (.ref p :: st) H Q ↔ Rd (gF' 5 1 (hget H p)) 3 27 L st H Q := G_getf fX0_load_24 ⟨rfl, rfl⟩
theorem fX0_load_27 : ft 3 27 = some (.iload 4, 0, 0, 0, .null) := by decide +kernel
theorem gX0_load_27 {l0 l1 l2 l3 : Option Value} {u : Int32} {st : List Value} {H : HP} {Q : Option Value → HP → Prop} : Go 3 27 [l0, l1, l2, l3, some (.int u)] st H Q ↔ Go 3 29 [l0, l1, l2, l3, some (.int u)] (.int u :: st) H Q := G_iload fX0_load_27 rfl
theorem fX0_load_29 : ft 3 29 = some (.laload, 0, 0, 0, .null) := by decide +kernel
theorem gX0_load_29 {L : List (Option Value)} {p : Nat} {a : Int} {st : List Value} {H : HP} {Q : Option Value → HP → Prop} : Go 3 29 L (vi a :: .ref p :: st) H Q ↔ Rd (aL' (hget H p) a) 3 30 L st H Q := G_lald fX0_load_29
theorem fX0_load_30 : ft 3 30 = some (.invokestatic 62, 1, 0, 692, .null) := by decide +kernel
theorem gX0_load_30 {L : List (Option Value)} {a0 : Int64} {r0 : Int32} {r1 : Nat} {H : HP} {Q : Option Value → HP → Prop} : Go 3 30 L (.long a0 :: [.int r0, .ref r1]) H Q ↔ Go 1 0 [some (.long a0), none] [] H (Cont 3 33 L [.int r0, .ref r1] Q) := G_cS (n := 1) (N := 2) (as := [.long a0]) (st := [.int r0, .ref r1]) fX0_load_30 (by decide +kernel) rfl (Nat.le_of_ble_eq_true rfl) (Nat.le_of_ble_eq_true rfl) rfl
theorem fX0_load_33 : ft 3 33 = some (.ifCond .eq 7, 0, 0, 0, .null) := by decide +kernel
theorem gX0_load_33T {L : List (Option Value)} {a : Int} (c : (-2147483648 ≤ a ∧ a ≤ 2147483647) ∧ a = 0) {st : List Value} {H : HP} {Q : Option Value → HP → Prop} : Go 3 33 L (vi a :: st) H Q ↔ Go 3 40 L st H Q := G_ifT fX0_load_33 (by decide) c
theorem gX0_load_33F {L : List (Option Value)} {a : Int} (c : (-2147483648 ≤ a ∧ a ≤ 2147483647) ∧ ¬ (a = 0)) {st : List Value} {H : HP} {Q : Option Value → HP → Prop} : Go 3 33 L (vi a :: st) H Q ↔ Go 3 36 L st H Q := G_ifF (tg := 40) fX0_load_33 (by decide) c
theorem fX0_load_36 : ft 3 36 = some (.iconst 1, 0, 0, 0, .null) := by decide +kernel
theorem gX0_load_36 {L : List (Option Value)} {st : List Value} {H : HP} {Q : Option Value → HP → Prop} : Go 3 36 L st H Q ↔ Go 3 37 L (vi 1 :: st) H Q := G_iconst fX0_load_36
theorem fX0_load_37 : ft 3 37 = some (.goto 4, 0, 0, 0, .null) := by decide +kernel
theorem gX0_load_37 {L : List (Option Value)} {st : List Value} {H : HP} {Q : Option Value → HP → Prop} : Go 3 37 L st H Q ↔ Go 3 41 L st H Q := G_goto fX0_load_37 (by decide)
theorem fX0_load_40 : ft 3 40 = some (.iconst 0, 0, 0, 0, .null) := by decide +kernel
theorem gX0_load_40 {L : List (Option Value)} {st : List Value} {H : HP} {Q : Option Value → HP → Prop} : Go 3 40 L st H Q ↔ Go 3 41 L (vi 0 :: st) H Q := G_iconst fX0_load_40
theorem fX0_load_41 : ft 3 41 = some (.bastore, 0, 0, 0, .null) := by decide +kernel
theorem gX0_load_41 {L : List (Option Value)} {p : Nat} {a : Int} {b : Int} (hp : p ≠ 0) {st : List Value} {H : HP} {Q : Option Value → HP → Prop} : Go 3 41 L (vi b :: vi a :: .ref p :: st) H Q ↔ Wr (sZ' (hget H p) a b) p 3 42 L st H Q := G_bast fX0_load_41 hp
theorem fX0_load_42 : ft 3 42 = some (.aload_n 2, 0, 0, 0, .null) := by decide +kernel
theorem gX0_load_42 {l0 l1 l3 l4 : Option Value} {u : Nat} {st : List Value} {H : HP} {Q : Option Value → HP → Prop} : Go 3 42 [l0, l1, some (.ref u), l3, l4] st H Q ↔ Go 3 43 [l0, l1, some (.ref u), l3, l4] (.ref u :: st) H Q := G_aload_n fX0_load_42 rfl
theorem fX0_load_43 : ft 3 43 = some (.iload 4, 0, 0, 0, .null) := by decide +kernel
theorem gX0_load_43 {l0 l1 l2 l3 : Option Value} {u : Int32} {st : List Value} {H : HP} {Q : Option Value → HP → Prop} : Go 3 43 [l0, l1, l2, l3, some (.int u)] st H Q ↔ Go 3 45 [l0, l1, l2, l3, some (.int u)] (.int u :: st) H Q := G_iload fX0_load_43 rfl
theorem fX0_load_45 : ft 3 45 = some (.aload_n 1, 0, 0, 0, .null) := by decide +kernel
theorem gX0_load_45 {l0 l2 l3 l4 : Option Value} {u : Nat} {st : List Value} {H : HP} {Q : Option Value → HP → Prop} : Go 3 45 [l0, some (.ref u), l2, l3, l4] st H Q ↔ Go 3 46 [l0, some (.ref u), l2, l3, l4] (.ref u :: st) H Q := G_aload_n fX0_load_45 rfl
theorem fX0_load_46 : ft 3 46 = some (.getfield 58, 5, 0, 281, .null) := by decide +kernel
theorem gX0_load_46 {L : List (Option Value)} {p : Nat} {st : List Value} {H : HP} {Q : Option Value → HP → Prop} : Go 3 46 L (.ref p :: st) H Q ↔ Rd (gF' 5 0 (hget H p)) 3 49 L st H Q := G_getf fX0_load_46 ⟨rfl, rfl⟩
theorem fX0_load_49 : ft 3 49 = some (.iconst 4, 0, 0, 0, .null) := by decide +kernel
theorem gX0_load_49 {L : List (Option Value)} {st : List Value} {H : HP} {Q : Option Value → HP → Prop} : Go 3 49 L st H Q ↔ Go 3 50 L (vi 4 :: st) H Q := G_iconst fX0_load_49
theorem fX0_load_50 : ft 3 50 = some (.if_icmp .ne 17, 0, 0, 0, .null) := by decide +kernel
theorem gX0_load_50T {L : List (Option Value)} {a b : Int} (c : (-2147483648 ≤ a ∧ a ≤ 2147483647 ∧ -2147483648 ≤ b ∧ b ≤ 2147483647) ∧ ¬ a = b) {st : List Value} {H : HP} {Q : Option Value → HP → Prop} : Go 3 50 L (vi b :: vi a :: st) H Q ↔ Go 3 67 L st H Q := G_icT fX0_load_50 (by decide) c
theorem gX0_load_50F {L : List (Option Value)} {a b : Int} (c : (-2147483648 ≤ a ∧ a ≤ 2147483647 ∧ -2147483648 ≤ b ∧ b ≤ 2147483647) ∧ ¬ (¬ a = b)) {st : List Value} {H : HP} {Q : Option Value → HP → Prop} : Go 3 50 L (vi b :: vi a :: st) H Q ↔ Go 3 53 L st H Q := G_icF (tg := 67) fX0_load_50 (by decide) c
theorem fX0_load_53 : ft 3 53 = some (.aload_n 0, 0, 0, 0, .null) := by decide +kernel
theorem gX0_load_53 {l1 l2 l3 l4 : Option Value} {u : Nat} {st : List Value} {H : HP} {Q : Option Value → HP → Prop} : Go 3 53 [some (.ref u), l1, l2, l3, l4] st H Q ↔ Go 3 54 [some (.ref u), l1, l2, l3, l4] (.ref u :: st) H Q := G_aload_n fX0_load_53 rfl
theorem fX0_load_54 : ft 3 54 = some (.aload_n 1, 0, 0, 0, .null) := by decide +kernel
theorem gX0_load_54 {l0 l2 l3 l4 : Option Value} {u : Nat} {st : List Value} {H : HP} {Q : Option Value → HP → Prop} : Go 3 54 [l0, some (.ref u), l2, l3, l4] st H Q ↔ Go 3 55 [l0, some (.ref u), l2, l3, l4] (.ref u :: st) H Q := G_aload_n fX0_load_54 rfl
theorem fX0_load_55 : ft 3 55 = some (.getfield 61, 5, 1, 285, .null) := by decide +kernel
theorem gX0_load_55 {L : List (Option Value)} {p : Nat} {st : List Value} {H : HP} {Q : Option Value → HP → Prop} : Go 3 55 L (.ref p :: st) H Q ↔ Rd (gF' 5 1 (hget H p)) 3 58 L st H Q := G_getf fX0_load_55 ⟨rfl, rfl⟩
theorem fX0_load_58 : ft 3 58 = some (.iload 4, 0, 0, 0, .null) := by decide +kernel
theorem gX0_load_58 {l0 l1 l2 l3 : Option Value} {u : Int32} {st : List Value} {H : HP} {Q : Option Value → HP → Prop} : Go 3 58 [l0, l1, l2, l3, some (.int u)] st H Q ↔ Go 3 60 [l0, l1, l2, l3, some (.int u)] (.int u :: st) H Q := G_iload fX0_load_58 rfl
theorem fX0_load_60 : ft 3 60 = some (.laload, 0, 0, 0, .null) := by decide +kernel
theorem gX0_load_60 {L : List (Option Value)} {p : Nat} {a : Int} {st : List Value} {H : HP} {Q : Option Value → HP → Prop} : Go 3 60 L (vi a :: .ref p :: st) H Q ↔ Rd (aL' (hget H p) a) 3 61 L st H Q := G_lald fX0_load_60
theorem fX0_load_61 : ft 3 61 = some (.invokevirtual 66, 8, 0, 693, .null) := by decide +kernel
theorem gX0_load_61 {L : List (Option Value)} {p : Nat} {a0 : Int64} {r0 : Int32} {r1 : Nat} {H : HP} {Q : Option Value → HP → Prop} : Go 3 61 L (.long a0 :: .ref p :: [.int r0, .ref r1]) H Q ↔ (iso 0 (hget H p) = true ∧ Go 8 0 [some (.ref p), some (.long a0), none, none, none, none, none, none, none] [] H (Cont 3 64 L [.int r0, .ref r1] Q)) := G_cV (n := 1) (N := 9) (as := [.long a0]) (st := [.int r0, .ref r1]) fX0_load_61 (by decide +kernel) rfl (Nat.le_of_ble_eq_true rfl) (Nat.le_of_ble_eq_true rfl) rfl
theorem fX0_load_64 : ft 3 64 = some (.goto 11, 0, 0, 0, .null) := by decide +kernel
theorem gX0_load_64 {L : List (Option Value)} {st : List Value} {H : HP} {Q : Option Value → HP → Prop} : Go 3 64 L st H Q ↔ Go 3 75 L st H Q := G_goto fX0_load_64 (by decide)
theorem fX0_load_67 : ft 3 67 = some (.aload_n 1, 0, 0, 0, .null) := by decide +kernel
theorem gX0_load_67 {l0 l2 l3 l4 : Option Value} {u : Nat} {st : List Value} {H : HP} {Q : Option Value → HP → Prop} : Go 3 67 [l0, some (.ref u), l2, l3, l4] st H Q ↔ Go 3 68 [l0, some (.ref u), l2, l3, l4] (.ref u :: st) H Q := G_aload_n fX0_load_67 rfl
theorem fX0_load_68 : ft 3 68 = some (.getfield 61, 5, 1, 285, .null) := by decide +kernel
theorem gX0_load_68 {L : List (Option Value)} {p : Nat} {st : List Value} {H : HP} {Q : Option Value → HP → Prop} : Go 3 68 L (.ref p :: st) H Q ↔ Rd (gF' 5 1 (hget H p)) 3 71 L st H Q := G_getf fX0_load_68 ⟨rfl, rfl⟩
theorem fX0_load_71 : ft 3 71 = some (.iload 4, 0, 0, 0, .null) := by decide +kernel
theorem gX0_load_71 {l0 l1 l2 l3 : Option Value} {u : Int32} {st : List Value} {H : HP} {Q : Option Value → HP → Prop} : Go 3 71 [l0, l1, l2, l3, some (.int u)] st H Q ↔ Go 3 73 [l0, l1, l2, l3, some (.int u)] (.int u :: st) H Q := G_iload fX0_load_71 rfl
theorem fX0_load_73 : ft 3 73 = some (.laload, 0, 0, 0, .null) := by decide +kernel
theorem gX0_load_73 {L : List (Option Value)} {p : Nat} {a : Int} {st : List Value} {H : HP} {Q : Option Value → HP → Prop} : Go 3 73 L (vi a :: .ref p :: st) H Q ↔ Rd (aL' (hget H p) a) 3 74 L st H Q := G_lald fX0_load_73
theorem fX0_load_74 : ft 3 74 = some (.l2d, 0, 0, 0, .null) := by decide +kernel
theorem gX0_load_74 {L : List (Option Value)} {a : Int} {st : List Value} {H : HP} {Q : Option Value → HP → Prop} : Go 3 74 L (vl a :: st) H Q ↔ Go 3 75 L (.double (FP.l2d (Int64.ofInt a)) :: st) H Q := G_l2d fX0_load_74
theorem fX0_load_75 : ft 3 75 = some (.dastore, 0, 0, 0, .null) := by decide +kernel
theorem gX0_load_75 {L : List (Option Value)} {p : Nat} {a : Int} {b : UInt64} (hp : p ≠ 0) {st : List Value} {H : HP} {Q : Option Value → HP → Prop} : Go 3 75 L (.double b :: vi a :: .ref p :: st) H Q ↔ Wr (sD' (hget H p) a b) p 3 76 L st H Q := G_dast fX0_load_75 hp
theorem fX0_load_76 : ft 3 76 = some (.iinc 4 1, 0, 0, 0, .null) := by decide +kernel
theorem gX0_load_76 {l0 l1 l2 l3 : Option Value} {a : Int} {st : List Value} {H : HP} {Q : Option Value → HP → Prop} : Go 3 76 [l0, l1, l2, l3, some (vi a)] st H Q ↔ Go 3 79 [l0, l1, l2, l3, some (vi (a + 1))] st H Q := G_iinc fX0_load_76 rfl rfl
theorem fX0_load_79 : ft 3 79 = some (.goto (-76), 0, 0, 0, .null) := by decide +kernel
theorem gX0_load_79 {L : List (Option Value)} {st : List Value} {H : HP} {Q : Option Value → HP → Prop} : Go 3 79 L st H Q ↔ Go 3 3 L st H Q := G_goto fX0_load_79 (by decide)
theorem fX0_load_82 : ft 3 82 = some (.return_, 0, 0, 0, .null) := by decide +kernel
theorem gX0_load_82 {L : List (Option Value)} {H : HP} {Q : Option Value → HP → Prop} : Go 3 82 L [] H Q ↔ Q none H := G_vret fX0_load_82 (by decide +kernel)
theorem fX0_entryBits_0 : ft 4 0 = some (.dconst 0, 0, 0, 0, .null) := by decide +kernel
theorem gX0_entryBits_0 {L : List (Option Value)} {st : List Value} {H : HP} {Q : Option Value → HP → Prop} : Go 4 0 L st H Q ↔ Go 4 1 L (.double FP.dconst0 :: st) H Q := G_dconst fX0_entryBits_0
theorem fX0_entryBits_1 : ft 4 1 = some (.dstore 4, 0, 0, 0, .null) := by decide +kernel
theorem gX0_entryBits_1 {l0 l1 l2 l3 l4 l5 l6 l7 l8 l9 l10 l11 l12 : Option Value} {u : UInt64} {st : List Value} {H : HP} {Q : Option Value → HP → Prop} : Go 4 1 [l0, l1, l2, l3, l4, l5, l6, l7, l8, l9, l10, l11, l12] (.double u :: st) H Q ↔ Go 4 3 [l0, l1, l2, l3, some (.double u), none, l6, l7, l8, l9, l10, l11, l12] st H Q := G_dstore fX0_entryBits_1 rfl
theorem fX0_entryBits_3 : ft 4 3 = some (.iconst 0, 0, 0, 0, .null) := by decide +kernel
theorem gX0_entryBits_3 {L : List (Option Value)} {st : List Value} {H : HP} {Q : Option Value → HP → Prop} : Go 4 3 L st H Q ↔ Go 4 4 L (vi 0 :: st) H Q := G_iconst fX0_entryBits_3
theorem fX0_entryBits_4 : ft 4 4 = some (.iload_n 1, 0, 0, 0, .null) := by decide +kernel
theorem gX0_entryBits_4 {l0 l2 l3 l4 l5 l6 l7 l8 l9 l10 l11 l12 : Option Value} {u : Int32} {st : List Value} {H : HP} {Q : Option Value → HP → Prop} : Go 4 4 [l0, some (.int u), l2, l3, l4, l5, l6, l7, l8, l9, l10, l11, l12] st H Q ↔ Go 4 5 [l0, some (.int u), l2, l3, l4, l5, l6, l7, l8, l9, l10, l11, l12] (.int u :: st) H Q := G_iload_n fX0_entryBits_4 rfl
theorem fX0_entryBits_5 : ft 4 5 = some (.iload_n 3, 0, 0, 0, .null) := by decide +kernel
theorem gX0_entryBits_5 {l0 l1 l2 l4 l5 l6 l7 l8 l9 l10 l11 l12 : Option Value} {u : Int32} {st : List Value} {H : HP} {Q : Option Value → HP → Prop} : Go 4 5 [l0, l1, l2, some (.int u), l4, l5, l6, l7, l8, l9, l10, l11, l12] st H Q ↔ Go 4 6 [l0, l1, l2, some (.int u), l4, l5, l6, l7, l8, l9, l10, l11, l12] (.int u :: st) H Q := G_iload_n fX0_entryBits_5 rfl
theorem fX0_entryBits_6 : ft 4 6 = some (.isub, 0, 0, 0, .null) := by decide +kernel
theorem gX0_entryBits_6 {L : List (Option Value)} {a b : Int} {st : List Value} {H : HP} {Q : Option Value → HP → Prop} : Go 4 6 L (vi b :: vi a :: st) H Q ↔ Go 4 7 L (vi (a - b) :: st) H Q := G_isub fX0_entryBits_6
theorem fX0_entryBits_7 : ft 4 7 = some (.iconst 1, 0, 0, 0, .null) := by decide +kernel
theorem gX0_entryBits_7 {L : List (Option Value)} {st : List Value} {H : HP} {Q : Option Value → HP → Prop} : Go 4 7 L st H Q ↔ Go 4 8 L (vi 1 :: st) H Q := G_iconst fX0_entryBits_7
theorem fX0_entryBits_8 : ft 4 8 = some (.iadd, 0, 0, 0, .null) := by decide +kernel
theorem gX0_entryBits_8 {L : List (Option Value)} {a b : Int} {st : List Value} {H : HP} {Q : Option Value → HP → Prop} : Go 4 8 L (vi b :: vi a :: st) H Q ↔ Go 4 9 L (vi (a + b) :: st) H Q := G_iadd fX0_entryBits_8
theorem fX0_entryBits_9 : ft 4 9 = some (.invokestatic 70, 187, 0, 712, .null) := by decide +kernel
theorem gX0_entryBits_9 {L : List (Option Value)} {a0 : Int32} {a1 : Int32}  {H : HP} {Q : Option Value → HP → Prop} : Go 4 9 L (.int a1 :: .int a0 :: []) H Q ↔ Go 187 0 [some (.int a0), some (.int a1)] [] H (Cont 4 12 L [] Q) := G_cS (n := 2) (N := 2) (as := [.int a1, .int a0]) (st := []) fX0_entryBits_9 (by decide +kernel) rfl (Nat.le_of_ble_eq_true rfl) (Nat.le_of_ble_eq_true rfl) rfl
theorem fX0_entryBits_12 : ft 4 12 = some (.istore 6, 0, 0, 0, .null) := by decide +kernel
theorem gX0_entryBits_12 {l0 l1 l2 l3 l4 l5 l6 l7 l8 l9 l10 l11 l12 : Option Value} {u : Int32} {st : List Value} {H : HP} {Q : Option Value → HP → Prop} : Go 4 12 [l0, l1, l2, l3, l4, l5, l6, l7, l8, l9, l10, l11, l12] (.int u :: st) H Q ↔ Go 4 14 [l0, l1, l2, l3, l4, l5, some (.int u), l7, l8, l9, l10, l11, l12] st H Q := G_istore fX0_entryBits_12 rfl
theorem fX0_entryBits_14 : ft 4 14 = some (.iload 6, 0, 0, 0, .null) := by decide +kernel
theorem gX0_entryBits_14 {l0 l1 l2 l3 l4 l5 l7 l8 l9 l10 l11 l12 : Option Value} {u : Int32} {st : List Value} {H : HP} {Q : Option Value → HP → Prop} : Go 4 14 [l0, l1, l2, l3, l4, l5, some (.int u), l7, l8, l9, l10, l11, l12] st H Q ↔ Go 4 16 [l0, l1, l2, l3, l4, l5, some (.int u), l7, l8, l9, l10, l11, l12] (.int u :: st) H Q := G_iload fX0_entryBits_14 rfl
theorem fX0_entryBits_16 : ft 4 16 = some (.iload_n 1, 0, 0, 0, .null) := by decide +kernel
theorem gX0_entryBits_16 {l0 l2 l3 l4 l5 l6 l7 l8 l9 l10 l11 l12 : Option Value} {u : Int32} {st : List Value} {H : HP} {Q : Option Value → HP → Prop} : Go 4 16 [l0, some (.int u), l2, l3, l4, l5, l6, l7, l8, l9, l10, l11, l12] st H Q ↔ Go 4 17 [l0, some (.int u), l2, l3, l4, l5, l6, l7, l8, l9, l10, l11, l12] (.int u :: st) H Q := G_iload_n fX0_entryBits_16 rfl
theorem fX0_entryBits_17 : ft 4 17 = some (.if_icmp .gt 99, 0, 0, 0, .null) := by decide +kernel
theorem gX0_entryBits_17T {L : List (Option Value)} {a b : Int} (c : (-2147483648 ≤ a ∧ a ≤ 2147483647 ∧ -2147483648 ≤ b ∧ b ≤ 2147483647) ∧ b < a) {st : List Value} {H : HP} {Q : Option Value → HP → Prop} : Go 4 17 L (vi b :: vi a :: st) H Q ↔ Go 4 116 L st H Q := G_icT fX0_entryBits_17 (by decide) c
theorem gX0_entryBits_17F {L : List (Option Value)} {a b : Int} (c : (-2147483648 ≤ a ∧ a ≤ 2147483647 ∧ -2147483648 ≤ b ∧ b ≤ 2147483647) ∧ ¬ (b < a)) {st : List Value} {H : HP} {Q : Option Value → HP → Prop} : Go 4 17 L (vi b :: vi a :: st) H Q ↔ Go 4 20 L st H Q := G_icF (tg := 116) fX0_entryBits_17 (by decide) c
theorem fX0_entryBits_20 : ft 4 20 = some (.iload 6, 0, 0, 0, .null) := by decide +kernel
theorem gX0_entryBits_20 {l0 l1 l2 l3 l4 l5 l7 l8 l9 l10 l11 l12 : Option Value} {u : Int32} {st : List Value} {H : HP} {Q : Option Value → HP → Prop} : Go 4 20 [l0, l1, l2, l3, l4, l5, some (.int u), l7, l8, l9, l10, l11, l12] st H Q ↔ Go 4 22 [l0, l1, l2, l3, l4, l5, some (.int u), l7, l8, l9, l10, l11, l12] (.int u :: st) H Q := G_iload fX0_entryBits_20 rfl
theorem fX0_entryBits_22 : ft 4 22 = some (.iload_n 2, 0, 0, 0, .null) := by decide +kernel
theorem gX0_entryBits_22 {l0 l1 l3 l4 l5 l6 l7 l8 l9 l10 l11 l12 : Option Value} {u : Int32} {st : List Value} {H : HP} {Q : Option Value → HP → Prop} : Go 4 22 [l0, l1, some (.int u), l3, l4, l5, l6, l7, l8, l9, l10, l11, l12] st H Q ↔ Go 4 23 [l0, l1, some (.int u), l3, l4, l5, l6, l7, l8, l9, l10, l11, l12] (.int u :: st) H Q := G_iload_n fX0_entryBits_22 rfl
theorem fX0_entryBits_23 : ft 4 23 = some (.if_icmp .ge 93, 0, 0, 0, .null) := by decide +kernel
theorem gX0_entryBits_23T {L : List (Option Value)} {a b : Int} (c : (-2147483648 ≤ a ∧ a ≤ 2147483647 ∧ -2147483648 ≤ b ∧ b ≤ 2147483647) ∧ b ≤ a) {st : List Value} {H : HP} {Q : Option Value → HP → Prop} : Go 4 23 L (vi b :: vi a :: st) H Q ↔ Go 4 116 L st H Q := G_icT fX0_entryBits_23 (by decide) c
theorem gX0_entryBits_23F {L : List (Option Value)} {a b : Int} (c : (-2147483648 ≤ a ∧ a ≤ 2147483647 ∧ -2147483648 ≤ b ∧ b ≤ 2147483647) ∧ ¬ (b ≤ a)) {st : List Value} {H : HP} {Q : Option Value → HP → Prop} : Go 4 23 L (vi b :: vi a :: st) H Q ↔ Go 4 26 L st H Q := G_icF (tg := 116) fX0_entryBits_23 (by decide) c
theorem fX0_entryBits_26 : ft 4 26 = some (.aload_n 0, 0, 0, 0, .null) := by decide +kernel
theorem gX0_entryBits_26 {l1 l2 l3 l4 l5 l6 l7 l8 l9 l10 l11 l12 : Option Value} {u : Nat} {st : List Value} {H : HP} {Q : Option Value → HP → Prop} : Go 4 26 [some (.ref u), l1, l2, l3, l4, l5, l6, l7, l8, l9, l10, l11, l12] st H Q ↔ Go 4 27 [some (.ref u), l1, l2, l3, l4, l5, l6, l7, l8, l9, l10, l11, l12] (.ref u :: st) H Q := G_aload_n fX0_entryBits_26 rfl
theorem fX0_entryBits_27 : ft 4 27 = some (.getfield 15, 0, 1, 81, .null) := by decide +kernel
theorem gX0_entryBits_27 {L : List (Option Value)} {p : Nat} {st : List Value} {H : HP} {Q : Option Value → HP → Prop} : Go 4 27 L (.ref p :: st) H Q ↔ Rd (gF' 0 1 (hget H p)) 4 30 L st H Q := G_getf fX0_entryBits_27 ⟨rfl, rfl⟩
theorem fX0_entryBits_30 : ft 4 30 = some (.iload 6, 0, 0, 0, .null) := by decide +kernel
theorem gX0_entryBits_30 {l0 l1 l2 l3 l4 l5 l7 l8 l9 l10 l11 l12 : Option Value} {u : Int32} {st : List Value} {H : HP} {Q : Option Value → HP → Prop} : Go 4 30 [l0, l1, l2, l3, l4, l5, some (.int u), l7, l8, l9, l10, l11, l12] st H Q ↔ Go 4 32 [l0, l1, l2, l3, l4, l5, some (.int u), l7, l8, l9, l10, l11, l12] (.int u :: st) H Q := G_iload fX0_entryBits_30 rfl
theorem fX0_entryBits_32 : ft 4 32 = some (.daload, 0, 0, 0, .null) := by decide +kernel
theorem gX0_entryBits_32 {L : List (Option Value)} {p : Nat} {a : Int} {st : List Value} {H : HP} {Q : Option Value → HP → Prop} : Go 4 32 L (vi a :: .ref p :: st) H Q ↔ Rd (aD' (hget H p) a) 4 33 L st H Q := G_dald fX0_entryBits_32
theorem fX0_entryBits_33 : ft 4 33 = some (.dstore 7, 0, 0, 0, .null) := by decide +kernel
theorem gX0_entryBits_33 {l0 l1 l2 l3 l4 l5 l6 l7 l8 l9 l10 l11 l12 : Option Value} {u : UInt64} {st : List Value} {H : HP} {Q : Option Value → HP → Prop} : Go 4 33 [l0, l1, l2, l3, l4, l5, l6, l7, l8, l9, l10, l11, l12] (.double u :: st) H Q ↔ Go 4 35 [l0, l1, l2, l3, l4, l5, l6, some (.double u), none, l9, l10, l11, l12] st H Q := G_dstore fX0_entryBits_33 rfl
theorem fX0_entryBits_35 : ft 4 35 = some (.aload_n 0, 0, 0, 0, .null) := by decide +kernel
theorem gX0_entryBits_35 {l1 l2 l3 l4 l5 l6 l7 l8 l9 l10 l11 l12 : Option Value} {u : Nat} {st : List Value} {H : HP} {Q : Option Value → HP → Prop} : Go 4 35 [some (.ref u), l1, l2, l3, l4, l5, l6, l7, l8, l9, l10, l11, l12] st H Q ↔ Go 4 36 [some (.ref u), l1, l2, l3, l4, l5, l6, l7, l8, l9, l10, l11, l12] (.ref u :: st) H Q := G_aload_n fX0_entryBits_35 rfl
theorem fX0_entryBits_36 : ft 4 36 = some (.getfield 18, 0, 2, 82, .null) := by decide +kernel
theorem gX0_entryBits_36 {L : List (Option Value)} {p : Nat} {st : List Value} {H : HP} {Q : Option Value → HP → Prop} : Go 4 36 L (.ref p :: st) H Q ↔ Rd (gF' 0 2 (hget H p)) 4 39 L st H Q := G_getf fX0_entryBits_36 ⟨rfl, rfl⟩
theorem fX0_entryBits_39 : ft 4 39 = some (.iload_n 1, 0, 0, 0, .null) := by decide +kernel
theorem gX0_entryBits_39 {l0 l2 l3 l4 l5 l6 l7 l8 l9 l10 l11 l12 : Option Value} {u : Int32} {st : List Value} {H : HP} {Q : Option Value → HP → Prop} : Go 4 39 [l0, some (.int u), l2, l3, l4, l5, l6, l7, l8, l9, l10, l11, l12] st H Q ↔ Go 4 40 [l0, some (.int u), l2, l3, l4, l5, l6, l7, l8, l9, l10, l11, l12] (.int u :: st) H Q := G_iload_n fX0_entryBits_39 rfl
theorem fX0_entryBits_40 : ft 4 40 = some (.iload 6, 0, 0, 0, .null) := by decide +kernel
theorem gX0_entryBits_40 {l0 l1 l2 l3 l4 l5 l7 l8 l9 l10 l11 l12 : Option Value} {u : Int32} {st : List Value} {H : HP} {Q : Option Value → HP → Prop} : Go 4 40 [l0, l1, l2, l3, l4, l5, some (.int u), l7, l8, l9, l10, l11, l12] st H Q ↔ Go 4 42 [l0, l1, l2, l3, l4, l5, some (.int u), l7, l8, l9, l10, l11, l12] (.int u :: st) H Q := G_iload fX0_entryBits_40 rfl
theorem fX0_entryBits_42 : ft 4 42 = some (.isub, 0, 0, 0, .null) := by decide +kernel
theorem gX0_entryBits_42 {L : List (Option Value)} {a b : Int} {st : List Value} {H : HP} {Q : Option Value → HP → Prop} : Go 4 42 L (vi b :: vi a :: st) H Q ↔ Go 4 43 L (vi (a - b) :: st) H Q := G_isub fX0_entryBits_42
theorem fX0_entryBits_43 : ft 4 43 = some (.daload, 0, 0, 0, .null) := by decide +kernel
theorem gX0_entryBits_43 {L : List (Option Value)} {p : Nat} {a : Int} {st : List Value} {H : HP} {Q : Option Value → HP → Prop} : Go 4 43 L (vi a :: .ref p :: st) H Q ↔ Rd (aD' (hget H p) a) 4 44 L st H Q := G_dald fX0_entryBits_43
theorem fX0_entryBits_44 : ft 4 44 = some (.dstore 9, 0, 0, 0, .null) := by decide +kernel
theorem gX0_entryBits_44 {l0 l1 l2 l3 l4 l5 l6 l7 l8 l9 l10 l11 l12 : Option Value} {u : UInt64} {st : List Value} {H : HP} {Q : Option Value → HP → Prop} : Go 4 44 [l0, l1, l2, l3, l4, l5, l6, l7, l8, l9, l10, l11, l12] (.double u :: st) H Q ↔ Go 4 46 [l0, l1, l2, l3, l4, l5, l6, l7, l8, some (.double u), none, l11, l12] st H Q := G_dstore fX0_entryBits_44 rfl
theorem fX0_entryBits_46 : ft 4 46 = some (.aload_n 0, 0, 0, 0, .null) := by decide +kernel
theorem gX0_entryBits_46 {l1 l2 l3 l4 l5 l6 l7 l8 l9 l10 l11 l12 : Option Value} {u : Nat} {st : List Value} {H : HP} {Q : Option Value → HP → Prop} : Go 4 46 [some (.ref u), l1, l2, l3, l4, l5, l6, l7, l8, l9, l10, l11, l12] st H Q ↔ Go 4 47 [some (.ref u), l1, l2, l3, l4, l5, l6, l7, l8, l9, l10, l11, l12] (.ref u :: st) H Q := G_aload_n fX0_entryBits_46 rfl
theorem fX0_entryBits_47 : ft 4 47 = some (.getfield 21, 0, 3, 83, .null) := by decide +kernel
theorem gX0_entryBits_47 {L : List (Option Value)} {p : Nat} {st : List Value} {H : HP} {Q : Option Value → HP → Prop} : Go 4 47 L (.ref p :: st) H Q ↔ Rd (gF' 0 3 (hget H p)) 4 50 L st H Q := G_getf fX0_entryBits_47 ⟨rfl, rfl⟩
theorem fX0_entryBits_50 : ft 4 50 = some (.iload 6, 0, 0, 0, .null) := by decide +kernel
theorem gX0_entryBits_50 {l0 l1 l2 l3 l4 l5 l7 l8 l9 l10 l11 l12 : Option Value} {u : Int32} {st : List Value} {H : HP} {Q : Option Value → HP → Prop} : Go 4 50 [l0, l1, l2, l3, l4, l5, some (.int u), l7, l8, l9, l10, l11, l12] st H Q ↔ Go 4 52 [l0, l1, l2, l3, l4, l5, some (.int u), l7, l8, l9, l10, l11, l12] (.int u :: st) H Q := G_iload fX0_entryBits_50 rfl
theorem fX0_entryBits_52 : ft 4 52 = some (.baload, 0, 0, 0, .null) := by decide +kernel
theorem gX0_entryBits_52 {L : List (Option Value)} {p : Nat} {a : Int} {st : List Value} {H : HP} {Q : Option Value → HP → Prop} : Go 4 52 L (vi a :: .ref p :: st) H Q ↔ Rd (aZ' (hget H p) a) 4 53 L st H Q := G_bald fX0_entryBits_52
theorem fX0_entryBits_53 : ft 4 53 = some (.ifCond .ne 25, 0, 0, 0, .null) := by decide +kernel
theorem gX0_entryBits_53T {L : List (Option Value)} {a : Int} (c : (-2147483648 ≤ a ∧ a ≤ 2147483647) ∧ ¬ a = 0) {st : List Value} {H : HP} {Q : Option Value → HP → Prop} : Go 4 53 L (vi a :: st) H Q ↔ Go 4 78 L st H Q := G_ifT fX0_entryBits_53 (by decide) c
theorem gX0_entryBits_53F {L : List (Option Value)} {a : Int} (c : (-2147483648 ≤ a ∧ a ≤ 2147483647) ∧ ¬ (¬ a = 0)) {st : List Value} {H : HP} {Q : Option Value → HP → Prop} : Go 4 53 L (vi a :: st) H Q ↔ Go 4 56 L st H Q := G_ifF (tg := 78) fX0_entryBits_53 (by decide) c
theorem fX0_entryBits_56 : ft 4 56 = some (.aload_n 0, 0, 0, 0, .null) := by decide +kernel
theorem gX0_entryBits_56 {l1 l2 l3 l4 l5 l6 l7 l8 l9 l10 l11 l12 : Option Value} {u : Nat} {st : List Value} {H : HP} {Q : Option Value → HP → Prop} : Go 4 56 [some (.ref u), l1, l2, l3, l4, l5, l6, l7, l8, l9, l10, l11, l12] st H Q ↔ Go 4 57 [some (.ref u), l1, l2, l3, l4, l5, l6, l7, l8, l9, l10, l11, l12] (.ref u :: st) H Q := G_aload_n fX0_entryBits_56 rfl
theorem fX0_entryBits_57 : ft 4 57 = some (.getfield 25, 0, 4, 84, .null) := by decide +kernel
theorem gX0_entryBits_57 {L : List (Option Value)} {p : Nat} {st : List Value} {H : HP} {Q : Option Value → HP → Prop} : Go 4 57 L (.ref p :: st) H Q ↔ Rd (gF' 0 4 (hget H p)) 4 60 L st H Q := G_getf fX0_entryBits_57 ⟨rfl, rfl⟩
theorem fX0_entryBits_60 : ft 4 60 = some (.iload_n 1, 0, 0, 0, .null) := by decide +kernel
theorem gX0_entryBits_60 {l0 l2 l3 l4 l5 l6 l7 l8 l9 l10 l11 l12 : Option Value} {u : Int32} {st : List Value} {H : HP} {Q : Option Value → HP → Prop} : Go 4 60 [l0, some (.int u), l2, l3, l4, l5, l6, l7, l8, l9, l10, l11, l12] st H Q ↔ Go 4 61 [l0, some (.int u), l2, l3, l4, l5, l6, l7, l8, l9, l10, l11, l12] (.int u :: st) H Q := G_iload_n fX0_entryBits_60 rfl
theorem fX0_entryBits_61 : ft 4 61 = some (.iload 6, 0, 0, 0, .null) := by decide +kernel
theorem gX0_entryBits_61 {l0 l1 l2 l3 l4 l5 l7 l8 l9 l10 l11 l12 : Option Value} {u : Int32} {st : List Value} {H : HP} {Q : Option Value → HP → Prop} : Go 4 61 [l0, l1, l2, l3, l4, l5, some (.int u), l7, l8, l9, l10, l11, l12] st H Q ↔ Go 4 63 [l0, l1, l2, l3, l4, l5, some (.int u), l7, l8, l9, l10, l11, l12] (.int u :: st) H Q := G_iload fX0_entryBits_61 rfl
theorem fX0_entryBits_63 : ft 4 63 = some (.isub, 0, 0, 0, .null) := by decide +kernel
theorem gX0_entryBits_63 {L : List (Option Value)} {a b : Int} {st : List Value} {H : HP} {Q : Option Value → HP → Prop} : Go 4 63 L (vi b :: vi a :: st) H Q ↔ Go 4 64 L (vi (a - b) :: st) H Q := G_isub fX0_entryBits_63
theorem fX0_entryBits_64 : ft 4 64 = some (.baload, 0, 0, 0, .null) := by decide +kernel
theorem gX0_entryBits_64 {L : List (Option Value)} {p : Nat} {a : Int} {st : List Value} {H : HP} {Q : Option Value → HP → Prop} : Go 4 64 L (vi a :: .ref p :: st) H Q ↔ Rd (aZ' (hget H p) a) 4 65 L st H Q := G_bald fX0_entryBits_64
theorem fX0_entryBits_65 : ft 4 65 = some (.ifCond .ne 13, 0, 0, 0, .null) := by decide +kernel
theorem gX0_entryBits_65T {L : List (Option Value)} {a : Int} (c : (-2147483648 ≤ a ∧ a ≤ 2147483647) ∧ ¬ a = 0) {st : List Value} {H : HP} {Q : Option Value → HP → Prop} : Go 4 65 L (vi a :: st) H Q ↔ Go 4 78 L st H Q := G_ifT fX0_entryBits_65 (by decide) c
theorem gX0_entryBits_65F {L : List (Option Value)} {a : Int} (c : (-2147483648 ≤ a ∧ a ≤ 2147483647) ∧ ¬ (¬ a = 0)) {st : List Value} {H : HP} {Q : Option Value → HP → Prop} : Go 4 65 L (vi a :: st) H Q ↔ Go 4 68 L st H Q := G_ifF (tg := 78) fX0_entryBits_65 (by decide) c
theorem fX0_entryBits_68 : ft 4 68 = some (.dload 7, 0, 0, 0, .null) := by decide +kernel
theorem gX0_entryBits_68 {l0 l1 l2 l3 l4 l5 l6 l9 l10 l11 l12 : Option Value} {u : UInt64} {st : List Value} {H : HP} {Q : Option Value → HP → Prop} : Go 4 68 [l0, l1, l2, l3, l4, l5, l6, some (.double u), none, l9, l10, l11, l12] st H Q ↔ Go 4 70 [l0, l1, l2, l3, l4, l5, l6, some (.double u), none, l9, l10, l11, l12] (.double u :: st) H Q := G_dload fX0_entryBits_68 rfl
theorem fX0_entryBits_70 : ft 4 70 = some (.dload 9, 0, 0, 0, .null) := by decide +kernel
theorem gX0_entryBits_70 {l0 l1 l2 l3 l4 l5 l6 l7 l8 l11 l12 : Option Value} {u : UInt64} {st : List Value} {H : HP} {Q : Option Value → HP → Prop} : Go 4 70 [l0, l1, l2, l3, l4, l5, l6, l7, l8, some (.double u), none, l11, l12] st H Q ↔ Go 4 72 [l0, l1, l2, l3, l4, l5, l6, l7, l8, some (.double u), none, l11, l12] (.double u :: st) H Q := G_dload fX0_entryBits_70 rfl
theorem fX0_entryBits_72 : ft 4 72 = some (.invokestatic 76, 5, 0, 713, .null) := by decide +kernel
theorem gX0_entryBits_72 {L : List (Option Value)} {a0 : UInt64} {a1 : UInt64}  {H : HP} {Q : Option Value → HP → Prop} : Go 4 72 L (.double a1 :: .double a0 :: []) H Q ↔ Go 5 0 [some (.double a0), none, some (.double a1), none] [] H (Cont 4 75 L [] Q) := G_cS (n := 2) (N := 4) (as := [.double a1, .double a0]) (st := []) fX0_entryBits_72 (by decide +kernel) rfl (Nat.le_of_ble_eq_true rfl) (Nat.le_of_ble_eq_true rfl) rfl
theorem fX0_entryBits_75 : ft 4 75 = some (.ifCond .eq 7, 0, 0, 0, .null) := by decide +kernel
theorem gX0_entryBits_75T {L : List (Option Value)} {a : Int} (c : (-2147483648 ≤ a ∧ a ≤ 2147483647) ∧ a = 0) {st : List Value} {H : HP} {Q : Option Value → HP → Prop} : Go 4 75 L (vi a :: st) H Q ↔ Go 4 82 L st H Q := G_ifT fX0_entryBits_75 (by decide) c
theorem gX0_entryBits_75F {L : List (Option Value)} {a : Int} (c : (-2147483648 ≤ a ∧ a ≤ 2147483647) ∧ ¬ (a = 0)) {st : List Value} {H : HP} {Q : Option Value → HP → Prop} : Go 4 75 L (vi a :: st) H Q ↔ Go 4 78 L st H Q := G_ifF (tg := 82) fX0_entryBits_75 (by decide) c
theorem fX0_entryBits_78 : ft 4 78 = some (.ldc2_w 80, 0, 0, 721, .long (9221120237041090560)) := by decide +kernel
theorem gX0_entryBits_78 {L : List (Option Value)} {st : List Value} {H : HP} {Q : Option Value → HP → Prop} : Go 4 78 L st H Q ↔ Go 4 81 L (vl (9221120237041090560) :: st) H Q := G_ldcl fX0_entryBits_78 (by decide +kernel)
theorem fX0_entryBits_81 : ft 4 81 = some (.lreturn, 0, 0, 0, .null) := by decide +kernel
theorem gX0_entryBits_81 {L : List (Option Value)} {u : Int64} {H : HP} {Q : Option Value → HP → Prop} : Go 4 81 L [.long u] H Q ↔ Q (some (.long u)) H := G_lret fX0_entryBits_81 (by decide +kernel)
theorem fX0_entryBits_82 : ft 4 82 = some (.dload 7, 0, 0, 0, .null) := by decide +kernel
theorem gX0_entryBits_82 {l0 l1 l2 l3 l4 l5 l6 l9 l10 l11 l12 : Option Value} {u : UInt64} {st : List Value} {H : HP} {Q : Option Value → HP → Prop} : Go 4 82 [l0, l1, l2, l3, l4, l5, l6, some (.double u), none, l9, l10, l11, l12] st H Q ↔ Go 4 84 [l0, l1, l2, l3, l4, l5, l6, some (.double u), none, l9, l10, l11, l12] (.double u :: st) H Q := G_dload fX0_entryBits_82 rfl
theorem fX0_entryBits_84 : ft 4 84 = some (.dload 9, 0, 0, 0, .null) := by decide +kernel
theorem gX0_entryBits_84 {l0 l1 l2 l3 l4 l5 l6 l7 l8 l11 l12 : Option Value} {u : UInt64} {st : List Value} {H : HP} {Q : Option Value → HP → Prop} : Go 4 84 [l0, l1, l2, l3, l4, l5, l6, l7, l8, some (.double u), none, l11, l12] st H Q ↔ Go 4 86 [l0, l1, l2, l3, l4, l5, l6, l7, l8, some (.double u), none, l11, l12] (.double u :: st) H Q := G_dload fX0_entryBits_84 rfl
theorem fX0_entryBits_86 : ft 4 86 = some (.dmul, 0, 0, 0, .null) := by decide +kernel
theorem gX0_entryBits_86 {L : List (Option Value)} {x w : UInt64} (c : vf_n64 (FP.dmul x w)) {st : List Value} {H : HP} {Q : Option Value → HP → Prop} : Go 4 86 L (.double w :: .double x :: st) H Q ↔ Go 4 87 L (.double (FP.dmul x w) :: st) H Q := G_dmul fX0_entryBits_86 c
theorem fX0_entryBits_87 : ft 4 87 = some (.dstore 11, 0, 0, 0, .null) := by decide +kernel
theorem gX0_entryBits_87 {l0 l1 l2 l3 l4 l5 l6 l7 l8 l9 l10 l11 l12 : Option Value} {u : UInt64} {st : List Value} {H : HP} {Q : Option Value → HP → Prop} : Go 4 87 [l0, l1, l2, l3, l4, l5, l6, l7, l8, l9, l10, l11, l12] (.double u :: st) H Q ↔ Go 4 89 [l0, l1, l2, l3, l4, l5, l6, l7, l8, l9, l10, some (.double u), none] st H Q := G_dstore fX0_entryBits_87 rfl
theorem fX0_entryBits_89 : ft 4 89 = some (.dload 4, 0, 0, 0, .null) := by decide +kernel
theorem gX0_entryBits_89 {l0 l1 l2 l3 l6 l7 l8 l9 l10 l11 l12 : Option Value} {u : UInt64} {st : List Value} {H : HP} {Q : Option Value → HP → Prop} : Go 4 89 [l0, l1, l2, l3, some (.double u), none, l6, l7, l8, l9, l10, l11, l12] st H Q ↔ Go 4 91 [l0, l1, l2, l3, some (.double u), none, l6, l7, l8, l9, l10, l11, l12] (.double u :: st) H Q := G_dload fX0_entryBits_89 rfl
theorem fX0_entryBits_91 : ft 4 91 = some (.dload 11, 0, 0, 0, .null) := by decide +kernel
theorem gX0_entryBits_91 {l0 l1 l2 l3 l4 l5 l6 l7 l8 l9 l10 : Option Value} {u : UInt64} {st : List Value} {H : HP} {Q : Option Value → HP → Prop} : Go 4 91 [l0, l1, l2, l3, l4, l5, l6, l7, l8, l9, l10, some (.double u), none] st H Q ↔ Go 4 93 [l0, l1, l2, l3, l4, l5, l6, l7, l8, l9, l10, some (.double u), none] (.double u :: st) H Q := G_dload fX0_entryBits_91 rfl
theorem fX0_entryBits_93 : ft 4 93 = some (.invokestatic 82, 6, 0, 722, .null) := by decide +kernel
theorem gX0_entryBits_93 {L : List (Option Value)} {a0 : UInt64} {a1 : UInt64}  {H : HP} {Q : Option Value → HP → Prop} : Go 4 93 L (.double a1 :: .double a0 :: []) H Q ↔ Go 6 0 [some (.double a0), none, some (.double a1), none] [] H (Cont 4 96 L [] Q) := G_cS (n := 2) (N := 4) (as := [.double a1, .double a0]) (st := []) fX0_entryBits_93 (by decide +kernel) rfl (Nat.le_of_ble_eq_true rfl) (Nat.le_of_ble_eq_true rfl) rfl
theorem fX0_entryBits_96 : ft 4 96 = some (.ifCond .eq 7, 0, 0, 0, .null) := by decide +kernel
theorem gX0_entryBits_96T {L : List (Option Value)} {a : Int} (c : (-2147483648 ≤ a ∧ a ≤ 2147483647) ∧ a = 0) {st : List Value} {H : HP} {Q : Option Value → HP → Prop} : Go 4 96 L (vi a :: st) H Q ↔ Go 4 103 L st H Q := G_ifT fX0_entryBits_96 (by decide) c
theorem gX0_entryBits_96F {L : List (Option Value)} {a : Int} (c : (-2147483648 ≤ a ∧ a ≤ 2147483647) ∧ ¬ (a = 0)) {st : List Value} {H : HP} {Q : Option Value → HP → Prop} : Go 4 96 L (vi a :: st) H Q ↔ Go 4 99 L st H Q := G_ifF (tg := 103) fX0_entryBits_96 (by decide) c
theorem fX0_entryBits_99 : ft 4 99 = some (.ldc2_w 80, 0, 0, 721, .long (9221120237041090560)) := by decide +kernel
theorem gX0_entryBits_99 {L : List (Option Value)} {st : List Value} {H : HP} {Q : Option Value → HP → Prop} : Go 4 99 L st H Q ↔ Go 4 102 L (vl (9221120237041090560) :: st) H Q := G_ldcl fX0_entryBits_99 (by decide +kernel)
theorem fX0_entryBits_102 : ft 4 102 = some (.lreturn, 0, 0, 0, .null) := by decide +kernel
theorem gX0_entryBits_102 {L : List (Option Value)} {u : Int64} {H : HP} {Q : Option Value → HP → Prop} : Go 4 102 L [.long u] H Q ↔ Q (some (.long u)) H := G_lret fX0_entryBits_102 (by decide +kernel)
theorem fX0_entryBits_103 : ft 4 103 = some (.dload 4, 0, 0, 0, .null) := by decide +kernel
theorem gX0_entryBits_103 {l0 l1 l2 l3 l6 l7 l8 l9 l10 l11 l12 : Option Value} {u : UInt64} {st : List Value} {H : HP} {Q : Option Value → HP → Prop} : Go 4 103 [l0, l1, l2, l3, some (.double u), none, l6, l7, l8, l9, l10, l11, l12] st H Q ↔ Go 4 105 [l0, l1, l2, l3, some (.double u), none, l6, l7, l8, l9, l10, l11, l12] (.double u :: st) H Q := G_dload fX0_entryBits_103 rfl
theorem fX0_entryBits_105 : ft 4 105 = some (.dload 11, 0, 0, 0, .null) := by decide +kernel
theorem gX0_entryBits_105 {l0 l1 l2 l3 l4 l5 l6 l7 l8 l9 l10 : Option Value} {u : UInt64} {st : List Value} {H : HP} {Q : Option Value → HP → Prop} : Go 4 105 [l0, l1, l2, l3, l4, l5, l6, l7, l8, l9, l10, some (.double u), none] st H Q ↔ Go 4 107 [l0, l1, l2, l3, l4, l5, l6, l7, l8, l9, l10, some (.double u), none] (.double u :: st) H Q := G_dload fX0_entryBits_105 rfl
theorem fX0_entryBits_107 : ft 4 107 = some (.dadd, 0, 0, 0, .null) := by decide +kernel
theorem gX0_entryBits_107 {L : List (Option Value)} {x w : UInt64} (c : vf_n64 (FP.dadd x w)) {st : List Value} {H : HP} {Q : Option Value → HP → Prop} : Go 4 107 L (.double w :: .double x :: st) H Q ↔ Go 4 108 L (.double (FP.dadd x w) :: st) H Q := G_dadd fX0_entryBits_107 c
theorem fX0_entryBits_108 : ft 4 108 = some (.dstore 4, 0, 0, 0, .null) := by decide +kernel
theorem gX0_entryBits_108 {l0 l1 l2 l3 l4 l5 l6 l7 l8 l9 l10 l11 l12 : Option Value} {u : UInt64} {st : List Value} {H : HP} {Q : Option Value → HP → Prop} : Go 4 108 [l0, l1, l2, l3, l4, l5, l6, l7, l8, l9, l10, l11, l12] (.double u :: st) H Q ↔ Go 4 110 [l0, l1, l2, l3, some (.double u), none, l6, l7, l8, l9, l10, l11, l12] st H Q := G_dstore fX0_entryBits_108 rfl
theorem fX0_entryBits_110 : ft 4 110 = some (.iinc 6 1, 0, 0, 0, .null) := by decide +kernel
theorem gX0_entryBits_110 {l0 l1 l2 l3 l4 l5 l7 l8 l9 l10 l11 l12 : Option Value} {a : Int} {st : List Value} {H : HP} {Q : Option Value → HP → Prop} : Go 4 110 [l0, l1, l2, l3, l4, l5, some (vi a), l7, l8, l9, l10, l11, l12] st H Q ↔ Go 4 113 [l0, l1, l2, l3, l4, l5, some (vi (a + 1)), l7, l8, l9, l10, l11, l12] st H Q := G_iinc fX0_entryBits_110 rfl rfl
theorem fX0_entryBits_113 : ft 4 113 = some (.goto (-99), 0, 0, 0, .null) := by decide +kernel
theorem gX0_entryBits_113 {L : List (Option Value)} {st : List Value} {H : HP} {Q : Option Value → HP → Prop} : Go 4 113 L st H Q ↔ Go 4 14 L st H Q := G_goto fX0_entryBits_113 (by decide)
theorem fX0_entryBits_116 : ft 4 116 = some (.aload_n 0, 0, 0, 0, .null) := by decide +kernel
theorem gX0_entryBits_116 {l1 l2 l3 l4 l5 l6 l7 l8 l9 l10 l11 l12 : Option Value} {u : Nat} {st : List Value} {H : HP} {Q : Option Value → HP → Prop} : Go 4 116 [some (.ref u), l1, l2, l3, l4, l5, l6, l7, l8, l9, l10, l11, l12] st H Q ↔ Go 4 117 [some (.ref u), l1, l2, l3, l4, l5, l6, l7, l8, l9, l10, l11, l12] (.ref u :: st) H Q := G_aload_n fX0_entryBits_116 rfl
theorem fX0_entryBits_117 : ft 4 117 = some (.dload 4, 0, 0, 0, .null) := by decide +kernel
theorem gX0_entryBits_117 {l0 l1 l2 l3 l6 l7 l8 l9 l10 l11 l12 : Option Value} {u : UInt64} {st : List Value} {H : HP} {Q : Option Value → HP → Prop} : Go 4 117 [l0, l1, l2, l3, some (.double u), none, l6, l7, l8, l9, l10, l11, l12] st H Q ↔ Go 4 119 [l0, l1, l2, l3, some (.double u), none, l6, l7, l8, l9, l10, l11, l12] (.double u :: st) H Q := G_dload fX0_entryBits_117 rfl
theorem fX0_entryBits_119 : ft 4 119 = some (.invokevirtual 85, 9, 0, 725, .null) := by decide +kernel
theorem gX0_entryBits_119 {L : List (Option Value)} {p : Nat} {a0 : UInt64}  {H : HP} {Q : Option Value → HP → Prop} : Go 4 119 L (.double a0 :: .ref p :: []) H Q ↔ (iso 0 (hget H p) = true ∧ Go 9 0 [some (.ref p), some (.double a0), none, none, none, none, none] [] H (Cont 4 122 L [] Q)) := G_cV (n := 1) (N := 7) (as := [.double a0]) (st := []) fX0_entryBits_119 (by decide +kernel) rfl (Nat.le_of_ble_eq_true rfl) (Nat.le_of_ble_eq_true rfl) rfl
theorem fX0_entryBits_122 : ft 4 122 = some (.lreturn, 0, 0, 0, .null) := by decide +kernel
theorem gX0_entryBits_122 {L : List (Option Value)} {u : Int64} {H : HP} {Q : Option Value → HP → Prop} : Go 4 122 L [.long u] H Q ↔ Q (some (.long u)) H := G_lret fX0_entryBits_122 (by decide +kernel)
theorem fX0_isNoProduct_0 : ft 5 0 = some (.dload_n 0, 0, 0, 0, .null) := by decide +kernel
theorem gX0_isNoProduct_0 {l2 l3 : Option Value} {u : UInt64} {st : List Value} {H : HP} {Q : Option Value → HP → Prop} : Go 5 0 [some (.double u), none, l2, l3] st H Q ↔ Go 5 1 [some (.double u), none, l2, l3] (.double u :: st) H Q := G_dload_n fX0_isNoProduct_0 rfl
theorem fX0_isNoProduct_1 : ft 5 1 = some (.dconst 0, 0, 0, 0, .null) := by decide +kernel
theorem gX0_isNoProduct_1 {L : List (Option Value)} {st : List Value} {H : HP} {Q : Option Value → HP → Prop} : Go 5 1 L st H Q ↔ Go 5 2 L (.double FP.dconst0 :: st) H Q := G_dconst fX0_isNoProduct_1
theorem fX0_isNoProduct_2 : ft 5 2 = some (.dcmp .l, 0, 0, 0, .null) := by decide +kernel
theorem fX0_isNoProduct_2' : ft 5 3 = some (.ifCond .ne 10, 0, 0, 0, .null) := by decide +kernel
theorem gX0_isNoProduct_2T {L : List (Option Value)} {x w : UInt64} (c : dck .l .ne x w = true) {st : List Value} {H : HP} {Q : Option Value → HP → Prop} : Go 5 2 L (.double w :: .double x :: st) H Q ↔ Go 5 13 L st H Q := G_dcT fX0_isNoProduct_2 fX0_isNoProduct_2' (by decide) c
theorem gX0_isNoProduct_2F {L : List (Option Value)} {x w : UInt64} (c : dck .l .ne x w = false) {st : List Value} {H : HP} {Q : Option Value → HP → Prop} : Go 5 2 L (.double w :: .double x :: st) H Q ↔ Go 5 6 L st H Q := G_dcF (tg := 13) fX0_isNoProduct_2 fX0_isNoProduct_2' (by decide) c
theorem fX0_isNoProduct_3 : ft 5 3 = some (.ifCond .ne 10, 0, 0, 0, .null) := by decide +kernel
theorem gX0_isNoProduct_3T {L : List (Option Value)} {a : Int} (c : (-2147483648 ≤ a ∧ a ≤ 2147483647) ∧ ¬ a = 0) {st : List Value} {H : HP} {Q : Option Value → HP → Prop} : Go 5 3 L (vi a :: st) H Q ↔ Go 5 13 L st H Q := G_ifT fX0_isNoProduct_3 (by decide) c
theorem gX0_isNoProduct_3F {L : List (Option Value)} {a : Int} (c : (-2147483648 ≤ a ∧ a ≤ 2147483647) ∧ ¬ (¬ a = 0)) {st : List Value} {H : HP} {Q : Option Value → HP → Prop} : Go 5 3 L (vi a :: st) H Q ↔ Go 5 6 L st H Q := G_ifF (tg := 13) fX0_isNoProduct_3 (by decide) c
theorem fX0_isNoProduct_6 : ft 5 6 = some (.dload_n 2, 0, 0, 0, .null) := by decide +kernel
theorem gX0_isNoProduct_6 {l0 l1 : Option Value} {u : UInt64} {st : List Value} {H : HP} {Q : Option Value → HP → Prop} : Go 5 6 [l0, l1, some (.double u), none] st H Q ↔ Go 5 7 [l0, l1, some (.double u), none] (.double u :: st) H Q := G_dload_n fX0_isNoProduct_6 rfl
theorem fX0_isNoProduct_7 : ft 5 7 = some (.invokestatic 89, 7, 0, 716, .null) := by decide +kernel
theorem gX0_isNoProduct_7 {L : List (Option Value)} {a0 : UInt64}  {H : HP} {Q : Option Value → HP → Prop} : Go 5 7 L (.double a0 :: []) H Q ↔ Go 7 0 [some (.double a0), none] [] H (Cont 5 10 L [] Q) := G_cS (n := 1) (N := 2) (as := [.double a0]) (st := []) fX0_isNoProduct_7 (by decide +kernel) rfl (Nat.le_of_ble_eq_true rfl) (Nat.le_of_ble_eq_true rfl) rfl
theorem fX0_isNoProduct_10 : ft 5 10 = some (.ifCond .ne 16, 0, 0, 0, .null) := by decide +kernel
theorem gX0_isNoProduct_10T {L : List (Option Value)} {a : Int} (c : (-2147483648 ≤ a ∧ a ≤ 2147483647) ∧ ¬ a = 0) {st : List Value} {H : HP} {Q : Option Value → HP → Prop} : Go 5 10 L (vi a :: st) H Q ↔ Go 5 26 L st H Q := G_ifT fX0_isNoProduct_10 (by decide) c
theorem gX0_isNoProduct_10F {L : List (Option Value)} {a : Int} (c : (-2147483648 ≤ a ∧ a ≤ 2147483647) ∧ ¬ (¬ a = 0)) {st : List Value} {H : HP} {Q : Option Value → HP → Prop} : Go 5 10 L (vi a :: st) H Q ↔ Go 5 13 L st H Q := G_ifF (tg := 26) fX0_isNoProduct_10 (by decide) c
theorem fX0_isNoProduct_13 : ft 5 13 = some (.dload_n 0, 0, 0, 0, .null) := by decide +kernel
theorem gX0_isNoProduct_13 {l2 l3 : Option Value} {u : UInt64} {st : List Value} {H : HP} {Q : Option Value → HP → Prop} : Go 5 13 [some (.double u), none, l2, l3] st H Q ↔ Go 5 14 [some (.double u), none, l2, l3] (.double u :: st) H Q := G_dload_n fX0_isNoProduct_13 rfl
theorem fX0_isNoProduct_14 : ft 5 14 = some (.invokestatic 89, 7, 0, 716, .null) := by decide +kernel
theorem gX0_isNoProduct_14 {L : List (Option Value)} {a0 : UInt64}  {H : HP} {Q : Option Value → HP → Prop} : Go 5 14 L (.double a0 :: []) H Q ↔ Go 7 0 [some (.double a0), none] [] H (Cont 5 17 L [] Q) := G_cS (n := 1) (N := 2) (as := [.double a0]) (st := []) fX0_isNoProduct_14 (by decide +kernel) rfl (Nat.le_of_ble_eq_true rfl) (Nat.le_of_ble_eq_true rfl) rfl
theorem fX0_isNoProduct_17 : ft 5 17 = some (.ifCond .eq 13, 0, 0, 0, .null) := by decide +kernel
theorem gX0_isNoProduct_17T {L : List (Option Value)} {a : Int} (c : (-2147483648 ≤ a ∧ a ≤ 2147483647) ∧ a = 0) {st : List Value} {H : HP} {Q : Option Value → HP → Prop} : Go 5 17 L (vi a :: st) H Q ↔ Go 5 30 L st H Q := G_ifT fX0_isNoProduct_17 (by decide) c
theorem gX0_isNoProduct_17F {L : List (Option Value)} {a : Int} (c : (-2147483648 ≤ a ∧ a ≤ 2147483647) ∧ ¬ (a = 0)) {st : List Value} {H : HP} {Q : Option Value → HP → Prop} : Go 5 17 L (vi a :: st) H Q ↔ Go 5 20 L st H Q := G_ifF (tg := 30) fX0_isNoProduct_17 (by decide) c
theorem fX0_isNoProduct_20 : ft 5 20 = some (.dload_n 2, 0, 0, 0, .null) := by decide +kernel
theorem gX0_isNoProduct_20 {l0 l1 : Option Value} {u : UInt64} {st : List Value} {H : HP} {Q : Option Value → HP → Prop} : Go 5 20 [l0, l1, some (.double u), none] st H Q ↔ Go 5 21 [l0, l1, some (.double u), none] (.double u :: st) H Q := G_dload_n fX0_isNoProduct_20 rfl
theorem fX0_isNoProduct_21 : ft 5 21 = some (.dconst 0, 0, 0, 0, .null) := by decide +kernel
theorem gX0_isNoProduct_21 {L : List (Option Value)} {st : List Value} {H : HP} {Q : Option Value → HP → Prop} : Go 5 21 L st H Q ↔ Go 5 22 L (.double FP.dconst0 :: st) H Q := G_dconst fX0_isNoProduct_21
theorem fX0_isNoProduct_22 : ft 5 22 = some (.dcmp .l, 0, 0, 0, .null) := by decide +kernel
theorem fX0_isNoProduct_22' : ft 5 23 = some (.ifCond .ne 7, 0, 0, 0, .null) := by decide +kernel
theorem gX0_isNoProduct_22T {L : List (Option Value)} {x w : UInt64} (c : dck .l .ne x w = true) {st : List Value} {H : HP} {Q : Option Value → HP → Prop} : Go 5 22 L (.double w :: .double x :: st) H Q ↔ Go 5 30 L st H Q := G_dcT fX0_isNoProduct_22 fX0_isNoProduct_22' (by decide) c
theorem gX0_isNoProduct_22F {L : List (Option Value)} {x w : UInt64} (c : dck .l .ne x w = false) {st : List Value} {H : HP} {Q : Option Value → HP → Prop} : Go 5 22 L (.double w :: .double x :: st) H Q ↔ Go 5 26 L st H Q := G_dcF (tg := 30) fX0_isNoProduct_22 fX0_isNoProduct_22' (by decide) c
theorem fX0_isNoProduct_23 : ft 5 23 = some (.ifCond .ne 7, 0, 0, 0, .null) := by decide +kernel
theorem gX0_isNoProduct_23T {L : List (Option Value)} {a : Int} (c : (-2147483648 ≤ a ∧ a ≤ 2147483647) ∧ ¬ a = 0) {st : List Value} {H : HP} {Q : Option Value → HP → Prop} : Go 5 23 L (vi a :: st) H Q ↔ Go 5 30 L st H Q := G_ifT fX0_isNoProduct_23 (by decide) c
theorem gX0_isNoProduct_23F {L : List (Option Value)} {a : Int} (c : (-2147483648 ≤ a ∧ a ≤ 2147483647) ∧ ¬ (¬ a = 0)) {st : List Value} {H : HP} {Q : Option Value → HP → Prop} : Go 5 23 L (vi a :: st) H Q ↔ Go 5 26 L st H Q := G_ifF (tg := 30) fX0_isNoProduct_23 (by decide) c
theorem fX0_isNoProduct_26 : ft 5 26 = some (.iconst 1, 0, 0, 0, .null) := by decide +kernel
theorem gX0_isNoProduct_26 {L : List (Option Value)} {st : List Value} {H : HP} {Q : Option Value → HP → Prop} : Go 5 26 L st H Q ↔ Go 5 27 L (vi 1 :: st) H Q := G_iconst fX0_isNoProduct_26
theorem fX0_isNoProduct_27 : ft 5 27 = some (.goto 4, 0, 0, 0, .null) := by decide +kernel
theorem gX0_isNoProduct_27 {L : List (Option Value)} {st : List Value} {H : HP} {Q : Option Value → HP → Prop} : Go 5 27 L st H Q ↔ Go 5 31 L st H Q := G_goto fX0_isNoProduct_27 (by decide)
theorem fX0_isNoProduct_30 : ft 5 30 = some (.iconst 0, 0, 0, 0, .null) := by decide +kernel
theorem gX0_isNoProduct_30 {L : List (Option Value)} {st : List Value} {H : HP} {Q : Option Value → HP → Prop} : Go 5 30 L st H Q ↔ Go 5 31 L (vi 0 :: st) H Q := G_iconst fX0_isNoProduct_30
theorem fX0_isNoProduct_31 : ft 5 31 = some (.ireturn, 0, 0, 0, .null) := by decide +kernel
theorem gX0_isNoProduct_31 {L : List (Option Value)} {a : Int} (c : a = 0 ∨ a = 1) {H : HP} {Q : Option Value → HP → Prop} : Go 5 31 L [vi a] H Q ↔ Q (some (vi a)) H := G_zret fX0_isNoProduct_31 (by decide +kernel) c
theorem fX0_isNoSum_0 : ft 6 0 = some (.dload_n 0, 0, 0, 0, .null) := by decide +kernel
theorem gX0_isNoSum_0 {l2 l3 : Option Value} {u : UInt64} {st : List Value} {H : HP} {Q : Option Value → HP → Prop} : Go 6 0 [some (.double u), none, l2, l3] st H Q ↔ Go 6 1 [some (.double u), none, l2, l3] (.double u :: st) H Q := G_dload_n fX0_isNoSum_0 rfl
theorem fX0_isNoSum_1 : ft 6 1 = some (.invokestatic 89, 7, 0, 716, .null) := by decide +kernel
theorem gX0_isNoSum_1 {L : List (Option Value)} {a0 : UInt64}  {H : HP} {Q : Option Value → HP → Prop} : Go 6 1 L (.double a0 :: []) H Q ↔ Go 7 0 [some (.double a0), none] [] H (Cont 6 4 L [] Q) := G_cS (n := 1) (N := 2) (as := [.double a0]) (st := []) fX0_isNoSum_1 (by decide +kernel) rfl (Nat.le_of_ble_eq_true rfl) (Nat.le_of_ble_eq_true rfl) rfl
theorem fX0_isNoSum_4 : ft 6 4 = some (.ifCond .eq 39, 0, 0, 0, .null) := by decide +kernel
theorem gX0_isNoSum_4T {L : List (Option Value)} {a : Int} (c : (-2147483648 ≤ a ∧ a ≤ 2147483647) ∧ a = 0) {st : List Value} {H : HP} {Q : Option Value → HP → Prop} : Go 6 4 L (vi a :: st) H Q ↔ Go 6 43 L st H Q := G_ifT fX0_isNoSum_4 (by decide) c
theorem gX0_isNoSum_4F {L : List (Option Value)} {a : Int} (c : (-2147483648 ≤ a ∧ a ≤ 2147483647) ∧ ¬ (a = 0)) {st : List Value} {H : HP} {Q : Option Value → HP → Prop} : Go 6 4 L (vi a :: st) H Q ↔ Go 6 7 L st H Q := G_ifF (tg := 43) fX0_isNoSum_4 (by decide) c
theorem fX0_isNoSum_7 : ft 6 7 = some (.dload_n 2, 0, 0, 0, .null) := by decide +kernel
theorem gX0_isNoSum_7 {l0 l1 : Option Value} {u : UInt64} {st : List Value} {H : HP} {Q : Option Value → HP → Prop} : Go 6 7 [l0, l1, some (.double u), none] st H Q ↔ Go 6 8 [l0, l1, some (.double u), none] (.double u :: st) H Q := G_dload_n fX0_isNoSum_7 rfl
theorem fX0_isNoSum_8 : ft 6 8 = some (.invokestatic 89, 7, 0, 716, .null) := by decide +kernel
theorem gX0_isNoSum_8 {L : List (Option Value)} {a0 : UInt64}  {H : HP} {Q : Option Value → HP → Prop} : Go 6 8 L (.double a0 :: []) H Q ↔ Go 7 0 [some (.double a0), none] [] H (Cont 6 11 L [] Q) := G_cS (n := 1) (N := 2) (as := [.double a0]) (st := []) fX0_isNoSum_8 (by decide +kernel) rfl (Nat.le_of_ble_eq_true rfl) (Nat.le_of_ble_eq_true rfl) rfl
theorem fX0_isNoSum_11 : ft 6 11 = some (.ifCond .eq 32, 0, 0, 0, .null) := by decide +kernel
theorem gX0_isNoSum_11T {L : List (Option Value)} {a : Int} (c : (-2147483648 ≤ a ∧ a ≤ 2147483647) ∧ a = 0) {st : List Value} {H : HP} {Q : Option Value → HP → Prop} : Go 6 11 L (vi a :: st) H Q ↔ Go 6 43 L st H Q := G_ifT fX0_isNoSum_11 (by decide) c
theorem gX0_isNoSum_11F {L : List (Option Value)} {a : Int} (c : (-2147483648 ≤ a ∧ a ≤ 2147483647) ∧ ¬ (a = 0)) {st : List Value} {H : HP} {Q : Option Value → HP → Prop} : Go 6 11 L (vi a :: st) H Q ↔ Go 6 14 L st H Q := G_ifF (tg := 43) fX0_isNoSum_11 (by decide) c
theorem fX0_isNoSum_14 : ft 6 14 = some (.dload_n 0, 0, 0, 0, .null) := by decide +kernel
theorem gX0_isNoSum_14 {l2 l3 : Option Value} {u : UInt64} {st : List Value} {H : HP} {Q : Option Value → HP → Prop} : Go 6 14 [some (.double u), none, l2, l3] st H Q ↔ Go 6 15 [some (.double u), none, l2, l3] (.double u :: st) H Q := G_dload_n fX0_isNoSum_14 rfl
theorem fX0_isNoSum_15 : ft 6 15 = some (.dconst 0, 0, 0, 0, .null) := by decide +kernel
theorem gX0_isNoSum_15 {L : List (Option Value)} {st : List Value} {H : HP} {Q : Option Value → HP → Prop} : Go 6 15 L st H Q ↔ Go 6 16 L (.double FP.dconst0 :: st) H Q := G_dconst fX0_isNoSum_15
theorem fX0_isNoSum_16 : ft 6 16 = some (.dcmp .l, 0, 0, 0, .null) := by decide +kernel
theorem fX0_isNoSum_16' : ft 6 17 = some (.ifCond .le 7, 0, 0, 0, .null) := by decide +kernel
theorem gX0_isNoSum_16T {L : List (Option Value)} {x w : UInt64} (c : dck .l .le x w = true) {st : List Value} {H : HP} {Q : Option Value → HP → Prop} : Go 6 16 L (.double w :: .double x :: st) H Q ↔ Go 6 24 L st H Q := G_dcT fX0_isNoSum_16 fX0_isNoSum_16' (by decide) c
theorem gX0_isNoSum_16F {L : List (Option Value)} {x w : UInt64} (c : dck .l .le x w = false) {st : List Value} {H : HP} {Q : Option Value → HP → Prop} : Go 6 16 L (.double w :: .double x :: st) H Q ↔ Go 6 20 L st H Q := G_dcF (tg := 24) fX0_isNoSum_16 fX0_isNoSum_16' (by decide) c
theorem fX0_isNoSum_17 : ft 6 17 = some (.ifCond .le 7, 0, 0, 0, .null) := by decide +kernel
theorem gX0_isNoSum_17T {L : List (Option Value)} {a : Int} (c : (-2147483648 ≤ a ∧ a ≤ 2147483647) ∧ a ≤ 0) {st : List Value} {H : HP} {Q : Option Value → HP → Prop} : Go 6 17 L (vi a :: st) H Q ↔ Go 6 24 L st H Q := G_ifT fX0_isNoSum_17 (by decide) c
theorem gX0_isNoSum_17F {L : List (Option Value)} {a : Int} (c : (-2147483648 ≤ a ∧ a ≤ 2147483647) ∧ ¬ (a ≤ 0)) {st : List Value} {H : HP} {Q : Option Value → HP → Prop} : Go 6 17 L (vi a :: st) H Q ↔ Go 6 20 L st H Q := G_ifF (tg := 24) fX0_isNoSum_17 (by decide) c
theorem fX0_isNoSum_20 : ft 6 20 = some (.iconst 1, 0, 0, 0, .null) := by decide +kernel
theorem gX0_isNoSum_20 {L : List (Option Value)} {st : List Value} {H : HP} {Q : Option Value → HP → Prop} : Go 6 20 L st H Q ↔ Go 6 21 L (vi 1 :: st) H Q := G_iconst fX0_isNoSum_20
theorem fX0_isNoSum_21 : ft 6 21 = some (.goto 4, 0, 0, 0, .null) := by decide +kernel
theorem gX0_isNoSum_21 {L : List (Option Value)} {st : List Value} {H : HP} {Q : Option Value → HP → Prop} : Go 6 21 L st H Q ↔ Go 6 25 L st H Q := G_goto fX0_isNoSum_21 (by decide)
theorem fX0_isNoSum_24 : ft 6 24 = some (.iconst 0, 0, 0, 0, .null) := by decide +kernel
theorem gX0_isNoSum_24 {L : List (Option Value)} {st : List Value} {H : HP} {Q : Option Value → HP → Prop} : Go 6 24 L st H Q ↔ Go 6 25 L (vi 0 :: st) H Q := G_iconst fX0_isNoSum_24
theorem fX0_isNoSum_25 : ft 6 25 = some (.dload_n 2, 0, 0, 0, .null) := by decide +kernel
theorem gX0_isNoSum_25 {l0 l1 : Option Value} {u : UInt64} {st : List Value} {H : HP} {Q : Option Value → HP → Prop} : Go 6 25 [l0, l1, some (.double u), none] st H Q ↔ Go 6 26 [l0, l1, some (.double u), none] (.double u :: st) H Q := G_dload_n fX0_isNoSum_25 rfl
theorem fX0_isNoSum_26 : ft 6 26 = some (.dconst 0, 0, 0, 0, .null) := by decide +kernel
theorem gX0_isNoSum_26 {L : List (Option Value)} {st : List Value} {H : HP} {Q : Option Value → HP → Prop} : Go 6 26 L st H Q ↔ Go 6 27 L (.double FP.dconst0 :: st) H Q := G_dconst fX0_isNoSum_26
theorem fX0_isNoSum_27 : ft 6 27 = some (.dcmp .l, 0, 0, 0, .null) := by decide +kernel
theorem fX0_isNoSum_27' : ft 6 28 = some (.ifCond .le 7, 0, 0, 0, .null) := by decide +kernel
theorem gX0_isNoSum_27T {L : List (Option Value)} {x w : UInt64} (c : dck .l .le x w = true) {st : List Value} {H : HP} {Q : Option Value → HP → Prop} : Go 6 27 L (.double w :: .double x :: st) H Q ↔ Go 6 35 L st H Q := G_dcT fX0_isNoSum_27 fX0_isNoSum_27' (by decide) c
theorem gX0_isNoSum_27F {L : List (Option Value)} {x w : UInt64} (c : dck .l .le x w = false) {st : List Value} {H : HP} {Q : Option Value → HP → Prop} : Go 6 27 L (.double w :: .double x :: st) H Q ↔ Go 6 31 L st H Q := G_dcF (tg := 35) fX0_isNoSum_27 fX0_isNoSum_27' (by decide) c
theorem fX0_isNoSum_28 : ft 6 28 = some (.ifCond .le 7, 0, 0, 0, .null) := by decide +kernel
theorem gX0_isNoSum_28T {L : List (Option Value)} {a : Int} (c : (-2147483648 ≤ a ∧ a ≤ 2147483647) ∧ a ≤ 0) {st : List Value} {H : HP} {Q : Option Value → HP → Prop} : Go 6 28 L (vi a :: st) H Q ↔ Go 6 35 L st H Q := G_ifT fX0_isNoSum_28 (by decide) c
theorem gX0_isNoSum_28F {L : List (Option Value)} {a : Int} (c : (-2147483648 ≤ a ∧ a ≤ 2147483647) ∧ ¬ (a ≤ 0)) {st : List Value} {H : HP} {Q : Option Value → HP → Prop} : Go 6 28 L (vi a :: st) H Q ↔ Go 6 31 L st H Q := G_ifF (tg := 35) fX0_isNoSum_28 (by decide) c
theorem fX0_isNoSum_31 : ft 6 31 = some (.iconst 1, 0, 0, 0, .null) := by decide +kernel
theorem gX0_isNoSum_31 {L : List (Option Value)} {st : List Value} {H : HP} {Q : Option Value → HP → Prop} : Go 6 31 L st H Q ↔ Go 6 32 L (vi 1 :: st) H Q := G_iconst fX0_isNoSum_31
theorem fX0_isNoSum_32 : ft 6 32 = some (.goto 4, 0, 0, 0, .null) := by decide +kernel
theorem gX0_isNoSum_32 {L : List (Option Value)} {st : List Value} {H : HP} {Q : Option Value → HP → Prop} : Go 6 32 L st H Q ↔ Go 6 36 L st H Q := G_goto fX0_isNoSum_32 (by decide)
theorem fX0_isNoSum_35 : ft 6 35 = some (.iconst 0, 0, 0, 0, .null) := by decide +kernel
theorem gX0_isNoSum_35 {L : List (Option Value)} {st : List Value} {H : HP} {Q : Option Value → HP → Prop} : Go 6 35 L st H Q ↔ Go 6 36 L (vi 0 :: st) H Q := G_iconst fX0_isNoSum_35
theorem fX0_isNoSum_36 : ft 6 36 = some (.if_icmp .eq 7, 0, 0, 0, .null) := by decide +kernel
theorem gX0_isNoSum_36T {L : List (Option Value)} {a b : Int} (c : (-2147483648 ≤ a ∧ a ≤ 2147483647 ∧ -2147483648 ≤ b ∧ b ≤ 2147483647) ∧ a = b) {st : List Value} {H : HP} {Q : Option Value → HP → Prop} : Go 6 36 L (vi b :: vi a :: st) H Q ↔ Go 6 43 L st H Q := G_icT fX0_isNoSum_36 (by decide) c
theorem gX0_isNoSum_36F {L : List (Option Value)} {a b : Int} (c : (-2147483648 ≤ a ∧ a ≤ 2147483647 ∧ -2147483648 ≤ b ∧ b ≤ 2147483647) ∧ ¬ (a = b)) {st : List Value} {H : HP} {Q : Option Value → HP → Prop} : Go 6 36 L (vi b :: vi a :: st) H Q ↔ Go 6 39 L st H Q := G_icF (tg := 43) fX0_isNoSum_36 (by decide) c
theorem fX0_isNoSum_39 : ft 6 39 = some (.iconst 1, 0, 0, 0, .null) := by decide +kernel
theorem gX0_isNoSum_39 {L : List (Option Value)} {st : List Value} {H : HP} {Q : Option Value → HP → Prop} : Go 6 39 L st H Q ↔ Go 6 40 L (vi 1 :: st) H Q := G_iconst fX0_isNoSum_39
theorem fX0_isNoSum_40 : ft 6 40 = some (.goto 4, 0, 0, 0, .null) := by decide +kernel
theorem gX0_isNoSum_40 {L : List (Option Value)} {st : List Value} {H : HP} {Q : Option Value → HP → Prop} : Go 6 40 L st H Q ↔ Go 6 44 L st H Q := G_goto fX0_isNoSum_40 (by decide)
theorem fX0_isNoSum_43 : ft 6 43 = some (.iconst 0, 0, 0, 0, .null) := by decide +kernel
theorem gX0_isNoSum_43 {L : List (Option Value)} {st : List Value} {H : HP} {Q : Option Value → HP → Prop} : Go 6 43 L st H Q ↔ Go 6 44 L (vi 0 :: st) H Q := G_iconst fX0_isNoSum_43
theorem fX0_isNoSum_44 : ft 6 44 = some (.ireturn, 0, 0, 0, .null) := by decide +kernel
theorem gX0_isNoSum_44 {L : List (Option Value)} {a : Int} (c : a = 0 ∨ a = 1) {H : HP} {Q : Option Value → HP → Prop} : Go 6 44 L [vi a] H Q ↔ Q (some (vi a)) H := G_zret fX0_isNoSum_44 (by decide +kernel) c
theorem fX0_isInfinite_0 : ft 7 0 = some (.dload_n 0, 0, 0, 0, .null) := by decide +kernel
theorem gX0_isInfinite_0  {u : UInt64} {st : List Value} {H : HP} {Q : Option Value → HP → Prop} : Go 7 0 [some (.double u), none] st H Q ↔ Go 7 1 [some (.double u), none] (.double u :: st) H Q := G_dload_n fX0_isInfinite_0 rfl
theorem fX0_isInfinite_1 : ft 7 1 = some (.ldc2_w 93, 0, 0, 719, .double 9218868437227405311) := by decide +kernel
theorem gX0_isInfinite_1 {L : List (Option Value)} {st : List Value} {H : HP} {Q : Option Value → HP → Prop} : Go 7 1 L st H Q ↔ Go 7 4 L (.double 9218868437227405311 :: st) H Q := G_ldcd fX0_isInfinite_1 rfl
theorem fX0_isInfinite_4 : ft 7 4 = some (.dcmp .l, 0, 0, 0, .null) := by decide +kernel
theorem fX0_isInfinite_4' : ft 7 5 = some (.ifCond .gt 11, 0, 0, 0, .null) := by decide +kernel
theorem gX0_isInfinite_4T {L : List (Option Value)} {x w : UInt64} (c : dck .l .gt x w = true) {st : List Value} {H : HP} {Q : Option Value → HP → Prop} : Go 7 4 L (.double w :: .double x :: st) H Q ↔ Go 7 16 L st H Q := G_dcT fX0_isInfinite_4 fX0_isInfinite_4' (by decide) c
theorem gX0_isInfinite_4F {L : List (Option Value)} {x w : UInt64} (c : dck .l .gt x w = false) {st : List Value} {H : HP} {Q : Option Value → HP → Prop} : Go 7 4 L (.double w :: .double x :: st) H Q ↔ Go 7 8 L st H Q := G_dcF (tg := 16) fX0_isInfinite_4 fX0_isInfinite_4' (by decide) c
theorem fX0_isInfinite_5 : ft 7 5 = some (.ifCond .gt 11, 0, 0, 0, .null) := by decide +kernel
theorem gX0_isInfinite_5T {L : List (Option Value)} {a : Int} (c : (-2147483648 ≤ a ∧ a ≤ 2147483647) ∧ 0 < a) {st : List Value} {H : HP} {Q : Option Value → HP → Prop} : Go 7 5 L (vi a :: st) H Q ↔ Go 7 16 L st H Q := G_ifT fX0_isInfinite_5 (by decide) c
theorem gX0_isInfinite_5F {L : List (Option Value)} {a : Int} (c : (-2147483648 ≤ a ∧ a ≤ 2147483647) ∧ ¬ (0 < a)) {st : List Value} {H : HP} {Q : Option Value → HP → Prop} : Go 7 5 L (vi a :: st) H Q ↔ Go 7 8 L st H Q := G_ifF (tg := 16) fX0_isInfinite_5 (by decide) c
theorem fX0_isInfinite_8 : ft 7 8 = some (.dload_n 0, 0, 0, 0, .null) := by decide +kernel
theorem gX0_isInfinite_8  {u : UInt64} {st : List Value} {H : HP} {Q : Option Value → HP → Prop} : Go 7 8 [some (.double u), none] st H Q ↔ Go 7 9 [some (.double u), none] (.double u :: st) H Q := G_dload_n fX0_isInfinite_8 rfl
theorem fX0_isInfinite_9 : ft 7 9 = some (.ldc2_w 95, 0, 0, 720, .double 18442240474082181119) := by decide +kernel
theorem gX0_isInfinite_9 {L : List (Option Value)} {st : List Value} {H : HP} {Q : Option Value → HP → Prop} : Go 7 9 L st H Q ↔ Go 7 12 L (.double 18442240474082181119 :: st) H Q := G_ldcd fX0_isInfinite_9 rfl
theorem fX0_isInfinite_12 : ft 7 12 = some (.dcmp .g, 0, 0, 0, .null) := by decide +kernel
theorem fX0_isInfinite_12' : ft 7 13 = some (.ifCond .ge 7, 0, 0, 0, .null) := by decide +kernel
theorem gX0_isInfinite_12T {L : List (Option Value)} {x w : UInt64} (c : dck .g .ge x w = true) {st : List Value} {H : HP} {Q : Option Value → HP → Prop} : Go 7 12 L (.double w :: .double x :: st) H Q ↔ Go 7 20 L st H Q := G_dcT fX0_isInfinite_12 fX0_isInfinite_12' (by decide) c
theorem gX0_isInfinite_12F {L : List (Option Value)} {x w : UInt64} (c : dck .g .ge x w = false) {st : List Value} {H : HP} {Q : Option Value → HP → Prop} : Go 7 12 L (.double w :: .double x :: st) H Q ↔ Go 7 16 L st H Q := G_dcF (tg := 20) fX0_isInfinite_12 fX0_isInfinite_12' (by decide) c
theorem fX0_isInfinite_13 : ft 7 13 = some (.ifCond .ge 7, 0, 0, 0, .null) := by decide +kernel
theorem gX0_isInfinite_13T {L : List (Option Value)} {a : Int} (c : (-2147483648 ≤ a ∧ a ≤ 2147483647) ∧ 0 ≤ a) {st : List Value} {H : HP} {Q : Option Value → HP → Prop} : Go 7 13 L (vi a :: st) H Q ↔ Go 7 20 L st H Q := G_ifT fX0_isInfinite_13 (by decide) c
theorem gX0_isInfinite_13F {L : List (Option Value)} {a : Int} (c : (-2147483648 ≤ a ∧ a ≤ 2147483647) ∧ ¬ (0 ≤ a)) {st : List Value} {H : HP} {Q : Option Value → HP → Prop} : Go 7 13 L (vi a :: st) H Q ↔ Go 7 16 L st H Q := G_ifF (tg := 20) fX0_isInfinite_13 (by decide) c
theorem fX0_isInfinite_16 : ft 7 16 = some (.iconst 1, 0, 0, 0, .null) := by decide +kernel
theorem gX0_isInfinite_16 {L : List (Option Value)} {st : List Value} {H : HP} {Q : Option Value → HP → Prop} : Go 7 16 L st H Q ↔ Go 7 17 L (vi 1 :: st) H Q := G_iconst fX0_isInfinite_16
theorem fX0_isInfinite_17 : ft 7 17 = some (.goto 4, 0, 0, 0, .null) := by decide +kernel
theorem gX0_isInfinite_17 {L : List (Option Value)} {st : List Value} {H : HP} {Q : Option Value → HP → Prop} : Go 7 17 L st H Q ↔ Go 7 21 L st H Q := G_goto fX0_isInfinite_17 (by decide)
theorem fX0_isInfinite_20 : ft 7 20 = some (.iconst 0, 0, 0, 0, .null) := by decide +kernel
theorem gX0_isInfinite_20 {L : List (Option Value)} {st : List Value} {H : HP} {Q : Option Value → HP → Prop} : Go 7 20 L st H Q ↔ Go 7 21 L (vi 0 :: st) H Q := G_iconst fX0_isInfinite_20
theorem fX0_isInfinite_21 : ft 7 21 = some (.ireturn, 0, 0, 0, .null) := by decide +kernel
theorem gX0_isInfinite_21 {L : List (Option Value)} {a : Int} (c : a = 0 ∨ a = 1) {H : HP} {Q : Option Value → HP → Prop} : Go 7 21 L [vi a] H Q ↔ Q (some (vi a)) H := G_zret fX0_isInfinite_21 (by decide +kernel) c
theorem fX0_fromBits_0 : ft 8 0 = some (.lload_n 1, 0, 0, 0, .null) := by decide +kernel
theorem gX0_fromBits_0 {l0 l3 l4 l5 l6 l7 l8 : Option Value} {u : Int64} {st : List Value} {H : HP} {Q : Option Value → HP → Prop} : Go 8 0 [l0, some (.long u), none, l3, l4, l5, l6, l7, l8] st H Q ↔ Go 8 1 [l0, some (.long u), none, l3, l4, l5, l6, l7, l8] (.long u :: st) H Q := G_lload_n fX0_fromBits_0 rfl
theorem fX0_fromBits_1 : ft 8 1 = some (.ldc2_w 32, 0, 0, 322, .long (9218868437227405312)) := by decide +kernel
theorem gX0_fromBits_1 {L : List (Option Value)} {st : List Value} {H : HP} {Q : Option Value → HP → Prop} : Go 8 1 L st H Q ↔ Go 8 4 L (vl (9218868437227405312) :: st) H Q := G_ldcl fX0_fromBits_1 (by decide +kernel)
theorem fX0_fromBits_4 : ft 8 4 = some (.land, 0, 0, 0, .null) := by decide +kernel
theorem gX0_fromBits_4 {L : List (Option Value)} {a b : Int} {st : List Value} {H : HP} {Q : Option Value → HP → Prop} : Go 8 4 L (vl b :: vl a :: st) H Q ↔ Go 8 5 L (vl (bAnd a b) :: st) H Q := G_land fX0_fromBits_4
theorem fX0_fromBits_5 : ft 8 5 = some (.bipush 52, 0, 0, 0, .null) := by decide +kernel
theorem gX0_fromBits_5 {L : List (Option Value)} {st : List Value} {H : HP} {Q : Option Value → HP → Prop} : Go 8 5 L st H Q ↔ Go 8 7 L (vi 52 :: st) H Q := G_bipush fX0_fromBits_5 (by decide)
theorem fX0_fromBits_7 : ft 8 7 = some (.lushr, 0, 0, 0, .null) := by decide +kernel
theorem gX0_fromBits_7 {L : List (Option Value)} {a b : Int} {st : List Value} {H : HP} {Q : Option Value → HP → Prop} : Go 8 7 L (vi b :: vl a :: st) H Q ↔ Go 8 8 L (vl (bUsh a b) :: st) H Q := G_lushr fX0_fromBits_7
theorem fX0_fromBits_8 : ft 8 8 = some (.l2i, 0, 0, 0, .null) := by decide +kernel
theorem gX0_fromBits_8 {L : List (Option Value)} {a : Int} {st : List Value} {H : HP} {Q : Option Value → HP → Prop} : Go 8 8 L (vl a :: st) H Q ↔ Go 8 9 L (vi a :: st) H Q := G_l2i fX0_fromBits_8
theorem fX0_fromBits_9 : ft 8 9 = some (.istore_n 3, 0, 0, 0, .null) := by decide +kernel
theorem gX0_fromBits_9 {l0 l1 l2 l3 l4 l5 l6 l7 l8 : Option Value} {u : Int32} {st : List Value} {H : HP} {Q : Option Value → HP → Prop} : Go 8 9 [l0, l1, l2, l3, l4, l5, l6, l7, l8] (.int u :: st) H Q ↔ Go 8 10 [l0, l1, l2, some (.int u), l4, l5, l6, l7, l8] st H Q := G_istore_n fX0_fromBits_9 rfl
theorem fX0_fromBits_10 : ft 8 10 = some (.lload_n 1, 0, 0, 0, .null) := by decide +kernel
theorem gX0_fromBits_10 {l0 l3 l4 l5 l6 l7 l8 : Option Value} {u : Int64} {st : List Value} {H : HP} {Q : Option Value → HP → Prop} : Go 8 10 [l0, some (.long u), none, l3, l4, l5, l6, l7, l8] st H Q ↔ Go 8 11 [l0, some (.long u), none, l3, l4, l5, l6, l7, l8] (.long u :: st) H Q := G_lload_n fX0_fromBits_10 rfl
theorem fX0_fromBits_11 : ft 8 11 = some (.ldc2_w 97, 0, 0, 697, .long (4503599627370495)) := by decide +kernel
theorem gX0_fromBits_11 {L : List (Option Value)} {st : List Value} {H : HP} {Q : Option Value → HP → Prop} : Go 8 11 L st H Q ↔ Go 8 14 L (vl (4503599627370495) :: st) H Q := G_ldcl fX0_fromBits_11 (by decide +kernel)
theorem fX0_fromBits_14 : ft 8 14 = some (.land, 0, 0, 0, .null) := by decide +kernel
theorem gX0_fromBits_14 {L : List (Option Value)} {a b : Int} {st : List Value} {H : HP} {Q : Option Value → HP → Prop} : Go 8 14 L (vl b :: vl a :: st) H Q ↔ Go 8 15 L (vl (bAnd a b) :: st) H Q := G_land fX0_fromBits_14
theorem fX0_fromBits_15 : ft 8 15 = some (.lstore 4, 0, 0, 0, .null) := by decide +kernel
theorem gX0_fromBits_15 {l0 l1 l2 l3 l4 l5 l6 l7 l8 : Option Value} {u : Int64} {st : List Value} {H : HP} {Q : Option Value → HP → Prop} : Go 8 15 [l0, l1, l2, l3, l4, l5, l6, l7, l8] (.long u :: st) H Q ↔ Go 8 17 [l0, l1, l2, l3, some (.long u), none, l6, l7, l8] st H Q := G_lstore fX0_fromBits_15 rfl
theorem fX0_fromBits_17 : ft 8 17 = some (.iload_n 3, 0, 0, 0, .null) := by decide +kernel
theorem gX0_fromBits_17 {l0 l1 l2 l4 l5 l6 l7 l8 : Option Value} {u : Int32} {st : List Value} {H : HP} {Q : Option Value → HP → Prop} : Go 8 17 [l0, l1, l2, some (.int u), l4, l5, l6, l7, l8] st H Q ↔ Go 8 18 [l0, l1, l2, some (.int u), l4, l5, l6, l7, l8] (.int u :: st) H Q := G_iload_n fX0_fromBits_17 rfl
theorem fX0_fromBits_18 : ft 8 18 = some (.ifCond .ne 9, 0, 0, 0, .null) := by decide +kernel
theorem gX0_fromBits_18T {L : List (Option Value)} {a : Int} (c : (-2147483648 ≤ a ∧ a ≤ 2147483647) ∧ ¬ a = 0) {st : List Value} {H : HP} {Q : Option Value → HP → Prop} : Go 8 18 L (vi a :: st) H Q ↔ Go 8 27 L st H Q := G_ifT fX0_fromBits_18 (by decide) c
theorem gX0_fromBits_18F {L : List (Option Value)} {a : Int} (c : (-2147483648 ≤ a ∧ a ≤ 2147483647) ∧ ¬ (¬ a = 0)) {st : List Value} {H : HP} {Q : Option Value → HP → Prop} : Go 8 18 L (vi a :: st) H Q ↔ Go 8 21 L st H Q := G_ifF (tg := 27) fX0_fromBits_18 (by decide) c
theorem fX0_fromBits_21 : ft 8 21 = some (.lload 4, 0, 0, 0, .null) := by decide +kernel
theorem gX0_fromBits_21 {l0 l1 l2 l3 l6 l7 l8 : Option Value} {u : Int64} {st : List Value} {H : HP} {Q : Option Value → HP → Prop} : Go 8 21 [l0, l1, l2, l3, some (.long u), none, l6, l7, l8] st H Q ↔ Go 8 23 [l0, l1, l2, l3, some (.long u), none, l6, l7, l8] (.long u :: st) H Q := G_lload fX0_fromBits_21 rfl
theorem fX0_fromBits_23 : ft 8 23 = some (.l2d, 0, 0, 0, .null) := by decide +kernel
theorem gX0_fromBits_23 {L : List (Option Value)} {a : Int} {st : List Value} {H : HP} {Q : Option Value → HP → Prop} : Go 8 23 L (vl a :: st) H Q ↔ Go 8 24 L (.double (FP.l2d (Int64.ofInt a)) :: st) H Q := G_l2d fX0_fromBits_23
theorem fX0_fromBits_24 : ft 8 24 = some (.goto 10, 0, 0, 0, .null) := by decide +kernel
theorem gX0_fromBits_24 {L : List (Option Value)} {st : List Value} {H : HP} {Q : Option Value → HP → Prop} : Go 8 24 L st H Q ↔ Go 8 34 L st H Q := G_goto fX0_fromBits_24 (by decide)
theorem fX0_fromBits_27 : ft 8 27 = some (.lload 4, 0, 0, 0, .null) := by decide +kernel
theorem gX0_fromBits_27 {l0 l1 l2 l3 l6 l7 l8 : Option Value} {u : Int64} {st : List Value} {H : HP} {Q : Option Value → HP → Prop} : Go 8 27 [l0, l1, l2, l3, some (.long u), none, l6, l7, l8] st H Q ↔ Go 8 29 [l0, l1, l2, l3, some (.long u), none, l6, l7, l8] (.long u :: st) H Q := G_lload fX0_fromBits_27 rfl
theorem fX0_fromBits_29 : ft 8 29 = some (.ldc2_w 99, 0, 0, 698, .long (4503599627370496)) := by decide +kernel
theorem gX0_fromBits_29 {L : List (Option Value)} {st : List Value} {H : HP} {Q : Option Value → HP → Prop} : Go 8 29 L st H Q ↔ Go 8 32 L (vl (4503599627370496) :: st) H Q := G_ldcl fX0_fromBits_29 (by decide +kernel)
theorem fX0_fromBits_32 : ft 8 32 = some (.lor, 0, 0, 0, .null) := by decide +kernel
theorem gX0_fromBits_32 {L : List (Option Value)} {a b : Int} {st : List Value} {H : HP} {Q : Option Value → HP → Prop} : Go 8 32 L (vl b :: vl a :: st) H Q ↔ Go 8 33 L (vl (bOr a b) :: st) H Q := G_lor fX0_fromBits_32
theorem fX0_fromBits_33 : ft 8 33 = some (.l2d, 0, 0, 0, .null) := by decide +kernel
theorem gX0_fromBits_33 {L : List (Option Value)} {a : Int} {st : List Value} {H : HP} {Q : Option Value → HP → Prop} : Go 8 33 L (vl a :: st) H Q ↔ Go 8 34 L (.double (FP.l2d (Int64.ofInt a)) :: st) H Q := G_l2d fX0_fromBits_33
theorem fX0_fromBits_34 : ft 8 34 = some (.dstore 6, 0, 0, 0, .null) := by decide +kernel
theorem gX0_fromBits_34 {l0 l1 l2 l3 l4 l5 l6 l7 l8 : Option Value} {u : UInt64} {st : List Value} {H : HP} {Q : Option Value → HP → Prop} : Go 8 34 [l0, l1, l2, l3, l4, l5, l6, l7, l8] (.double u :: st) H Q ↔ Go 8 36 [l0, l1, l2, l3, l4, l5, some (.double u), none, l8] st H Q := G_dstore fX0_fromBits_34 rfl
theorem fX0_fromBits_36 : ft 8 36 = some (.iload_n 3, 0, 0, 0, .null) := by decide +kernel
theorem gX0_fromBits_36 {l0 l1 l2 l4 l5 l6 l7 l8 : Option Value} {u : Int32} {st : List Value} {H : HP} {Q : Option Value → HP → Prop} : Go 8 36 [l0, l1, l2, some (.int u), l4, l5, l6, l7, l8] st H Q ↔ Go 8 37 [l0, l1, l2, some (.int u), l4, l5, l6, l7, l8] (.int u :: st) H Q := G_iload_n fX0_fromBits_36 rfl
theorem fX0_fromBits_37 : ft 8 37 = some (.ifCond .ne 7, 0, 0, 0, .null) := by decide +kernel
theorem gX0_fromBits_37T {L : List (Option Value)} {a : Int} (c : (-2147483648 ≤ a ∧ a ≤ 2147483647) ∧ ¬ a = 0) {st : List Value} {H : HP} {Q : Option Value → HP → Prop} : Go 8 37 L (vi a :: st) H Q ↔ Go 8 44 L st H Q := G_ifT fX0_fromBits_37 (by decide) c
theorem gX0_fromBits_37F {L : List (Option Value)} {a : Int} (c : (-2147483648 ≤ a ∧ a ≤ 2147483647) ∧ ¬ (¬ a = 0)) {st : List Value} {H : HP} {Q : Option Value → HP → Prop} : Go 8 37 L (vi a :: st) H Q ↔ Go 8 40 L st H Q := G_ifF (tg := 44) fX0_fromBits_37 (by decide) c
theorem fX0_fromBits_40 : ft 8 40 = some (.iconst 1, 0, 0, 0, .null) := by decide +kernel
theorem gX0_fromBits_40 {L : List (Option Value)} {st : List Value} {H : HP} {Q : Option Value → HP → Prop} : Go 8 40 L st H Q ↔ Go 8 41 L (vi 1 :: st) H Q := G_iconst fX0_fromBits_40
theorem fX0_fromBits_41 : ft 8 41 = some (.goto 4, 0, 0, 0, .null) := by decide +kernel
theorem gX0_fromBits_41 {L : List (Option Value)} {st : List Value} {H : HP} {Q : Option Value → HP → Prop} : Go 8 41 L st H Q ↔ Go 8 45 L st H Q := G_goto fX0_fromBits_41 (by decide)
theorem fX0_fromBits_44 : ft 8 44 = some (.iload_n 3, 0, 0, 0, .null) := by decide +kernel
theorem gX0_fromBits_44 {l0 l1 l2 l4 l5 l6 l7 l8 : Option Value} {u : Int32} {st : List Value} {H : HP} {Q : Option Value → HP → Prop} : Go 8 44 [l0, l1, l2, some (.int u), l4, l5, l6, l7, l8] st H Q ↔ Go 8 45 [l0, l1, l2, some (.int u), l4, l5, l6, l7, l8] (.int u :: st) H Q := G_iload_n fX0_fromBits_44 rfl
theorem fX0_fromBits_45 : ft 8 45 = some (.sipush 1075, 0, 0, 0, .null) := by decide +kernel
theorem gX0_fromBits_45 {L : List (Option Value)} {st : List Value} {H : HP} {Q : Option Value → HP → Prop} : Go 8 45 L st H Q ↔ Go 8 48 L (vi 1075 :: st) H Q := G_sipush fX0_fromBits_45 (by decide)
theorem fX0_fromBits_48 : ft 8 48 = some (.isub, 0, 0, 0, .null) := by decide +kernel
theorem gX0_fromBits_48 {L : List (Option Value)} {a b : Int} {st : List Value} {H : HP} {Q : Option Value → HP → Prop} : Go 8 48 L (vi b :: vi a :: st) H Q ↔ Go 8 49 L (vi (a - b) :: st) H Q := G_isub fX0_fromBits_48
theorem fX0_fromBits_49 : ft 8 49 = some (.istore 8, 0, 0, 0, .null) := by decide +kernel
theorem gX0_fromBits_49 {l0 l1 l2 l3 l4 l5 l6 l7 l8 : Option Value} {u : Int32} {st : List Value} {H : HP} {Q : Option Value → HP → Prop} : Go 8 49 [l0, l1, l2, l3, l4, l5, l6, l7, l8] (.int u :: st) H Q ↔ Go 8 51 [l0, l1, l2, l3, l4, l5, l6, l7, some (.int u)] st H Q := G_istore fX0_fromBits_49 rfl
theorem fX0_fromBits_51 : ft 8 51 = some (.aload_n 0, 0, 0, 0, .null) := by decide +kernel
theorem gX0_fromBits_51 {l1 l2 l3 l4 l5 l6 l7 l8 : Option Value} {u : Nat} {st : List Value} {H : HP} {Q : Option Value → HP → Prop} : Go 8 51 [some (.ref u), l1, l2, l3, l4, l5, l6, l7, l8] st H Q ↔ Go 8 52 [some (.ref u), l1, l2, l3, l4, l5, l6, l7, l8] (.ref u :: st) H Q := G_aload_n fX0_fromBits_51 rfl
theorem fX0_fromBits_52 : ft 8 52 = some (.aload_n 0, 0, 0, 0, .null) := by decide +kernel
theorem gX0_fromBits_52 {l1 l2 l3 l4 l5 l6 l7 l8 : Option Value} {u : Nat} {st : List Value} {H : HP} {Q : Option Value → HP → Prop} : Go 8 52 [some (.ref u), l1, l2, l3, l4, l5, l6, l7, l8] st H Q ↔ Go 8 53 [some (.ref u), l1, l2, l3, l4, l5, l6, l7, l8] (.ref u :: st) H Q := G_aload_n fX0_fromBits_52 rfl
theorem fX0_fromBits_53 : ft 8 53 = some (.dload 6, 0, 0, 0, .null) := by decide +kernel
theorem gX0_fromBits_53 {l0 l1 l2 l3 l4 l5 l8 : Option Value} {u : UInt64} {st : List Value} {H : HP} {Q : Option Value → HP → Prop} : Go 8 53 [l0, l1, l2, l3, l4, l5, some (.double u), none, l8] st H Q ↔ Go 8 55 [l0, l1, l2, l3, l4, l5, some (.double u), none, l8] (.double u :: st) H Q := G_dload fX0_fromBits_53 rfl
theorem fX0_fromBits_55 : ft 8 55 = some (.iload 8, 0, 0, 0, .null) := by decide +kernel
theorem gX0_fromBits_55 {l0 l1 l2 l3 l4 l5 l6 l7 : Option Value} {u : Int32} {st : List Value} {H : HP} {Q : Option Value → HP → Prop} : Go 8 55 [l0, l1, l2, l3, l4, l5, l6, l7, some (.int u)] st H Q ↔ Go 8 57 [l0, l1, l2, l3, l4, l5, l6, l7, some (.int u)] (.int u :: st) H Q := G_iload fX0_fromBits_55 rfl
theorem fX0_fromBits_57 : ft 8 57 = some (.iconst 2, 0, 0, 0, .null) := by decide +kernel
theorem gX0_fromBits_57 {L : List (Option Value)} {st : List Value} {H : HP} {Q : Option Value → HP → Prop} : Go 8 57 L st H Q ↔ Go 8 58 L (vi 2 :: st) H Q := G_iconst fX0_fromBits_57
theorem fX0_fromBits_58 : ft 8 58 = some (.idiv, 0, 0, 0, .null) := by decide +kernel
theorem gX0_fromBits_58 {L : List (Option Value)} {a b : Int} (c : -2147483648 ≤ a ∧ a ≤ 2147483647 ∧ -2147483648 ≤ b ∧ b ≤ 2147483647 ∧ ¬ b = 0) {st : List Value} {H : HP} {Q : Option Value → HP → Prop} : Go 8 58 L (vi b :: vi a :: st) H Q ↔ Go 8 59 L (vi (a.tdiv b) :: st) H Q := G_idiv fX0_fromBits_58 c
theorem fX0_fromBits_59 : ft 8 59 = some (.invokevirtual 101, 11, 0, 699, .null) := by decide +kernel
theorem gX0_fromBits_59 {L : List (Option Value)} {p : Nat} {a0 : UInt64} {a1 : Int32} {r0 : Nat} {H : HP} {Q : Option Value → HP → Prop} : Go 8 59 L (.int a1 :: .double a0 :: .ref p :: [.ref r0]) H Q ↔ (iso 0 (hget H p) = true ∧ Go 11 0 [some (.ref p), some (.double a0), none, some (.int a1), none, none, none, none] [] H (Cont 8 62 L [.ref r0] Q)) := G_cV (n := 2) (N := 8) (as := [.int a1, .double a0]) (st := [.ref r0]) fX0_fromBits_59 (by decide +kernel) rfl (Nat.le_of_ble_eq_true rfl) (Nat.le_of_ble_eq_true rfl) rfl
theorem fX0_fromBits_62 : ft 8 62 = some (.iload 8, 0, 0, 0, .null) := by decide +kernel
theorem gX0_fromBits_62 {l0 l1 l2 l3 l4 l5 l6 l7 : Option Value} {u : Int32} {st : List Value} {H : HP} {Q : Option Value → HP → Prop} : Go 8 62 [l0, l1, l2, l3, l4, l5, l6, l7, some (.int u)] st H Q ↔ Go 8 64 [l0, l1, l2, l3, l4, l5, l6, l7, some (.int u)] (.int u :: st) H Q := G_iload fX0_fromBits_62 rfl
theorem fX0_fromBits_64 : ft 8 64 = some (.iload 8, 0, 0, 0, .null) := by decide +kernel
theorem gX0_fromBits_64 {l0 l1 l2 l3 l4 l5 l6 l7 : Option Value} {u : Int32} {st : List Value} {H : HP} {Q : Option Value → HP → Prop} : Go 8 64 [l0, l1, l2, l3, l4, l5, l6, l7, some (.int u)] st H Q ↔ Go 8 66 [l0, l1, l2, l3, l4, l5, l6, l7, some (.int u)] (.int u :: st) H Q := G_iload fX0_fromBits_64 rfl
theorem fX0_fromBits_66 : ft 8 66 = some (.iconst 2, 0, 0, 0, .null) := by decide +kernel
theorem gX0_fromBits_66 {L : List (Option Value)} {st : List Value} {H : HP} {Q : Option Value → HP → Prop} : Go 8 66 L st H Q ↔ Go 8 67 L (vi 2 :: st) H Q := G_iconst fX0_fromBits_66
theorem fX0_fromBits_67 : ft 8 67 = some (.idiv, 0, 0, 0, .null) := by decide +kernel
theorem gX0_fromBits_67 {L : List (Option Value)} {a b : Int} (c : -2147483648 ≤ a ∧ a ≤ 2147483647 ∧ -2147483648 ≤ b ∧ b ≤ 2147483647 ∧ ¬ b = 0) {st : List Value} {H : HP} {Q : Option Value → HP → Prop} : Go 8 67 L (vi b :: vi a :: st) H Q ↔ Go 8 68 L (vi (a.tdiv b) :: st) H Q := G_idiv fX0_fromBits_67 c
theorem fX0_fromBits_68 : ft 8 68 = some (.isub, 0, 0, 0, .null) := by decide +kernel
theorem gX0_fromBits_68 {L : List (Option Value)} {a b : Int} {st : List Value} {H : HP} {Q : Option Value → HP → Prop} : Go 8 68 L (vi b :: vi a :: st) H Q ↔ Go 8 69 L (vi (a - b) :: st) H Q := G_isub fX0_fromBits_68
theorem fX0_fromBits_69 : ft 8 69 = some (.invokevirtual 101, 11, 0, 699, .null) := by decide +kernel
theorem gX0_fromBits_69 {L : List (Option Value)} {p : Nat} {a0 : UInt64} {a1 : Int32}  {H : HP} {Q : Option Value → HP → Prop} : Go 8 69 L (.int a1 :: .double a0 :: .ref p :: []) H Q ↔ (iso 0 (hget H p) = true ∧ Go 11 0 [some (.ref p), some (.double a0), none, some (.int a1), none, none, none, none] [] H (Cont 8 72 L [] Q)) := G_cV (n := 2) (N := 8) (as := [.int a1, .double a0]) (st := []) fX0_fromBits_69 (by decide +kernel) rfl (Nat.le_of_ble_eq_true rfl) (Nat.le_of_ble_eq_true rfl) rfl
theorem fX0_fromBits_72 : ft 8 72 = some (.dstore 6, 0, 0, 0, .null) := by decide +kernel
theorem gX0_fromBits_72 {l0 l1 l2 l3 l4 l5 l6 l7 l8 : Option Value} {u : UInt64} {st : List Value} {H : HP} {Q : Option Value → HP → Prop} : Go 8 72 [l0, l1, l2, l3, l4, l5, l6, l7, l8] (.double u :: st) H Q ↔ Go 8 74 [l0, l1, l2, l3, l4, l5, some (.double u), none, l8] st H Q := G_dstore fX0_fromBits_72 rfl
theorem fX0_fromBits_74 : ft 8 74 = some (.lload_n 1, 0, 0, 0, .null) := by decide +kernel
theorem gX0_fromBits_74 {l0 l3 l4 l5 l6 l7 l8 : Option Value} {u : Int64} {st : List Value} {H : HP} {Q : Option Value → HP → Prop} : Go 8 74 [l0, some (.long u), none, l3, l4, l5, l6, l7, l8] st H Q ↔ Go 8 75 [l0, some (.long u), none, l3, l4, l5, l6, l7, l8] (.long u :: st) H Q := G_lload_n fX0_fromBits_74 rfl
theorem fX0_fromBits_75 : ft 8 75 = some (.ldc2_w 105, 0, 0, 706, .long (-9223372036854775808)) := by decide +kernel
theorem gX0_fromBits_75 {L : List (Option Value)} {st : List Value} {H : HP} {Q : Option Value → HP → Prop} : Go 8 75 L st H Q ↔ Go 8 78 L (vl (-9223372036854775808) :: st) H Q := G_ldcl fX0_fromBits_75 (by decide +kernel)
theorem fX0_fromBits_78 : ft 8 78 = some (.land, 0, 0, 0, .null) := by decide +kernel
theorem gX0_fromBits_78 {L : List (Option Value)} {a b : Int} {st : List Value} {H : HP} {Q : Option Value → HP → Prop} : Go 8 78 L (vl b :: vl a :: st) H Q ↔ Go 8 79 L (vl (bAnd a b) :: st) H Q := G_land fX0_fromBits_78
theorem fX0_fromBits_79 : ft 8 79 = some (.lconst 0, 0, 0, 0, .null) := by decide +kernel
theorem gX0_fromBits_79 {L : List (Option Value)} {st : List Value} {H : HP} {Q : Option Value → HP → Prop} : Go 8 79 L st H Q ↔ Go 8 80 L (vl 0 :: st) H Q := G_lconst fX0_fromBits_79 (by decide)
theorem fX0_fromBits_80 : ft 8 80 = some (.lcmp, 0, 0, 0, .null) := by decide +kernel
theorem fX0_fromBits_80' : ft 8 81 = some (.ifCond .eq 12, 0, 0, 0, .null) := by decide +kernel
theorem gX0_fromBits_80T {L : List (Option Value)} {a b : Int} (c : (-9223372036854775808 ≤ a ∧ a ≤ 9223372036854775807 ∧ -9223372036854775808 ≤ b ∧ b ≤ 9223372036854775807) ∧ a = b) {st : List Value} {H : HP} {Q : Option Value → HP → Prop} : Go 8 80 L (vl b :: vl a :: st) H Q ↔ Go 8 93 L st H Q := G_lcT fX0_fromBits_80 fX0_fromBits_80' (by decide) c
theorem gX0_fromBits_80F {L : List (Option Value)} {a b : Int} (c : (-9223372036854775808 ≤ a ∧ a ≤ 9223372036854775807 ∧ -9223372036854775808 ≤ b ∧ b ≤ 9223372036854775807) ∧ ¬ (a = b)) {st : List Value} {H : HP} {Q : Option Value → HP → Prop} : Go 8 80 L (vl b :: vl a :: st) H Q ↔ Go 8 84 L st H Q := G_lcF (tg := 93) fX0_fromBits_80 fX0_fromBits_80' (by decide) c
theorem fX0_fromBits_81 : ft 8 81 = some (.ifCond .eq 12, 0, 0, 0, .null) := by decide +kernel
theorem gX0_fromBits_81T {L : List (Option Value)} {a : Int} (c : (-2147483648 ≤ a ∧ a ≤ 2147483647) ∧ a = 0) {st : List Value} {H : HP} {Q : Option Value → HP → Prop} : Go 8 81 L (vi a :: st) H Q ↔ Go 8 93 L st H Q := G_ifT fX0_fromBits_81 (by decide) c
theorem gX0_fromBits_81F {L : List (Option Value)} {a : Int} (c : (-2147483648 ≤ a ∧ a ≤ 2147483647) ∧ ¬ (a = 0)) {st : List Value} {H : HP} {Q : Option Value → HP → Prop} : Go 8 81 L (vi a :: st) H Q ↔ Go 8 84 L st H Q := G_ifF (tg := 93) fX0_fromBits_81 (by decide) c
theorem fX0_fromBits_84 : ft 8 84 = some (.dload 6, 0, 0, 0, .null) := by decide +kernel
theorem gX0_fromBits_84 {l0 l1 l2 l3 l4 l5 l8 : Option Value} {u : UInt64} {st : List Value} {H : HP} {Q : Option Value → HP → Prop} : Go 8 84 [l0, l1, l2, l3, l4, l5, some (.double u), none, l8] st H Q ↔ Go 8 86 [l0, l1, l2, l3, l4, l5, some (.double u), none, l8] (.double u :: st) H Q := G_dload fX0_fromBits_84 rfl
theorem fX0_fromBits_86 : ft 8 86 = some (.ldc2_w 107, 0, 0, 707, .double 13830554455654793216) := by decide +kernel
theorem gX0_fromBits_86 {L : List (Option Value)} {st : List Value} {H : HP} {Q : Option Value → HP → Prop} : Go 8 86 L st H Q ↔ Go 8 89 L (.double 13830554455654793216 :: st) H Q := G_ldcd fX0_fromBits_86 rfl
theorem fX0_fromBits_89 : ft 8 89 = some (.dmul, 0, 0, 0, .null) := by decide +kernel
theorem gX0_fromBits_89 {L : List (Option Value)} {x w : UInt64} (c : vf_n64 (FP.dmul x w)) {st : List Value} {H : HP} {Q : Option Value → HP → Prop} : Go 8 89 L (.double w :: .double x :: st) H Q ↔ Go 8 90 L (.double (FP.dmul x w) :: st) H Q := G_dmul fX0_fromBits_89 c
theorem fX0_fromBits_90 : ft 8 90 = some (.goto 5, 0, 0, 0, .null) := by decide +kernel
theorem gX0_fromBits_90 {L : List (Option Value)} {st : List Value} {H : HP} {Q : Option Value → HP → Prop} : Go 8 90 L st H Q ↔ Go 8 95 L st H Q := G_goto fX0_fromBits_90 (by decide)
theorem fX0_fromBits_93 : ft 8 93 = some (.dload 6, 0, 0, 0, .null) := by decide +kernel
theorem gX0_fromBits_93 {l0 l1 l2 l3 l4 l5 l8 : Option Value} {u : UInt64} {st : List Value} {H : HP} {Q : Option Value → HP → Prop} : Go 8 93 [l0, l1, l2, l3, l4, l5, some (.double u), none, l8] st H Q ↔ Go 8 95 [l0, l1, l2, l3, l4, l5, some (.double u), none, l8] (.double u :: st) H Q := G_dload fX0_fromBits_93 rfl
theorem fX0_fromBits_95 : ft 8 95 = some (.dreturn, 0, 0, 0, .null) := by decide +kernel
theorem gX0_fromBits_95 {L : List (Option Value)} {u : UInt64} {H : HP} {Q : Option Value → HP → Prop} : Go 8 95 L [.double u] H Q ↔ Q (some (.double u)) H := G_dret fX0_fromBits_95 (by decide +kernel)
theorem fX0_toBits_0 : ft 9 0 = some (.dload_n 1, 0, 0, 0, .null) := by decide +kernel
theorem gX0_toBits_0 {l0 l3 l4 l5 l6 : Option Value} {u : UInt64} {st : List Value} {H : HP} {Q : Option Value → HP → Prop} : Go 9 0 [l0, some (.double u), none, l3, l4, l5, l6] st H Q ↔ Go 9 1 [l0, some (.double u), none, l3, l4, l5, l6] (.double u :: st) H Q := G_dload_n fX0_toBits_0 rfl
theorem fX0_toBits_1 : ft 9 1 = some (.dconst 0, 0, 0, 0, .null) := by decide +kernel
theorem gX0_toBits_1 {L : List (Option Value)} {st : List Value} {H : HP} {Q : Option Value → HP → Prop} : Go 9 1 L st H Q ↔ Go 9 2 L (.double FP.dconst0 :: st) H Q := G_dconst fX0_toBits_1
theorem fX0_toBits_2 : ft 9 2 = some (.dcmp .g, 0, 0, 0, .null) := by decide +kernel
theorem fX0_toBits_2' : ft 9 3 = some (.ifCond .ge 9, 0, 0, 0, .null) := by decide +kernel
theorem gX0_toBits_2T {L : List (Option Value)} {x w : UInt64} (c : dck .g .ge x w = true) {st : List Value} {H : HP} {Q : Option Value → HP → Prop} : Go 9 2 L (.double w :: .double x :: st) H Q ↔ Go 9 12 L st H Q := G_dcT fX0_toBits_2 fX0_toBits_2' (by decide) c
theorem gX0_toBits_2F {L : List (Option Value)} {x w : UInt64} (c : dck .g .ge x w = false) {st : List Value} {H : HP} {Q : Option Value → HP → Prop} : Go 9 2 L (.double w :: .double x :: st) H Q ↔ Go 9 6 L st H Q := G_dcF (tg := 12) fX0_toBits_2 fX0_toBits_2' (by decide) c
theorem fX0_toBits_3 : ft 9 3 = some (.ifCond .ge 9, 0, 0, 0, .null) := by decide +kernel
theorem gX0_toBits_3T {L : List (Option Value)} {a : Int} (c : (-2147483648 ≤ a ∧ a ≤ 2147483647) ∧ 0 ≤ a) {st : List Value} {H : HP} {Q : Option Value → HP → Prop} : Go 9 3 L (vi a :: st) H Q ↔ Go 9 12 L st H Q := G_ifT fX0_toBits_3 (by decide) c
theorem gX0_toBits_3F {L : List (Option Value)} {a : Int} (c : (-2147483648 ≤ a ∧ a ≤ 2147483647) ∧ ¬ (0 ≤ a)) {st : List Value} {H : HP} {Q : Option Value → HP → Prop} : Go 9 3 L (vi a :: st) H Q ↔ Go 9 6 L st H Q := G_ifF (tg := 12) fX0_toBits_3 (by decide) c
theorem fX0_toBits_6 : ft 9 6 = some (.ldc2_w 105, 0, 0, 706, .long (-9223372036854775808)) := by decide +kernel
theorem gX0_toBits_6 {L : List (Option Value)} {st : List Value} {H : HP} {Q : Option Value → HP → Prop} : Go 9 6 L st H Q ↔ Go 9 9 L (vl (-9223372036854775808) :: st) H Q := G_ldcl fX0_toBits_6 (by decide +kernel)
theorem fX0_toBits_9 : ft 9 9 = some (.goto 4, 0, 0, 0, .null) := by decide +kernel
theorem gX0_toBits_9 {L : List (Option Value)} {st : List Value} {H : HP} {Q : Option Value → HP → Prop} : Go 9 9 L st H Q ↔ Go 9 13 L st H Q := G_goto fX0_toBits_9 (by decide)
theorem fX0_toBits_12 : ft 9 12 = some (.lconst 0, 0, 0, 0, .null) := by decide +kernel
theorem gX0_toBits_12 {L : List (Option Value)} {st : List Value} {H : HP} {Q : Option Value → HP → Prop} : Go 9 12 L st H Q ↔ Go 9 13 L (vl 0 :: st) H Q := G_lconst fX0_toBits_12 (by decide)
theorem fX0_toBits_13 : ft 9 13 = some (.lstore_n 3, 0, 0, 0, .null) := by decide +kernel
theorem gX0_toBits_13 {l0 l1 l2 l3 l4 l5 l6 : Option Value} {u : Int64} {st : List Value} {H : HP} {Q : Option Value → HP → Prop} : Go 9 13 [l0, l1, l2, l3, l4, l5, l6] (.long u :: st) H Q ↔ Go 9 14 [l0, l1, l2, some (.long u), none, l5, l6] st H Q := G_lstore_n fX0_toBits_13 rfl
theorem fX0_toBits_14 : ft 9 14 = some (.dload_n 1, 0, 0, 0, .null) := by decide +kernel
theorem gX0_toBits_14 {l0 l3 l4 l5 l6 : Option Value} {u : UInt64} {st : List Value} {H : HP} {Q : Option Value → HP → Prop} : Go 9 14 [l0, some (.double u), none, l3, l4, l5, l6] st H Q ↔ Go 9 15 [l0, some (.double u), none, l3, l4, l5, l6] (.double u :: st) H Q := G_dload_n fX0_toBits_14 rfl
theorem fX0_toBits_15 : ft 9 15 = some (.dconst 0, 0, 0, 0, .null) := by decide +kernel
theorem gX0_toBits_15 {L : List (Option Value)} {st : List Value} {H : HP} {Q : Option Value → HP → Prop} : Go 9 15 L st H Q ↔ Go 9 16 L (.double FP.dconst0 :: st) H Q := G_dconst fX0_toBits_15
theorem fX0_toBits_16 : ft 9 16 = some (.dcmp .g, 0, 0, 0, .null) := by decide +kernel
theorem fX0_toBits_16' : ft 9 17 = some (.ifCond .ge 9, 0, 0, 0, .null) := by decide +kernel
theorem gX0_toBits_16T {L : List (Option Value)} {x w : UInt64} (c : dck .g .ge x w = true) {st : List Value} {H : HP} {Q : Option Value → HP → Prop} : Go 9 16 L (.double w :: .double x :: st) H Q ↔ Go 9 26 L st H Q := G_dcT fX0_toBits_16 fX0_toBits_16' (by decide) c
theorem gX0_toBits_16F {L : List (Option Value)} {x w : UInt64} (c : dck .g .ge x w = false) {st : List Value} {H : HP} {Q : Option Value → HP → Prop} : Go 9 16 L (.double w :: .double x :: st) H Q ↔ Go 9 20 L st H Q := G_dcF (tg := 26) fX0_toBits_16 fX0_toBits_16' (by decide) c
theorem fX0_toBits_17 : ft 9 17 = some (.ifCond .ge 9, 0, 0, 0, .null) := by decide +kernel
theorem gX0_toBits_17T {L : List (Option Value)} {a : Int} (c : (-2147483648 ≤ a ∧ a ≤ 2147483647) ∧ 0 ≤ a) {st : List Value} {H : HP} {Q : Option Value → HP → Prop} : Go 9 17 L (vi a :: st) H Q ↔ Go 9 26 L st H Q := G_ifT fX0_toBits_17 (by decide) c
theorem gX0_toBits_17F {L : List (Option Value)} {a : Int} (c : (-2147483648 ≤ a ∧ a ≤ 2147483647) ∧ ¬ (0 ≤ a)) {st : List Value} {H : HP} {Q : Option Value → HP → Prop} : Go 9 17 L (vi a :: st) H Q ↔ Go 9 20 L st H Q := G_ifF (tg := 26) fX0_toBits_17 (by decide) c
theorem fX0_toBits_20 : ft 9 20 = some (.dconst 0, 0, 0, 0, .null) := by decide +kernel
theorem gX0_toBits_20 {L : List (Option Value)} {st : List Value} {H : HP} {Q : Option Value → HP → Prop} : Go 9 20 L st H Q ↔ Go 9 21 L (.double FP.dconst0 :: st) H Q := G_dconst fX0_toBits_20
theorem fX0_toBits_21 : ft 9 21 = some (.dload_n 1, 0, 0, 0, .null) := by decide +kernel
theorem gX0_toBits_21 {l0 l3 l4 l5 l6 : Option Value} {u : UInt64} {st : List Value} {H : HP} {Q : Option Value → HP → Prop} : Go 9 21 [l0, some (.double u), none, l3, l4, l5, l6] st H Q ↔ Go 9 22 [l0, some (.double u), none, l3, l4, l5, l6] (.double u :: st) H Q := G_dload_n fX0_toBits_21 rfl
theorem fX0_toBits_22 : ft 9 22 = some (.dsub, 0, 0, 0, .null) := by decide +kernel
theorem gX0_toBits_22 {L : List (Option Value)} {x w : UInt64} (c : vf_n64 (FP.dsub x w)) {st : List Value} {H : HP} {Q : Option Value → HP → Prop} : Go 9 22 L (.double w :: .double x :: st) H Q ↔ Go 9 23 L (.double (FP.dsub x w) :: st) H Q := G_dsub fX0_toBits_22 c
theorem fX0_toBits_23 : ft 9 23 = some (.goto 4, 0, 0, 0, .null) := by decide +kernel
theorem gX0_toBits_23 {L : List (Option Value)} {st : List Value} {H : HP} {Q : Option Value → HP → Prop} : Go 9 23 L st H Q ↔ Go 9 27 L st H Q := G_goto fX0_toBits_23 (by decide)
theorem fX0_toBits_26 : ft 9 26 = some (.dload_n 1, 0, 0, 0, .null) := by decide +kernel
theorem gX0_toBits_26 {l0 l3 l4 l5 l6 : Option Value} {u : UInt64} {st : List Value} {H : HP} {Q : Option Value → HP → Prop} : Go 9 26 [l0, some (.double u), none, l3, l4, l5, l6] st H Q ↔ Go 9 27 [l0, some (.double u), none, l3, l4, l5, l6] (.double u :: st) H Q := G_dload_n fX0_toBits_26 rfl
theorem fX0_toBits_27 : ft 9 27 = some (.dstore 5, 0, 0, 0, .null) := by decide +kernel
theorem gX0_toBits_27 {l0 l1 l2 l3 l4 l5 l6 : Option Value} {u : UInt64} {st : List Value} {H : HP} {Q : Option Value → HP → Prop} : Go 9 27 [l0, l1, l2, l3, l4, l5, l6] (.double u :: st) H Q ↔ Go 9 29 [l0, l1, l2, l3, l4, some (.double u), none] st H Q := G_dstore fX0_toBits_27 rfl
theorem fX0_toBits_29 : ft 9 29 = some (.dload 5, 0, 0, 0, .null) := by decide +kernel
theorem gX0_toBits_29 {l0 l1 l2 l3 l4 : Option Value} {u : UInt64} {st : List Value} {H : HP} {Q : Option Value → HP → Prop} : Go 9 29 [l0, l1, l2, l3, l4, some (.double u), none] st H Q ↔ Go 9 31 [l0, l1, l2, l3, l4, some (.double u), none] (.double u :: st) H Q := G_dload fX0_toBits_29 rfl
theorem fX0_toBits_31 : ft 9 31 = some (.invokestatic 89, 7, 0, 716, .null) := by decide +kernel
theorem gX0_toBits_31 {L : List (Option Value)} {a0 : UInt64}  {H : HP} {Q : Option Value → HP → Prop} : Go 9 31 L (.double a0 :: []) H Q ↔ Go 7 0 [some (.double a0), none] [] H (Cont 9 34 L [] Q) := G_cS (n := 1) (N := 2) (as := [.double a0]) (st := []) fX0_toBits_31 (by decide +kernel) rfl (Nat.le_of_ble_eq_true rfl) (Nat.le_of_ble_eq_true rfl) rfl
theorem fX0_toBits_34 : ft 9 34 = some (.ifCond .eq 9, 0, 0, 0, .null) := by decide +kernel
theorem gX0_toBits_34T {L : List (Option Value)} {a : Int} (c : (-2147483648 ≤ a ∧ a ≤ 2147483647) ∧ a = 0) {st : List Value} {H : HP} {Q : Option Value → HP → Prop} : Go 9 34 L (vi a :: st) H Q ↔ Go 9 43 L st H Q := G_ifT fX0_toBits_34 (by decide) c
theorem gX0_toBits_34F {L : List (Option Value)} {a : Int} (c : (-2147483648 ≤ a ∧ a ≤ 2147483647) ∧ ¬ (a = 0)) {st : List Value} {H : HP} {Q : Option Value → HP → Prop} : Go 9 34 L (vi a :: st) H Q ↔ Go 9 37 L st H Q := G_ifF (tg := 43) fX0_toBits_34 (by decide) c
theorem fX0_toBits_37 : ft 9 37 = some (.lload_n 3, 0, 0, 0, .null) := by decide +kernel
theorem gX0_toBits_37 {l0 l1 l2 l5 l6 : Option Value} {u : Int64} {st : List Value} {H : HP} {Q : Option Value → HP → Prop} : Go 9 37 [l0, l1, l2, some (.long u), none, l5, l6] st H Q ↔ Go 9 38 [l0, l1, l2, some (.long u), none, l5, l6] (.long u :: st) H Q := G_lload_n fX0_toBits_37 rfl
theorem fX0_toBits_38 : ft 9 38 = some (.ldc2_w 32, 0, 0, 322, .long (9218868437227405312)) := by decide +kernel
theorem gX0_toBits_38 {L : List (Option Value)} {st : List Value} {H : HP} {Q : Option Value → HP → Prop} : Go 9 38 L st H Q ↔ Go 9 41 L (vl (9218868437227405312) :: st) H Q := G_ldcl fX0_toBits_38 (by decide +kernel)
theorem fX0_toBits_41 : ft 9 41 = some (.lor, 0, 0, 0, .null) := by decide +kernel
theorem gX0_toBits_41 {L : List (Option Value)} {a b : Int} {st : List Value} {H : HP} {Q : Option Value → HP → Prop} : Go 9 41 L (vl b :: vl a :: st) H Q ↔ Go 9 42 L (vl (bOr a b) :: st) H Q := G_lor fX0_toBits_41
theorem fX0_toBits_42 : ft 9 42 = some (.lreturn, 0, 0, 0, .null) := by decide +kernel
theorem gX0_toBits_42 {L : List (Option Value)} {u : Int64} {H : HP} {Q : Option Value → HP → Prop} : Go 9 42 L [.long u] H Q ↔ Q (some (.long u)) H := G_lret fX0_toBits_42 (by decide +kernel)
theorem fX0_toBits_43 : ft 9 43 = some (.dload 5, 0, 0, 0, .null) := by decide +kernel
theorem gX0_toBits_43 {l0 l1 l2 l3 l4 : Option Value} {u : UInt64} {st : List Value} {H : HP} {Q : Option Value → HP → Prop} : Go 9 43 [l0, l1, l2, l3, l4, some (.double u), none] st H Q ↔ Go 9 45 [l0, l1, l2, l3, l4, some (.double u), none] (.double u :: st) H Q := G_dload fX0_toBits_43 rfl
theorem fX0_toBits_45 : ft 9 45 = some (.ldc2_w 109, 0, 0, 729, .double 4503599627370496) := by decide +kernel
theorem gX0_toBits_45 {L : List (Option Value)} {st : List Value} {H : HP} {Q : Option Value → HP → Prop} : Go 9 45 L st H Q ↔ Go 9 48 L (.double 4503599627370496 :: st) H Q := G_ldcd fX0_toBits_45 rfl
theorem fX0_toBits_48 : ft 9 48 = some (.dcmp .g, 0, 0, 0, .null) := by decide +kernel
theorem fX0_toBits_48' : ft 9 49 = some (.ifCond .ge 23, 0, 0, 0, .null) := by decide +kernel
theorem gX0_toBits_48T {L : List (Option Value)} {x w : UInt64} (c : dck .g .ge x w = true) {st : List Value} {H : HP} {Q : Option Value → HP → Prop} : Go 9 48 L (.double w :: .double x :: st) H Q ↔ Go 9 72 L st H Q := G_dcT fX0_toBits_48 fX0_toBits_48' (by decide) c
theorem gX0_toBits_48F {L : List (Option Value)} {x w : UInt64} (c : dck .g .ge x w = false) {st : List Value} {H : HP} {Q : Option Value → HP → Prop} : Go 9 48 L (.double w :: .double x :: st) H Q ↔ Go 9 52 L st H Q := G_dcF (tg := 72) fX0_toBits_48 fX0_toBits_48' (by decide) c
theorem fX0_toBits_49 : ft 9 49 = some (.ifCond .ge 23, 0, 0, 0, .null) := by decide +kernel
theorem gX0_toBits_49T {L : List (Option Value)} {a : Int} (c : (-2147483648 ≤ a ∧ a ≤ 2147483647) ∧ 0 ≤ a) {st : List Value} {H : HP} {Q : Option Value → HP → Prop} : Go 9 49 L (vi a :: st) H Q ↔ Go 9 72 L st H Q := G_ifT fX0_toBits_49 (by decide) c
theorem gX0_toBits_49F {L : List (Option Value)} {a : Int} (c : (-2147483648 ≤ a ∧ a ≤ 2147483647) ∧ ¬ (0 ≤ a)) {st : List Value} {H : HP} {Q : Option Value → HP → Prop} : Go 9 49 L (vi a :: st) H Q ↔ Go 9 52 L st H Q := G_ifF (tg := 72) fX0_toBits_49 (by decide) c
theorem fX0_toBits_52 : ft 9 52 = some (.lload_n 3, 0, 0, 0, .null) := by decide +kernel
theorem gX0_toBits_52 {l0 l1 l2 l5 l6 : Option Value} {u : Int64} {st : List Value} {H : HP} {Q : Option Value → HP → Prop} : Go 9 52 [l0, l1, l2, some (.long u), none, l5, l6] st H Q ↔ Go 9 53 [l0, l1, l2, some (.long u), none, l5, l6] (.long u :: st) H Q := G_lload_n fX0_toBits_52 rfl
theorem fX0_toBits_53 : ft 9 53 = some (.aload_n 0, 0, 0, 0, .null) := by decide +kernel
theorem gX0_toBits_53 {l1 l2 l3 l4 l5 l6 : Option Value} {u : Nat} {st : List Value} {H : HP} {Q : Option Value → HP → Prop} : Go 9 53 [some (.ref u), l1, l2, l3, l4, l5, l6] st H Q ↔ Go 9 54 [some (.ref u), l1, l2, l3, l4, l5, l6] (.ref u :: st) H Q := G_aload_n fX0_toBits_53 rfl
theorem fX0_toBits_54 : ft 9 54 = some (.aload_n 0, 0, 0, 0, .null) := by decide +kernel
theorem gX0_toBits_54 {l1 l2 l3 l4 l5 l6 : Option Value} {u : Nat} {st : List Value} {H : HP} {Q : Option Value → HP → Prop} : Go 9 54 [some (.ref u), l1, l2, l3, l4, l5, l6] st H Q ↔ Go 9 55 [some (.ref u), l1, l2, l3, l4, l5, l6] (.ref u :: st) H Q := G_aload_n fX0_toBits_54 rfl
theorem fX0_toBits_55 : ft 9 55 = some (.dload 5, 0, 0, 0, .null) := by decide +kernel
theorem gX0_toBits_55 {l0 l1 l2 l3 l4 : Option Value} {u : UInt64} {st : List Value} {H : HP} {Q : Option Value → HP → Prop} : Go 9 55 [l0, l1, l2, l3, l4, some (.double u), none] st H Q ↔ Go 9 57 [l0, l1, l2, l3, l4, some (.double u), none] (.double u :: st) H Q := G_dload fX0_toBits_55 rfl
theorem fX0_toBits_57 : ft 9 57 = some (.sipush 537, 0, 0, 0, .null) := by decide +kernel
theorem gX0_toBits_57 {L : List (Option Value)} {st : List Value} {H : HP} {Q : Option Value → HP → Prop} : Go 9 57 L st H Q ↔ Go 9 60 L (vi 537 :: st) H Q := G_sipush fX0_toBits_57 (by decide)
theorem fX0_toBits_60 : ft 9 60 = some (.invokevirtual 101, 11, 0, 699, .null) := by decide +kernel
theorem gX0_toBits_60 {L : List (Option Value)} {p : Nat} {a0 : UInt64} {a1 : Int32} {r0 : Nat} {r1 : Int64} {H : HP} {Q : Option Value → HP → Prop} : Go 9 60 L (.int a1 :: .double a0 :: .ref p :: [.ref r0, .long r1]) H Q ↔ (iso 0 (hget H p) = true ∧ Go 11 0 [some (.ref p), some (.double a0), none, some (.int a1), none, none, none, none] [] H (Cont 9 63 L [.ref r0, .long r1] Q)) := G_cV (n := 2) (N := 8) (as := [.int a1, .double a0]) (st := [.ref r0, .long r1]) fX0_toBits_60 (by decide +kernel) rfl (Nat.le_of_ble_eq_true rfl) (Nat.le_of_ble_eq_true rfl) rfl
theorem fX0_toBits_63 : ft 9 63 = some (.sipush 537, 0, 0, 0, .null) := by decide +kernel
theorem gX0_toBits_63 {L : List (Option Value)} {st : List Value} {H : HP} {Q : Option Value → HP → Prop} : Go 9 63 L st H Q ↔ Go 9 66 L (vi 537 :: st) H Q := G_sipush fX0_toBits_63 (by decide)
theorem fX0_toBits_66 : ft 9 66 = some (.invokevirtual 101, 11, 0, 699, .null) := by decide +kernel
theorem gX0_toBits_66 {L : List (Option Value)} {p : Nat} {a0 : UInt64} {a1 : Int32} {r0 : Int64} {H : HP} {Q : Option Value → HP → Prop} : Go 9 66 L (.int a1 :: .double a0 :: .ref p :: [.long r0]) H Q ↔ (iso 0 (hget H p) = true ∧ Go 11 0 [some (.ref p), some (.double a0), none, some (.int a1), none, none, none, none] [] H (Cont 9 69 L [.long r0] Q)) := G_cV (n := 2) (N := 8) (as := [.int a1, .double a0]) (st := [.long r0]) fX0_toBits_66 (by decide +kernel) rfl (Nat.le_of_ble_eq_true rfl) (Nat.le_of_ble_eq_true rfl) rfl
theorem fX0_toBits_69 : ft 9 69 = some (.d2l, 0, 0, 0, .null) := by decide +kernel
theorem gX0_toBits_69 {L : List (Option Value)} {x : UInt64} {st : List Value} {H : HP} {Q : Option Value → HP → Prop} : Go 9 69 L (.double x :: st) H Q ↔ Go 9 70 L (vl (FP.d2l x).toInt :: st) H Q := G_d2l fX0_toBits_69
theorem fX0_toBits_70 : ft 9 70 = some (.lor, 0, 0, 0, .null) := by decide +kernel
theorem gX0_toBits_70 {L : List (Option Value)} {a b : Int} {st : List Value} {H : HP} {Q : Option Value → HP → Prop} : Go 9 70 L (vl b :: vl a :: st) H Q ↔ Go 9 71 L (vl (bOr a b) :: st) H Q := G_lor fX0_toBits_70
theorem fX0_toBits_71 : ft 9 71 = some (.lreturn, 0, 0, 0, .null) := by decide +kernel
theorem gX0_toBits_71 {L : List (Option Value)} {u : Int64} {H : HP} {Q : Option Value → HP → Prop} : Go 9 71 L [.long u] H Q ↔ Q (some (.long u)) H := G_lret fX0_toBits_71 (by decide +kernel)
theorem fX0_toBits_72 : ft 9 72 = some (.lload_n 3, 0, 0, 0, .null) := by decide +kernel
theorem gX0_toBits_72 {l0 l1 l2 l5 l6 : Option Value} {u : Int64} {st : List Value} {H : HP} {Q : Option Value → HP → Prop} : Go 9 72 [l0, l1, l2, some (.long u), none, l5, l6] st H Q ↔ Go 9 73 [l0, l1, l2, some (.long u), none, l5, l6] (.long u :: st) H Q := G_lload_n fX0_toBits_72 rfl
theorem fX0_toBits_73 : ft 9 73 = some (.aload_n 0, 0, 0, 0, .null) := by decide +kernel
theorem gX0_toBits_73 {l1 l2 l3 l4 l5 l6 : Option Value} {u : Nat} {st : List Value} {H : HP} {Q : Option Value → HP → Prop} : Go 9 73 [some (.ref u), l1, l2, l3, l4, l5, l6] st H Q ↔ Go 9 74 [some (.ref u), l1, l2, l3, l4, l5, l6] (.ref u :: st) H Q := G_aload_n fX0_toBits_73 rfl
theorem fX0_toBits_74 : ft 9 74 = some (.dload 5, 0, 0, 0, .null) := by decide +kernel
theorem gX0_toBits_74 {l0 l1 l2 l3 l4 : Option Value} {u : UInt64} {st : List Value} {H : HP} {Q : Option Value → HP → Prop} : Go 9 74 [l0, l1, l2, l3, l4, some (.double u), none] st H Q ↔ Go 9 76 [l0, l1, l2, l3, l4, some (.double u), none] (.double u :: st) H Q := G_dload fX0_toBits_74 rfl
theorem fX0_toBits_76 : ft 9 76 = some (.invokevirtual 111, 10, 0, 730, .null) := by decide +kernel
theorem gX0_toBits_76 {L : List (Option Value)} {p : Nat} {a0 : UInt64} {r0 : Int64} {H : HP} {Q : Option Value → HP → Prop} : Go 9 76 L (.double a0 :: .ref p :: [.long r0]) H Q ↔ (iso 0 (hget H p) = true ∧ Go 10 0 [some (.ref p), some (.double a0), none, none, none, none, none] [] H (Cont 9 79 L [.long r0] Q)) := G_cV (n := 1) (N := 7) (as := [.double a0]) (st := [.long r0]) fX0_toBits_76 (by decide +kernel) rfl (Nat.le_of_ble_eq_true rfl) (Nat.le_of_ble_eq_true rfl) rfl
theorem fX0_toBits_79 : ft 9 79 = some (.lor, 0, 0, 0, .null) := by decide +kernel
theorem gX0_toBits_79 {L : List (Option Value)} {a b : Int} {st : List Value} {H : HP} {Q : Option Value → HP → Prop} : Go 9 79 L (vl b :: vl a :: st) H Q ↔ Go 9 80 L (vl (bOr a b) :: st) H Q := G_lor fX0_toBits_79
theorem fX0_toBits_80 : ft 9 80 = some (.lreturn, 0, 0, 0, .null) := by decide +kernel
theorem gX0_toBits_80 {L : List (Option Value)} {u : Int64} {H : HP} {Q : Option Value → HP → Prop} : Go 9 80 L [.long u] H Q ↔ Q (some (.long u)) H := G_lret fX0_toBits_80 (by decide +kernel)
theorem fX0_normalBits_0 : ft 10 0 = some (.dload_n 1, 0, 0, 0, .null) := by decide +kernel
theorem gX0_normalBits_0 {l0 l3 l4 l5 l6 : Option Value} {u : UInt64} {st : List Value} {H : HP} {Q : Option Value → HP → Prop} : Go 10 0 [l0, some (.double u), none, l3, l4, l5, l6] st H Q ↔ Go 10 1 [l0, some (.double u), none, l3, l4, l5, l6] (.double u :: st) H Q := G_dload_n fX0_normalBits_0 rfl
theorem fX0_normalBits_1 : ft 10 1 = some (.dstore_n 3, 0, 0, 0, .null) := by decide +kernel
theorem gX0_normalBits_1 {l0 l1 l2 l3 l4 l5 l6 : Option Value} {u : UInt64} {st : List Value} {H : HP} {Q : Option Value → HP → Prop} : Go 10 1 [l0, l1, l2, l3, l4, l5, l6] (.double u :: st) H Q ↔ Go 10 2 [l0, l1, l2, some (.double u), none, l5, l6] st H Q := G_dstore_n fX0_normalBits_1 rfl
theorem fX0_normalBits_2 : ft 10 2 = some (.sipush 1023, 0, 0, 0, .null) := by decide +kernel
theorem gX0_normalBits_2 {L : List (Option Value)} {st : List Value} {H : HP} {Q : Option Value → HP → Prop} : Go 10 2 L st H Q ↔ Go 10 5 L (vi 1023 :: st) H Q := G_sipush fX0_normalBits_2 (by decide)
theorem fX0_normalBits_5 : ft 10 5 = some (.istore 5, 0, 0, 0, .null) := by decide +kernel
theorem gX0_normalBits_5 {l0 l1 l2 l3 l4 l5 l6 : Option Value} {u : Int32} {st : List Value} {H : HP} {Q : Option Value → HP → Prop} : Go 10 5 [l0, l1, l2, l3, l4, l5, l6] (.int u :: st) H Q ↔ Go 10 7 [l0, l1, l2, l3, l4, some (.int u), l6] st H Q := G_istore fX0_normalBits_5 rfl
theorem fX0_normalBits_7 : ft 10 7 = some (.bipush 9, 0, 0, 0, .null) := by decide +kernel
theorem gX0_normalBits_7 {L : List (Option Value)} {st : List Value} {H : HP} {Q : Option Value → HP → Prop} : Go 10 7 L st H Q ↔ Go 10 9 L (vi 9 :: st) H Q := G_bipush fX0_normalBits_7 (by decide)
theorem fX0_normalBits_9 : ft 10 9 = some (.istore 6, 0, 0, 0, .null) := by decide +kernel
theorem gX0_normalBits_9 {l0 l1 l2 l3 l4 l5 l6 : Option Value} {u : Int32} {st : List Value} {H : HP} {Q : Option Value → HP → Prop} : Go 10 9 [l0, l1, l2, l3, l4, l5, l6] (.int u :: st) H Q ↔ Go 10 11 [l0, l1, l2, l3, l4, l5, some (.int u)] st H Q := G_istore fX0_normalBits_9 rfl
theorem fX0_normalBits_11 : ft 10 11 = some (.iload 6, 0, 0, 0, .null) := by decide +kernel
theorem gX0_normalBits_11 {l0 l1 l2 l3 l4 l5 : Option Value} {u : Int32} {st : List Value} {H : HP} {Q : Option Value → HP → Prop} : Go 10 11 [l0, l1, l2, l3, l4, l5, some (.int u)] st H Q ↔ Go 10 13 [l0, l1, l2, l3, l4, l5, some (.int u)] (.int u :: st) H Q := G_iload fX0_normalBits_11 rfl
theorem fX0_normalBits_13 : ft 10 13 = some (.ifCond .lt 40, 0, 0, 0, .null) := by decide +kernel
theorem gX0_normalBits_13T {L : List (Option Value)} {a : Int} (c : (-2147483648 ≤ a ∧ a ≤ 2147483647) ∧ a < 0) {st : List Value} {H : HP} {Q : Option Value → HP → Prop} : Go 10 13 L (vi a :: st) H Q ↔ Go 10 53 L st H Q := G_ifT fX0_normalBits_13 (by decide) c
theorem gX0_normalBits_13F {L : List (Option Value)} {a : Int} (c : (-2147483648 ≤ a ∧ a ≤ 2147483647) ∧ ¬ (a < 0)) {st : List Value} {H : HP} {Q : Option Value → HP → Prop} : Go 10 13 L (vi a :: st) H Q ↔ Go 10 16 L st H Q := G_ifF (tg := 53) fX0_normalBits_13 (by decide) c
theorem fX0_normalBits_16 : ft 10 16 = some (.dload_n 3, 0, 0, 0, .null) := by decide +kernel
theorem gX0_normalBits_16 {l0 l1 l2 l5 l6 : Option Value} {u : UInt64} {st : List Value} {H : HP} {Q : Option Value → HP → Prop} : Go 10 16 [l0, l1, l2, some (.double u), none, l5, l6] st H Q ↔ Go 10 17 [l0, l1, l2, some (.double u), none, l5, l6] (.double u :: st) H Q := G_dload_n fX0_normalBits_16 rfl
theorem fX0_normalBits_17 : ft 10 17 = some (.aload_n 0, 0, 0, 0, .null) := by decide +kernel
theorem gX0_normalBits_17 {l1 l2 l3 l4 l5 l6 : Option Value} {u : Nat} {st : List Value} {H : HP} {Q : Option Value → HP → Prop} : Go 10 17 [some (.ref u), l1, l2, l3, l4, l5, l6] st H Q ↔ Go 10 18 [some (.ref u), l1, l2, l3, l4, l5, l6] (.ref u :: st) H Q := G_aload_n fX0_normalBits_17 rfl
theorem fX0_normalBits_18 : ft 10 18 = some (.getfield 11, 0, 0, 80, .null) := by decide +kernel
theorem gX0_normalBits_18 {L : List (Option Value)} {p : Nat} {st : List Value} {H : HP} {Q : Option Value → HP → Prop} : Go 10 18 L (.ref p :: st) H Q ↔ Rd (gF' 0 0 (hget H p)) 10 21 L st H Q := G_getf fX0_normalBits_18 ⟨rfl, rfl⟩
theorem fX0_normalBits_21 : ft 10 21 = some (.iload 6, 0, 0, 0, .null) := by decide +kernel
theorem gX0_normalBits_21 {l0 l1 l2 l3 l4 l5 : Option Value} {u : Int32} {st : List Value} {H : HP} {Q : Option Value → HP → Prop} : Go 10 21 [l0, l1, l2, l3, l4, l5, some (.int u)] st H Q ↔ Go 10 23 [l0, l1, l2, l3, l4, l5, some (.int u)] (.int u :: st) H Q := G_iload fX0_normalBits_21 rfl
theorem fX0_normalBits_23 : ft 10 23 = some (.daload, 0, 0, 0, .null) := by decide +kernel
theorem gX0_normalBits_23 {L : List (Option Value)} {p : Nat} {a : Int} {st : List Value} {H : HP} {Q : Option Value → HP → Prop} : Go 10 23 L (vi a :: .ref p :: st) H Q ↔ Rd (aD' (hget H p) a) 10 24 L st H Q := G_dald fX0_normalBits_23
theorem fX0_normalBits_24 : ft 10 24 = some (.dcmp .l, 0, 0, 0, .null) := by decide +kernel
theorem fX0_normalBits_24' : ft 10 25 = some (.ifCond .lt 22, 0, 0, 0, .null) := by decide +kernel
theorem gX0_normalBits_24T {L : List (Option Value)} {x w : UInt64} (c : dck .l .lt x w = true) {st : List Value} {H : HP} {Q : Option Value → HP → Prop} : Go 10 24 L (.double w :: .double x :: st) H Q ↔ Go 10 47 L st H Q := G_dcT fX0_normalBits_24 fX0_normalBits_24' (by decide) c
theorem gX0_normalBits_24F {L : List (Option Value)} {x w : UInt64} (c : dck .l .lt x w = false) {st : List Value} {H : HP} {Q : Option Value → HP → Prop} : Go 10 24 L (.double w :: .double x :: st) H Q ↔ Go 10 28 L st H Q := G_dcF (tg := 47) fX0_normalBits_24 fX0_normalBits_24' (by decide) c
theorem fX0_normalBits_25 : ft 10 25 = some (.ifCond .lt 22, 0, 0, 0, .null) := by decide +kernel
theorem gX0_normalBits_25T {L : List (Option Value)} {a : Int} (c : (-2147483648 ≤ a ∧ a ≤ 2147483647) ∧ a < 0) {st : List Value} {H : HP} {Q : Option Value → HP → Prop} : Go 10 25 L (vi a :: st) H Q ↔ Go 10 47 L st H Q := G_ifT fX0_normalBits_25 (by decide) c
theorem gX0_normalBits_25F {L : List (Option Value)} {a : Int} (c : (-2147483648 ≤ a ∧ a ≤ 2147483647) ∧ ¬ (a < 0)) {st : List Value} {H : HP} {Q : Option Value → HP → Prop} : Go 10 25 L (vi a :: st) H Q ↔ Go 10 28 L st H Q := G_ifF (tg := 47) fX0_normalBits_25 (by decide) c
theorem fX0_normalBits_28 : ft 10 28 = some (.dload_n 3, 0, 0, 0, .null) := by decide +kernel
theorem gX0_normalBits_28 {l0 l1 l2 l5 l6 : Option Value} {u : UInt64} {st : List Value} {H : HP} {Q : Option Value → HP → Prop} : Go 10 28 [l0, l1, l2, some (.double u), none, l5, l6] st H Q ↔ Go 10 29 [l0, l1, l2, some (.double u), none, l5, l6] (.double u :: st) H Q := G_dload_n fX0_normalBits_28 rfl
theorem fX0_normalBits_29 : ft 10 29 = some (.aload_n 0, 0, 0, 0, .null) := by decide +kernel
theorem gX0_normalBits_29 {l1 l2 l3 l4 l5 l6 : Option Value} {u : Nat} {st : List Value} {H : HP} {Q : Option Value → HP → Prop} : Go 10 29 [some (.ref u), l1, l2, l3, l4, l5, l6] st H Q ↔ Go 10 30 [some (.ref u), l1, l2, l3, l4, l5, l6] (.ref u :: st) H Q := G_aload_n fX0_normalBits_29 rfl
theorem fX0_normalBits_30 : ft 10 30 = some (.getfield 11, 0, 0, 80, .null) := by decide +kernel
theorem gX0_normalBits_30 {L : List (Option Value)} {p : Nat} {st : List Value} {H : HP} {Q : Option Value → HP → Prop} : Go 10 30 L (.ref p :: st) H Q ↔ Rd (gF' 0 0 (hget H p)) 10 33 L st H Q := G_getf fX0_normalBits_30 ⟨rfl, rfl⟩
theorem fX0_normalBits_33 : ft 10 33 = some (.iload 6, 0, 0, 0, .null) := by decide +kernel
theorem gX0_normalBits_33 {l0 l1 l2 l3 l4 l5 : Option Value} {u : Int32} {st : List Value} {H : HP} {Q : Option Value → HP → Prop} : Go 10 33 [l0, l1, l2, l3, l4, l5, some (.int u)] st H Q ↔ Go 10 35 [l0, l1, l2, l3, l4, l5, some (.int u)] (.int u :: st) H Q := G_iload fX0_normalBits_33 rfl
theorem fX0_normalBits_35 : ft 10 35 = some (.daload, 0, 0, 0, .null) := by decide +kernel
theorem gX0_normalBits_35 {L : List (Option Value)} {p : Nat} {a : Int} {st : List Value} {H : HP} {Q : Option Value → HP → Prop} : Go 10 35 L (vi a :: .ref p :: st) H Q ↔ Rd (aD' (hget H p) a) 10 36 L st H Q := G_dald fX0_normalBits_35
theorem fX0_normalBits_36 : ft 10 36 = some (.ddiv, 0, 0, 0, .null) := by decide +kernel
theorem gX0_normalBits_36 {L : List (Option Value)} {x w : UInt64} (c : vf_n64 (FP.ddiv x w)) {st : List Value} {H : HP} {Q : Option Value → HP → Prop} : Go 10 36 L (.double w :: .double x :: st) H Q ↔ Go 10 37 L (.double (FP.ddiv x w) :: st) H Q := G_ddiv fX0_normalBits_36 c
theorem fX0_normalBits_37 : ft 10 37 = some (.dstore_n 3, 0, 0, 0, .null) := by decide +kernel
theorem gX0_normalBits_37 {l0 l1 l2 l3 l4 l5 l6 : Option Value} {u : UInt64} {st : List Value} {H : HP} {Q : Option Value → HP → Prop} : Go 10 37 [l0, l1, l2, l3, l4, l5, l6] (.double u :: st) H Q ↔ Go 10 38 [l0, l1, l2, some (.double u), none, l5, l6] st H Q := G_dstore_n fX0_normalBits_37 rfl
theorem fX0_normalBits_38 : ft 10 38 = some (.iload 5, 0, 0, 0, .null) := by decide +kernel
theorem gX0_normalBits_38 {l0 l1 l2 l3 l4 l6 : Option Value} {u : Int32} {st : List Value} {H : HP} {Q : Option Value → HP → Prop} : Go 10 38 [l0, l1, l2, l3, l4, some (.int u), l6] st H Q ↔ Go 10 40 [l0, l1, l2, l3, l4, some (.int u), l6] (.int u :: st) H Q := G_iload fX0_normalBits_38 rfl
theorem fX0_normalBits_40 : ft 10 40 = some (.iconst 1, 0, 0, 0, .null) := by decide +kernel
theorem gX0_normalBits_40 {L : List (Option Value)} {st : List Value} {H : HP} {Q : Option Value → HP → Prop} : Go 10 40 L st H Q ↔ Go 10 41 L (vi 1 :: st) H Q := G_iconst fX0_normalBits_40
theorem fX0_normalBits_41 : ft 10 41 = some (.iload 6, 0, 0, 0, .null) := by decide +kernel
theorem gX0_normalBits_41 {l0 l1 l2 l3 l4 l5 : Option Value} {u : Int32} {st : List Value} {H : HP} {Q : Option Value → HP → Prop} : Go 10 41 [l0, l1, l2, l3, l4, l5, some (.int u)] st H Q ↔ Go 10 43 [l0, l1, l2, l3, l4, l5, some (.int u)] (.int u :: st) H Q := G_iload fX0_normalBits_41 rfl
theorem fX0_normalBits_43 : ft 10 43 = some (.ishl, 0, 0, 0, .null) := by decide +kernel
theorem gX0_normalBits_43 {L : List (Option Value)} {a b : Int} {st : List Value} {H : HP} {Q : Option Value → HP → Prop} : Go 10 43 L (vi b :: vi a :: st) H Q ↔ Go 10 44 L (vi (jShl a b) :: st) H Q := G_ishl fX0_normalBits_43
theorem fX0_normalBits_44 : ft 10 44 = some (.iadd, 0, 0, 0, .null) := by decide +kernel
theorem gX0_normalBits_44 {L : List (Option Value)} {a b : Int} {st : List Value} {H : HP} {Q : Option Value → HP → Prop} : Go 10 44 L (vi b :: vi a :: st) H Q ↔ Go 10 45 L (vi (a + b) :: st) H Q := G_iadd fX0_normalBits_44
theorem fX0_normalBits_45 : ft 10 45 = some (.istore 5, 0, 0, 0, .null) := by decide +kernel
theorem gX0_normalBits_45 {l0 l1 l2 l3 l4 l5 l6 : Option Value} {u : Int32} {st : List Value} {H : HP} {Q : Option Value → HP → Prop} : Go 10 45 [l0, l1, l2, l3, l4, l5, l6] (.int u :: st) H Q ↔ Go 10 47 [l0, l1, l2, l3, l4, some (.int u), l6] st H Q := G_istore fX0_normalBits_45 rfl
theorem fX0_normalBits_47 : ft 10 47 = some (.iinc 6 (-1), 0, 0, 0, .null) := by decide +kernel
theorem gX0_normalBits_47 {l0 l1 l2 l3 l4 l5 : Option Value} {a : Int} {st : List Value} {H : HP} {Q : Option Value → HP → Prop} : Go 10 47 [l0, l1, l2, l3, l4, l5, some (vi a)] st H Q ↔ Go 10 50 [l0, l1, l2, l3, l4, l5, some (vi (a + (-1)))] st H Q := G_iinc fX0_normalBits_47 rfl rfl
theorem fX0_normalBits_50 : ft 10 50 = some (.goto (-39), 0, 0, 0, .null) := by decide +kernel
theorem gX0_normalBits_50 {L : List (Option Value)} {st : List Value} {H : HP} {Q : Option Value → HP → Prop} : Go 10 50 L st H Q ↔ Go 10 11 L st H Q := G_goto fX0_normalBits_50 (by decide)
theorem fX0_normalBits_53 : ft 10 53 = some (.bipush 9, 0, 0, 0, .null) := by decide +kernel
theorem gX0_normalBits_53 {L : List (Option Value)} {st : List Value} {H : HP} {Q : Option Value → HP → Prop} : Go 10 53 L st H Q ↔ Go 10 55 L (vi 9 :: st) H Q := G_bipush fX0_normalBits_53 (by decide)
theorem fX0_normalBits_55 : ft 10 55 = some (.istore 6, 0, 0, 0, .null) := by decide +kernel
theorem gX0_normalBits_55 {l0 l1 l2 l3 l4 l5 l6 : Option Value} {u : Int32} {st : List Value} {H : HP} {Q : Option Value → HP → Prop} : Go 10 55 [l0, l1, l2, l3, l4, l5, l6] (.int u :: st) H Q ↔ Go 10 57 [l0, l1, l2, l3, l4, l5, some (.int u)] st H Q := G_istore fX0_normalBits_55 rfl
theorem fX0_normalBits_57 : ft 10 57 = some (.iload 6, 0, 0, 0, .null) := by decide +kernel
theorem gX0_normalBits_57 {l0 l1 l2 l3 l4 l5 : Option Value} {u : Int32} {st : List Value} {H : HP} {Q : Option Value → HP → Prop} : Go 10 57 [l0, l1, l2, l3, l4, l5, some (.int u)] st H Q ↔ Go 10 59 [l0, l1, l2, l3, l4, l5, some (.int u)] (.int u :: st) H Q := G_iload fX0_normalBits_57 rfl
theorem fX0_normalBits_59 : ft 10 59 = some (.ifCond .lt 44, 0, 0, 0, .null) := by decide +kernel
theorem gX0_normalBits_59T {L : List (Option Value)} {a : Int} (c : (-2147483648 ≤ a ∧ a ≤ 2147483647) ∧ a < 0) {st : List Value} {H : HP} {Q : Option Value → HP → Prop} : Go 10 59 L (vi a :: st) H Q ↔ Go 10 103 L st H Q := G_ifT fX0_normalBits_59 (by decide) c
theorem gX0_normalBits_59F {L : List (Option Value)} {a : Int} (c : (-2147483648 ≤ a ∧ a ≤ 2147483647) ∧ ¬ (a < 0)) {st : List Value} {H : HP} {Q : Option Value → HP → Prop} : Go 10 59 L (vi a :: st) H Q ↔ Go 10 62 L st H Q := G_ifF (tg := 103) fX0_normalBits_59 (by decide) c
theorem fX0_normalBits_62 : ft 10 62 = some (.dload_n 3, 0, 0, 0, .null) := by decide +kernel
theorem gX0_normalBits_62 {l0 l1 l2 l5 l6 : Option Value} {u : UInt64} {st : List Value} {H : HP} {Q : Option Value → HP → Prop} : Go 10 62 [l0, l1, l2, some (.double u), none, l5, l6] st H Q ↔ Go 10 63 [l0, l1, l2, some (.double u), none, l5, l6] (.double u :: st) H Q := G_dload_n fX0_normalBits_62 rfl
theorem fX0_normalBits_63 : ft 10 63 = some (.aload_n 0, 0, 0, 0, .null) := by decide +kernel
theorem gX0_normalBits_63 {l1 l2 l3 l4 l5 l6 : Option Value} {u : Nat} {st : List Value} {H : HP} {Q : Option Value → HP → Prop} : Go 10 63 [some (.ref u), l1, l2, l3, l4, l5, l6] st H Q ↔ Go 10 64 [some (.ref u), l1, l2, l3, l4, l5, l6] (.ref u :: st) H Q := G_aload_n fX0_normalBits_63 rfl
theorem fX0_normalBits_64 : ft 10 64 = some (.getfield 11, 0, 0, 80, .null) := by decide +kernel
theorem gX0_normalBits_64 {L : List (Option Value)} {p : Nat} {st : List Value} {H : HP} {Q : Option Value → HP → Prop} : Go 10 64 L (.ref p :: st) H Q ↔ Rd (gF' 0 0 (hget H p)) 10 67 L st H Q := G_getf fX0_normalBits_64 ⟨rfl, rfl⟩
theorem fX0_normalBits_67 : ft 10 67 = some (.iload 6, 0, 0, 0, .null) := by decide +kernel
theorem gX0_normalBits_67 {l0 l1 l2 l3 l4 l5 : Option Value} {u : Int32} {st : List Value} {H : HP} {Q : Option Value → HP → Prop} : Go 10 67 [l0, l1, l2, l3, l4, l5, some (.int u)] st H Q ↔ Go 10 69 [l0, l1, l2, l3, l4, l5, some (.int u)] (.int u :: st) H Q := G_iload fX0_normalBits_67 rfl
theorem fX0_normalBits_69 : ft 10 69 = some (.daload, 0, 0, 0, .null) := by decide +kernel
theorem gX0_normalBits_69 {L : List (Option Value)} {p : Nat} {a : Int} {st : List Value} {H : HP} {Q : Option Value → HP → Prop} : Go 10 69 L (vi a :: .ref p :: st) H Q ↔ Rd (aD' (hget H p) a) 10 70 L st H Q := G_dald fX0_normalBits_69
theorem fX0_normalBits_70 : ft 10 70 = some (.dmul, 0, 0, 0, .null) := by decide +kernel
theorem gX0_normalBits_70 {L : List (Option Value)} {x w : UInt64} (c : vf_n64 (FP.dmul x w)) {st : List Value} {H : HP} {Q : Option Value → HP → Prop} : Go 10 70 L (.double w :: .double x :: st) H Q ↔ Go 10 71 L (.double (FP.dmul x w) :: st) H Q := G_dmul fX0_normalBits_70 c
theorem fX0_normalBits_71 : ft 10 71 = some (.ldc2_w 28, 0, 0, 79, .double 4611686018427387904) := by decide +kernel
theorem gX0_normalBits_71 {L : List (Option Value)} {st : List Value} {H : HP} {Q : Option Value → HP → Prop} : Go 10 71 L st H Q ↔ Go 10 74 L (.double 4611686018427387904 :: st) H Q := G_ldcd fX0_normalBits_71 rfl
theorem fX0_normalBits_74 : ft 10 74 = some (.dcmp .g, 0, 0, 0, .null) := by decide +kernel
theorem fX0_normalBits_74' : ft 10 75 = some (.ifCond .ge 22, 0, 0, 0, .null) := by decide +kernel
theorem gX0_normalBits_74T {L : List (Option Value)} {x w : UInt64} (c : dck .g .ge x w = true) {st : List Value} {H : HP} {Q : Option Value → HP → Prop} : Go 10 74 L (.double w :: .double x :: st) H Q ↔ Go 10 97 L st H Q := G_dcT fX0_normalBits_74 fX0_normalBits_74' (by decide) c
theorem gX0_normalBits_74F {L : List (Option Value)} {x w : UInt64} (c : dck .g .ge x w = false) {st : List Value} {H : HP} {Q : Option Value → HP → Prop} : Go 10 74 L (.double w :: .double x :: st) H Q ↔ Go 10 78 L st H Q := G_dcF (tg := 97) fX0_normalBits_74 fX0_normalBits_74' (by decide) c
theorem fX0_normalBits_75 : ft 10 75 = some (.ifCond .ge 22, 0, 0, 0, .null) := by decide +kernel
theorem gX0_normalBits_75T {L : List (Option Value)} {a : Int} (c : (-2147483648 ≤ a ∧ a ≤ 2147483647) ∧ 0 ≤ a) {st : List Value} {H : HP} {Q : Option Value → HP → Prop} : Go 10 75 L (vi a :: st) H Q ↔ Go 10 97 L st H Q := G_ifT fX0_normalBits_75 (by decide) c
theorem gX0_normalBits_75F {L : List (Option Value)} {a : Int} (c : (-2147483648 ≤ a ∧ a ≤ 2147483647) ∧ ¬ (0 ≤ a)) {st : List Value} {H : HP} {Q : Option Value → HP → Prop} : Go 10 75 L (vi a :: st) H Q ↔ Go 10 78 L st H Q := G_ifF (tg := 97) fX0_normalBits_75 (by decide) c
theorem fX0_normalBits_78 : ft 10 78 = some (.dload_n 3, 0, 0, 0, .null) := by decide +kernel
theorem gX0_normalBits_78 {l0 l1 l2 l5 l6 : Option Value} {u : UInt64} {st : List Value} {H : HP} {Q : Option Value → HP → Prop} : Go 10 78 [l0, l1, l2, some (.double u), none, l5, l6] st H Q ↔ Go 10 79 [l0, l1, l2, some (.double u), none, l5, l6] (.double u :: st) H Q := G_dload_n fX0_normalBits_78 rfl
theorem fX0_normalBits_79 : ft 10 79 = some (.aload_n 0, 0, 0, 0, .null) := by decide +kernel
theorem gX0_normalBits_79 {l1 l2 l3 l4 l5 l6 : Option Value} {u : Nat} {st : List Value} {H : HP} {Q : Option Value → HP → Prop} : Go 10 79 [some (.ref u), l1, l2, l3, l4, l5, l6] st H Q ↔ Go 10 80 [some (.ref u), l1, l2, l3, l4, l5, l6] (.ref u :: st) H Q := G_aload_n fX0_normalBits_79 rfl
theorem fX0_normalBits_80 : ft 10 80 = some (.getfield 11, 0, 0, 80, .null) := by decide +kernel
theorem gX0_normalBits_80 {L : List (Option Value)} {p : Nat} {st : List Value} {H : HP} {Q : Option Value → HP → Prop} : Go 10 80 L (.ref p :: st) H Q ↔ Rd (gF' 0 0 (hget H p)) 10 83 L st H Q := G_getf fX0_normalBits_80 ⟨rfl, rfl⟩
theorem fX0_normalBits_83 : ft 10 83 = some (.iload 6, 0, 0, 0, .null) := by decide +kernel
theorem gX0_normalBits_83 {l0 l1 l2 l3 l4 l5 : Option Value} {u : Int32} {st : List Value} {H : HP} {Q : Option Value → HP → Prop} : Go 10 83 [l0, l1, l2, l3, l4, l5, some (.int u)] st H Q ↔ Go 10 85 [l0, l1, l2, l3, l4, l5, some (.int u)] (.int u :: st) H Q := G_iload fX0_normalBits_83 rfl
theorem fX0_normalBits_85 : ft 10 85 = some (.daload, 0, 0, 0, .null) := by decide +kernel
theorem gX0_normalBits_85 {L : List (Option Value)} {p : Nat} {a : Int} {st : List Value} {H : HP} {Q : Option Value → HP → Prop} : Go 10 85 L (vi a :: .ref p :: st) H Q ↔ Rd (aD' (hget H p) a) 10 86 L st H Q := G_dald fX0_normalBits_85
theorem fX0_normalBits_86 : ft 10 86 = some (.dmul, 0, 0, 0, .null) := by decide +kernel
theorem gX0_normalBits_86 {L : List (Option Value)} {x w : UInt64} (c : vf_n64 (FP.dmul x w)) {st : List Value} {H : HP} {Q : Option Value → HP → Prop} : Go 10 86 L (.double w :: .double x :: st) H Q ↔ Go 10 87 L (.double (FP.dmul x w) :: st) H Q := G_dmul fX0_normalBits_86 c
theorem fX0_normalBits_87 : ft 10 87 = some (.dstore_n 3, 0, 0, 0, .null) := by decide +kernel
theorem gX0_normalBits_87 {l0 l1 l2 l3 l4 l5 l6 : Option Value} {u : UInt64} {st : List Value} {H : HP} {Q : Option Value → HP → Prop} : Go 10 87 [l0, l1, l2, l3, l4, l5, l6] (.double u :: st) H Q ↔ Go 10 88 [l0, l1, l2, some (.double u), none, l5, l6] st H Q := G_dstore_n fX0_normalBits_87 rfl
theorem fX0_normalBits_88 : ft 10 88 = some (.iload 5, 0, 0, 0, .null) := by decide +kernel
theorem gX0_normalBits_88 {l0 l1 l2 l3 l4 l6 : Option Value} {u : Int32} {st : List Value} {H : HP} {Q : Option Value → HP → Prop} : Go 10 88 [l0, l1, l2, l3, l4, some (.int u), l6] st H Q ↔ Go 10 90 [l0, l1, l2, l3, l4, some (.int u), l6] (.int u :: st) H Q := G_iload fX0_normalBits_88 rfl
theorem fX0_normalBits_90 : ft 10 90 = some (.iconst 1, 0, 0, 0, .null) := by decide +kernel
theorem gX0_normalBits_90 {L : List (Option Value)} {st : List Value} {H : HP} {Q : Option Value → HP → Prop} : Go 10 90 L st H Q ↔ Go 10 91 L (vi 1 :: st) H Q := G_iconst fX0_normalBits_90
theorem fX0_normalBits_91 : ft 10 91 = some (.iload 6, 0, 0, 0, .null) := by decide +kernel
theorem gX0_normalBits_91 {l0 l1 l2 l3 l4 l5 : Option Value} {u : Int32} {st : List Value} {H : HP} {Q : Option Value → HP → Prop} : Go 10 91 [l0, l1, l2, l3, l4, l5, some (.int u)] st H Q ↔ Go 10 93 [l0, l1, l2, l3, l4, l5, some (.int u)] (.int u :: st) H Q := G_iload fX0_normalBits_91 rfl
theorem fX0_normalBits_93 : ft 10 93 = some (.ishl, 0, 0, 0, .null) := by decide +kernel
theorem gX0_normalBits_93 {L : List (Option Value)} {a b : Int} {st : List Value} {H : HP} {Q : Option Value → HP → Prop} : Go 10 93 L (vi b :: vi a :: st) H Q ↔ Go 10 94 L (vi (jShl a b) :: st) H Q := G_ishl fX0_normalBits_93
theorem fX0_normalBits_94 : ft 10 94 = some (.isub, 0, 0, 0, .null) := by decide +kernel
theorem gX0_normalBits_94 {L : List (Option Value)} {a b : Int} {st : List Value} {H : HP} {Q : Option Value → HP → Prop} : Go 10 94 L (vi b :: vi a :: st) H Q ↔ Go 10 95 L (vi (a - b) :: st) H Q := G_isub fX0_normalBits_94
theorem fX0_normalBits_95 : ft 10 95 = some (.istore 5, 0, 0, 0, .null) := by decide +kernel
theorem gX0_normalBits_95 {l0 l1 l2 l3 l4 l5 l6 : Option Value} {u : Int32} {st : List Value} {H : HP} {Q : Option Value → HP → Prop} : Go 10 95 [l0, l1, l2, l3, l4, l5, l6] (.int u :: st) H Q ↔ Go 10 97 [l0, l1, l2, l3, l4, some (.int u), l6] st H Q := G_istore fX0_normalBits_95 rfl
theorem fX0_normalBits_97 : ft 10 97 = some (.iinc 6 (-1), 0, 0, 0, .null) := by decide +kernel
theorem gX0_normalBits_97 {l0 l1 l2 l3 l4 l5 : Option Value} {a : Int} {st : List Value} {H : HP} {Q : Option Value → HP → Prop} : Go 10 97 [l0, l1, l2, l3, l4, l5, some (vi a)] st H Q ↔ Go 10 100 [l0, l1, l2, l3, l4, l5, some (vi (a + (-1)))] st H Q := G_iinc fX0_normalBits_97 rfl rfl
theorem fX0_normalBits_100 : ft 10 100 = some (.goto (-43), 0, 0, 0, .null) := by decide +kernel
theorem gX0_normalBits_100 {L : List (Option Value)} {st : List Value} {H : HP} {Q : Option Value → HP → Prop} : Go 10 100 L st H Q ↔ Go 10 57 L st H Q := G_goto fX0_normalBits_100 (by decide)
theorem fX0_normalBits_103 : ft 10 103 = some (.iload 5, 0, 0, 0, .null) := by decide +kernel
theorem gX0_normalBits_103 {l0 l1 l2 l3 l4 l6 : Option Value} {u : Int32} {st : List Value} {H : HP} {Q : Option Value → HP → Prop} : Go 10 103 [l0, l1, l2, l3, l4, some (.int u), l6] st H Q ↔ Go 10 105 [l0, l1, l2, l3, l4, some (.int u), l6] (.int u :: st) H Q := G_iload fX0_normalBits_103 rfl
theorem fX0_normalBits_105 : ft 10 105 = some (.i2l, 0, 0, 0, .null) := by decide +kernel
theorem gX0_normalBits_105 {L : List (Option Value)} {a : Int} (c : -2147483648 ≤ a ∧ a ≤ 2147483647) {st : List Value} {H : HP} {Q : Option Value → HP → Prop} : Go 10 105 L (vi a :: st) H Q ↔ Go 10 106 L (vl a :: st) H Q := G_i2l fX0_normalBits_105 c
theorem fX0_normalBits_106 : ft 10 106 = some (.bipush 52, 0, 0, 0, .null) := by decide +kernel
theorem gX0_normalBits_106 {L : List (Option Value)} {st : List Value} {H : HP} {Q : Option Value → HP → Prop} : Go 10 106 L st H Q ↔ Go 10 108 L (vi 52 :: st) H Q := G_bipush fX0_normalBits_106 (by decide)
theorem fX0_normalBits_108 : ft 10 108 = some (.lshl, 0, 0, 0, .null) := by decide +kernel
theorem gX0_normalBits_108 {L : List (Option Value)} {a b : Int} {st : List Value} {H : HP} {Q : Option Value → HP → Prop} : Go 10 108 L (vi b :: vl a :: st) H Q ↔ Go 10 109 L (vl (bShl a b) :: st) H Q := G_lshl fX0_normalBits_108
theorem fX0_normalBits_109 : ft 10 109 = some (.dload_n 3, 0, 0, 0, .null) := by decide +kernel
theorem gX0_normalBits_109 {l0 l1 l2 l5 l6 : Option Value} {u : UInt64} {st : List Value} {H : HP} {Q : Option Value → HP → Prop} : Go 10 109 [l0, l1, l2, some (.double u), none, l5, l6] st H Q ↔ Go 10 110 [l0, l1, l2, some (.double u), none, l5, l6] (.double u :: st) H Q := G_dload_n fX0_normalBits_109 rfl
theorem fX0_normalBits_110 : ft 10 110 = some (.ldc2_w 114, 0, 0, 734, .double 4841369599423283200) := by decide +kernel
theorem gX0_normalBits_110 {L : List (Option Value)} {st : List Value} {H : HP} {Q : Option Value → HP → Prop} : Go 10 110 L st H Q ↔ Go 10 113 L (.double 4841369599423283200 :: st) H Q := G_ldcd fX0_normalBits_110 rfl
theorem fX0_normalBits_113 : ft 10 113 = some (.dmul, 0, 0, 0, .null) := by decide +kernel
theorem gX0_normalBits_113 {L : List (Option Value)} {x w : UInt64} (c : vf_n64 (FP.dmul x w)) {st : List Value} {H : HP} {Q : Option Value → HP → Prop} : Go 10 113 L (.double w :: .double x :: st) H Q ↔ Go 10 114 L (.double (FP.dmul x w) :: st) H Q := G_dmul fX0_normalBits_113 c
theorem fX0_normalBits_114 : ft 10 114 = some (.d2l, 0, 0, 0, .null) := by decide +kernel
theorem gX0_normalBits_114 {L : List (Option Value)} {x : UInt64} {st : List Value} {H : HP} {Q : Option Value → HP → Prop} : Go 10 114 L (.double x :: st) H Q ↔ Go 10 115 L (vl (FP.d2l x).toInt :: st) H Q := G_d2l fX0_normalBits_114
theorem fX0_normalBits_115 : ft 10 115 = some (.ldc2_w 97, 0, 0, 697, .long (4503599627370495)) := by decide +kernel
theorem gX0_normalBits_115 {L : List (Option Value)} {st : List Value} {H : HP} {Q : Option Value → HP → Prop} : Go 10 115 L st H Q ↔ Go 10 118 L (vl (4503599627370495) :: st) H Q := G_ldcl fX0_normalBits_115 (by decide +kernel)
theorem fX0_normalBits_118 : ft 10 118 = some (.land, 0, 0, 0, .null) := by decide +kernel
theorem gX0_normalBits_118 {L : List (Option Value)} {a b : Int} {st : List Value} {H : HP} {Q : Option Value → HP → Prop} : Go 10 118 L (vl b :: vl a :: st) H Q ↔ Go 10 119 L (vl (bAnd a b) :: st) H Q := G_land fX0_normalBits_118
theorem fX0_normalBits_119 : ft 10 119 = some (.lor, 0, 0, 0, .null) := by decide +kernel
theorem gX0_normalBits_119 {L : List (Option Value)} {a b : Int} {st : List Value} {H : HP} {Q : Option Value → HP → Prop} : Go 10 119 L (vl b :: vl a :: st) H Q ↔ Go 10 120 L (vl (bOr a b) :: st) H Q := G_lor fX0_normalBits_119
theorem fX0_normalBits_120 : ft 10 120 = some (.lreturn, 0, 0, 0, .null) := by decide +kernel
theorem gX0_normalBits_120 {L : List (Option Value)} {u : Int64} {H : HP} {Q : Option Value → HP → Prop} : Go 10 120 L [.long u] H Q ↔ Q (some (.long u)) H := G_lret fX0_normalBits_120 (by decide +kernel)

theorem fX9_slide_0 : ft 155 0 = some (.aload_n 0, 0, 0, 0, .null) := by decide +kernel
theorem gX9_slide_0 {l1 l2 l3 l4 : Option Value} {u : Nat} {st : List Value} {H : HP} {Q : Option Value → HP → Prop} : Go 155 0 [some (.ref u), l1, l2, l3, l4] st H Q ↔ Go 155 1 [some (.ref u), l1, l2, l3, l4] (.ref u :: st) H Q := G_aload_n fX9_slide_0 rfl
theorem fX9_slide_1 : ft 155 1 = some (.iconst 0, 0, 0, 0, .null) := by decide +kernel
theorem gX9_slide_1 {L : List (Option Value)} {st : List Value} {H : HP} {Q : Option Value → HP → Prop} : Go 155 1 L st H Q ↔ Go 155 2 L (vi 0 :: st) H Q := G_iconst fX9_slide_1
theorem fX9_slide_2 : ft 155 2 = some (.putfield 72, 9, 0, 754, .null) := by decide +kernel
theorem gX9_slide_2 {L : List (Option Value)} {p : Nat} {u : Int32} (hp : p ≠ 0) {st : List Value} {H : HP} {Q : Option Value → HP → Prop} : Go 155 2 L (.int u :: .ref p :: st) H Q ↔ Wr (pF' 9 0 (hget H p) (.int u)) p 155 5 L st H Q := G_putf fX9_slide_2 ⟨⟨rfl, rfl⟩, rfl, Or.inl rfl⟩ hp
theorem fX9_slide_5 : ft 155 5 = some (.iload_n 1, 0, 0, 0, .null) := by decide +kernel
theorem gX9_slide_5 {l0 l2 l3 l4 : Option Value} {u : Int32} {st : List Value} {H : HP} {Q : Option Value → HP → Prop} : Go 155 5 [l0, some (.int u), l2, l3, l4] st H Q ↔ Go 155 6 [l0, some (.int u), l2, l3, l4] (.int u :: st) H Q := G_iload_n fX9_slide_5 rfl
theorem fX9_slide_6 : ft 155 6 = some (.invokestatic 85, 119, 0, 841, .null) := by decide +kernel
theorem gX9_slide_6 {L : List (Option Value)} {a0 : Int32}  {H : HP} {Q : Option Value → HP → Prop} : Go 155 6 L (.int a0 :: []) H Q ↔ Go 119 0 [some (.int a0)] [] H (Cont 155 9 L [] Q) := G_cS (n := 1) (N := 1) (as := [.int a0]) (st := []) fX9_slide_6 (by decide +kernel) rfl (Nat.le_of_ble_eq_true rfl) (Nat.le_of_ble_eq_true rfl) rfl
theorem fX9_slide_9 : ft 155 9 = some (.ifCond .ne 5, 0, 0, 0, .null) := by decide +kernel
theorem gX9_slide_9T {L : List (Option Value)} {a : Int} (c : (-2147483648 ≤ a ∧ a ≤ 2147483647) ∧ ¬ a = 0) {st : List Value} {H : HP} {Q : Option Value → HP → Prop} : Go 155 9 L (vi a :: st) H Q ↔ Go 155 14 L st H Q := G_ifT fX9_slide_9 (by decide) c
theorem gX9_slide_9F {L : List (Option Value)} {a : Int} (c : (-2147483648 ≤ a ∧ a ≤ 2147483647) ∧ ¬ (¬ a = 0)) {st : List Value} {H : HP} {Q : Option Value → HP → Prop} : Go 155 9 L (vi a :: st) H Q ↔ Go 155 12 L st H Q := G_ifF (tg := 14) fX9_slide_9 (by decide) c
theorem fX9_slide_12 : ft 155 12 = some (.iconst (-1), 0, 0, 0, .null) := by decide +kernel
theorem gX9_slide_12 {L : List (Option Value)} {st : List Value} {H : HP} {Q : Option Value → HP → Prop} : Go 155 12 L st H Q ↔ Go 155 13 L (vi (-1) :: st) H Q := G_iconst fX9_slide_12
theorem fX9_slide_13 : ft 155 13 = some (.ireturn, 0, 0, 0, .null) := by decide +kernel
theorem gX9_slide_13 {L : List (Option Value)} {u : Int32} {H : HP} {Q : Option Value → HP → Prop} : Go 155 13 L [.int u] H Q ↔ Q (some (.int u)) H := G_iret fX9_slide_13 (by decide +kernel)
theorem fX9_slide_14 : ft 155 14 = some (.iload_n 2, 0, 0, 0, .null) := by decide +kernel
theorem gX9_slide_14 {l0 l1 l3 l4 : Option Value} {u : Int32} {st : List Value} {H : HP} {Q : Option Value → HP → Prop} : Go 155 14 [l0, l1, some (.int u), l3, l4] st H Q ↔ Go 155 15 [l0, l1, some (.int u), l3, l4] (.int u :: st) H Q := G_iload_n fX9_slide_14 rfl
theorem fX9_slide_15 : ft 155 15 = some (.iconst 1, 0, 0, 0, .null) := by decide +kernel
theorem gX9_slide_15 {L : List (Option Value)} {st : List Value} {H : HP} {Q : Option Value → HP → Prop} : Go 155 15 L st H Q ↔ Go 155 16 L (vi 1 :: st) H Q := G_iconst fX9_slide_15
theorem fX9_slide_16 : ft 155 16 = some (.bipush 64, 0, 0, 0, .null) := by decide +kernel
theorem gX9_slide_16 {L : List (Option Value)} {st : List Value} {H : HP} {Q : Option Value → HP → Prop} : Go 155 16 L st H Q ↔ Go 155 18 L (vi 64 :: st) H Q := G_bipush fX9_slide_16 (by decide)
theorem fX9_slide_18 : ft 155 18 = some (.invokestatic 75, 118, 0, 844, .null) := by decide +kernel
theorem gX9_slide_18 {L : List (Option Value)} {a0 : Int32} {a1 : Int32} {a2 : Int32}  {H : HP} {Q : Option Value → HP → Prop} : Go 155 18 L (.int a2 :: .int a1 :: .int a0 :: []) H Q ↔ Go 118 0 [some (.int a0), some (.int a1), some (.int a2)] [] H (Cont 155 21 L [] Q) := G_cS (n := 3) (N := 3) (as := [.int a2, .int a1, .int a0]) (st := []) fX9_slide_18 (by decide +kernel) rfl (Nat.le_of_ble_eq_true rfl) (Nat.le_of_ble_eq_true rfl) rfl
theorem fX9_slide_21 : ft 155 21 = some (.ifCond .ne 6, 0, 0, 0, .null) := by decide +kernel
theorem gX9_slide_21T {L : List (Option Value)} {a : Int} (c : (-2147483648 ≤ a ∧ a ≤ 2147483647) ∧ ¬ a = 0) {st : List Value} {H : HP} {Q : Option Value → HP → Prop} : Go 155 21 L (vi a :: st) H Q ↔ Go 155 27 L st H Q := G_ifT fX9_slide_21 (by decide) c
theorem gX9_slide_21F {L : List (Option Value)} {a : Int} (c : (-2147483648 ≤ a ∧ a ≤ 2147483647) ∧ ¬ (¬ a = 0)) {st : List Value} {H : HP} {Q : Option Value → HP → Prop} : Go 155 21 L (vi a :: st) H Q ↔ Go 155 24 L st H Q := G_ifF (tg := 27) fX9_slide_21 (by decide) c
theorem fX9_slide_24 : ft 155 24 = some (.bipush (-2), 0, 0, 0, .null) := by decide +kernel
theorem gX9_slide_24 {L : List (Option Value)} {st : List Value} {H : HP} {Q : Option Value → HP → Prop} : Go 155 24 L st H Q ↔ Go 155 26 L (vi (-2) :: st) H Q := G_bipush fX9_slide_24 (by decide)
theorem fX9_slide_26 : ft 155 26 = some (.ireturn, 0, 0, 0, .null) := by decide +kernel
theorem gX9_slide_26 {L : List (Option Value)} {u : Int32} {H : HP} {Q : Option Value → HP → Prop} : Go 155 26 L [.int u] H Q ↔ Q (some (.int u)) H := G_iret fX9_slide_26 (by decide +kernel)
theorem fX9_slide_27 : ft 155 27 = some (.aload_n 0, 0, 0, 0, .null) := by decide +kernel
theorem gX9_slide_27 {l1 l2 l3 l4 : Option Value} {u : Nat} {st : List Value} {H : HP} {Q : Option Value → HP → Prop} : Go 155 27 [some (.ref u), l1, l2, l3, l4] st H Q ↔ Go 155 28 [some (.ref u), l1, l2, l3, l4] (.ref u :: st) H Q := G_aload_n fX9_slide_27 rfl
theorem fX9_slide_28 : ft 155 28 = some (.getfield 9, 9, 1, 755, .null) := by decide +kernel
theorem gX9_slide_28 {L : List (Option Value)} {p : Nat} {st : List Value} {H : HP} {Q : Option Value → HP → Prop} : Go 155 28 L (.ref p :: st) H Q ↔ Rd (gF' 9 1 (hget H p)) 155 31 L st H Q := G_getf fX9_slide_28 ⟨rfl, rfl⟩
theorem fX9_slide_31 : ft 155 31 = some (.iload_n 1, 0, 0, 0, .null) := by decide +kernel
theorem gX9_slide_31 {l0 l2 l3 l4 : Option Value} {u : Int32} {st : List Value} {H : HP} {Q : Option Value → HP → Prop} : Go 155 31 [l0, some (.int u), l2, l3, l4] st H Q ↔ Go 155 32 [l0, some (.int u), l2, l3, l4] (.int u :: st) H Q := G_iload_n fX9_slide_31 rfl
theorem fX9_slide_32 : ft 155 32 = some (.iaload, 0, 0, 0, .null) := by decide +kernel
theorem gX9_slide_32 {L : List (Option Value)} {p : Nat} {a : Int} {st : List Value} {H : HP} {Q : Option Value → HP → Prop} : Go 155 32 L (vi a :: .ref p :: st) H Q ↔ Rd (aJ' (hget H p) a) 155 33 L st H Q := G_iald fX9_slide_32
theorem fX9_slide_33 : ft 155 33 = some (.bipush (-9), 0, 0, 0, .null) := by decide +kernel
theorem gX9_slide_33 {L : List (Option Value)} {st : List Value} {H : HP} {Q : Option Value → HP → Prop} : Go 155 33 L st H Q ↔ Go 155 35 L (vi (-9) :: st) H Q := G_bipush fX9_slide_33 (by decide)
theorem fX9_slide_35 : ft 155 35 = some (.if_icmp .ne 9, 0, 0, 0, .null) := by decide +kernel
theorem gX9_slide_35T {L : List (Option Value)} {a b : Int} (c : (-2147483648 ≤ a ∧ a ≤ 2147483647 ∧ -2147483648 ≤ b ∧ b ≤ 2147483647) ∧ ¬ a = b) {st : List Value} {H : HP} {Q : Option Value → HP → Prop} : Go 155 35 L (vi b :: vi a :: st) H Q ↔ Go 155 44 L st H Q := G_icT fX9_slide_35 (by decide) c
theorem gX9_slide_35F {L : List (Option Value)} {a b : Int} (c : (-2147483648 ≤ a ∧ a ≤ 2147483647 ∧ -2147483648 ≤ b ∧ b ≤ 2147483647) ∧ ¬ (¬ a = b)) {st : List Value} {H : HP} {Q : Option Value → HP → Prop} : Go 155 35 L (vi b :: vi a :: st) H Q ↔ Go 155 38 L st H Q := G_icF (tg := 44) fX9_slide_35 (by decide) c
theorem fX9_slide_38 : ft 155 38 = some (.aload_n 0, 0, 0, 0, .null) := by decide +kernel
theorem gX9_slide_38 {l1 l2 l3 l4 : Option Value} {u : Nat} {st : List Value} {H : HP} {Q : Option Value → HP → Prop} : Go 155 38 [some (.ref u), l1, l2, l3, l4] st H Q ↔ Go 155 39 [some (.ref u), l1, l2, l3, l4] (.ref u :: st) H Q := G_aload_n fX9_slide_38 rfl
theorem fX9_slide_39 : ft 155 39 = some (.iconst 1, 0, 0, 0, .null) := by decide +kernel
theorem gX9_slide_39 {L : List (Option Value)} {st : List Value} {H : HP} {Q : Option Value → HP → Prop} : Go 155 39 L st H Q ↔ Go 155 40 L (vi 1 :: st) H Q := G_iconst fX9_slide_39
theorem fX9_slide_40 : ft 155 40 = some (.invokevirtual 89, 117, 0, 847, .null) := by decide +kernel
theorem gX9_slide_40 {L : List (Option Value)} {p : Nat} {a0 : Int32}  {H : HP} {Q : Option Value → HP → Prop} : Go 155 40 L (.int a0 :: .ref p :: []) H Q ↔ (iso 9 (hget H p) = true ∧ Go 117 0 [some (.ref p), some (.int a0)] [] H (Cont 155 43 L [] Q)) := G_cV (n := 1) (N := 2) (as := [.int a0]) (st := []) fX9_slide_40 (by decide +kernel) rfl (Nat.le_of_ble_eq_true rfl) (Nat.le_of_ble_eq_true rfl) rfl
theorem fX9_slide_43 : ft 155 43 = some (.ireturn, 0, 0, 0, .null) := by decide +kernel
theorem gX9_slide_43 {L : List (Option Value)} {u : Int32} {H : HP} {Q : Option Value → HP → Prop} : Go 155 43 L [.int u] H Q ↔ Q (some (.int u)) H := G_iret fX9_slide_43 (by decide +kernel)
theorem fX9_slide_44 : ft 155 44 = some (.aload_n 0, 0, 0, 0, .null) := by decide +kernel
theorem gX9_slide_44 {l1 l2 l3 l4 : Option Value} {u : Nat} {st : List Value} {H : HP} {Q : Option Value → HP → Prop} : Go 155 44 [some (.ref u), l1, l2, l3, l4] st H Q ↔ Go 155 45 [some (.ref u), l1, l2, l3, l4] (.ref u :: st) H Q := G_aload_n fX9_slide_44 rfl
theorem fX9_slide_45 : ft 155 45 = some (.iload_n 1, 0, 0, 0, .null) := by decide +kernel
theorem gX9_slide_45 {l0 l2 l3 l4 : Option Value} {u : Int32} {st : List Value} {H : HP} {Q : Option Value → HP → Prop} : Go 155 45 [l0, some (.int u), l2, l3, l4] st H Q ↔ Go 155 46 [l0, some (.int u), l2, l3, l4] (.int u :: st) H Q := G_iload_n fX9_slide_45 rfl
theorem fX9_slide_46 : ft 155 46 = some (.invokevirtual 97, 125, 0, 863, .null) := by decide +kernel
theorem gX9_slide_46 {L : List (Option Value)} {p : Nat} {a0 : Int32}  {H : HP} {Q : Option Value → HP → Prop} : Go 155 46 L (.int a0 :: .ref p :: []) H Q ↔ (iso 9 (hget H p) = true ∧ Go 125 0 [some (.ref p), some (.int a0)] [] H (Cont 155 49 L [] Q)) := G_cV (n := 1) (N := 2) (as := [.int a0]) (st := []) fX9_slide_46 (by decide +kernel) rfl (Nat.le_of_ble_eq_true rfl) (Nat.le_of_ble_eq_true rfl) rfl
theorem fX9_slide_49 : ft 155 49 = some (.iconst 4, 0, 0, 0, .null) := by decide +kernel
theorem gX9_slide_49 {L : List (Option Value)} {st : List Value} {H : HP} {Q : Option Value → HP → Prop} : Go 155 49 L st H Q ↔ Go 155 50 L (vi 4 :: st) H Q := G_iconst fX9_slide_49
theorem fX9_slide_50 : ft 155 50 = some (.if_icmp .ne 9, 0, 0, 0, .null) := by decide +kernel
theorem gX9_slide_50T {L : List (Option Value)} {a b : Int} (c : (-2147483648 ≤ a ∧ a ≤ 2147483647 ∧ -2147483648 ≤ b ∧ b ≤ 2147483647) ∧ ¬ a = b) {st : List Value} {H : HP} {Q : Option Value → HP → Prop} : Go 155 50 L (vi b :: vi a :: st) H Q ↔ Go 155 59 L st H Q := G_icT fX9_slide_50 (by decide) c
theorem gX9_slide_50F {L : List (Option Value)} {a b : Int} (c : (-2147483648 ≤ a ∧ a ≤ 2147483647 ∧ -2147483648 ≤ b ∧ b ≤ 2147483647) ∧ ¬ (¬ a = b)) {st : List Value} {H : HP} {Q : Option Value → HP → Prop} : Go 155 50 L (vi b :: vi a :: st) H Q ↔ Go 155 53 L st H Q := G_icF (tg := 59) fX9_slide_50 (by decide) c
theorem fX9_slide_53 : ft 155 53 = some (.aload_n 0, 0, 0, 0, .null) := by decide +kernel
theorem gX9_slide_53 {l1 l2 l3 l4 : Option Value} {u : Nat} {st : List Value} {H : HP} {Q : Option Value → HP → Prop} : Go 155 53 [some (.ref u), l1, l2, l3, l4] st H Q ↔ Go 155 54 [some (.ref u), l1, l2, l3, l4] (.ref u :: st) H Q := G_aload_n fX9_slide_53 rfl
theorem fX9_slide_54 : ft 155 54 = some (.iconst 2, 0, 0, 0, .null) := by decide +kernel
theorem gX9_slide_54 {L : List (Option Value)} {st : List Value} {H : HP} {Q : Option Value → HP → Prop} : Go 155 54 L st H Q ↔ Go 155 55 L (vi 2 :: st) H Q := G_iconst fX9_slide_54
theorem fX9_slide_55 : ft 155 55 = some (.invokevirtual 89, 117, 0, 847, .null) := by decide +kernel
theorem gX9_slide_55 {L : List (Option Value)} {p : Nat} {a0 : Int32}  {H : HP} {Q : Option Value → HP → Prop} : Go 155 55 L (.int a0 :: .ref p :: []) H Q ↔ (iso 9 (hget H p) = true ∧ Go 117 0 [some (.ref p), some (.int a0)] [] H (Cont 155 58 L [] Q)) := G_cV (n := 1) (N := 2) (as := [.int a0]) (st := []) fX9_slide_55 (by decide +kernel) rfl (Nat.le_of_ble_eq_true rfl) (Nat.le_of_ble_eq_true rfl) rfl
theorem fX9_slide_58 : ft 155 58 = some (.ireturn, 0, 0, 0, .null) := by decide +kernel
theorem gX9_slide_58 {L : List (Option Value)} {u : Int32} {H : HP} {Q : Option Value → HP → Prop} : Go 155 58 L [.int u] H Q ↔ Q (some (.int u)) H := G_iret fX9_slide_58 (by decide +kernel)
theorem fX9_slide_59 : ft 155 59 = some (.aload_n 0, 0, 0, 0, .null) := by decide +kernel
theorem gX9_slide_59 {l1 l2 l3 l4 : Option Value} {u : Nat} {st : List Value} {H : HP} {Q : Option Value → HP → Prop} : Go 155 59 [some (.ref u), l1, l2, l3, l4] st H Q ↔ Go 155 60 [some (.ref u), l1, l2, l3, l4] (.ref u :: st) H Q := G_aload_n fX9_slide_59 rfl
theorem fX9_slide_60 : ft 155 60 = some (.aload_n 0, 0, 0, 0, .null) := by decide +kernel
theorem gX9_slide_60 {l1 l2 l3 l4 : Option Value} {u : Nat} {st : List Value} {H : HP} {Q : Option Value → HP → Prop} : Go 155 60 [some (.ref u), l1, l2, l3, l4] st H Q ↔ Go 155 61 [some (.ref u), l1, l2, l3, l4] (.ref u :: st) H Q := G_aload_n fX9_slide_60 rfl
theorem fX9_slide_61 : ft 155 61 = some (.iload_n 1, 0, 0, 0, .null) := by decide +kernel
theorem gX9_slide_61 {l0 l2 l3 l4 : Option Value} {u : Int32} {st : List Value} {H : HP} {Q : Option Value → HP → Prop} : Go 155 61 [l0, some (.int u), l2, l3, l4] st H Q ↔ Go 155 62 [l0, some (.int u), l2, l3, l4] (.int u :: st) H Q := G_iload_n fX9_slide_61 rfl
theorem fX9_slide_62 : ft 155 62 = some (.invokevirtual 100, 124, 0, 867, .null) := by decide +kernel
theorem gX9_slide_62 {L : List (Option Value)} {p : Nat} {a0 : Int32} {r0 : Nat} {H : HP} {Q : Option Value → HP → Prop} : Go 155 62 L (.int a0 :: .ref p :: [.ref r0]) H Q ↔ (iso 9 (hget H p) = true ∧ Go 124 0 [some (.ref p), some (.int a0)] [] H (Cont 155 65 L [.ref r0] Q)) := G_cV (n := 1) (N := 2) (as := [.int a0]) (st := [.ref r0]) fX9_slide_62 (by decide +kernel) rfl (Nat.le_of_ble_eq_true rfl) (Nat.le_of_ble_eq_true rfl) rfl
theorem fX9_slide_65 : ft 155 65 = some (.iload_n 2, 0, 0, 0, .null) := by decide +kernel
theorem gX9_slide_65 {l0 l1 l3 l4 : Option Value} {u : Int32} {st : List Value} {H : HP} {Q : Option Value → HP → Prop} : Go 155 65 [l0, l1, some (.int u), l3, l4] st H Q ↔ Go 155 66 [l0, l1, some (.int u), l3, l4] (.int u :: st) H Q := G_iload_n fX9_slide_65 rfl
theorem fX9_slide_66 : ft 155 66 = some (.if_icmp .ge 7, 0, 0, 0, .null) := by decide +kernel
theorem gX9_slide_66T {L : List (Option Value)} {a b : Int} (c : (-2147483648 ≤ a ∧ a ≤ 2147483647 ∧ -2147483648 ≤ b ∧ b ≤ 2147483647) ∧ b ≤ a) {st : List Value} {H : HP} {Q : Option Value → HP → Prop} : Go 155 66 L (vi b :: vi a :: st) H Q ↔ Go 155 73 L st H Q := G_icT fX9_slide_66 (by decide) c
theorem gX9_slide_66F {L : List (Option Value)} {a b : Int} (c : (-2147483648 ≤ a ∧ a ≤ 2147483647 ∧ -2147483648 ≤ b ∧ b ≤ 2147483647) ∧ ¬ (b ≤ a)) {st : List Value} {H : HP} {Q : Option Value → HP → Prop} : Go 155 66 L (vi b :: vi a :: st) H Q ↔ Go 155 69 L st H Q := G_icF (tg := 73) fX9_slide_66 (by decide) c
theorem fX9_slide_69 : ft 155 69 = some (.iconst 0, 0, 0, 0, .null) := by decide +kernel
theorem gX9_slide_69 {L : List (Option Value)} {st : List Value} {H : HP} {Q : Option Value → HP → Prop} : Go 155 69 L st H Q ↔ Go 155 70 L (vi 0 :: st) H Q := G_iconst fX9_slide_69
theorem fX9_slide_70 : ft 155 70 = some (.goto 12, 0, 0, 0, .null) := by decide +kernel
theorem gX9_slide_70 {L : List (Option Value)} {st : List Value} {H : HP} {Q : Option Value → HP → Prop} : Go 155 70 L st H Q ↔ Go 155 82 L st H Q := G_goto fX9_slide_70 (by decide)
theorem fX9_slide_73 : ft 155 73 = some (.aload_n 0, 0, 0, 0, .null) := by decide +kernel
theorem gX9_slide_73 {l1 l2 l3 l4 : Option Value} {u : Nat} {st : List Value} {H : HP} {Q : Option Value → HP → Prop} : Go 155 73 [some (.ref u), l1, l2, l3, l4] st H Q ↔ Go 155 74 [some (.ref u), l1, l2, l3, l4] (.ref u :: st) H Q := G_aload_n fX9_slide_73 rfl
theorem fX9_slide_74 : ft 155 74 = some (.iload_n 1, 0, 0, 0, .null) := by decide +kernel
theorem gX9_slide_74 {l0 l2 l3 l4 : Option Value} {u : Int32} {st : List Value} {H : HP} {Q : Option Value → HP → Prop} : Go 155 74 [l0, some (.int u), l2, l3, l4] st H Q ↔ Go 155 75 [l0, some (.int u), l2, l3, l4] (.int u :: st) H Q := G_iload_n fX9_slide_74 rfl
theorem fX9_slide_75 : ft 155 75 = some (.invokevirtual 100, 124, 0, 867, .null) := by decide +kernel
theorem gX9_slide_75 {L : List (Option Value)} {p : Nat} {a0 : Int32} {r0 : Nat} {H : HP} {Q : Option Value → HP → Prop} : Go 155 75 L (.int a0 :: .ref p :: [.ref r0]) H Q ↔ (iso 9 (hget H p) = true ∧ Go 124 0 [some (.ref p), some (.int a0)] [] H (Cont 155 78 L [.ref r0] Q)) := G_cV (n := 1) (N := 2) (as := [.int a0]) (st := [.ref r0]) fX9_slide_75 (by decide +kernel) rfl (Nat.le_of_ble_eq_true rfl) (Nat.le_of_ble_eq_true rfl) rfl
theorem fX9_slide_78 : ft 155 78 = some (.iload_n 2, 0, 0, 0, .null) := by decide +kernel
theorem gX9_slide_78 {l0 l1 l3 l4 : Option Value} {u : Int32} {st : List Value} {H : HP} {Q : Option Value → HP → Prop} : Go 155 78 [l0, l1, some (.int u), l3, l4] st H Q ↔ Go 155 79 [l0, l1, some (.int u), l3, l4] (.int u :: st) H Q := G_iload_n fX9_slide_78 rfl
theorem fX9_slide_79 : ft 155 79 = some (.isub, 0, 0, 0, .null) := by decide +kernel
theorem gX9_slide_79 {L : List (Option Value)} {a b : Int} {st : List Value} {H : HP} {Q : Option Value → HP → Prop} : Go 155 79 L (vi b :: vi a :: st) H Q ↔ Go 155 80 L (vi (a - b) :: st) H Q := G_isub fX9_slide_79
theorem fX9_slide_80 : ft 155 80 = some (.iconst 1, 0, 0, 0, .null) := by decide +kernel
theorem gX9_slide_80 {L : List (Option Value)} {st : List Value} {H : HP} {Q : Option Value → HP → Prop} : Go 155 80 L st H Q ↔ Go 155 81 L (vi 1 :: st) H Q := G_iconst fX9_slide_80
theorem fX9_slide_81 : ft 155 81 = some (.iadd, 0, 0, 0, .null) := by decide +kernel
theorem gX9_slide_81 {L : List (Option Value)} {a b : Int} {st : List Value} {H : HP} {Q : Option Value → HP → Prop} : Go 155 81 L (vi b :: vi a :: st) H Q ↔ Go 155 82 L (vi (a + b) :: st) H Q := G_iadd fX9_slide_81
theorem fX9_slide_82 : ft 155 82 = some (.invokevirtual 175, 148, 0, 971, .null) := by decide +kernel
theorem gX9_slide_82 {L : List (Option Value)} {p : Nat} {a0 : Int32}  {H : HP} {Q : Option Value → HP → Prop} : Go 155 82 L (.int a0 :: .ref p :: []) H Q ↔ (iso 9 (hget H p) = true ∧ Go 148 0 [some (.ref p), some (.int a0), none] [] H (Cont 155 85 L [] Q)) := G_cV (n := 1) (N := 3) (as := [.int a0]) (st := []) fX9_slide_82 (by decide +kernel) rfl (Nat.le_of_ble_eq_true rfl) (Nat.le_of_ble_eq_true rfl) rfl
theorem fX9_slide_85 : ft 155 85 = some (.iconst 0, 0, 0, 0, .null) := by decide +kernel
theorem gX9_slide_85 {L : List (Option Value)} {st : List Value} {H : HP} {Q : Option Value → HP → Prop} : Go 155 85 L st H Q ↔ Go 155 86 L (vi 0 :: st) H Q := G_iconst fX9_slide_85
theorem fX9_slide_86 : ft 155 86 = some (.istore_n 3, 0, 0, 0, .null) := by decide +kernel
theorem gX9_slide_86 {l0 l1 l2 l3 l4 : Option Value} {u : Int32} {st : List Value} {H : HP} {Q : Option Value → HP → Prop} : Go 155 86 [l0, l1, l2, l3, l4] (.int u :: st) H Q ↔ Go 155 87 [l0, l1, l2, some (.int u), l4] st H Q := G_istore_n fX9_slide_86 rfl
theorem fX9_slide_87 : ft 155 87 = some (.iload_n 3, 0, 0, 0, .null) := by decide +kernel
theorem gX9_slide_87 {l0 l1 l2 l4 : Option Value} {u : Int32} {st : List Value} {H : HP} {Q : Option Value → HP → Prop} : Go 155 87 [l0, l1, l2, some (.int u), l4] st H Q ↔ Go 155 88 [l0, l1, l2, some (.int u), l4] (.int u :: st) H Q := G_iload_n fX9_slide_87 rfl
theorem fX9_slide_88 : ft 155 88 = some (.aload_n 0, 0, 0, 0, .null) := by decide +kernel
theorem gX9_slide_88 {l1 l2 l3 l4 : Option Value} {u : Nat} {st : List Value} {H : HP} {Q : Option Value → HP → Prop} : Go 155 88 [some (.ref u), l1, l2, l3, l4] st H Q ↔ Go 155 89 [some (.ref u), l1, l2, l3, l4] (.ref u :: st) H Q := G_aload_n fX9_slide_88 rfl
theorem fX9_slide_89 : ft 155 89 = some (.getfield 163, 9, 8, 762, .null) := by decide +kernel
theorem gX9_slide_89 {L : List (Option Value)} {p : Nat} {st : List Value} {H : HP} {Q : Option Value → HP → Prop} : Go 155 89 L (.ref p :: st) H Q ↔ Rd (gF' 9 8 (hget H p)) 155 92 L st H Q := G_getf fX9_slide_89 ⟨rfl, rfl⟩
theorem fX9_slide_92 : ft 155 92 = some (.if_icmp .ge 38, 0, 0, 0, .null) := by decide +kernel
theorem gX9_slide_92T {L : List (Option Value)} {a b : Int} (c : (-2147483648 ≤ a ∧ a ≤ 2147483647 ∧ -2147483648 ≤ b ∧ b ≤ 2147483647) ∧ b ≤ a) {st : List Value} {H : HP} {Q : Option Value → HP → Prop} : Go 155 92 L (vi b :: vi a :: st) H Q ↔ Go 155 130 L st H Q := G_icT fX9_slide_92 (by decide) c
theorem gX9_slide_92F {L : List (Option Value)} {a b : Int} (c : (-2147483648 ≤ a ∧ a ≤ 2147483647 ∧ -2147483648 ≤ b ∧ b ≤ 2147483647) ∧ ¬ (b ≤ a)) {st : List Value} {H : HP} {Q : Option Value → HP → Prop} : Go 155 92 L (vi b :: vi a :: st) H Q ↔ Go 155 95 L st H Q := G_icF (tg := 130) fX9_slide_92 (by decide) c
theorem fX9_slide_95 : ft 155 95 = some (.iconst 0, 0, 0, 0, .null) := by decide +kernel
theorem gX9_slide_95 {L : List (Option Value)} {st : List Value} {H : HP} {Q : Option Value → HP → Prop} : Go 155 95 L st H Q ↔ Go 155 96 L (vi 0 :: st) H Q := G_iconst fX9_slide_95
theorem fX9_slide_96 : ft 155 96 = some (.istore 4, 0, 0, 0, .null) := by decide +kernel
theorem gX9_slide_96 {l0 l1 l2 l3 l4 : Option Value} {u : Int32} {st : List Value} {H : HP} {Q : Option Value → HP → Prop} : Go 155 96 [l0, l1, l2, l3, l4] (.int u :: st) H Q ↔ Go 155 98 [l0, l1, l2, l3, some (.int u)] st H Q := G_istore fX9_slide_96 rfl
theorem fX9_slide_98 : ft 155 98 = some (.iload 4, 0, 0, 0, .null) := by decide +kernel
theorem gX9_slide_98 {l0 l1 l2 l3 : Option Value} {u : Int32} {st : List Value} {H : HP} {Q : Option Value → HP → Prop} : Go 155 98 [l0, l1, l2, l3, some (.int u)] st H Q ↔ Go 155 100 [l0, l1, l2, l3, some (.int u)] (.int u :: st) H Q := G_iload fX9_slide_98 rfl
theorem fX9_slide_100 : ft 155 100 = some (.iload_n 2, 0, 0, 0, .null) := by decide +kernel
theorem gX9_slide_100 {l0 l1 l3 l4 : Option Value} {u : Int32} {st : List Value} {H : HP} {Q : Option Value → HP → Prop} : Go 155 100 [l0, l1, some (.int u), l3, l4] st H Q ↔ Go 155 101 [l0, l1, some (.int u), l3, l4] (.int u :: st) H Q := G_iload_n fX9_slide_100 rfl
theorem fX9_slide_101 : ft 155 101 = some (.if_icmp .ge 23, 0, 0, 0, .null) := by decide +kernel
theorem gX9_slide_101T {L : List (Option Value)} {a b : Int} (c : (-2147483648 ≤ a ∧ a ≤ 2147483647 ∧ -2147483648 ≤ b ∧ b ≤ 2147483647) ∧ b ≤ a) {st : List Value} {H : HP} {Q : Option Value → HP → Prop} : Go 155 101 L (vi b :: vi a :: st) H Q ↔ Go 155 124 L st H Q := G_icT fX9_slide_101 (by decide) c
theorem gX9_slide_101F {L : List (Option Value)} {a b : Int} (c : (-2147483648 ≤ a ∧ a ≤ 2147483647 ∧ -2147483648 ≤ b ∧ b ≤ 2147483647) ∧ ¬ (b ≤ a)) {st : List Value} {H : HP} {Q : Option Value → HP → Prop} : Go 155 101 L (vi b :: vi a :: st) H Q ↔ Go 155 104 L st H Q := G_icF (tg := 124) fX9_slide_101 (by decide) c
theorem fX9_slide_104 : ft 155 104 = some (.aload_n 0, 0, 0, 0, .null) := by decide +kernel
theorem gX9_slide_104 {l1 l2 l3 l4 : Option Value} {u : Nat} {st : List Value} {H : HP} {Q : Option Value → HP → Prop} : Go 155 104 [some (.ref u), l1, l2, l3, l4] st H Q ↔ Go 155 105 [some (.ref u), l1, l2, l3, l4] (.ref u :: st) H Q := G_aload_n fX9_slide_104 rfl
theorem fX9_slide_105 : ft 155 105 = some (.iload_n 3, 0, 0, 0, .null) := by decide +kernel
theorem gX9_slide_105 {l0 l1 l2 l4 : Option Value} {u : Int32} {st : List Value} {H : HP} {Q : Option Value → HP → Prop} : Go 155 105 [l0, l1, l2, some (.int u), l4] st H Q ↔ Go 155 106 [l0, l1, l2, some (.int u), l4] (.int u :: st) H Q := G_iload_n fX9_slide_105 rfl
theorem fX9_slide_106 : ft 155 106 = some (.aload_n 0, 0, 0, 0, .null) := by decide +kernel
theorem gX9_slide_106 {l1 l2 l3 l4 : Option Value} {u : Nat} {st : List Value} {H : HP} {Q : Option Value → HP → Prop} : Go 155 106 [some (.ref u), l1, l2, l3, l4] st H Q ↔ Go 155 107 [some (.ref u), l1, l2, l3, l4] (.ref u :: st) H Q := G_aload_n fX9_slide_106 rfl
theorem fX9_slide_107 : ft 155 107 = some (.iload_n 1, 0, 0, 0, .null) := by decide +kernel
theorem gX9_slide_107 {l0 l2 l3 l4 : Option Value} {u : Int32} {st : List Value} {H : HP} {Q : Option Value → HP → Prop} : Go 155 107 [l0, some (.int u), l2, l3, l4] st H Q ↔ Go 155 108 [l0, some (.int u), l2, l3, l4] (.int u :: st) H Q := G_iload_n fX9_slide_107 rfl
theorem fX9_slide_108 : ft 155 108 = some (.iload_n 3, 0, 0, 0, .null) := by decide +kernel
theorem gX9_slide_108 {l0 l1 l2 l4 : Option Value} {u : Int32} {st : List Value} {H : HP} {Q : Option Value → HP → Prop} : Go 155 108 [l0, l1, l2, some (.int u), l4] st H Q ↔ Go 155 109 [l0, l1, l2, some (.int u), l4] (.int u :: st) H Q := G_iload_n fX9_slide_108 rfl
theorem fX9_slide_109 : ft 155 109 = some (.iload 4, 0, 0, 0, .null) := by decide +kernel
theorem gX9_slide_109 {l0 l1 l2 l3 : Option Value} {u : Int32} {st : List Value} {H : HP} {Q : Option Value → HP → Prop} : Go 155 109 [l0, l1, l2, l3, some (.int u)] st H Q ↔ Go 155 111 [l0, l1, l2, l3, some (.int u)] (.int u :: st) H Q := G_iload fX9_slide_109 rfl
theorem fX9_slide_111 : ft 155 111 = some (.iadd, 0, 0, 0, .null) := by decide +kernel
theorem gX9_slide_111 {L : List (Option Value)} {a b : Int} {st : List Value} {H : HP} {Q : Option Value → HP → Prop} : Go 155 111 L (vi b :: vi a :: st) H Q ↔ Go 155 112 L (vi (a + b) :: st) H Q := G_iadd fX9_slide_111
theorem fX9_slide_112 : ft 155 112 = some (.invokevirtual 117, 123, 0, 888, .null) := by decide +kernel
theorem gX9_slide_112 {L : List (Option Value)} {p : Nat} {a0 : Int32} {a1 : Int32} {r0 : Int32} {r1 : Nat} {H : HP} {Q : Option Value → HP → Prop} : Go 155 112 L (.int a1 :: .int a0 :: .ref p :: [.int r0, .ref r1]) H Q ↔ (iso 9 (hget H p) = true ∧ Go 123 0 [some (.ref p), some (.int a0), some (.int a1)] [] H (Cont 155 115 L [.int r0, .ref r1] Q)) := G_cV (n := 2) (N := 3) (as := [.int a1, .int a0]) (st := [.int r0, .ref r1]) fX9_slide_112 (by decide +kernel) rfl (Nat.le_of_ble_eq_true rfl) (Nat.le_of_ble_eq_true rfl) rfl
theorem fX9_slide_115 : ft 155 115 = some (.invokevirtual 178, 149, 0, 975, .null) := by decide +kernel
theorem gX9_slide_115 {L : List (Option Value)} {p : Nat} {a0 : Int32} {a1 : Int64}  {H : HP} {Q : Option Value → HP → Prop} : Go 155 115 L (.long a1 :: .int a0 :: .ref p :: []) H Q ↔ (iso 9 (hget H p) = true ∧ Go 149 0 [some (.ref p), some (.int a0), some (.long a1), none, none, none] [] H (Cont 155 118 L [] Q)) := G_cV (n := 2) (N := 6) (as := [.long a1, .int a0]) (st := []) fX9_slide_115 (by decide +kernel) rfl (Nat.le_of_ble_eq_true rfl) (Nat.le_of_ble_eq_true rfl) rfl
theorem fX9_slide_118 : ft 155 118 = some (.iinc 4 1, 0, 0, 0, .null) := by decide +kernel
theorem gX9_slide_118 {l0 l1 l2 l3 : Option Value} {a : Int} {st : List Value} {H : HP} {Q : Option Value → HP → Prop} : Go 155 118 [l0, l1, l2, l3, some (vi a)] st H Q ↔ Go 155 121 [l0, l1, l2, l3, some (vi (a + 1))] st H Q := G_iinc fX9_slide_118 rfl rfl
theorem fX9_slide_121 : ft 155 121 = some (.goto (-23), 0, 0, 0, .null) := by decide +kernel
theorem gX9_slide_121 {L : List (Option Value)} {st : List Value} {H : HP} {Q : Option Value → HP → Prop} : Go 155 121 L st H Q ↔ Go 155 98 L st H Q := G_goto fX9_slide_121 (by decide)
theorem fX9_slide_124 : ft 155 124 = some (.iinc 3 1, 0, 0, 0, .null) := by decide +kernel
theorem gX9_slide_124 {l0 l1 l2 l4 : Option Value} {a : Int} {st : List Value} {H : HP} {Q : Option Value → HP → Prop} : Go 155 124 [l0, l1, l2, some (vi a), l4] st H Q ↔ Go 155 127 [l0, l1, l2, some (vi (a + 1)), l4] st H Q := G_iinc fX9_slide_124 rfl rfl
theorem fX9_slide_127 : ft 155 127 = some (.goto (-40), 0, 0, 0, .null) := by decide +kernel
theorem gX9_slide_127 {L : List (Option Value)} {st : List Value} {H : HP} {Q : Option Value → HP → Prop} : Go 155 127 L st H Q ↔ Go 155 87 L st H Q := G_goto fX9_slide_127 (by decide)
theorem fX9_slide_130 : ft 155 130 = some (.aload_n 0, 0, 0, 0, .null) := by decide +kernel
theorem gX9_slide_130 {l1 l2 l3 l4 : Option Value} {u : Nat} {st : List Value} {H : HP} {Q : Option Value → HP → Prop} : Go 155 130 [some (.ref u), l1, l2, l3, l4] st H Q ↔ Go 155 131 [some (.ref u), l1, l2, l3, l4] (.ref u :: st) H Q := G_aload_n fX9_slide_130 rfl
theorem fX9_slide_131 : ft 155 131 = some (.getfield 163, 9, 8, 762, .null) := by decide +kernel
theorem gX9_slide_131 {L : List (Option Value)} {p : Nat} {st : List Value} {H : HP} {Q : Option Value → HP → Prop} : Go 155 131 L (.ref p :: st) H Q ↔ Rd (gF' 9 8 (hget H p)) 155 134 L st H Q := G_getf fX9_slide_131 ⟨rfl, rfl⟩
theorem fX9_slide_134 : ft 155 134 = some (.ireturn, 0, 0, 0, .null) := by decide +kernel
theorem gX9_slide_134 {L : List (Option Value)} {u : Int32} {H : HP} {Q : Option Value → HP → Prop} : Go 155 134 L [.int u] H Q ↔ Q (some (.int u)) H := G_iret fX9_slide_134 (by decide +kernel)
theorem fX9_high_0 : ft 156 0 = some (.iload_n 1, 0, 0, 0, .null) := by decide +kernel
theorem gX9_high_0 {l0 : Option Value} {u : Int32} {st : List Value} {H : HP} {Q : Option Value → HP → Prop} : Go 156 0 [l0, some (.int u)] st H Q ↔ Go 156 1 [l0, some (.int u)] (.int u :: st) H Q := G_iload_n fX9_high_0 rfl
theorem fX9_high_1 : ft 156 1 = some (.ifCond .lt 20, 0, 0, 0, .null) := by decide +kernel
theorem gX9_high_1T {L : List (Option Value)} {a : Int} (c : (-2147483648 ≤ a ∧ a ≤ 2147483647) ∧ a < 0) {st : List Value} {H : HP} {Q : Option Value → HP → Prop} : Go 156 1 L (vi a :: st) H Q ↔ Go 156 21 L st H Q := G_ifT fX9_high_1 (by decide) c
theorem gX9_high_1F {L : List (Option Value)} {a : Int} (c : (-2147483648 ≤ a ∧ a ≤ 2147483647) ∧ ¬ (a < 0)) {st : List Value} {H : HP} {Q : Option Value → HP → Prop} : Go 156 1 L (vi a :: st) H Q ↔ Go 156 4 L st H Q := G_ifF (tg := 21) fX9_high_1 (by decide) c
theorem fX9_high_4 : ft 156 4 = some (.iload_n 1, 0, 0, 0, .null) := by decide +kernel
theorem gX9_high_4 {l0 : Option Value} {u : Int32} {st : List Value} {H : HP} {Q : Option Value → HP → Prop} : Go 156 4 [l0, some (.int u)] st H Q ↔ Go 156 5 [l0, some (.int u)] (.int u :: st) H Q := G_iload_n fX9_high_4 rfl
theorem fX9_high_5 : ft 156 5 = some (.aload_n 0, 0, 0, 0, .null) := by decide +kernel
theorem gX9_high_5 {l1 : Option Value} {u : Nat} {st : List Value} {H : HP} {Q : Option Value → HP → Prop} : Go 156 5 [some (.ref u), l1] st H Q ↔ Go 156 6 [some (.ref u), l1] (.ref u :: st) H Q := G_aload_n fX9_high_5 rfl
theorem fX9_high_6 : ft 156 6 = some (.getfield 163, 9, 8, 762, .null) := by decide +kernel
theorem gX9_high_6 {L : List (Option Value)} {p : Nat} {st : List Value} {H : HP} {Q : Option Value → HP → Prop} : Go 156 6 L (.ref p :: st) H Q ↔ Rd (gF' 9 8 (hget H p)) 156 9 L st H Q := G_getf fX9_high_6 ⟨rfl, rfl⟩
theorem fX9_high_9 : ft 156 9 = some (.if_icmp .ge 12, 0, 0, 0, .null) := by decide +kernel
theorem gX9_high_9T {L : List (Option Value)} {a b : Int} (c : (-2147483648 ≤ a ∧ a ≤ 2147483647 ∧ -2147483648 ≤ b ∧ b ≤ 2147483647) ∧ b ≤ a) {st : List Value} {H : HP} {Q : Option Value → HP → Prop} : Go 156 9 L (vi b :: vi a :: st) H Q ↔ Go 156 21 L st H Q := G_icT fX9_high_9 (by decide) c
theorem gX9_high_9F {L : List (Option Value)} {a b : Int} (c : (-2147483648 ≤ a ∧ a ≤ 2147483647 ∧ -2147483648 ≤ b ∧ b ≤ 2147483647) ∧ ¬ (b ≤ a)) {st : List Value} {H : HP} {Q : Option Value → HP → Prop} : Go 156 9 L (vi b :: vi a :: st) H Q ↔ Go 156 12 L st H Q := G_icF (tg := 21) fX9_high_9 (by decide) c
theorem fX9_high_12 : ft 156 12 = some (.aload_n 0, 0, 0, 0, .null) := by decide +kernel
theorem gX9_high_12 {l1 : Option Value} {u : Nat} {st : List Value} {H : HP} {Q : Option Value → HP → Prop} : Go 156 12 [some (.ref u), l1] st H Q ↔ Go 156 13 [some (.ref u), l1] (.ref u :: st) H Q := G_aload_n fX9_high_12 rfl
theorem fX9_high_13 : ft 156 13 = some (.getfield 30, 9, 9, 763, .null) := by decide +kernel
theorem gX9_high_13 {L : List (Option Value)} {p : Nat} {st : List Value} {H : HP} {Q : Option Value → HP → Prop} : Go 156 13 L (.ref p :: st) H Q ↔ Rd (gF' 9 9 (hget H p)) 156 16 L st H Q := G_getf fX9_high_13 ⟨rfl, rfl⟩
theorem fX9_high_16 : ft 156 16 = some (.iload_n 1, 0, 0, 0, .null) := by decide +kernel
theorem gX9_high_16 {l0 : Option Value} {u : Int32} {st : List Value} {H : HP} {Q : Option Value → HP → Prop} : Go 156 16 [l0, some (.int u)] st H Q ↔ Go 156 17 [l0, some (.int u)] (.int u :: st) H Q := G_iload_n fX9_high_16 rfl
theorem fX9_high_17 : ft 156 17 = some (.laload, 0, 0, 0, .null) := by decide +kernel
theorem gX9_high_17 {L : List (Option Value)} {p : Nat} {a : Int} {st : List Value} {H : HP} {Q : Option Value → HP → Prop} : Go 156 17 L (vi a :: .ref p :: st) H Q ↔ Rd (aL' (hget H p) a) 156 18 L st H Q := G_lald fX9_high_17
theorem fX9_high_18 : ft 156 18 = some (.goto 4, 0, 0, 0, .null) := by decide +kernel
theorem gX9_high_18 {L : List (Option Value)} {st : List Value} {H : HP} {Q : Option Value → HP → Prop} : Go 156 18 L st H Q ↔ Go 156 22 L st H Q := G_goto fX9_high_18 (by decide)
theorem fX9_high_21 : ft 156 21 = some (.lconst 0, 0, 0, 0, .null) := by decide +kernel
theorem gX9_high_21 {L : List (Option Value)} {st : List Value} {H : HP} {Q : Option Value → HP → Prop} : Go 156 21 L st H Q ↔ Go 156 22 L (vl 0 :: st) H Q := G_lconst fX9_high_21 (by decide)
theorem fX9_high_22 : ft 156 22 = some (.lreturn, 0, 0, 0, .null) := by decide +kernel
theorem gX9_high_22 {L : List (Option Value)} {u : Int64} {H : HP} {Q : Option Value → HP → Prop} : Go 156 22 L [.long u] H Q ↔ Q (some (.long u)) H := G_lret fX9_high_22 (by decide +kernel)
theorem fX9_low_0 : ft 157 0 = some (.iload_n 1, 0, 0, 0, .null) := by decide +kernel
theorem gX9_low_0 {l0 : Option Value} {u : Int32} {st : List Value} {H : HP} {Q : Option Value → HP → Prop} : Go 157 0 [l0, some (.int u)] st H Q ↔ Go 157 1 [l0, some (.int u)] (.int u :: st) H Q := G_iload_n fX9_low_0 rfl
theorem fX9_low_1 : ft 157 1 = some (.ifCond .lt 20, 0, 0, 0, .null) := by decide +kernel
theorem gX9_low_1T {L : List (Option Value)} {a : Int} (c : (-2147483648 ≤ a ∧ a ≤ 2147483647) ∧ a < 0) {st : List Value} {H : HP} {Q : Option Value → HP → Prop} : Go 157 1 L (vi a :: st) H Q ↔ Go 157 21 L st H Q := G_ifT fX9_low_1 (by decide) c
theorem gX9_low_1F {L : List (Option Value)} {a : Int} (c : (-2147483648 ≤ a ∧ a ≤ 2147483647) ∧ ¬ (a < 0)) {st : List Value} {H : HP} {Q : Option Value → HP → Prop} : Go 157 1 L (vi a :: st) H Q ↔ Go 157 4 L st H Q := G_ifF (tg := 21) fX9_low_1 (by decide) c
theorem fX9_low_4 : ft 157 4 = some (.iload_n 1, 0, 0, 0, .null) := by decide +kernel
theorem gX9_low_4 {l0 : Option Value} {u : Int32} {st : List Value} {H : HP} {Q : Option Value → HP → Prop} : Go 157 4 [l0, some (.int u)] st H Q ↔ Go 157 5 [l0, some (.int u)] (.int u :: st) H Q := G_iload_n fX9_low_4 rfl
theorem fX9_low_5 : ft 157 5 = some (.aload_n 0, 0, 0, 0, .null) := by decide +kernel
theorem gX9_low_5 {l1 : Option Value} {u : Nat} {st : List Value} {H : HP} {Q : Option Value → HP → Prop} : Go 157 5 [some (.ref u), l1] st H Q ↔ Go 157 6 [some (.ref u), l1] (.ref u :: st) H Q := G_aload_n fX9_low_5 rfl
theorem fX9_low_6 : ft 157 6 = some (.getfield 163, 9, 8, 762, .null) := by decide +kernel
theorem gX9_low_6 {L : List (Option Value)} {p : Nat} {st : List Value} {H : HP} {Q : Option Value → HP → Prop} : Go 157 6 L (.ref p :: st) H Q ↔ Rd (gF' 9 8 (hget H p)) 157 9 L st H Q := G_getf fX9_low_6 ⟨rfl, rfl⟩
theorem fX9_low_9 : ft 157 9 = some (.if_icmp .ge 12, 0, 0, 0, .null) := by decide +kernel
theorem gX9_low_9T {L : List (Option Value)} {a b : Int} (c : (-2147483648 ≤ a ∧ a ≤ 2147483647 ∧ -2147483648 ≤ b ∧ b ≤ 2147483647) ∧ b ≤ a) {st : List Value} {H : HP} {Q : Option Value → HP → Prop} : Go 157 9 L (vi b :: vi a :: st) H Q ↔ Go 157 21 L st H Q := G_icT fX9_low_9 (by decide) c
theorem gX9_low_9F {L : List (Option Value)} {a b : Int} (c : (-2147483648 ≤ a ∧ a ≤ 2147483647 ∧ -2147483648 ≤ b ∧ b ≤ 2147483647) ∧ ¬ (b ≤ a)) {st : List Value} {H : HP} {Q : Option Value → HP → Prop} : Go 157 9 L (vi b :: vi a :: st) H Q ↔ Go 157 12 L st H Q := G_icF (tg := 21) fX9_low_9 (by decide) c
theorem fX9_low_12 : ft 157 12 = some (.aload_n 0, 0, 0, 0, .null) := by decide +kernel
theorem gX9_low_12 {l1 : Option Value} {u : Nat} {st : List Value} {H : HP} {Q : Option Value → HP → Prop} : Go 157 12 [some (.ref u), l1] st H Q ↔ Go 157 13 [some (.ref u), l1] (.ref u :: st) H Q := G_aload_n fX9_low_12 rfl
theorem fX9_low_13 : ft 157 13 = some (.getfield 33, 9, 10, 764, .null) := by decide +kernel
theorem gX9_low_13 {L : List (Option Value)} {p : Nat} {st : List Value} {H : HP} {Q : Option Value → HP → Prop} : Go 157 13 L (.ref p :: st) H Q ↔ Rd (gF' 9 10 (hget H p)) 157 16 L st H Q := G_getf fX9_low_13 ⟨rfl, rfl⟩
theorem fX9_low_16 : ft 157 16 = some (.iload_n 1, 0, 0, 0, .null) := by decide +kernel
theorem gX9_low_16 {l0 : Option Value} {u : Int32} {st : List Value} {H : HP} {Q : Option Value → HP → Prop} : Go 157 16 [l0, some (.int u)] st H Q ↔ Go 157 17 [l0, some (.int u)] (.int u :: st) H Q := G_iload_n fX9_low_16 rfl
theorem fX9_low_17 : ft 157 17 = some (.laload, 0, 0, 0, .null) := by decide +kernel
theorem gX9_low_17 {L : List (Option Value)} {p : Nat} {a : Int} {st : List Value} {H : HP} {Q : Option Value → HP → Prop} : Go 157 17 L (vi a :: .ref p :: st) H Q ↔ Rd (aL' (hget H p) a) 157 18 L st H Q := G_lald fX9_low_17
theorem fX9_low_18 : ft 157 18 = some (.goto 4, 0, 0, 0, .null) := by decide +kernel
theorem gX9_low_18 {L : List (Option Value)} {st : List Value} {H : HP} {Q : Option Value → HP → Prop} : Go 157 18 L st H Q ↔ Go 157 22 L st H Q := G_goto fX9_low_18 (by decide)
theorem fX9_low_21 : ft 157 21 = some (.lconst 0, 0, 0, 0, .null) := by decide +kernel
theorem gX9_low_21 {L : List (Option Value)} {st : List Value} {H : HP} {Q : Option Value → HP → Prop} : Go 157 21 L st H Q ↔ Go 157 22 L (vl 0 :: st) H Q := G_lconst fX9_low_21 (by decide)
theorem fX9_low_22 : ft 157 22 = some (.lreturn, 0, 0, 0, .null) := by decide +kernel
theorem gX9_low_22 {L : List (Option Value)} {u : Int64} {H : HP} {Q : Option Value → HP → Prop} : Go 157 22 L [.long u] H Q ↔ Q (some (.long u)) H := G_lret fX9_low_22 (by decide +kernel)
theorem fX9_carry_0 : ft 158 0 = some (.iload_n 1, 0, 0, 0, .null) := by decide +kernel
theorem gX9_carry_0 {l0 l2 l3 l4 l5 l6 l7 l8 l9 l10 l11 l12 l13 : Option Value} {u : Int32} {st : List Value} {H : HP} {Q : Option Value → HP → Prop} : Go 158 0 [l0, some (.int u), l2, l3, l4, l5, l6, l7, l8, l9, l10, l11, l12, l13] st H Q ↔ Go 158 1 [l0, some (.int u), l2, l3, l4, l5, l6, l7, l8, l9, l10, l11, l12, l13] (.int u :: st) H Q := G_iload_n fX9_carry_0 rfl
theorem fX9_carry_1 : ft 158 1 = some (.invokestatic 85, 119, 0, 841, .null) := by decide +kernel
theorem gX9_carry_1 {L : List (Option Value)} {a0 : Int32}  {H : HP} {Q : Option Value → HP → Prop} : Go 158 1 L (.int a0 :: []) H Q ↔ Go 119 0 [some (.int a0)] [] H (Cont 158 4 L [] Q) := G_cS (n := 1) (N := 1) (as := [.int a0]) (st := []) fX9_carry_1 (by decide +kernel) rfl (Nat.le_of_ble_eq_true rfl) (Nat.le_of_ble_eq_true rfl) rfl
theorem fX9_carry_4 : ft 158 4 = some (.ifCond .ne 5, 0, 0, 0, .null) := by decide +kernel
theorem gX9_carry_4T {L : List (Option Value)} {a : Int} (c : (-2147483648 ≤ a ∧ a ≤ 2147483647) ∧ ¬ a = 0) {st : List Value} {H : HP} {Q : Option Value → HP → Prop} : Go 158 4 L (vi a :: st) H Q ↔ Go 158 9 L st H Q := G_ifT fX9_carry_4 (by decide) c
theorem gX9_carry_4F {L : List (Option Value)} {a : Int} (c : (-2147483648 ≤ a ∧ a ≤ 2147483647) ∧ ¬ (¬ a = 0)) {st : List Value} {H : HP} {Q : Option Value → HP → Prop} : Go 158 4 L (vi a :: st) H Q ↔ Go 158 7 L st H Q := G_ifF (tg := 9) fX9_carry_4 (by decide) c
theorem fX9_carry_7 : ft 158 7 = some (.iconst (-1), 0, 0, 0, .null) := by decide +kernel
theorem gX9_carry_7 {L : List (Option Value)} {st : List Value} {H : HP} {Q : Option Value → HP → Prop} : Go 158 7 L st H Q ↔ Go 158 8 L (vi (-1) :: st) H Q := G_iconst fX9_carry_7
theorem fX9_carry_8 : ft 158 8 = some (.ireturn, 0, 0, 0, .null) := by decide +kernel
theorem gX9_carry_8 {L : List (Option Value)} {u : Int32} {H : HP} {Q : Option Value → HP → Prop} : Go 158 8 L [.int u] H Q ↔ Q (some (.int u)) H := G_iret fX9_carry_8 (by decide +kernel)
theorem fX9_carry_9 : ft 158 9 = some (.iload_n 2, 0, 0, 0, .null) := by decide +kernel
theorem gX9_carry_9 {l0 l1 l3 l4 l5 l6 l7 l8 l9 l10 l11 l12 l13 : Option Value} {u : Int32} {st : List Value} {H : HP} {Q : Option Value → HP → Prop} : Go 158 9 [l0, l1, some (.int u), l3, l4, l5, l6, l7, l8, l9, l10, l11, l12, l13] st H Q ↔ Go 158 10 [l0, l1, some (.int u), l3, l4, l5, l6, l7, l8, l9, l10, l11, l12, l13] (.int u :: st) H Q := G_iload_n fX9_carry_9 rfl
theorem fX9_carry_10 : ft 158 10 = some (.iconst 2, 0, 0, 0, .null) := by decide +kernel
theorem gX9_carry_10 {L : List (Option Value)} {st : List Value} {H : HP} {Q : Option Value → HP → Prop} : Go 158 10 L st H Q ↔ Go 158 11 L (vi 2 :: st) H Q := G_iconst fX9_carry_10
theorem fX9_carry_11 : ft 158 11 = some (.sipush 10000, 0, 0, 0, .null) := by decide +kernel
theorem gX9_carry_11 {L : List (Option Value)} {st : List Value} {H : HP} {Q : Option Value → HP → Prop} : Go 158 11 L st H Q ↔ Go 158 14 L (vi 10000 :: st) H Q := G_sipush fX9_carry_11 (by decide)
theorem fX9_carry_14 : ft 158 14 = some (.invokestatic 75, 118, 0, 844, .null) := by decide +kernel
theorem gX9_carry_14 {L : List (Option Value)} {a0 : Int32} {a1 : Int32} {a2 : Int32}  {H : HP} {Q : Option Value → HP → Prop} : Go 158 14 L (.int a2 :: .int a1 :: .int a0 :: []) H Q ↔ Go 118 0 [some (.int a0), some (.int a1), some (.int a2)] [] H (Cont 158 17 L [] Q) := G_cS (n := 3) (N := 3) (as := [.int a2, .int a1, .int a0]) (st := []) fX9_carry_14 (by decide +kernel) rfl (Nat.le_of_ble_eq_true rfl) (Nat.le_of_ble_eq_true rfl) rfl
theorem fX9_carry_17 : ft 158 17 = some (.ifCond .ne 6, 0, 0, 0, .null) := by decide +kernel
theorem gX9_carry_17T {L : List (Option Value)} {a : Int} (c : (-2147483648 ≤ a ∧ a ≤ 2147483647) ∧ ¬ a = 0) {st : List Value} {H : HP} {Q : Option Value → HP → Prop} : Go 158 17 L (vi a :: st) H Q ↔ Go 158 23 L st H Q := G_ifT fX9_carry_17 (by decide) c
theorem gX9_carry_17F {L : List (Option Value)} {a : Int} (c : (-2147483648 ≤ a ∧ a ≤ 2147483647) ∧ ¬ (¬ a = 0)) {st : List Value} {H : HP} {Q : Option Value → HP → Prop} : Go 158 17 L (vi a :: st) H Q ↔ Go 158 20 L st H Q := G_ifF (tg := 23) fX9_carry_17 (by decide) c
theorem fX9_carry_20 : ft 158 20 = some (.bipush (-2), 0, 0, 0, .null) := by decide +kernel
theorem gX9_carry_20 {L : List (Option Value)} {st : List Value} {H : HP} {Q : Option Value → HP → Prop} : Go 158 20 L st H Q ↔ Go 158 22 L (vi (-2) :: st) H Q := G_bipush fX9_carry_20 (by decide)
theorem fX9_carry_22 : ft 158 22 = some (.ireturn, 0, 0, 0, .null) := by decide +kernel
theorem gX9_carry_22 {L : List (Option Value)} {u : Int32} {H : HP} {Q : Option Value → HP → Prop} : Go 158 22 L [.int u] H Q ↔ Q (some (.int u)) H := G_iret fX9_carry_22 (by decide +kernel)
theorem fX9_carry_23 : ft 158 23 = some (.aload_n 0, 0, 0, 0, .null) := by decide +kernel
theorem gX9_carry_23 {l1 l2 l3 l4 l5 l6 l7 l8 l9 l10 l11 l12 l13 : Option Value} {u : Nat} {st : List Value} {H : HP} {Q : Option Value → HP → Prop} : Go 158 23 [some (.ref u), l1, l2, l3, l4, l5, l6, l7, l8, l9, l10, l11, l12, l13] st H Q ↔ Go 158 24 [some (.ref u), l1, l2, l3, l4, l5, l6, l7, l8, l9, l10, l11, l12, l13] (.ref u :: st) H Q := G_aload_n fX9_carry_23 rfl
theorem fX9_carry_24 : ft 158 24 = some (.getfield 163, 9, 8, 762, .null) := by decide +kernel
theorem gX9_carry_24 {L : List (Option Value)} {p : Nat} {st : List Value} {H : HP} {Q : Option Value → HP → Prop} : Go 158 24 L (.ref p :: st) H Q ↔ Rd (gF' 9 8 (hget H p)) 158 27 L st H Q := G_getf fX9_carry_24 ⟨rfl, rfl⟩
theorem fX9_carry_27 : ft 158 27 = some (.ifCond .le 7, 0, 0, 0, .null) := by decide +kernel
theorem gX9_carry_27T {L : List (Option Value)} {a : Int} (c : (-2147483648 ≤ a ∧ a ≤ 2147483647) ∧ a ≤ 0) {st : List Value} {H : HP} {Q : Option Value → HP → Prop} : Go 158 27 L (vi a :: st) H Q ↔ Go 158 34 L st H Q := G_ifT fX9_carry_27 (by decide) c
theorem gX9_carry_27F {L : List (Option Value)} {a : Int} (c : (-2147483648 ≤ a ∧ a ≤ 2147483647) ∧ ¬ (a ≤ 0)) {st : List Value} {H : HP} {Q : Option Value → HP → Prop} : Go 158 27 L (vi a :: st) H Q ↔ Go 158 30 L st H Q := G_ifF (tg := 34) fX9_carry_27 (by decide) c
theorem fX9_carry_30 : ft 158 30 = some (.iconst 1, 0, 0, 0, .null) := by decide +kernel
theorem gX9_carry_30 {L : List (Option Value)} {st : List Value} {H : HP} {Q : Option Value → HP → Prop} : Go 158 30 L st H Q ↔ Go 158 31 L (vi 1 :: st) H Q := G_iconst fX9_carry_30
theorem fX9_carry_31 : ft 158 31 = some (.goto 4, 0, 0, 0, .null) := by decide +kernel
theorem gX9_carry_31 {L : List (Option Value)} {st : List Value} {H : HP} {Q : Option Value → HP → Prop} : Go 158 31 L st H Q ↔ Go 158 35 L st H Q := G_goto fX9_carry_31 (by decide)
theorem fX9_carry_34 : ft 158 34 = some (.iconst 0, 0, 0, 0, .null) := by decide +kernel
theorem gX9_carry_34 {L : List (Option Value)} {st : List Value} {H : HP} {Q : Option Value → HP → Prop} : Go 158 34 L st H Q ↔ Go 158 35 L (vi 0 :: st) H Q := G_iconst fX9_carry_34
theorem fX9_carry_35 : ft 158 35 = some (.istore_n 3, 0, 0, 0, .null) := by decide +kernel
theorem gX9_carry_35 {l0 l1 l2 l3 l4 l5 l6 l7 l8 l9 l10 l11 l12 l13 : Option Value} {u : Int32} {st : List Value} {H : HP} {Q : Option Value → HP → Prop} : Go 158 35 [l0, l1, l2, l3, l4, l5, l6, l7, l8, l9, l10, l11, l12, l13] (.int u :: st) H Q ↔ Go 158 36 [l0, l1, l2, some (.int u), l4, l5, l6, l7, l8, l9, l10, l11, l12, l13] st H Q := G_istore_n fX9_carry_35 rfl
theorem fX9_carry_36 : ft 158 36 = some (.iconst 0, 0, 0, 0, .null) := by decide +kernel
theorem gX9_carry_36 {L : List (Option Value)} {st : List Value} {H : HP} {Q : Option Value → HP → Prop} : Go 158 36 L st H Q ↔ Go 158 37 L (vi 0 :: st) H Q := G_iconst fX9_carry_36
theorem fX9_carry_37 : ft 158 37 = some (.istore 4, 0, 0, 0, .null) := by decide +kernel
theorem gX9_carry_37 {l0 l1 l2 l3 l4 l5 l6 l7 l8 l9 l10 l11 l12 l13 : Option Value} {u : Int32} {st : List Value} {H : HP} {Q : Option Value → HP → Prop} : Go 158 37 [l0, l1, l2, l3, l4, l5, l6, l7, l8, l9, l10, l11, l12, l13] (.int u :: st) H Q ↔ Go 158 39 [l0, l1, l2, l3, some (.int u), l5, l6, l7, l8, l9, l10, l11, l12, l13] st H Q := G_istore fX9_carry_37 rfl
theorem fX9_carry_39 : ft 158 39 = some (.iload 4, 0, 0, 0, .null) := by decide +kernel
theorem gX9_carry_39 {l0 l1 l2 l3 l5 l6 l7 l8 l9 l10 l11 l12 l13 : Option Value} {u : Int32} {st : List Value} {H : HP} {Q : Option Value → HP → Prop} : Go 158 39 [l0, l1, l2, l3, some (.int u), l5, l6, l7, l8, l9, l10, l11, l12, l13] st H Q ↔ Go 158 41 [l0, l1, l2, l3, some (.int u), l5, l6, l7, l8, l9, l10, l11, l12, l13] (.int u :: st) H Q := G_iload fX9_carry_39 rfl
theorem fX9_carry_41 : ft 158 41 = some (.aload_n 0, 0, 0, 0, .null) := by decide +kernel
theorem gX9_carry_41 {l1 l2 l3 l4 l5 l6 l7 l8 l9 l10 l11 l12 l13 : Option Value} {u : Nat} {st : List Value} {H : HP} {Q : Option Value → HP → Prop} : Go 158 41 [some (.ref u), l1, l2, l3, l4, l5, l6, l7, l8, l9, l10, l11, l12, l13] st H Q ↔ Go 158 42 [some (.ref u), l1, l2, l3, l4, l5, l6, l7, l8, l9, l10, l11, l12, l13] (.ref u :: st) H Q := G_aload_n fX9_carry_41 rfl
theorem fX9_carry_42 : ft 158 42 = some (.getfield 163, 9, 8, 762, .null) := by decide +kernel
theorem gX9_carry_42 {L : List (Option Value)} {p : Nat} {st : List Value} {H : HP} {Q : Option Value → HP → Prop} : Go 158 42 L (.ref p :: st) H Q ↔ Rd (gF' 9 8 (hget H p)) 158 45 L st H Q := G_getf fX9_carry_42 ⟨rfl, rfl⟩
theorem fX9_carry_45 : ft 158 45 = some (.if_icmp .ge 29, 0, 0, 0, .null) := by decide +kernel
theorem gX9_carry_45T {L : List (Option Value)} {a b : Int} (c : (-2147483648 ≤ a ∧ a ≤ 2147483647 ∧ -2147483648 ≤ b ∧ b ≤ 2147483647) ∧ b ≤ a) {st : List Value} {H : HP} {Q : Option Value → HP → Prop} : Go 158 45 L (vi b :: vi a :: st) H Q ↔ Go 158 74 L st H Q := G_icT fX9_carry_45 (by decide) c
theorem gX9_carry_45F {L : List (Option Value)} {a b : Int} (c : (-2147483648 ≤ a ∧ a ≤ 2147483647 ∧ -2147483648 ≤ b ∧ b ≤ 2147483647) ∧ ¬ (b ≤ a)) {st : List Value} {H : HP} {Q : Option Value → HP → Prop} : Go 158 45 L (vi b :: vi a :: st) H Q ↔ Go 158 48 L st H Q := G_icF (tg := 74) fX9_carry_45 (by decide) c
theorem fX9_carry_48 : ft 158 48 = some (.iload_n 3, 0, 0, 0, .null) := by decide +kernel
theorem gX9_carry_48 {l0 l1 l2 l4 l5 l6 l7 l8 l9 l10 l11 l12 l13 : Option Value} {u : Int32} {st : List Value} {H : HP} {Q : Option Value → HP → Prop} : Go 158 48 [l0, l1, l2, some (.int u), l4, l5, l6, l7, l8, l9, l10, l11, l12, l13] st H Q ↔ Go 158 49 [l0, l1, l2, some (.int u), l4, l5, l6, l7, l8, l9, l10, l11, l12, l13] (.int u :: st) H Q := G_iload_n fX9_carry_48 rfl
theorem fX9_carry_49 : ft 158 49 = some (.aload_n 0, 0, 0, 0, .null) := by decide +kernel
theorem gX9_carry_49 {l1 l2 l3 l4 l5 l6 l7 l8 l9 l10 l11 l12 l13 : Option Value} {u : Nat} {st : List Value} {H : HP} {Q : Option Value → HP → Prop} : Go 158 49 [some (.ref u), l1, l2, l3, l4, l5, l6, l7, l8, l9, l10, l11, l12, l13] st H Q ↔ Go 158 50 [some (.ref u), l1, l2, l3, l4, l5, l6, l7, l8, l9, l10, l11, l12, l13] (.ref u :: st) H Q := G_aload_n fX9_carry_49 rfl
theorem fX9_carry_50 : ft 158 50 = some (.getfield 30, 9, 9, 763, .null) := by decide +kernel
theorem gX9_carry_50 {L : List (Option Value)} {p : Nat} {st : List Value} {H : HP} {Q : Option Value → HP → Prop} : Go 158 50 L (.ref p :: st) H Q ↔ Rd (gF' 9 9 (hget H p)) 158 53 L st H Q := G_getf fX9_carry_50 ⟨rfl, rfl⟩
theorem fX9_carry_53 : ft 158 53 = some (.iload 4, 0, 0, 0, .null) := by decide +kernel
theorem gX9_carry_53 {l0 l1 l2 l3 l5 l6 l7 l8 l9 l10 l11 l12 l13 : Option Value} {u : Int32} {st : List Value} {H : HP} {Q : Option Value → HP → Prop} : Go 158 53 [l0, l1, l2, l3, some (.int u), l5, l6, l7, l8, l9, l10, l11, l12, l13] st H Q ↔ Go 158 55 [l0, l1, l2, l3, some (.int u), l5, l6, l7, l8, l9, l10, l11, l12, l13] (.int u :: st) H Q := G_iload fX9_carry_53 rfl
theorem fX9_carry_55 : ft 158 55 = some (.laload, 0, 0, 0, .null) := by decide +kernel
theorem gX9_carry_55 {L : List (Option Value)} {p : Nat} {a : Int} {st : List Value} {H : HP} {Q : Option Value → HP → Prop} : Go 158 55 L (vi a :: .ref p :: st) H Q ↔ Rd (aL' (hget H p) a) 158 56 L st H Q := G_lald fX9_carry_55
theorem fX9_carry_56 : ft 158 56 = some (.lconst 0, 0, 0, 0, .null) := by decide +kernel
theorem gX9_carry_56 {L : List (Option Value)} {st : List Value} {H : HP} {Q : Option Value → HP → Prop} : Go 158 56 L st H Q ↔ Go 158 57 L (vl 0 :: st) H Q := G_lconst fX9_carry_56 (by decide)
theorem fX9_carry_57 : ft 158 57 = some (.lcmp, 0, 0, 0, .null) := by decide +kernel
theorem fX9_carry_57' : ft 158 58 = some (.ifCond .lt 7, 0, 0, 0, .null) := by decide +kernel
theorem gX9_carry_57T {L : List (Option Value)} {a b : Int} (c : (-9223372036854775808 ≤ a ∧ a ≤ 9223372036854775807 ∧ -9223372036854775808 ≤ b ∧ b ≤ 9223372036854775807) ∧ a < b) {st : List Value} {H : HP} {Q : Option Value → HP → Prop} : Go 158 57 L (vl b :: vl a :: st) H Q ↔ Go 158 65 L st H Q := G_lcT fX9_carry_57 fX9_carry_57' (by decide) c
theorem gX9_carry_57F {L : List (Option Value)} {a b : Int} (c : (-9223372036854775808 ≤ a ∧ a ≤ 9223372036854775807 ∧ -9223372036854775808 ≤ b ∧ b ≤ 9223372036854775807) ∧ ¬ (a < b)) {st : List Value} {H : HP} {Q : Option Value → HP → Prop} : Go 158 57 L (vl b :: vl a :: st) H Q ↔ Go 158 61 L st H Q := G_lcF (tg := 65) fX9_carry_57 fX9_carry_57' (by decide) c
theorem fX9_carry_58 : ft 158 58 = some (.ifCond .lt 7, 0, 0, 0, .null) := by decide +kernel
theorem gX9_carry_58T {L : List (Option Value)} {a : Int} (c : (-2147483648 ≤ a ∧ a ≤ 2147483647) ∧ a < 0) {st : List Value} {H : HP} {Q : Option Value → HP → Prop} : Go 158 58 L (vi a :: st) H Q ↔ Go 158 65 L st H Q := G_ifT fX9_carry_58 (by decide) c
theorem gX9_carry_58F {L : List (Option Value)} {a : Int} (c : (-2147483648 ≤ a ∧ a ≤ 2147483647) ∧ ¬ (a < 0)) {st : List Value} {H : HP} {Q : Option Value → HP → Prop} : Go 158 58 L (vi a :: st) H Q ↔ Go 158 61 L st H Q := G_ifF (tg := 65) fX9_carry_58 (by decide) c
theorem fX9_carry_61 : ft 158 61 = some (.iconst 1, 0, 0, 0, .null) := by decide +kernel
theorem gX9_carry_61 {L : List (Option Value)} {st : List Value} {H : HP} {Q : Option Value → HP → Prop} : Go 158 61 L st H Q ↔ Go 158 62 L (vi 1 :: st) H Q := G_iconst fX9_carry_61
theorem fX9_carry_62 : ft 158 62 = some (.goto 4, 0, 0, 0, .null) := by decide +kernel
theorem gX9_carry_62 {L : List (Option Value)} {st : List Value} {H : HP} {Q : Option Value → HP → Prop} : Go 158 62 L st H Q ↔ Go 158 66 L st H Q := G_goto fX9_carry_62 (by decide)
theorem fX9_carry_65 : ft 158 65 = some (.iconst 0, 0, 0, 0, .null) := by decide +kernel
theorem gX9_carry_65 {L : List (Option Value)} {st : List Value} {H : HP} {Q : Option Value → HP → Prop} : Go 158 65 L st H Q ↔ Go 158 66 L (vi 0 :: st) H Q := G_iconst fX9_carry_65
theorem fX9_carry_66 : ft 158 66 = some (.iand, 0, 0, 0, .null) := by decide +kernel
theorem gX9_carry_66 {L : List (Option Value)} {a b : Int} {st : List Value} {H : HP} {Q : Option Value → HP → Prop} : Go 158 66 L (vi b :: vi a :: st) H Q ↔ Go 158 67 L (vi (jAnd a b) :: st) H Q := G_iand fX9_carry_66
theorem fX9_carry_67 : ft 158 67 = some (.istore_n 3, 0, 0, 0, .null) := by decide +kernel
theorem gX9_carry_67 {l0 l1 l2 l3 l4 l5 l6 l7 l8 l9 l10 l11 l12 l13 : Option Value} {u : Int32} {st : List Value} {H : HP} {Q : Option Value → HP → Prop} : Go 158 67 [l0, l1, l2, l3, l4, l5, l6, l7, l8, l9, l10, l11, l12, l13] (.int u :: st) H Q ↔ Go 158 68 [l0, l1, l2, some (.int u), l4, l5, l6, l7, l8, l9, l10, l11, l12, l13] st H Q := G_istore_n fX9_carry_67 rfl
theorem fX9_carry_68 : ft 158 68 = some (.iinc 4 1, 0, 0, 0, .null) := by decide +kernel
theorem gX9_carry_68 {l0 l1 l2 l3 l5 l6 l7 l8 l9 l10 l11 l12 l13 : Option Value} {a : Int} {st : List Value} {H : HP} {Q : Option Value → HP → Prop} : Go 158 68 [l0, l1, l2, l3, some (vi a), l5, l6, l7, l8, l9, l10, l11, l12, l13] st H Q ↔ Go 158 71 [l0, l1, l2, l3, some (vi (a + 1)), l5, l6, l7, l8, l9, l10, l11, l12, l13] st H Q := G_iinc fX9_carry_68 rfl rfl
theorem fX9_carry_71 : ft 158 71 = some (.goto (-32), 0, 0, 0, .null) := by decide +kernel
theorem gX9_carry_71 {L : List (Option Value)} {st : List Value} {H : HP} {Q : Option Value → HP → Prop} : Go 158 71 L st H Q ↔ Go 158 39 L st H Q := G_goto fX9_carry_71 (by decide)
theorem fX9_carry_74 : ft 158 74 = some (.iload_n 3, 0, 0, 0, .null) := by decide +kernel
theorem gX9_carry_74 {l0 l1 l2 l4 l5 l6 l7 l8 l9 l10 l11 l12 l13 : Option Value} {u : Int32} {st : List Value} {H : HP} {Q : Option Value → HP → Prop} : Go 158 74 [l0, l1, l2, some (.int u), l4, l5, l6, l7, l8, l9, l10, l11, l12, l13] st H Q ↔ Go 158 75 [l0, l1, l2, some (.int u), l4, l5, l6, l7, l8, l9, l10, l11, l12, l13] (.int u :: st) H Q := G_iload_n fX9_carry_74 rfl
theorem fX9_carry_75 : ft 158 75 = some (.ifCond .ne 6, 0, 0, 0, .null) := by decide +kernel
theorem gX9_carry_75T {L : List (Option Value)} {a : Int} (c : (-2147483648 ≤ a ∧ a ≤ 2147483647) ∧ ¬ a = 0) {st : List Value} {H : HP} {Q : Option Value → HP → Prop} : Go 158 75 L (vi a :: st) H Q ↔ Go 158 81 L st H Q := G_ifT fX9_carry_75 (by decide) c
theorem gX9_carry_75F {L : List (Option Value)} {a : Int} (c : (-2147483648 ≤ a ∧ a ≤ 2147483647) ∧ ¬ (¬ a = 0)) {st : List Value} {H : HP} {Q : Option Value → HP → Prop} : Go 158 75 L (vi a :: st) H Q ↔ Go 158 78 L st H Q := G_ifF (tg := 81) fX9_carry_75 (by decide) c
theorem fX9_carry_78 : ft 158 78 = some (.bipush (-3), 0, 0, 0, .null) := by decide +kernel
theorem gX9_carry_78 {L : List (Option Value)} {st : List Value} {H : HP} {Q : Option Value → HP → Prop} : Go 158 78 L st H Q ↔ Go 158 80 L (vi (-3) :: st) H Q := G_bipush fX9_carry_78 (by decide)
theorem fX9_carry_80 : ft 158 80 = some (.ireturn, 0, 0, 0, .null) := by decide +kernel
theorem gX9_carry_80 {L : List (Option Value)} {u : Int32} {H : HP} {Q : Option Value → HP → Prop} : Go 158 80 L [.int u] H Q ↔ Q (some (.int u)) H := G_iret fX9_carry_80 (by decide +kernel)
theorem fX9_carry_81 : ft 158 81 = some (.iconst 0, 0, 0, 0, .null) := by decide +kernel
theorem gX9_carry_81 {L : List (Option Value)} {st : List Value} {H : HP} {Q : Option Value → HP → Prop} : Go 158 81 L st H Q ↔ Go 158 82 L (vi 0 :: st) H Q := G_iconst fX9_carry_81
theorem fX9_carry_82 : ft 158 82 = some (.istore 4, 0, 0, 0, .null) := by decide +kernel
theorem gX9_carry_82 {l0 l1 l2 l3 l4 l5 l6 l7 l8 l9 l10 l11 l12 l13 : Option Value} {u : Int32} {st : List Value} {H : HP} {Q : Option Value → HP → Prop} : Go 158 82 [l0, l1, l2, l3, l4, l5, l6, l7, l8, l9, l10, l11, l12, l13] (.int u :: st) H Q ↔ Go 158 84 [l0, l1, l2, l3, some (.int u), l5, l6, l7, l8, l9, l10, l11, l12, l13] st H Q := G_istore fX9_carry_82 rfl
theorem fX9_carry_84 : ft 158 84 = some (.iload 4, 0, 0, 0, .null) := by decide +kernel
theorem gX9_carry_84 {l0 l1 l2 l3 l5 l6 l7 l8 l9 l10 l11 l12 l13 : Option Value} {u : Int32} {st : List Value} {H : HP} {Q : Option Value → HP → Prop} : Go 158 84 [l0, l1, l2, l3, some (.int u), l5, l6, l7, l8, l9, l10, l11, l12, l13] st H Q ↔ Go 158 86 [l0, l1, l2, l3, some (.int u), l5, l6, l7, l8, l9, l10, l11, l12, l13] (.int u :: st) H Q := G_iload fX9_carry_84 rfl
theorem fX9_carry_86 : ft 158 86 = some (.bipush 9, 0, 0, 0, .null) := by decide +kernel
theorem gX9_carry_86 {L : List (Option Value)} {st : List Value} {H : HP} {Q : Option Value → HP → Prop} : Go 158 86 L st H Q ↔ Go 158 88 L (vi 9 :: st) H Q := G_bipush fX9_carry_86 (by decide)
theorem fX9_carry_88 : ft 158 88 = some (.if_icmp .ge 17, 0, 0, 0, .null) := by decide +kernel
theorem gX9_carry_88T {L : List (Option Value)} {a b : Int} (c : (-2147483648 ≤ a ∧ a ≤ 2147483647 ∧ -2147483648 ≤ b ∧ b ≤ 2147483647) ∧ b ≤ a) {st : List Value} {H : HP} {Q : Option Value → HP → Prop} : Go 158 88 L (vi b :: vi a :: st) H Q ↔ Go 158 105 L st H Q := G_icT fX9_carry_88 (by decide) c
theorem gX9_carry_88F {L : List (Option Value)} {a b : Int} (c : (-2147483648 ≤ a ∧ a ≤ 2147483647 ∧ -2147483648 ≤ b ∧ b ≤ 2147483647) ∧ ¬ (b ≤ a)) {st : List Value} {H : HP} {Q : Option Value → HP → Prop} : Go 158 88 L (vi b :: vi a :: st) H Q ↔ Go 158 91 L st H Q := G_icF (tg := 105) fX9_carry_88 (by decide) c
theorem fX9_carry_91 : ft 158 91 = some (.aload_n 0, 0, 0, 0, .null) := by decide +kernel
theorem gX9_carry_91 {l1 l2 l3 l4 l5 l6 l7 l8 l9 l10 l11 l12 l13 : Option Value} {u : Nat} {st : List Value} {H : HP} {Q : Option Value → HP → Prop} : Go 158 91 [some (.ref u), l1, l2, l3, l4, l5, l6, l7, l8, l9, l10, l11, l12, l13] st H Q ↔ Go 158 92 [some (.ref u), l1, l2, l3, l4, l5, l6, l7, l8, l9, l10, l11, l12, l13] (.ref u :: st) H Q := G_aload_n fX9_carry_91 rfl
theorem fX9_carry_92 : ft 158 92 = some (.getfield 57, 9, 22, 776, .null) := by decide +kernel
theorem gX9_carry_92 {L : List (Option Value)} {p : Nat} {st : List Value} {H : HP} {Q : Option Value → HP → Prop} : Go 158 92 L (.ref p :: st) H Q ↔ Rd (gF' 9 22 (hget H p)) 158 95 L st H Q := G_getf fX9_carry_92 ⟨rfl, rfl⟩
theorem fX9_carry_95 : ft 158 95 = some (.iload 4, 0, 0, 0, .null) := by decide +kernel
theorem gX9_carry_95 {l0 l1 l2 l3 l5 l6 l7 l8 l9 l10 l11 l12 l13 : Option Value} {u : Int32} {st : List Value} {H : HP} {Q : Option Value → HP → Prop} : Go 158 95 [l0, l1, l2, l3, some (.int u), l5, l6, l7, l8, l9, l10, l11, l12, l13] st H Q ↔ Go 158 97 [l0, l1, l2, l3, some (.int u), l5, l6, l7, l8, l9, l10, l11, l12, l13] (.int u :: st) H Q := G_iload fX9_carry_95 rfl
theorem fX9_carry_97 : ft 158 97 = some (.lconst 0, 0, 0, 0, .null) := by decide +kernel
theorem gX9_carry_97 {L : List (Option Value)} {st : List Value} {H : HP} {Q : Option Value → HP → Prop} : Go 158 97 L st H Q ↔ Go 158 98 L (vl 0 :: st) H Q := G_lconst fX9_carry_97 (by decide)
theorem fX9_carry_98 : ft 158 98 = some (.lastore, 0, 0, 0, .null) := by decide +kernel
theorem gX9_carry_98 {L : List (Option Value)} {p : Nat} {a : Int} {b : Int} (hp : p ≠ 0) {st : List Value} {H : HP} {Q : Option Value → HP → Prop} : Go 158 98 L (vl b :: vi a :: .ref p :: st) H Q ↔ Wr (sL' (hget H p) a b) p 158 99 L st H Q := G_last fX9_carry_98 hp
theorem fX9_carry_99 : ft 158 99 = some (.iinc 4 1, 0, 0, 0, .null) := by decide +kernel
theorem gX9_carry_99 {l0 l1 l2 l3 l5 l6 l7 l8 l9 l10 l11 l12 l13 : Option Value} {a : Int} {st : List Value} {H : HP} {Q : Option Value → HP → Prop} : Go 158 99 [l0, l1, l2, l3, some (vi a), l5, l6, l7, l8, l9, l10, l11, l12, l13] st H Q ↔ Go 158 102 [l0, l1, l2, l3, some (vi (a + 1)), l5, l6, l7, l8, l9, l10, l11, l12, l13] st H Q := G_iinc fX9_carry_99 rfl rfl
theorem fX9_carry_102 : ft 158 102 = some (.goto (-18), 0, 0, 0, .null) := by decide +kernel
theorem gX9_carry_102 {L : List (Option Value)} {st : List Value} {H : HP} {Q : Option Value → HP → Prop} : Go 158 102 L st H Q ↔ Go 158 84 L st H Q := G_goto fX9_carry_102 (by decide)
theorem fX9_carry_105 : ft 158 105 = some (.iconst 0, 0, 0, 0, .null) := by decide +kernel
theorem gX9_carry_105 {L : List (Option Value)} {st : List Value} {H : HP} {Q : Option Value → HP → Prop} : Go 158 105 L st H Q ↔ Go 158 106 L (vi 0 :: st) H Q := G_iconst fX9_carry_105
theorem fX9_carry_106 : ft 158 106 = some (.istore 4, 0, 0, 0, .null) := by decide +kernel
theorem gX9_carry_106 {l0 l1 l2 l3 l4 l5 l6 l7 l8 l9 l10 l11 l12 l13 : Option Value} {u : Int32} {st : List Value} {H : HP} {Q : Option Value → HP → Prop} : Go 158 106 [l0, l1, l2, l3, l4, l5, l6, l7, l8, l9, l10, l11, l12, l13] (.int u :: st) H Q ↔ Go 158 108 [l0, l1, l2, l3, some (.int u), l5, l6, l7, l8, l9, l10, l11, l12, l13] st H Q := G_istore fX9_carry_106 rfl
theorem fX9_carry_108 : ft 158 108 = some (.iconst 1, 0, 0, 0, .null) := by decide +kernel
theorem gX9_carry_108 {L : List (Option Value)} {st : List Value} {H : HP} {Q : Option Value → HP → Prop} : Go 158 108 L st H Q ↔ Go 158 109 L (vi 1 :: st) H Q := G_iconst fX9_carry_108
theorem fX9_carry_109 : ft 158 109 = some (.istore 5, 0, 0, 0, .null) := by decide +kernel
theorem gX9_carry_109 {l0 l1 l2 l3 l4 l5 l6 l7 l8 l9 l10 l11 l12 l13 : Option Value} {u : Int32} {st : List Value} {H : HP} {Q : Option Value → HP → Prop} : Go 158 109 [l0, l1, l2, l3, l4, l5, l6, l7, l8, l9, l10, l11, l12, l13] (.int u :: st) H Q ↔ Go 158 111 [l0, l1, l2, l3, l4, some (.int u), l6, l7, l8, l9, l10, l11, l12, l13] st H Q := G_istore fX9_carry_109 rfl
theorem fX9_carry_111 : ft 158 111 = some (.iload 5, 0, 0, 0, .null) := by decide +kernel
theorem gX9_carry_111 {l0 l1 l2 l3 l4 l6 l7 l8 l9 l10 l11 l12 l13 : Option Value} {u : Int32} {st : List Value} {H : HP} {Q : Option Value → HP → Prop} : Go 158 111 [l0, l1, l2, l3, l4, some (.int u), l6, l7, l8, l9, l10, l11, l12, l13] st H Q ↔ Go 158 113 [l0, l1, l2, l3, l4, some (.int u), l6, l7, l8, l9, l10, l11, l12, l13] (.int u :: st) H Q := G_iload fX9_carry_111 rfl
theorem fX9_carry_113 : ft 158 113 = some (.ifCond .eq 238, 0, 0, 0, .null) := by decide +kernel
theorem gX9_carry_113T {L : List (Option Value)} {a : Int} (c : (-2147483648 ≤ a ∧ a ≤ 2147483647) ∧ a = 0) {st : List Value} {H : HP} {Q : Option Value → HP → Prop} : Go 158 113 L (vi a :: st) H Q ↔ Go 158 351 L st H Q := G_ifT fX9_carry_113 (by decide) c
theorem gX9_carry_113F {L : List (Option Value)} {a : Int} (c : (-2147483648 ≤ a ∧ a ≤ 2147483647) ∧ ¬ (a = 0)) {st : List Value} {H : HP} {Q : Option Value → HP → Prop} : Go 158 113 L (vi a :: st) H Q ↔ Go 158 116 L st H Q := G_ifF (tg := 351) fX9_carry_113 (by decide) c
theorem fX9_carry_116 : ft 158 116 = some (.lconst 0, 0, 0, 0, .null) := by decide +kernel
theorem gX9_carry_116 {L : List (Option Value)} {st : List Value} {H : HP} {Q : Option Value → HP → Prop} : Go 158 116 L st H Q ↔ Go 158 117 L (vl 0 :: st) H Q := G_lconst fX9_carry_116 (by decide)
theorem fX9_carry_117 : ft 158 117 = some (.lstore 6, 0, 0, 0, .null) := by decide +kernel
theorem gX9_carry_117 {l0 l1 l2 l3 l4 l5 l6 l7 l8 l9 l10 l11 l12 l13 : Option Value} {u : Int64} {st : List Value} {H : HP} {Q : Option Value → HP → Prop} : Go 158 117 [l0, l1, l2, l3, l4, l5, l6, l7, l8, l9, l10, l11, l12, l13] (.long u :: st) H Q ↔ Go 158 119 [l0, l1, l2, l3, l4, l5, some (.long u), none, l8, l9, l10, l11, l12, l13] st H Q := G_lstore fX9_carry_117 rfl
theorem fX9_carry_119 : ft 158 119 = some (.iconst 0, 0, 0, 0, .null) := by decide +kernel
theorem gX9_carry_119 {L : List (Option Value)} {st : List Value} {H : HP} {Q : Option Value → HP → Prop} : Go 158 119 L st H Q ↔ Go 158 120 L (vi 0 :: st) H Q := G_iconst fX9_carry_119
theorem fX9_carry_120 : ft 158 120 = some (.istore 8, 0, 0, 0, .null) := by decide +kernel
theorem gX9_carry_120 {l0 l1 l2 l3 l4 l5 l6 l7 l8 l9 l10 l11 l12 l13 : Option Value} {u : Int32} {st : List Value} {H : HP} {Q : Option Value → HP → Prop} : Go 158 120 [l0, l1, l2, l3, l4, l5, l6, l7, l8, l9, l10, l11, l12, l13] (.int u :: st) H Q ↔ Go 158 122 [l0, l1, l2, l3, l4, l5, l6, l7, some (.int u), l9, l10, l11, l12, l13] st H Q := G_istore fX9_carry_120 rfl
theorem fX9_carry_122 : ft 158 122 = some (.iload 8, 0, 0, 0, .null) := by decide +kernel
theorem gX9_carry_122 {l0 l1 l2 l3 l4 l5 l6 l7 l9 l10 l11 l12 l13 : Option Value} {u : Int32} {st : List Value} {H : HP} {Q : Option Value → HP → Prop} : Go 158 122 [l0, l1, l2, l3, l4, l5, l6, l7, some (.int u), l9, l10, l11, l12, l13] st H Q ↔ Go 158 124 [l0, l1, l2, l3, l4, l5, l6, l7, some (.int u), l9, l10, l11, l12, l13] (.int u :: st) H Q := G_iload fX9_carry_122 rfl
theorem fX9_carry_124 : ft 158 124 = some (.bipush 9, 0, 0, 0, .null) := by decide +kernel
theorem gX9_carry_124 {L : List (Option Value)} {st : List Value} {H : HP} {Q : Option Value → HP → Prop} : Go 158 124 L st H Q ↔ Go 158 126 L (vi 9 :: st) H Q := G_bipush fX9_carry_124 (by decide)
theorem fX9_carry_126 : ft 158 126 = some (.if_icmp .ge 111, 0, 0, 0, .null) := by decide +kernel
theorem gX9_carry_126T {L : List (Option Value)} {a b : Int} (c : (-2147483648 ≤ a ∧ a ≤ 2147483647 ∧ -2147483648 ≤ b ∧ b ≤ 2147483647) ∧ b ≤ a) {st : List Value} {H : HP} {Q : Option Value → HP → Prop} : Go 158 126 L (vi b :: vi a :: st) H Q ↔ Go 158 237 L st H Q := G_icT fX9_carry_126 (by decide) c
theorem gX9_carry_126F {L : List (Option Value)} {a b : Int} (c : (-2147483648 ≤ a ∧ a ≤ 2147483647 ∧ -2147483648 ≤ b ∧ b ≤ 2147483647) ∧ ¬ (b ≤ a)) {st : List Value} {H : HP} {Q : Option Value → HP → Prop} : Go 158 126 L (vi b :: vi a :: st) H Q ↔ Go 158 129 L st H Q := G_icF (tg := 237) fX9_carry_126 (by decide) c
theorem fX9_carry_129 : ft 158 129 = some (.iload 4, 0, 0, 0, .null) := by decide +kernel
theorem gX9_carry_129 {l0 l1 l2 l3 l5 l6 l7 l8 l9 l10 l11 l12 l13 : Option Value} {u : Int32} {st : List Value} {H : HP} {Q : Option Value → HP → Prop} : Go 158 129 [l0, l1, l2, l3, some (.int u), l5, l6, l7, l8, l9, l10, l11, l12, l13] st H Q ↔ Go 158 131 [l0, l1, l2, l3, some (.int u), l5, l6, l7, l8, l9, l10, l11, l12, l13] (.int u :: st) H Q := G_iload fX9_carry_129 rfl
theorem fX9_carry_131 : ft 158 131 = some (.aload_n 0, 0, 0, 0, .null) := by decide +kernel
theorem gX9_carry_131 {l1 l2 l3 l4 l5 l6 l7 l8 l9 l10 l11 l12 l13 : Option Value} {u : Nat} {st : List Value} {H : HP} {Q : Option Value → HP → Prop} : Go 158 131 [some (.ref u), l1, l2, l3, l4, l5, l6, l7, l8, l9, l10, l11, l12, l13] st H Q ↔ Go 158 132 [some (.ref u), l1, l2, l3, l4, l5, l6, l7, l8, l9, l10, l11, l12, l13] (.ref u :: st) H Q := G_aload_n fX9_carry_131 rfl
theorem fX9_carry_132 : ft 158 132 = some (.getfield 163, 9, 8, 762, .null) := by decide +kernel
theorem gX9_carry_132 {L : List (Option Value)} {p : Nat} {st : List Value} {H : HP} {Q : Option Value → HP → Prop} : Go 158 132 L (.ref p :: st) H Q ↔ Rd (gF' 9 8 (hget H p)) 158 135 L st H Q := G_getf fX9_carry_132 ⟨rfl, rfl⟩
theorem fX9_carry_135 : ft 158 135 = some (.if_icmp .ge 10, 0, 0, 0, .null) := by decide +kernel
theorem gX9_carry_135T {L : List (Option Value)} {a b : Int} (c : (-2147483648 ≤ a ∧ a ≤ 2147483647 ∧ -2147483648 ≤ b ∧ b ≤ 2147483647) ∧ b ≤ a) {st : List Value} {H : HP} {Q : Option Value → HP → Prop} : Go 158 135 L (vi b :: vi a :: st) H Q ↔ Go 158 145 L st H Q := G_icT fX9_carry_135 (by decide) c
theorem gX9_carry_135F {L : List (Option Value)} {a b : Int} (c : (-2147483648 ≤ a ∧ a ≤ 2147483647 ∧ -2147483648 ≤ b ∧ b ≤ 2147483647) ∧ ¬ (b ≤ a)) {st : List Value} {H : HP} {Q : Option Value → HP → Prop} : Go 158 135 L (vi b :: vi a :: st) H Q ↔ Go 158 138 L st H Q := G_icF (tg := 145) fX9_carry_135 (by decide) c
theorem fX9_carry_138 : ft 158 138 = some (.iload 8, 0, 0, 0, .null) := by decide +kernel
theorem gX9_carry_138 {l0 l1 l2 l3 l4 l5 l6 l7 l9 l10 l11 l12 l13 : Option Value} {u : Int32} {st : List Value} {H : HP} {Q : Option Value → HP → Prop} : Go 158 138 [l0, l1, l2, l3, l4, l5, l6, l7, some (.int u), l9, l10, l11, l12, l13] st H Q ↔ Go 158 140 [l0, l1, l2, l3, l4, l5, l6, l7, some (.int u), l9, l10, l11, l12, l13] (.int u :: st) H Q := G_iload fX9_carry_138 rfl
theorem fX9_carry_140 : ft 158 140 = some (.bipush 8, 0, 0, 0, .null) := by decide +kernel
theorem gX9_carry_140 {L : List (Option Value)} {st : List Value} {H : HP} {Q : Option Value → HP → Prop} : Go 158 140 L st H Q ↔ Go 158 142 L (vi 8 :: st) H Q := G_bipush fX9_carry_140 (by decide)
theorem fX9_carry_142 : ft 158 142 = some (.if_icmp .ne 7, 0, 0, 0, .null) := by decide +kernel
theorem gX9_carry_142T {L : List (Option Value)} {a b : Int} (c : (-2147483648 ≤ a ∧ a ≤ 2147483647 ∧ -2147483648 ≤ b ∧ b ≤ 2147483647) ∧ ¬ a = b) {st : List Value} {H : HP} {Q : Option Value → HP → Prop} : Go 158 142 L (vi b :: vi a :: st) H Q ↔ Go 158 149 L st H Q := G_icT fX9_carry_142 (by decide) c
theorem gX9_carry_142F {L : List (Option Value)} {a b : Int} (c : (-2147483648 ≤ a ∧ a ≤ 2147483647 ∧ -2147483648 ≤ b ∧ b ≤ 2147483647) ∧ ¬ (¬ a = b)) {st : List Value} {H : HP} {Q : Option Value → HP → Prop} : Go 158 142 L (vi b :: vi a :: st) H Q ↔ Go 158 145 L st H Q := G_icF (tg := 149) fX9_carry_142 (by decide) c
theorem fX9_carry_145 : ft 158 145 = some (.lconst 0, 0, 0, 0, .null) := by decide +kernel
theorem gX9_carry_145 {L : List (Option Value)} {st : List Value} {H : HP} {Q : Option Value → HP → Prop} : Go 158 145 L st H Q ↔ Go 158 146 L (vl 0 :: st) H Q := G_lconst fX9_carry_145 (by decide)
theorem fX9_carry_146 : ft 158 146 = some (.goto 48, 0, 0, 0, .null) := by decide +kernel
theorem gX9_carry_146 {L : List (Option Value)} {st : List Value} {H : HP} {Q : Option Value → HP → Prop} : Go 158 146 L st H Q ↔ Go 158 194 L st H Q := G_goto fX9_carry_146 (by decide)
theorem fX9_carry_149 : ft 158 149 = some (.iload 8, 0, 0, 0, .null) := by decide +kernel
theorem gX9_carry_149 {l0 l1 l2 l3 l4 l5 l6 l7 l9 l10 l11 l12 l13 : Option Value} {u : Int32} {st : List Value} {H : HP} {Q : Option Value → HP → Prop} : Go 158 149 [l0, l1, l2, l3, l4, l5, l6, l7, some (.int u), l9, l10, l11, l12, l13] st H Q ↔ Go 158 151 [l0, l1, l2, l3, l4, l5, l6, l7, some (.int u), l9, l10, l11, l12, l13] (.int u :: st) H Q := G_iload fX9_carry_149 rfl
theorem fX9_carry_151 : ft 158 151 = some (.iconst 4, 0, 0, 0, .null) := by decide +kernel
theorem gX9_carry_151 {L : List (Option Value)} {st : List Value} {H : HP} {Q : Option Value → HP → Prop} : Go 158 151 L st H Q ↔ Go 158 152 L (vi 4 :: st) H Q := G_iconst fX9_carry_151
theorem fX9_carry_152 : ft 158 152 = some (.if_icmp .ge 23, 0, 0, 0, .null) := by decide +kernel
theorem gX9_carry_152T {L : List (Option Value)} {a b : Int} (c : (-2147483648 ≤ a ∧ a ≤ 2147483647 ∧ -2147483648 ≤ b ∧ b ≤ 2147483647) ∧ b ≤ a) {st : List Value} {H : HP} {Q : Option Value → HP → Prop} : Go 158 152 L (vi b :: vi a :: st) H Q ↔ Go 158 175 L st H Q := G_icT fX9_carry_152 (by decide) c
theorem gX9_carry_152F {L : List (Option Value)} {a b : Int} (c : (-2147483648 ≤ a ∧ a ≤ 2147483647 ∧ -2147483648 ≤ b ∧ b ≤ 2147483647) ∧ ¬ (b ≤ a)) {st : List Value} {H : HP} {Q : Option Value → HP → Prop} : Go 158 152 L (vi b :: vi a :: st) H Q ↔ Go 158 155 L st H Q := G_icF (tg := 175) fX9_carry_152 (by decide) c
theorem fX9_carry_155 : ft 158 155 = some (.aload_n 0, 0, 0, 0, .null) := by decide +kernel
theorem gX9_carry_155 {l1 l2 l3 l4 l5 l6 l7 l8 l9 l10 l11 l12 l13 : Option Value} {u : Nat} {st : List Value} {H : HP} {Q : Option Value → HP → Prop} : Go 158 155 [some (.ref u), l1, l2, l3, l4, l5, l6, l7, l8, l9, l10, l11, l12, l13] st H Q ↔ Go 158 156 [some (.ref u), l1, l2, l3, l4, l5, l6, l7, l8, l9, l10, l11, l12, l13] (.ref u :: st) H Q := G_aload_n fX9_carry_155 rfl
theorem fX9_carry_156 : ft 158 156 = some (.getfield 33, 9, 10, 764, .null) := by decide +kernel
theorem gX9_carry_156 {L : List (Option Value)} {p : Nat} {st : List Value} {H : HP} {Q : Option Value → HP → Prop} : Go 158 156 L (.ref p :: st) H Q ↔ Rd (gF' 9 10 (hget H p)) 158 159 L st H Q := G_getf fX9_carry_156 ⟨rfl, rfl⟩
theorem fX9_carry_159 : ft 158 159 = some (.iload 4, 0, 0, 0, .null) := by decide +kernel
theorem gX9_carry_159 {l0 l1 l2 l3 l5 l6 l7 l8 l9 l10 l11 l12 l13 : Option Value} {u : Int32} {st : List Value} {H : HP} {Q : Option Value → HP → Prop} : Go 158 159 [l0, l1, l2, l3, some (.int u), l5, l6, l7, l8, l9, l10, l11, l12, l13] st H Q ↔ Go 158 161 [l0, l1, l2, l3, some (.int u), l5, l6, l7, l8, l9, l10, l11, l12, l13] (.int u :: st) H Q := G_iload fX9_carry_159 rfl
theorem fX9_carry_161 : ft 158 161 = some (.laload, 0, 0, 0, .null) := by decide +kernel
theorem gX9_carry_161 {L : List (Option Value)} {p : Nat} {a : Int} {st : List Value} {H : HP} {Q : Option Value → HP → Prop} : Go 158 161 L (vi a :: .ref p :: st) H Q ↔ Rd (aL' (hget H p) a) 158 162 L st H Q := G_lald fX9_carry_161
theorem fX9_carry_162 : ft 158 162 = some (.bipush 16, 0, 0, 0, .null) := by decide +kernel
theorem gX9_carry_162 {L : List (Option Value)} {st : List Value} {H : HP} {Q : Option Value → HP → Prop} : Go 158 162 L st H Q ↔ Go 158 164 L (vi 16 :: st) H Q := G_bipush fX9_carry_162 (by decide)
theorem fX9_carry_164 : ft 158 164 = some (.iload 8, 0, 0, 0, .null) := by decide +kernel
theorem gX9_carry_164 {l0 l1 l2 l3 l4 l5 l6 l7 l9 l10 l11 l12 l13 : Option Value} {u : Int32} {st : List Value} {H : HP} {Q : Option Value → HP → Prop} : Go 158 164 [l0, l1, l2, l3, l4, l5, l6, l7, some (.int u), l9, l10, l11, l12, l13] st H Q ↔ Go 158 166 [l0, l1, l2, l3, l4, l5, l6, l7, some (.int u), l9, l10, l11, l12, l13] (.int u :: st) H Q := G_iload fX9_carry_164 rfl
theorem fX9_carry_166 : ft 158 166 = some (.imul, 0, 0, 0, .null) := by decide +kernel
theorem gX9_carry_166 {L : List (Option Value)} {a b : Int} {st : List Value} {H : HP} {Q : Option Value → HP → Prop} : Go 158 166 L (vi b :: vi a :: st) H Q ↔ Go 158 167 L (vi (a * b) :: st) H Q := G_imul fX9_carry_166
theorem fX9_carry_167 : ft 158 167 = some (.lushr, 0, 0, 0, .null) := by decide +kernel
theorem gX9_carry_167 {L : List (Option Value)} {a b : Int} {st : List Value} {H : HP} {Q : Option Value → HP → Prop} : Go 158 167 L (vi b :: vl a :: st) H Q ↔ Go 158 168 L (vl (bUsh a b) :: st) H Q := G_lushr fX9_carry_167
theorem fX9_carry_168 : ft 158 168 = some (.ldc2_w 182, 0, 0, 1004, .long (65535)) := by decide +kernel
theorem gX9_carry_168 {L : List (Option Value)} {st : List Value} {H : HP} {Q : Option Value → HP → Prop} : Go 158 168 L st H Q ↔ Go 158 171 L (vl (65535) :: st) H Q := G_ldcl fX9_carry_168 (by decide +kernel)
theorem fX9_carry_171 : ft 158 171 = some (.land, 0, 0, 0, .null) := by decide +kernel
theorem gX9_carry_171 {L : List (Option Value)} {a b : Int} {st : List Value} {H : HP} {Q : Option Value → HP → Prop} : Go 158 171 L (vl b :: vl a :: st) H Q ↔ Go 158 172 L (vl (bAnd a b) :: st) H Q := G_land fX9_carry_171
theorem fX9_carry_172 : ft 158 172 = some (.goto 22, 0, 0, 0, .null) := by decide +kernel
theorem gX9_carry_172 {L : List (Option Value)} {st : List Value} {H : HP} {Q : Option Value → HP → Prop} : Go 158 172 L st H Q ↔ Go 158 194 L st H Q := G_goto fX9_carry_172 (by decide)
theorem fX9_carry_175 : ft 158 175 = some (.aload_n 0, 0, 0, 0, .null) := by decide +kernel
theorem gX9_carry_175 {l1 l2 l3 l4 l5 l6 l7 l8 l9 l10 l11 l12 l13 : Option Value} {u : Nat} {st : List Value} {H : HP} {Q : Option Value → HP → Prop} : Go 158 175 [some (.ref u), l1, l2, l3, l4, l5, l6, l7, l8, l9, l10, l11, l12, l13] st H Q ↔ Go 158 176 [some (.ref u), l1, l2, l3, l4, l5, l6, l7, l8, l9, l10, l11, l12, l13] (.ref u :: st) H Q := G_aload_n fX9_carry_175 rfl
theorem fX9_carry_176 : ft 158 176 = some (.getfield 30, 9, 9, 763, .null) := by decide +kernel
theorem gX9_carry_176 {L : List (Option Value)} {p : Nat} {st : List Value} {H : HP} {Q : Option Value → HP → Prop} : Go 158 176 L (.ref p :: st) H Q ↔ Rd (gF' 9 9 (hget H p)) 158 179 L st H Q := G_getf fX9_carry_176 ⟨rfl, rfl⟩
theorem fX9_carry_179 : ft 158 179 = some (.iload 4, 0, 0, 0, .null) := by decide +kernel
theorem gX9_carry_179 {l0 l1 l2 l3 l5 l6 l7 l8 l9 l10 l11 l12 l13 : Option Value} {u : Int32} {st : List Value} {H : HP} {Q : Option Value → HP → Prop} : Go 158 179 [l0, l1, l2, l3, some (.int u), l5, l6, l7, l8, l9, l10, l11, l12, l13] st H Q ↔ Go 158 181 [l0, l1, l2, l3, some (.int u), l5, l6, l7, l8, l9, l10, l11, l12, l13] (.int u :: st) H Q := G_iload fX9_carry_179 rfl
theorem fX9_carry_181 : ft 158 181 = some (.laload, 0, 0, 0, .null) := by decide +kernel
theorem gX9_carry_181 {L : List (Option Value)} {p : Nat} {a : Int} {st : List Value} {H : HP} {Q : Option Value → HP → Prop} : Go 158 181 L (vi a :: .ref p :: st) H Q ↔ Rd (aL' (hget H p) a) 158 182 L st H Q := G_lald fX9_carry_181
theorem fX9_carry_182 : ft 158 182 = some (.bipush 16, 0, 0, 0, .null) := by decide +kernel
theorem gX9_carry_182 {L : List (Option Value)} {st : List Value} {H : HP} {Q : Option Value → HP → Prop} : Go 158 182 L st H Q ↔ Go 158 184 L (vi 16 :: st) H Q := G_bipush fX9_carry_182 (by decide)
theorem fX9_carry_184 : ft 158 184 = some (.iload 8, 0, 0, 0, .null) := by decide +kernel
theorem gX9_carry_184 {l0 l1 l2 l3 l4 l5 l6 l7 l9 l10 l11 l12 l13 : Option Value} {u : Int32} {st : List Value} {H : HP} {Q : Option Value → HP → Prop} : Go 158 184 [l0, l1, l2, l3, l4, l5, l6, l7, some (.int u), l9, l10, l11, l12, l13] st H Q ↔ Go 158 186 [l0, l1, l2, l3, l4, l5, l6, l7, some (.int u), l9, l10, l11, l12, l13] (.int u :: st) H Q := G_iload fX9_carry_184 rfl
theorem fX9_carry_186 : ft 158 186 = some (.iconst 4, 0, 0, 0, .null) := by decide +kernel
theorem gX9_carry_186 {L : List (Option Value)} {st : List Value} {H : HP} {Q : Option Value → HP → Prop} : Go 158 186 L st H Q ↔ Go 158 187 L (vi 4 :: st) H Q := G_iconst fX9_carry_186
theorem fX9_carry_187 : ft 158 187 = some (.isub, 0, 0, 0, .null) := by decide +kernel
theorem gX9_carry_187 {L : List (Option Value)} {a b : Int} {st : List Value} {H : HP} {Q : Option Value → HP → Prop} : Go 158 187 L (vi b :: vi a :: st) H Q ↔ Go 158 188 L (vi (a - b) :: st) H Q := G_isub fX9_carry_187
theorem fX9_carry_188 : ft 158 188 = some (.imul, 0, 0, 0, .null) := by decide +kernel
theorem gX9_carry_188 {L : List (Option Value)} {a b : Int} {st : List Value} {H : HP} {Q : Option Value → HP → Prop} : Go 158 188 L (vi b :: vi a :: st) H Q ↔ Go 158 189 L (vi (a * b) :: st) H Q := G_imul fX9_carry_188
theorem fX9_carry_189 : ft 158 189 = some (.lushr, 0, 0, 0, .null) := by decide +kernel
theorem gX9_carry_189 {L : List (Option Value)} {a b : Int} {st : List Value} {H : HP} {Q : Option Value → HP → Prop} : Go 158 189 L (vi b :: vl a :: st) H Q ↔ Go 158 190 L (vl (bUsh a b) :: st) H Q := G_lushr fX9_carry_189
theorem fX9_carry_190 : ft 158 190 = some (.ldc2_w 182, 0, 0, 1004, .long (65535)) := by decide +kernel
theorem gX9_carry_190 {L : List (Option Value)} {st : List Value} {H : HP} {Q : Option Value → HP → Prop} : Go 158 190 L st H Q ↔ Go 158 193 L (vl (65535) :: st) H Q := G_ldcl fX9_carry_190 (by decide +kernel)
theorem fX9_carry_193 : ft 158 193 = some (.land, 0, 0, 0, .null) := by decide +kernel
theorem gX9_carry_193 {L : List (Option Value)} {a b : Int} {st : List Value} {H : HP} {Q : Option Value → HP → Prop} : Go 158 193 L (vl b :: vl a :: st) H Q ↔ Go 158 194 L (vl (bAnd a b) :: st) H Q := G_land fX9_carry_193
theorem fX9_carry_194 : ft 158 194 = some (.lstore 9, 0, 0, 0, .null) := by decide +kernel
theorem gX9_carry_194 {l0 l1 l2 l3 l4 l5 l6 l7 l8 l9 l10 l11 l12 l13 : Option Value} {u : Int64} {st : List Value} {H : HP} {Q : Option Value → HP → Prop} : Go 158 194 [l0, l1, l2, l3, l4, l5, l6, l7, l8, l9, l10, l11, l12, l13] (.long u :: st) H Q ↔ Go 158 196 [l0, l1, l2, l3, l4, l5, l6, l7, l8, some (.long u), none, l11, l12, l13] st H Q := G_lstore fX9_carry_194 rfl
theorem fX9_carry_196 : ft 158 196 = some (.aload_n 0, 0, 0, 0, .null) := by decide +kernel
theorem gX9_carry_196 {l1 l2 l3 l4 l5 l6 l7 l8 l9 l10 l11 l12 l13 : Option Value} {u : Nat} {st : List Value} {H : HP} {Q : Option Value → HP → Prop} : Go 158 196 [some (.ref u), l1, l2, l3, l4, l5, l6, l7, l8, l9, l10, l11, l12, l13] st H Q ↔ Go 158 197 [some (.ref u), l1, l2, l3, l4, l5, l6, l7, l8, l9, l10, l11, l12, l13] (.ref u :: st) H Q := G_aload_n fX9_carry_196 rfl
theorem fX9_carry_197 : ft 158 197 = some (.getfield 57, 9, 22, 776, .null) := by decide +kernel
theorem gX9_carry_197 {L : List (Option Value)} {p : Nat} {st : List Value} {H : HP} {Q : Option Value → HP → Prop} : Go 158 197 L (.ref p :: st) H Q ↔ Rd (gF' 9 22 (hget H p)) 158 200 L st H Q := G_getf fX9_carry_197 ⟨rfl, rfl⟩
theorem fX9_carry_200 : ft 158 200 = some (.iload 8, 0, 0, 0, .null) := by decide +kernel
theorem gX9_carry_200 {l0 l1 l2 l3 l4 l5 l6 l7 l9 l10 l11 l12 l13 : Option Value} {u : Int32} {st : List Value} {H : HP} {Q : Option Value → HP → Prop} : Go 158 200 [l0, l1, l2, l3, l4, l5, l6, l7, some (.int u), l9, l10, l11, l12, l13] st H Q ↔ Go 158 202 [l0, l1, l2, l3, l4, l5, l6, l7, some (.int u), l9, l10, l11, l12, l13] (.int u :: st) H Q := G_iload fX9_carry_200 rfl
theorem fX9_carry_202 : ft 158 202 = some (.laload, 0, 0, 0, .null) := by decide +kernel
theorem gX9_carry_202 {L : List (Option Value)} {p : Nat} {a : Int} {st : List Value} {H : HP} {Q : Option Value → HP → Prop} : Go 158 202 L (vi a :: .ref p :: st) H Q ↔ Rd (aL' (hget H p) a) 158 203 L st H Q := G_lald fX9_carry_202
theorem fX9_carry_203 : ft 158 203 = some (.lload 9, 0, 0, 0, .null) := by decide +kernel
theorem gX9_carry_203 {l0 l1 l2 l3 l4 l5 l6 l7 l8 l11 l12 l13 : Option Value} {u : Int64} {st : List Value} {H : HP} {Q : Option Value → HP → Prop} : Go 158 203 [l0, l1, l2, l3, l4, l5, l6, l7, l8, some (.long u), none, l11, l12, l13] st H Q ↔ Go 158 205 [l0, l1, l2, l3, l4, l5, l6, l7, l8, some (.long u), none, l11, l12, l13] (.long u :: st) H Q := G_lload fX9_carry_203 rfl
theorem fX9_carry_205 : ft 158 205 = some (.ladd, 0, 0, 0, .null) := by decide +kernel
theorem gX9_carry_205 {L : List (Option Value)} {a b : Int} {st : List Value} {H : HP} {Q : Option Value → HP → Prop} : Go 158 205 L (vl b :: vl a :: st) H Q ↔ Go 158 206 L (vl (a + b) :: st) H Q := G_ladd fX9_carry_205
theorem fX9_carry_206 : ft 158 206 = some (.lload 6, 0, 0, 0, .null) := by decide +kernel
theorem gX9_carry_206 {l0 l1 l2 l3 l4 l5 l8 l9 l10 l11 l12 l13 : Option Value} {u : Int64} {st : List Value} {H : HP} {Q : Option Value → HP → Prop} : Go 158 206 [l0, l1, l2, l3, l4, l5, some (.long u), none, l8, l9, l10, l11, l12, l13] st H Q ↔ Go 158 208 [l0, l1, l2, l3, l4, l5, some (.long u), none, l8, l9, l10, l11, l12, l13] (.long u :: st) H Q := G_lload fX9_carry_206 rfl
theorem fX9_carry_208 : ft 158 208 = some (.ladd, 0, 0, 0, .null) := by decide +kernel
theorem gX9_carry_208 {L : List (Option Value)} {a b : Int} {st : List Value} {H : HP} {Q : Option Value → HP → Prop} : Go 158 208 L (vl b :: vl a :: st) H Q ↔ Go 158 209 L (vl (a + b) :: st) H Q := G_ladd fX9_carry_208
theorem fX9_carry_209 : ft 158 209 = some (.lstore 11, 0, 0, 0, .null) := by decide +kernel
theorem gX9_carry_209 {l0 l1 l2 l3 l4 l5 l6 l7 l8 l9 l10 l11 l12 l13 : Option Value} {u : Int64} {st : List Value} {H : HP} {Q : Option Value → HP → Prop} : Go 158 209 [l0, l1, l2, l3, l4, l5, l6, l7, l8, l9, l10, l11, l12, l13] (.long u :: st) H Q ↔ Go 158 211 [l0, l1, l2, l3, l4, l5, l6, l7, l8, l9, l10, some (.long u), none, l13] st H Q := G_lstore fX9_carry_209 rfl
theorem fX9_carry_211 : ft 158 211 = some (.aload_n 0, 0, 0, 0, .null) := by decide +kernel
theorem gX9_carry_211 {l1 l2 l3 l4 l5 l6 l7 l8 l9 l10 l11 l12 l13 : Option Value} {u : Nat} {st : List Value} {H : HP} {Q : Option Value → HP → Prop} : Go 158 211 [some (.ref u), l1, l2, l3, l4, l5, l6, l7, l8, l9, l10, l11, l12, l13] st H Q ↔ Go 158 212 [some (.ref u), l1, l2, l3, l4, l5, l6, l7, l8, l9, l10, l11, l12, l13] (.ref u :: st) H Q := G_aload_n fX9_carry_211 rfl
theorem fX9_carry_212 : ft 158 212 = some (.getfield 57, 9, 22, 776, .null) := by decide +kernel
theorem gX9_carry_212 {L : List (Option Value)} {p : Nat} {st : List Value} {H : HP} {Q : Option Value → HP → Prop} : Go 158 212 L (.ref p :: st) H Q ↔ Rd (gF' 9 22 (hget H p)) 158 215 L st H Q := G_getf fX9_carry_212 ⟨rfl, rfl⟩
theorem fX9_carry_215 : ft 158 215 = some (.iload 8, 0, 0, 0, .null) := by decide +kernel
theorem gX9_carry_215 {l0 l1 l2 l3 l4 l5 l6 l7 l9 l10 l11 l12 l13 : Option Value} {u : Int32} {st : List Value} {H : HP} {Q : Option Value → HP → Prop} : Go 158 215 [l0, l1, l2, l3, l4, l5, l6, l7, some (.int u), l9, l10, l11, l12, l13] st H Q ↔ Go 158 217 [l0, l1, l2, l3, l4, l5, l6, l7, some (.int u), l9, l10, l11, l12, l13] (.int u :: st) H Q := G_iload fX9_carry_215 rfl
theorem fX9_carry_217 : ft 158 217 = some (.lload 11, 0, 0, 0, .null) := by decide +kernel
theorem gX9_carry_217 {l0 l1 l2 l3 l4 l5 l6 l7 l8 l9 l10 l13 : Option Value} {u : Int64} {st : List Value} {H : HP} {Q : Option Value → HP → Prop} : Go 158 217 [l0, l1, l2, l3, l4, l5, l6, l7, l8, l9, l10, some (.long u), none, l13] st H Q ↔ Go 158 219 [l0, l1, l2, l3, l4, l5, l6, l7, l8, l9, l10, some (.long u), none, l13] (.long u :: st) H Q := G_lload fX9_carry_217 rfl
theorem fX9_carry_219 : ft 158 219 = some (.ldc2_w 182, 0, 0, 1004, .long (65535)) := by decide +kernel
theorem gX9_carry_219 {L : List (Option Value)} {st : List Value} {H : HP} {Q : Option Value → HP → Prop} : Go 158 219 L st H Q ↔ Go 158 222 L (vl (65535) :: st) H Q := G_ldcl fX9_carry_219 (by decide +kernel)
theorem fX9_carry_222 : ft 158 222 = some (.land, 0, 0, 0, .null) := by decide +kernel
theorem gX9_carry_222 {L : List (Option Value)} {a b : Int} {st : List Value} {H : HP} {Q : Option Value → HP → Prop} : Go 158 222 L (vl b :: vl a :: st) H Q ↔ Go 158 223 L (vl (bAnd a b) :: st) H Q := G_land fX9_carry_222
theorem fX9_carry_223 : ft 158 223 = some (.lastore, 0, 0, 0, .null) := by decide +kernel
theorem gX9_carry_223 {L : List (Option Value)} {p : Nat} {a : Int} {b : Int} (hp : p ≠ 0) {st : List Value} {H : HP} {Q : Option Value → HP → Prop} : Go 158 223 L (vl b :: vi a :: .ref p :: st) H Q ↔ Wr (sL' (hget H p) a b) p 158 224 L st H Q := G_last fX9_carry_223 hp
theorem fX9_carry_224 : ft 158 224 = some (.lload 11, 0, 0, 0, .null) := by decide +kernel
theorem gX9_carry_224 {l0 l1 l2 l3 l4 l5 l6 l7 l8 l9 l10 l13 : Option Value} {u : Int64} {st : List Value} {H : HP} {Q : Option Value → HP → Prop} : Go 158 224 [l0, l1, l2, l3, l4, l5, l6, l7, l8, l9, l10, some (.long u), none, l13] st H Q ↔ Go 158 226 [l0, l1, l2, l3, l4, l5, l6, l7, l8, l9, l10, some (.long u), none, l13] (.long u :: st) H Q := G_lload fX9_carry_224 rfl
theorem fX9_carry_226 : ft 158 226 = some (.bipush 16, 0, 0, 0, .null) := by decide +kernel
theorem gX9_carry_226 {L : List (Option Value)} {st : List Value} {H : HP} {Q : Option Value → HP → Prop} : Go 158 226 L st H Q ↔ Go 158 228 L (vi 16 :: st) H Q := G_bipush fX9_carry_226 (by decide)
theorem fX9_carry_228 : ft 158 228 = some (.lushr, 0, 0, 0, .null) := by decide +kernel
theorem gX9_carry_228 {L : List (Option Value)} {a b : Int} {st : List Value} {H : HP} {Q : Option Value → HP → Prop} : Go 158 228 L (vi b :: vl a :: st) H Q ↔ Go 158 229 L (vl (bUsh a b) :: st) H Q := G_lushr fX9_carry_228
theorem fX9_carry_229 : ft 158 229 = some (.lstore 6, 0, 0, 0, .null) := by decide +kernel
theorem gX9_carry_229 {l0 l1 l2 l3 l4 l5 l6 l7 l8 l9 l10 l11 l12 l13 : Option Value} {u : Int64} {st : List Value} {H : HP} {Q : Option Value → HP → Prop} : Go 158 229 [l0, l1, l2, l3, l4, l5, l6, l7, l8, l9, l10, l11, l12, l13] (.long u :: st) H Q ↔ Go 158 231 [l0, l1, l2, l3, l4, l5, some (.long u), none, l8, l9, l10, l11, l12, l13] st H Q := G_lstore fX9_carry_229 rfl
theorem fX9_carry_231 : ft 158 231 = some (.iinc 8 1, 0, 0, 0, .null) := by decide +kernel
theorem gX9_carry_231 {l0 l1 l2 l3 l4 l5 l6 l7 l9 l10 l11 l12 l13 : Option Value} {a : Int} {st : List Value} {H : HP} {Q : Option Value → HP → Prop} : Go 158 231 [l0, l1, l2, l3, l4, l5, l6, l7, some (vi a), l9, l10, l11, l12, l13] st H Q ↔ Go 158 234 [l0, l1, l2, l3, l4, l5, l6, l7, some (vi (a + 1)), l9, l10, l11, l12, l13] st H Q := G_iinc fX9_carry_231 rfl rfl
theorem fX9_carry_234 : ft 158 234 = some (.goto (-112), 0, 0, 0, .null) := by decide +kernel
theorem gX9_carry_234 {L : List (Option Value)} {st : List Value} {H : HP} {Q : Option Value → HP → Prop} : Go 158 234 L st H Q ↔ Go 158 122 L st H Q := G_goto fX9_carry_234 (by decide)
theorem fX9_carry_237 : ft 158 237 = some (.lconst 0, 0, 0, 0, .null) := by decide +kernel
theorem gX9_carry_237 {L : List (Option Value)} {st : List Value} {H : HP} {Q : Option Value → HP → Prop} : Go 158 237 L st H Q ↔ Go 158 238 L (vl 0 :: st) H Q := G_lconst fX9_carry_237 (by decide)
theorem fX9_carry_238 : ft 158 238 = some (.lstore 8, 0, 0, 0, .null) := by decide +kernel
theorem gX9_carry_238 {l0 l1 l2 l3 l4 l5 l6 l7 l8 l9 l10 l11 l12 l13 : Option Value} {u : Int64} {st : List Value} {H : HP} {Q : Option Value → HP → Prop} : Go 158 238 [l0, l1, l2, l3, l4, l5, l6, l7, l8, l9, l10, l11, l12, l13] (.long u :: st) H Q ↔ Go 158 240 [l0, l1, l2, l3, l4, l5, l6, l7, some (.long u), none, l10, l11, l12, l13] st H Q := G_lstore fX9_carry_238 rfl
theorem fX9_carry_240 : ft 158 240 = some (.iconst 0, 0, 0, 0, .null) := by decide +kernel
theorem gX9_carry_240 {L : List (Option Value)} {st : List Value} {H : HP} {Q : Option Value → HP → Prop} : Go 158 240 L st H Q ↔ Go 158 241 L (vi 0 :: st) H Q := G_iconst fX9_carry_240
theorem fX9_carry_241 : ft 158 241 = some (.istore 10, 0, 0, 0, .null) := by decide +kernel
theorem gX9_carry_241 {l0 l1 l2 l3 l4 l5 l6 l7 l8 l9 l10 l11 l12 l13 : Option Value} {u : Int32} {st : List Value} {H : HP} {Q : Option Value → HP → Prop} : Go 158 241 [l0, l1, l2, l3, l4, l5, l6, l7, l8, l9, l10, l11, l12, l13] (.int u :: st) H Q ↔ Go 158 243 [l0, l1, l2, l3, l4, l5, l6, l7, l8, l9, some (.int u), l11, l12, l13] st H Q := G_istore fX9_carry_241 rfl
theorem fX9_carry_243 : ft 158 243 = some (.bipush 8, 0, 0, 0, .null) := by decide +kernel
theorem gX9_carry_243 {L : List (Option Value)} {st : List Value} {H : HP} {Q : Option Value → HP → Prop} : Go 158 243 L st H Q ↔ Go 158 245 L (vi 8 :: st) H Q := G_bipush fX9_carry_243 (by decide)
theorem fX9_carry_245 : ft 158 245 = some (.istore 11, 0, 0, 0, .null) := by decide +kernel
theorem gX9_carry_245 {l0 l1 l2 l3 l4 l5 l6 l7 l8 l9 l10 l11 l12 l13 : Option Value} {u : Int32} {st : List Value} {H : HP} {Q : Option Value → HP → Prop} : Go 158 245 [l0, l1, l2, l3, l4, l5, l6, l7, l8, l9, l10, l11, l12, l13] (.int u :: st) H Q ↔ Go 158 247 [l0, l1, l2, l3, l4, l5, l6, l7, l8, l9, l10, some (.int u), l12, l13] st H Q := G_istore fX9_carry_245 rfl
theorem fX9_carry_247 : ft 158 247 = some (.iload 11, 0, 0, 0, .null) := by decide +kernel
theorem gX9_carry_247 {l0 l1 l2 l3 l4 l5 l6 l7 l8 l9 l10 l12 l13 : Option Value} {u : Int32} {st : List Value} {H : HP} {Q : Option Value → HP → Prop} : Go 158 247 [l0, l1, l2, l3, l4, l5, l6, l7, l8, l9, l10, some (.int u), l12, l13] st H Q ↔ Go 158 249 [l0, l1, l2, l3, l4, l5, l6, l7, l8, l9, l10, some (.int u), l12, l13] (.int u :: st) H Q := G_iload fX9_carry_247 rfl
theorem fX9_carry_249 : ft 158 249 = some (.ifCond .lt 65, 0, 0, 0, .null) := by decide +kernel
theorem gX9_carry_249T {L : List (Option Value)} {a : Int} (c : (-2147483648 ≤ a ∧ a ≤ 2147483647) ∧ a < 0) {st : List Value} {H : HP} {Q : Option Value → HP → Prop} : Go 158 249 L (vi a :: st) H Q ↔ Go 158 314 L st H Q := G_ifT fX9_carry_249 (by decide) c
theorem gX9_carry_249F {L : List (Option Value)} {a : Int} (c : (-2147483648 ≤ a ∧ a ≤ 2147483647) ∧ ¬ (a < 0)) {st : List Value} {H : HP} {Q : Option Value → HP → Prop} : Go 158 249 L (vi a :: st) H Q ↔ Go 158 252 L st H Q := G_ifF (tg := 314) fX9_carry_249 (by decide) c
theorem fX9_carry_252 : ft 158 252 = some (.lload 8, 0, 0, 0, .null) := by decide +kernel
theorem gX9_carry_252 {l0 l1 l2 l3 l4 l5 l6 l7 l10 l11 l12 l13 : Option Value} {u : Int64} {st : List Value} {H : HP} {Q : Option Value → HP → Prop} : Go 158 252 [l0, l1, l2, l3, l4, l5, l6, l7, some (.long u), none, l10, l11, l12, l13] st H Q ↔ Go 158 254 [l0, l1, l2, l3, l4, l5, l6, l7, some (.long u), none, l10, l11, l12, l13] (.long u :: st) H Q := G_lload fX9_carry_252 rfl
theorem fX9_carry_254 : ft 158 254 = some (.bipush 16, 0, 0, 0, .null) := by decide +kernel
theorem gX9_carry_254 {L : List (Option Value)} {st : List Value} {H : HP} {Q : Option Value → HP → Prop} : Go 158 254 L st H Q ↔ Go 158 256 L (vi 16 :: st) H Q := G_bipush fX9_carry_254 (by decide)
theorem fX9_carry_256 : ft 158 256 = some (.lshl, 0, 0, 0, .null) := by decide +kernel
theorem gX9_carry_256 {L : List (Option Value)} {a b : Int} {st : List Value} {H : HP} {Q : Option Value → HP → Prop} : Go 158 256 L (vi b :: vl a :: st) H Q ↔ Go 158 257 L (vl (bShl a b) :: st) H Q := G_lshl fX9_carry_256
theorem fX9_carry_257 : ft 158 257 = some (.aload_n 0, 0, 0, 0, .null) := by decide +kernel
theorem gX9_carry_257 {l1 l2 l3 l4 l5 l6 l7 l8 l9 l10 l11 l12 l13 : Option Value} {u : Nat} {st : List Value} {H : HP} {Q : Option Value → HP → Prop} : Go 158 257 [some (.ref u), l1, l2, l3, l4, l5, l6, l7, l8, l9, l10, l11, l12, l13] st H Q ↔ Go 158 258 [some (.ref u), l1, l2, l3, l4, l5, l6, l7, l8, l9, l10, l11, l12, l13] (.ref u :: st) H Q := G_aload_n fX9_carry_257 rfl
theorem fX9_carry_258 : ft 158 258 = some (.getfield 57, 9, 22, 776, .null) := by decide +kernel
theorem gX9_carry_258 {L : List (Option Value)} {p : Nat} {st : List Value} {H : HP} {Q : Option Value → HP → Prop} : Go 158 258 L (.ref p :: st) H Q ↔ Rd (gF' 9 22 (hget H p)) 158 261 L st H Q := G_getf fX9_carry_258 ⟨rfl, rfl⟩
theorem fX9_carry_261 : ft 158 261 = some (.iload 11, 0, 0, 0, .null) := by decide +kernel
theorem gX9_carry_261 {l0 l1 l2 l3 l4 l5 l6 l7 l8 l9 l10 l12 l13 : Option Value} {u : Int32} {st : List Value} {H : HP} {Q : Option Value → HP → Prop} : Go 158 261 [l0, l1, l2, l3, l4, l5, l6, l7, l8, l9, l10, some (.int u), l12, l13] st H Q ↔ Go 158 263 [l0, l1, l2, l3, l4, l5, l6, l7, l8, l9, l10, some (.int u), l12, l13] (.int u :: st) H Q := G_iload fX9_carry_261 rfl
theorem fX9_carry_263 : ft 158 263 = some (.laload, 0, 0, 0, .null) := by decide +kernel
theorem gX9_carry_263 {L : List (Option Value)} {p : Nat} {a : Int} {st : List Value} {H : HP} {Q : Option Value → HP → Prop} : Go 158 263 L (vi a :: .ref p :: st) H Q ↔ Rd (aL' (hget H p) a) 158 264 L st H Q := G_lald fX9_carry_263
theorem fX9_carry_264 : ft 158 264 = some (.lor, 0, 0, 0, .null) := by decide +kernel
theorem gX9_carry_264 {L : List (Option Value)} {a b : Int} {st : List Value} {H : HP} {Q : Option Value → HP → Prop} : Go 158 264 L (vl b :: vl a :: st) H Q ↔ Go 158 265 L (vl (bOr a b) :: st) H Q := G_lor fX9_carry_264
theorem fX9_carry_265 : ft 158 265 = some (.lstore 12, 0, 0, 0, .null) := by decide +kernel
theorem gX9_carry_265 {l0 l1 l2 l3 l4 l5 l6 l7 l8 l9 l10 l11 l12 l13 : Option Value} {u : Int64} {st : List Value} {H : HP} {Q : Option Value → HP → Prop} : Go 158 265 [l0, l1, l2, l3, l4, l5, l6, l7, l8, l9, l10, l11, l12, l13] (.long u :: st) H Q ↔ Go 158 267 [l0, l1, l2, l3, l4, l5, l6, l7, l8, l9, l10, l11, some (.long u), none] st H Q := G_lstore fX9_carry_265 rfl
theorem fX9_carry_267 : ft 158 267 = some (.aload_n 0, 0, 0, 0, .null) := by decide +kernel
theorem gX9_carry_267 {l1 l2 l3 l4 l5 l6 l7 l8 l9 l10 l11 l12 l13 : Option Value} {u : Nat} {st : List Value} {H : HP} {Q : Option Value → HP → Prop} : Go 158 267 [some (.ref u), l1, l2, l3, l4, l5, l6, l7, l8, l9, l10, l11, l12, l13] st H Q ↔ Go 158 268 [some (.ref u), l1, l2, l3, l4, l5, l6, l7, l8, l9, l10, l11, l12, l13] (.ref u :: st) H Q := G_aload_n fX9_carry_267 rfl
theorem fX9_carry_268 : ft 158 268 = some (.getfield 57, 9, 22, 776, .null) := by decide +kernel
theorem gX9_carry_268 {L : List (Option Value)} {p : Nat} {st : List Value} {H : HP} {Q : Option Value → HP → Prop} : Go 158 268 L (.ref p :: st) H Q ↔ Rd (gF' 9 22 (hget H p)) 158 271 L st H Q := G_getf fX9_carry_268 ⟨rfl, rfl⟩
theorem fX9_carry_271 : ft 158 271 = some (.iload 11, 0, 0, 0, .null) := by decide +kernel
theorem gX9_carry_271 {l0 l1 l2 l3 l4 l5 l6 l7 l8 l9 l10 l12 l13 : Option Value} {u : Int32} {st : List Value} {H : HP} {Q : Option Value → HP → Prop} : Go 158 271 [l0, l1, l2, l3, l4, l5, l6, l7, l8, l9, l10, some (.int u), l12, l13] st H Q ↔ Go 158 273 [l0, l1, l2, l3, l4, l5, l6, l7, l8, l9, l10, some (.int u), l12, l13] (.int u :: st) H Q := G_iload fX9_carry_271 rfl
theorem fX9_carry_273 : ft 158 273 = some (.lload 12, 0, 0, 0, .null) := by decide +kernel
theorem gX9_carry_273 {l0 l1 l2 l3 l4 l5 l6 l7 l8 l9 l10 l11 : Option Value} {u : Int64} {st : List Value} {H : HP} {Q : Option Value → HP → Prop} : Go 158 273 [l0, l1, l2, l3, l4, l5, l6, l7, l8, l9, l10, l11, some (.long u), none] st H Q ↔ Go 158 275 [l0, l1, l2, l3, l4, l5, l6, l7, l8, l9, l10, l11, some (.long u), none] (.long u :: st) H Q := G_lload fX9_carry_273 rfl
theorem fX9_carry_275 : ft 158 275 = some (.iload_n 2, 0, 0, 0, .null) := by decide +kernel
theorem gX9_carry_275 {l0 l1 l3 l4 l5 l6 l7 l8 l9 l10 l11 l12 l13 : Option Value} {u : Int32} {st : List Value} {H : HP} {Q : Option Value → HP → Prop} : Go 158 275 [l0, l1, some (.int u), l3, l4, l5, l6, l7, l8, l9, l10, l11, l12, l13] st H Q ↔ Go 158 276 [l0, l1, some (.int u), l3, l4, l5, l6, l7, l8, l9, l10, l11, l12, l13] (.int u :: st) H Q := G_iload_n fX9_carry_275 rfl
theorem fX9_carry_276 : ft 158 276 = some (.i2l, 0, 0, 0, .null) := by decide +kernel
theorem gX9_carry_276 {L : List (Option Value)} {a : Int} (c : -2147483648 ≤ a ∧ a ≤ 2147483647) {st : List Value} {H : HP} {Q : Option Value → HP → Prop} : Go 158 276 L (vi a :: st) H Q ↔ Go 158 277 L (vl a :: st) H Q := G_i2l fX9_carry_276 c
theorem fX9_carry_277 : ft 158 277 = some (.ldiv, 0, 0, 0, .null) := by decide +kernel
theorem gX9_carry_277 {L : List (Option Value)} {a b : Int} (c : -9223372036854775808 ≤ a ∧ a ≤ 9223372036854775807 ∧ -9223372036854775808 ≤ b ∧ b ≤ 9223372036854775807 ∧ ¬ b = 0) {st : List Value} {H : HP} {Q : Option Value → HP → Prop} : Go 158 277 L (vl b :: vl a :: st) H Q ↔ Go 158 278 L (vl (a.tdiv b) :: st) H Q := G_ldiv fX9_carry_277 c
theorem fX9_carry_278 : ft 158 278 = some (.lastore, 0, 0, 0, .null) := by decide +kernel
theorem gX9_carry_278 {L : List (Option Value)} {p : Nat} {a : Int} {b : Int} (hp : p ≠ 0) {st : List Value} {H : HP} {Q : Option Value → HP → Prop} : Go 158 278 L (vl b :: vi a :: .ref p :: st) H Q ↔ Wr (sL' (hget H p) a b) p 158 279 L st H Q := G_last fX9_carry_278 hp
theorem fX9_carry_279 : ft 158 279 = some (.lload 12, 0, 0, 0, .null) := by decide +kernel
theorem gX9_carry_279 {l0 l1 l2 l3 l4 l5 l6 l7 l8 l9 l10 l11 : Option Value} {u : Int64} {st : List Value} {H : HP} {Q : Option Value → HP → Prop} : Go 158 279 [l0, l1, l2, l3, l4, l5, l6, l7, l8, l9, l10, l11, some (.long u), none] st H Q ↔ Go 158 281 [l0, l1, l2, l3, l4, l5, l6, l7, l8, l9, l10, l11, some (.long u), none] (.long u :: st) H Q := G_lload fX9_carry_279 rfl
theorem fX9_carry_281 : ft 158 281 = some (.iload_n 2, 0, 0, 0, .null) := by decide +kernel
theorem gX9_carry_281 {l0 l1 l3 l4 l5 l6 l7 l8 l9 l10 l11 l12 l13 : Option Value} {u : Int32} {st : List Value} {H : HP} {Q : Option Value → HP → Prop} : Go 158 281 [l0, l1, some (.int u), l3, l4, l5, l6, l7, l8, l9, l10, l11, l12, l13] st H Q ↔ Go 158 282 [l0, l1, some (.int u), l3, l4, l5, l6, l7, l8, l9, l10, l11, l12, l13] (.int u :: st) H Q := G_iload_n fX9_carry_281 rfl
theorem fX9_carry_282 : ft 158 282 = some (.i2l, 0, 0, 0, .null) := by decide +kernel
theorem gX9_carry_282 {L : List (Option Value)} {a : Int} (c : -2147483648 ≤ a ∧ a ≤ 2147483647) {st : List Value} {H : HP} {Q : Option Value → HP → Prop} : Go 158 282 L (vi a :: st) H Q ↔ Go 158 283 L (vl a :: st) H Q := G_i2l fX9_carry_282 c
theorem fX9_carry_283 : ft 158 283 = some (.lrem, 0, 0, 0, .null) := by decide +kernel
theorem gX9_carry_283 {L : List (Option Value)} {a b : Int} (c : -9223372036854775808 ≤ a ∧ a ≤ 9223372036854775807 ∧ -9223372036854775808 ≤ b ∧ b ≤ 9223372036854775807 ∧ ¬ b = 0) {st : List Value} {H : HP} {Q : Option Value → HP → Prop} : Go 158 283 L (vl b :: vl a :: st) H Q ↔ Go 158 284 L (vl (a.tmod b) :: st) H Q := G_lrem fX9_carry_283 c
theorem fX9_carry_284 : ft 158 284 = some (.lstore 8, 0, 0, 0, .null) := by decide +kernel
theorem gX9_carry_284 {l0 l1 l2 l3 l4 l5 l6 l7 l8 l9 l10 l11 l12 l13 : Option Value} {u : Int64} {st : List Value} {H : HP} {Q : Option Value → HP → Prop} : Go 158 284 [l0, l1, l2, l3, l4, l5, l6, l7, l8, l9, l10, l11, l12, l13] (.long u :: st) H Q ↔ Go 158 286 [l0, l1, l2, l3, l4, l5, l6, l7, some (.long u), none, l10, l11, l12, l13] st H Q := G_lstore fX9_carry_284 rfl
theorem fX9_carry_286 : ft 158 286 = some (.iload 10, 0, 0, 0, .null) := by decide +kernel
theorem gX9_carry_286 {l0 l1 l2 l3 l4 l5 l6 l7 l8 l9 l11 l12 l13 : Option Value} {u : Int32} {st : List Value} {H : HP} {Q : Option Value → HP → Prop} : Go 158 286 [l0, l1, l2, l3, l4, l5, l6, l7, l8, l9, some (.int u), l11, l12, l13] st H Q ↔ Go 158 288 [l0, l1, l2, l3, l4, l5, l6, l7, l8, l9, some (.int u), l11, l12, l13] (.int u :: st) H Q := G_iload fX9_carry_286 rfl
theorem fX9_carry_288 : ft 158 288 = some (.aload_n 0, 0, 0, 0, .null) := by decide +kernel
theorem gX9_carry_288 {l1 l2 l3 l4 l5 l6 l7 l8 l9 l10 l11 l12 l13 : Option Value} {u : Nat} {st : List Value} {H : HP} {Q : Option Value → HP → Prop} : Go 158 288 [some (.ref u), l1, l2, l3, l4, l5, l6, l7, l8, l9, l10, l11, l12, l13] st H Q ↔ Go 158 289 [some (.ref u), l1, l2, l3, l4, l5, l6, l7, l8, l9, l10, l11, l12, l13] (.ref u :: st) H Q := G_aload_n fX9_carry_288 rfl
theorem fX9_carry_289 : ft 158 289 = some (.getfield 57, 9, 22, 776, .null) := by decide +kernel
theorem gX9_carry_289 {L : List (Option Value)} {p : Nat} {st : List Value} {H : HP} {Q : Option Value → HP → Prop} : Go 158 289 L (.ref p :: st) H Q ↔ Rd (gF' 9 22 (hget H p)) 158 292 L st H Q := G_getf fX9_carry_289 ⟨rfl, rfl⟩
theorem fX9_carry_292 : ft 158 292 = some (.iload 11, 0, 0, 0, .null) := by decide +kernel
theorem gX9_carry_292 {l0 l1 l2 l3 l4 l5 l6 l7 l8 l9 l10 l12 l13 : Option Value} {u : Int32} {st : List Value} {H : HP} {Q : Option Value → HP → Prop} : Go 158 292 [l0, l1, l2, l3, l4, l5, l6, l7, l8, l9, l10, some (.int u), l12, l13] st H Q ↔ Go 158 294 [l0, l1, l2, l3, l4, l5, l6, l7, l8, l9, l10, some (.int u), l12, l13] (.int u :: st) H Q := G_iload fX9_carry_292 rfl
theorem fX9_carry_294 : ft 158 294 = some (.laload, 0, 0, 0, .null) := by decide +kernel
theorem gX9_carry_294 {L : List (Option Value)} {p : Nat} {a : Int} {st : List Value} {H : HP} {Q : Option Value → HP → Prop} : Go 158 294 L (vi a :: .ref p :: st) H Q ↔ Rd (aL' (hget H p) a) 158 295 L st H Q := G_lald fX9_carry_294
theorem fX9_carry_295 : ft 158 295 = some (.lconst 0, 0, 0, 0, .null) := by decide +kernel
theorem gX9_carry_295 {L : List (Option Value)} {st : List Value} {H : HP} {Q : Option Value → HP → Prop} : Go 158 295 L st H Q ↔ Go 158 296 L (vl 0 :: st) H Q := G_lconst fX9_carry_295 (by decide)
theorem fX9_carry_296 : ft 158 296 = some (.lcmp, 0, 0, 0, .null) := by decide +kernel
theorem fX9_carry_296' : ft 158 297 = some (.ifCond .eq 7, 0, 0, 0, .null) := by decide +kernel
theorem gX9_carry_296T {L : List (Option Value)} {a b : Int} (c : (-9223372036854775808 ≤ a ∧ a ≤ 9223372036854775807 ∧ -9223372036854775808 ≤ b ∧ b ≤ 9223372036854775807) ∧ a = b) {st : List Value} {H : HP} {Q : Option Value → HP → Prop} : Go 158 296 L (vl b :: vl a :: st) H Q ↔ Go 158 304 L st H Q := G_lcT fX9_carry_296 fX9_carry_296' (by decide) c
theorem gX9_carry_296F {L : List (Option Value)} {a b : Int} (c : (-9223372036854775808 ≤ a ∧ a ≤ 9223372036854775807 ∧ -9223372036854775808 ≤ b ∧ b ≤ 9223372036854775807) ∧ ¬ (a = b)) {st : List Value} {H : HP} {Q : Option Value → HP → Prop} : Go 158 296 L (vl b :: vl a :: st) H Q ↔ Go 158 300 L st H Q := G_lcF (tg := 304) fX9_carry_296 fX9_carry_296' (by decide) c
theorem fX9_carry_297 : ft 158 297 = some (.ifCond .eq 7, 0, 0, 0, .null) := by decide +kernel
theorem gX9_carry_297T {L : List (Option Value)} {a : Int} (c : (-2147483648 ≤ a ∧ a ≤ 2147483647) ∧ a = 0) {st : List Value} {H : HP} {Q : Option Value → HP → Prop} : Go 158 297 L (vi a :: st) H Q ↔ Go 158 304 L st H Q := G_ifT fX9_carry_297 (by decide) c
theorem gX9_carry_297F {L : List (Option Value)} {a : Int} (c : (-2147483648 ≤ a ∧ a ≤ 2147483647) ∧ ¬ (a = 0)) {st : List Value} {H : HP} {Q : Option Value → HP → Prop} : Go 158 297 L (vi a :: st) H Q ↔ Go 158 300 L st H Q := G_ifF (tg := 304) fX9_carry_297 (by decide) c
theorem fX9_carry_300 : ft 158 300 = some (.iconst 1, 0, 0, 0, .null) := by decide +kernel
theorem gX9_carry_300 {L : List (Option Value)} {st : List Value} {H : HP} {Q : Option Value → HP → Prop} : Go 158 300 L st H Q ↔ Go 158 301 L (vi 1 :: st) H Q := G_iconst fX9_carry_300
theorem fX9_carry_301 : ft 158 301 = some (.goto 4, 0, 0, 0, .null) := by decide +kernel
theorem gX9_carry_301 {L : List (Option Value)} {st : List Value} {H : HP} {Q : Option Value → HP → Prop} : Go 158 301 L st H Q ↔ Go 158 305 L st H Q := G_goto fX9_carry_301 (by decide)
theorem fX9_carry_304 : ft 158 304 = some (.iconst 0, 0, 0, 0, .null) := by decide +kernel
theorem gX9_carry_304 {L : List (Option Value)} {st : List Value} {H : HP} {Q : Option Value → HP → Prop} : Go 158 304 L st H Q ↔ Go 158 305 L (vi 0 :: st) H Q := G_iconst fX9_carry_304
theorem fX9_carry_305 : ft 158 305 = some (.ior, 0, 0, 0, .null) := by decide +kernel
theorem gX9_carry_305 {L : List (Option Value)} {a b : Int} {st : List Value} {H : HP} {Q : Option Value → HP → Prop} : Go 158 305 L (vi b :: vi a :: st) H Q ↔ Go 158 306 L (vi (jOr a b) :: st) H Q := G_ior fX9_carry_305
theorem fX9_carry_306 : ft 158 306 = some (.istore 10, 0, 0, 0, .null) := by decide +kernel
theorem gX9_carry_306 {l0 l1 l2 l3 l4 l5 l6 l7 l8 l9 l10 l11 l12 l13 : Option Value} {u : Int32} {st : List Value} {H : HP} {Q : Option Value → HP → Prop} : Go 158 306 [l0, l1, l2, l3, l4, l5, l6, l7, l8, l9, l10, l11, l12, l13] (.int u :: st) H Q ↔ Go 158 308 [l0, l1, l2, l3, l4, l5, l6, l7, l8, l9, some (.int u), l11, l12, l13] st H Q := G_istore fX9_carry_306 rfl
theorem fX9_carry_308 : ft 158 308 = some (.iinc 11 (-1), 0, 0, 0, .null) := by decide +kernel
theorem gX9_carry_308 {l0 l1 l2 l3 l4 l5 l6 l7 l8 l9 l10 l12 l13 : Option Value} {a : Int} {st : List Value} {H : HP} {Q : Option Value → HP → Prop} : Go 158 308 [l0, l1, l2, l3, l4, l5, l6, l7, l8, l9, l10, some (vi a), l12, l13] st H Q ↔ Go 158 311 [l0, l1, l2, l3, l4, l5, l6, l7, l8, l9, l10, some (vi (a + (-1))), l12, l13] st H Q := G_iinc fX9_carry_308 rfl rfl
theorem fX9_carry_311 : ft 158 311 = some (.goto (-64), 0, 0, 0, .null) := by decide +kernel
theorem gX9_carry_311 {L : List (Option Value)} {st : List Value} {H : HP} {Q : Option Value → HP → Prop} : Go 158 311 L st H Q ↔ Go 158 247 L st H Q := G_goto fX9_carry_311 (by decide)
theorem fX9_carry_314 : ft 158 314 = some (.aload_n 0, 0, 0, 0, .null) := by decide +kernel
theorem gX9_carry_314 {l1 l2 l3 l4 l5 l6 l7 l8 l9 l10 l11 l12 l13 : Option Value} {u : Nat} {st : List Value} {H : HP} {Q : Option Value → HP → Prop} : Go 158 314 [some (.ref u), l1, l2, l3, l4, l5, l6, l7, l8, l9, l10, l11, l12, l13] st H Q ↔ Go 158 315 [some (.ref u), l1, l2, l3, l4, l5, l6, l7, l8, l9, l10, l11, l12, l13] (.ref u :: st) H Q := G_aload_n fX9_carry_314 rfl
theorem fX9_carry_315 : ft 158 315 = some (.getfield 54, 9, 21, 775, .null) := by decide +kernel
theorem gX9_carry_315 {L : List (Option Value)} {p : Nat} {st : List Value} {H : HP} {Q : Option Value → HP → Prop} : Go 158 315 L (.ref p :: st) H Q ↔ Rd (gF' 9 21 (hget H p)) 158 318 L st H Q := G_getf fX9_carry_315 ⟨rfl, rfl⟩
theorem fX9_carry_318 : ft 158 318 = some (.iload 4, 0, 0, 0, .null) := by decide +kernel
theorem gX9_carry_318 {l0 l1 l2 l3 l5 l6 l7 l8 l9 l10 l11 l12 l13 : Option Value} {u : Int32} {st : List Value} {H : HP} {Q : Option Value → HP → Prop} : Go 158 318 [l0, l1, l2, l3, some (.int u), l5, l6, l7, l8, l9, l10, l11, l12, l13] st H Q ↔ Go 158 320 [l0, l1, l2, l3, some (.int u), l5, l6, l7, l8, l9, l10, l11, l12, l13] (.int u :: st) H Q := G_iload fX9_carry_318 rfl
theorem fX9_carry_320 : ft 158 320 = some (.lload 8, 0, 0, 0, .null) := by decide +kernel
theorem gX9_carry_320 {l0 l1 l2 l3 l4 l5 l6 l7 l10 l11 l12 l13 : Option Value} {u : Int64} {st : List Value} {H : HP} {Q : Option Value → HP → Prop} : Go 158 320 [l0, l1, l2, l3, l4, l5, l6, l7, some (.long u), none, l10, l11, l12, l13] st H Q ↔ Go 158 322 [l0, l1, l2, l3, l4, l5, l6, l7, some (.long u), none, l10, l11, l12, l13] (.long u :: st) H Q := G_lload fX9_carry_320 rfl
theorem fX9_carry_322 : ft 158 322 = some (.l2i, 0, 0, 0, .null) := by decide +kernel
theorem gX9_carry_322 {L : List (Option Value)} {a : Int} {st : List Value} {H : HP} {Q : Option Value → HP → Prop} : Go 158 322 L (vl a :: st) H Q ↔ Go 158 323 L (vi a :: st) H Q := G_l2i fX9_carry_322
theorem fX9_carry_323 : ft 158 323 = some (.iastore, 0, 0, 0, .null) := by decide +kernel
theorem gX9_carry_323 {L : List (Option Value)} {p : Nat} {a : Int} {b : Int} (hp : p ≠ 0) {st : List Value} {H : HP} {Q : Option Value → HP → Prop} : Go 158 323 L (vi b :: vi a :: .ref p :: st) H Q ↔ Wr (sJ' (hget H p) a b) p 158 324 L st H Q := G_iast fX9_carry_323 hp
theorem fX9_carry_324 : ft 158 324 = some (.iinc 4 1, 0, 0, 0, .null) := by decide +kernel
theorem gX9_carry_324 {l0 l1 l2 l3 l5 l6 l7 l8 l9 l10 l11 l12 l13 : Option Value} {a : Int} {st : List Value} {H : HP} {Q : Option Value → HP → Prop} : Go 158 324 [l0, l1, l2, l3, some (vi a), l5, l6, l7, l8, l9, l10, l11, l12, l13] st H Q ↔ Go 158 327 [l0, l1, l2, l3, some (vi (a + 1)), l5, l6, l7, l8, l9, l10, l11, l12, l13] st H Q := G_iinc fX9_carry_324 rfl rfl
theorem fX9_carry_327 : ft 158 327 = some (.iload 10, 0, 0, 0, .null) := by decide +kernel
theorem gX9_carry_327 {l0 l1 l2 l3 l4 l5 l6 l7 l8 l9 l11 l12 l13 : Option Value} {u : Int32} {st : List Value} {H : HP} {Q : Option Value → HP → Prop} : Go 158 327 [l0, l1, l2, l3, l4, l5, l6, l7, l8, l9, some (.int u), l11, l12, l13] st H Q ↔ Go 158 329 [l0, l1, l2, l3, l4, l5, l6, l7, l8, l9, some (.int u), l11, l12, l13] (.int u :: st) H Q := G_iload fX9_carry_327 rfl
theorem fX9_carry_329 : ft 158 329 = some (.ifCond .ne 12, 0, 0, 0, .null) := by decide +kernel
theorem gX9_carry_329T {L : List (Option Value)} {a : Int} (c : (-2147483648 ≤ a ∧ a ≤ 2147483647) ∧ ¬ a = 0) {st : List Value} {H : HP} {Q : Option Value → HP → Prop} : Go 158 329 L (vi a :: st) H Q ↔ Go 158 341 L st H Q := G_ifT fX9_carry_329 (by decide) c
theorem gX9_carry_329F {L : List (Option Value)} {a : Int} (c : (-2147483648 ≤ a ∧ a ≤ 2147483647) ∧ ¬ (¬ a = 0)) {st : List Value} {H : HP} {Q : Option Value → HP → Prop} : Go 158 329 L (vi a :: st) H Q ↔ Go 158 332 L st H Q := G_ifF (tg := 341) fX9_carry_329 (by decide) c
theorem fX9_carry_332 : ft 158 332 = some (.iload 4, 0, 0, 0, .null) := by decide +kernel
theorem gX9_carry_332 {l0 l1 l2 l3 l5 l6 l7 l8 l9 l10 l11 l12 l13 : Option Value} {u : Int32} {st : List Value} {H : HP} {Q : Option Value → HP → Prop} : Go 158 332 [l0, l1, l2, l3, some (.int u), l5, l6, l7, l8, l9, l10, l11, l12, l13] st H Q ↔ Go 158 334 [l0, l1, l2, l3, some (.int u), l5, l6, l7, l8, l9, l10, l11, l12, l13] (.int u :: st) H Q := G_iload fX9_carry_332 rfl
theorem fX9_carry_334 : ft 158 334 = some (.aload_n 0, 0, 0, 0, .null) := by decide +kernel
theorem gX9_carry_334 {l1 l2 l3 l4 l5 l6 l7 l8 l9 l10 l11 l12 l13 : Option Value} {u : Nat} {st : List Value} {H : HP} {Q : Option Value → HP → Prop} : Go 158 334 [some (.ref u), l1, l2, l3, l4, l5, l6, l7, l8, l9, l10, l11, l12, l13] st H Q ↔ Go 158 335 [some (.ref u), l1, l2, l3, l4, l5, l6, l7, l8, l9, l10, l11, l12, l13] (.ref u :: st) H Q := G_aload_n fX9_carry_334 rfl
theorem fX9_carry_335 : ft 158 335 = some (.getfield 163, 9, 8, 762, .null) := by decide +kernel
theorem gX9_carry_335 {L : List (Option Value)} {p : Nat} {st : List Value} {H : HP} {Q : Option Value → HP → Prop} : Go 158 335 L (.ref p :: st) H Q ↔ Rd (gF' 9 8 (hget H p)) 158 338 L st H Q := G_getf fX9_carry_335 ⟨rfl, rfl⟩
theorem fX9_carry_338 : ft 158 338 = some (.if_icmp .ge 7, 0, 0, 0, .null) := by decide +kernel
theorem gX9_carry_338T {L : List (Option Value)} {a b : Int} (c : (-2147483648 ≤ a ∧ a ≤ 2147483647 ∧ -2147483648 ≤ b ∧ b ≤ 2147483647) ∧ b ≤ a) {st : List Value} {H : HP} {Q : Option Value → HP → Prop} : Go 158 338 L (vi b :: vi a :: st) H Q ↔ Go 158 345 L st H Q := G_icT fX9_carry_338 (by decide) c
theorem gX9_carry_338F {L : List (Option Value)} {a b : Int} (c : (-2147483648 ≤ a ∧ a ≤ 2147483647 ∧ -2147483648 ≤ b ∧ b ≤ 2147483647) ∧ ¬ (b ≤ a)) {st : List Value} {H : HP} {Q : Option Value → HP → Prop} : Go 158 338 L (vi b :: vi a :: st) H Q ↔ Go 158 341 L st H Q := G_icF (tg := 345) fX9_carry_338 (by decide) c
theorem fX9_carry_341 : ft 158 341 = some (.iconst 1, 0, 0, 0, .null) := by decide +kernel
theorem gX9_carry_341 {L : List (Option Value)} {st : List Value} {H : HP} {Q : Option Value → HP → Prop} : Go 158 341 L st H Q ↔ Go 158 342 L (vi 1 :: st) H Q := G_iconst fX9_carry_341
theorem fX9_carry_342 : ft 158 342 = some (.goto 4, 0, 0, 0, .null) := by decide +kernel
theorem gX9_carry_342 {L : List (Option Value)} {st : List Value} {H : HP} {Q : Option Value → HP → Prop} : Go 158 342 L st H Q ↔ Go 158 346 L st H Q := G_goto fX9_carry_342 (by decide)
theorem fX9_carry_345 : ft 158 345 = some (.iconst 0, 0, 0, 0, .null) := by decide +kernel
theorem gX9_carry_345 {L : List (Option Value)} {st : List Value} {H : HP} {Q : Option Value → HP → Prop} : Go 158 345 L st H Q ↔ Go 158 346 L (vi 0 :: st) H Q := G_iconst fX9_carry_345
theorem fX9_carry_346 : ft 158 346 = some (.istore 5, 0, 0, 0, .null) := by decide +kernel
theorem gX9_carry_346 {l0 l1 l2 l3 l4 l5 l6 l7 l8 l9 l10 l11 l12 l13 : Option Value} {u : Int32} {st : List Value} {H : HP} {Q : Option Value → HP → Prop} : Go 158 346 [l0, l1, l2, l3, l4, l5, l6, l7, l8, l9, l10, l11, l12, l13] (.int u :: st) H Q ↔ Go 158 348 [l0, l1, l2, l3, l4, some (.int u), l6, l7, l8, l9, l10, l11, l12, l13] st H Q := G_istore fX9_carry_346 rfl
theorem fX9_carry_348 : ft 158 348 = some (.goto (-237), 0, 0, 0, .null) := by decide +kernel
theorem gX9_carry_348 {L : List (Option Value)} {st : List Value} {H : HP} {Q : Option Value → HP → Prop} : Go 158 348 L st H Q ↔ Go 158 111 L st H Q := G_goto fX9_carry_348 (by decide)
theorem fX9_carry_351 : ft 158 351 = some (.iload 4, 0, 0, 0, .null) := by decide +kernel
theorem gX9_carry_351 {l0 l1 l2 l3 l5 l6 l7 l8 l9 l10 l11 l12 l13 : Option Value} {u : Int32} {st : List Value} {H : HP} {Q : Option Value → HP → Prop} : Go 158 351 [l0, l1, l2, l3, some (.int u), l5, l6, l7, l8, l9, l10, l11, l12, l13] st H Q ↔ Go 158 353 [l0, l1, l2, l3, some (.int u), l5, l6, l7, l8, l9, l10, l11, l12, l13] (.int u :: st) H Q := G_iload fX9_carry_351 rfl
theorem fX9_carry_353 : ft 158 353 = some (.iconst 1, 0, 0, 0, .null) := by decide +kernel
theorem gX9_carry_353 {L : List (Option Value)} {st : List Value} {H : HP} {Q : Option Value → HP → Prop} : Go 158 353 L st H Q ↔ Go 158 354 L (vi 1 :: st) H Q := G_iconst fX9_carry_353
theorem fX9_carry_354 : ft 158 354 = some (.if_icmp .le 21, 0, 0, 0, .null) := by decide +kernel
theorem gX9_carry_354T {L : List (Option Value)} {a b : Int} (c : (-2147483648 ≤ a ∧ a ≤ 2147483647 ∧ -2147483648 ≤ b ∧ b ≤ 2147483647) ∧ a ≤ b) {st : List Value} {H : HP} {Q : Option Value → HP → Prop} : Go 158 354 L (vi b :: vi a :: st) H Q ↔ Go 158 375 L st H Q := G_icT fX9_carry_354 (by decide) c
theorem gX9_carry_354F {L : List (Option Value)} {a b : Int} (c : (-2147483648 ≤ a ∧ a ≤ 2147483647 ∧ -2147483648 ≤ b ∧ b ≤ 2147483647) ∧ ¬ (a ≤ b)) {st : List Value} {H : HP} {Q : Option Value → HP → Prop} : Go 158 354 L (vi b :: vi a :: st) H Q ↔ Go 158 357 L st H Q := G_icF (tg := 375) fX9_carry_354 (by decide) c
theorem fX9_carry_357 : ft 158 357 = some (.aload_n 0, 0, 0, 0, .null) := by decide +kernel
theorem gX9_carry_357 {l1 l2 l3 l4 l5 l6 l7 l8 l9 l10 l11 l12 l13 : Option Value} {u : Nat} {st : List Value} {H : HP} {Q : Option Value → HP → Prop} : Go 158 357 [some (.ref u), l1, l2, l3, l4, l5, l6, l7, l8, l9, l10, l11, l12, l13] st H Q ↔ Go 158 358 [some (.ref u), l1, l2, l3, l4, l5, l6, l7, l8, l9, l10, l11, l12, l13] (.ref u :: st) H Q := G_aload_n fX9_carry_357 rfl
theorem fX9_carry_358 : ft 158 358 = some (.getfield 54, 9, 21, 775, .null) := by decide +kernel
theorem gX9_carry_358 {L : List (Option Value)} {p : Nat} {st : List Value} {H : HP} {Q : Option Value → HP → Prop} : Go 158 358 L (.ref p :: st) H Q ↔ Rd (gF' 9 21 (hget H p)) 158 361 L st H Q := G_getf fX9_carry_358 ⟨rfl, rfl⟩
theorem fX9_carry_361 : ft 158 361 = some (.iload 4, 0, 0, 0, .null) := by decide +kernel
theorem gX9_carry_361 {l0 l1 l2 l3 l5 l6 l7 l8 l9 l10 l11 l12 l13 : Option Value} {u : Int32} {st : List Value} {H : HP} {Q : Option Value → HP → Prop} : Go 158 361 [l0, l1, l2, l3, some (.int u), l5, l6, l7, l8, l9, l10, l11, l12, l13] st H Q ↔ Go 158 363 [l0, l1, l2, l3, some (.int u), l5, l6, l7, l8, l9, l10, l11, l12, l13] (.int u :: st) H Q := G_iload fX9_carry_361 rfl
theorem fX9_carry_363 : ft 158 363 = some (.iconst 1, 0, 0, 0, .null) := by decide +kernel
theorem gX9_carry_363 {L : List (Option Value)} {st : List Value} {H : HP} {Q : Option Value → HP → Prop} : Go 158 363 L st H Q ↔ Go 158 364 L (vi 1 :: st) H Q := G_iconst fX9_carry_363
theorem fX9_carry_364 : ft 158 364 = some (.isub, 0, 0, 0, .null) := by decide +kernel
theorem gX9_carry_364 {L : List (Option Value)} {a b : Int} {st : List Value} {H : HP} {Q : Option Value → HP → Prop} : Go 158 364 L (vi b :: vi a :: st) H Q ↔ Go 158 365 L (vi (a - b) :: st) H Q := G_isub fX9_carry_364
theorem fX9_carry_365 : ft 158 365 = some (.iaload, 0, 0, 0, .null) := by decide +kernel
theorem gX9_carry_365 {L : List (Option Value)} {p : Nat} {a : Int} {st : List Value} {H : HP} {Q : Option Value → HP → Prop} : Go 158 365 L (vi a :: .ref p :: st) H Q ↔ Rd (aJ' (hget H p) a) 158 366 L st H Q := G_iald fX9_carry_365
theorem fX9_carry_366 : ft 158 366 = some (.ifCond .ne 9, 0, 0, 0, .null) := by decide +kernel
theorem gX9_carry_366T {L : List (Option Value)} {a : Int} (c : (-2147483648 ≤ a ∧ a ≤ 2147483647) ∧ ¬ a = 0) {st : List Value} {H : HP} {Q : Option Value → HP → Prop} : Go 158 366 L (vi a :: st) H Q ↔ Go 158 375 L st H Q := G_ifT fX9_carry_366 (by decide) c
theorem gX9_carry_366F {L : List (Option Value)} {a : Int} (c : (-2147483648 ≤ a ∧ a ≤ 2147483647) ∧ ¬ (¬ a = 0)) {st : List Value} {H : HP} {Q : Option Value → HP → Prop} : Go 158 366 L (vi a :: st) H Q ↔ Go 158 369 L st H Q := G_ifF (tg := 375) fX9_carry_366 (by decide) c
theorem fX9_carry_369 : ft 158 369 = some (.iinc 4 (-1), 0, 0, 0, .null) := by decide +kernel
theorem gX9_carry_369 {l0 l1 l2 l3 l5 l6 l7 l8 l9 l10 l11 l12 l13 : Option Value} {a : Int} {st : List Value} {H : HP} {Q : Option Value → HP → Prop} : Go 158 369 [l0, l1, l2, l3, some (vi a), l5, l6, l7, l8, l9, l10, l11, l12, l13] st H Q ↔ Go 158 372 [l0, l1, l2, l3, some (vi (a + (-1))), l5, l6, l7, l8, l9, l10, l11, l12, l13] st H Q := G_iinc fX9_carry_369 rfl rfl
theorem fX9_carry_372 : ft 158 372 = some (.goto (-21), 0, 0, 0, .null) := by decide +kernel
theorem gX9_carry_372 {L : List (Option Value)} {st : List Value} {H : HP} {Q : Option Value → HP → Prop} : Go 158 372 L st H Q ↔ Go 158 351 L st H Q := G_goto fX9_carry_372 (by decide)
theorem fX9_carry_375 : ft 158 375 = some (.iload 4, 0, 0, 0, .null) := by decide +kernel
theorem gX9_carry_375 {l0 l1 l2 l3 l5 l6 l7 l8 l9 l10 l11 l12 l13 : Option Value} {u : Int32} {st : List Value} {H : HP} {Q : Option Value → HP → Prop} : Go 158 375 [l0, l1, l2, l3, some (.int u), l5, l6, l7, l8, l9, l10, l11, l12, l13] st H Q ↔ Go 158 377 [l0, l1, l2, l3, some (.int u), l5, l6, l7, l8, l9, l10, l11, l12, l13] (.int u :: st) H Q := G_iload fX9_carry_375 rfl
theorem fX9_carry_377 : ft 158 377 = some (.bipush 64, 0, 0, 0, .null) := by decide +kernel
theorem gX9_carry_377 {L : List (Option Value)} {st : List Value} {H : HP} {Q : Option Value → HP → Prop} : Go 158 377 L st H Q ↔ Go 158 379 L (vi 64 :: st) H Q := G_bipush fX9_carry_377 (by decide)
theorem fX9_carry_379 : ft 158 379 = some (.if_icmp .le 6, 0, 0, 0, .null) := by decide +kernel
theorem gX9_carry_379T {L : List (Option Value)} {a b : Int} (c : (-2147483648 ≤ a ∧ a ≤ 2147483647 ∧ -2147483648 ≤ b ∧ b ≤ 2147483647) ∧ a ≤ b) {st : List Value} {H : HP} {Q : Option Value → HP → Prop} : Go 158 379 L (vi b :: vi a :: st) H Q ↔ Go 158 385 L st H Q := G_icT fX9_carry_379 (by decide) c
theorem gX9_carry_379F {L : List (Option Value)} {a b : Int} (c : (-2147483648 ≤ a ∧ a ≤ 2147483647 ∧ -2147483648 ≤ b ∧ b ≤ 2147483647) ∧ ¬ (a ≤ b)) {st : List Value} {H : HP} {Q : Option Value → HP → Prop} : Go 158 379 L (vi b :: vi a :: st) H Q ↔ Go 158 382 L st H Q := G_icF (tg := 385) fX9_carry_379 (by decide) c
theorem fX9_carry_382 : ft 158 382 = some (.bipush (-4), 0, 0, 0, .null) := by decide +kernel
theorem gX9_carry_382 {L : List (Option Value)} {st : List Value} {H : HP} {Q : Option Value → HP → Prop} : Go 158 382 L st H Q ↔ Go 158 384 L (vi (-4) :: st) H Q := G_bipush fX9_carry_382 (by decide)
theorem fX9_carry_384 : ft 158 384 = some (.ireturn, 0, 0, 0, .null) := by decide +kernel
theorem gX9_carry_384 {L : List (Option Value)} {u : Int32} {H : HP} {Q : Option Value → HP → Prop} : Go 158 384 L [.int u] H Q ↔ Q (some (.int u)) H := G_iret fX9_carry_384 (by decide +kernel)
theorem fX9_carry_385 : ft 158 385 = some (.aload_n 0, 0, 0, 0, .null) := by decide +kernel
theorem gX9_carry_385 {l1 l2 l3 l4 l5 l6 l7 l8 l9 l10 l11 l12 l13 : Option Value} {u : Nat} {st : List Value} {H : HP} {Q : Option Value → HP → Prop} : Go 158 385 [some (.ref u), l1, l2, l3, l4, l5, l6, l7, l8, l9, l10, l11, l12, l13] st H Q ↔ Go 158 386 [some (.ref u), l1, l2, l3, l4, l5, l6, l7, l8, l9, l10, l11, l12, l13] (.ref u :: st) H Q := G_aload_n fX9_carry_385 rfl
theorem fX9_carry_386 : ft 158 386 = some (.iload_n 1, 0, 0, 0, .null) := by decide +kernel
theorem gX9_carry_386 {l0 l2 l3 l4 l5 l6 l7 l8 l9 l10 l11 l12 l13 : Option Value} {u : Int32} {st : List Value} {H : HP} {Q : Option Value → HP → Prop} : Go 158 386 [l0, some (.int u), l2, l3, l4, l5, l6, l7, l8, l9, l10, l11, l12, l13] st H Q ↔ Go 158 387 [l0, some (.int u), l2, l3, l4, l5, l6, l7, l8, l9, l10, l11, l12, l13] (.int u :: st) H Q := G_iload_n fX9_carry_386 rfl
theorem fX9_carry_387 : ft 158 387 = some (.iconst 2, 0, 0, 0, .null) := by decide +kernel
theorem gX9_carry_387 {L : List (Option Value)} {st : List Value} {H : HP} {Q : Option Value → HP → Prop} : Go 158 387 L st H Q ↔ Go 158 388 L (vi 2 :: st) H Q := G_iconst fX9_carry_387
theorem fX9_carry_388 : ft 158 388 = some (.iload 4, 0, 0, 0, .null) := by decide +kernel
theorem gX9_carry_388 {l0 l1 l2 l3 l5 l6 l7 l8 l9 l10 l11 l12 l13 : Option Value} {u : Int32} {st : List Value} {H : HP} {Q : Option Value → HP → Prop} : Go 158 388 [l0, l1, l2, l3, some (.int u), l5, l6, l7, l8, l9, l10, l11, l12, l13] st H Q ↔ Go 158 390 [l0, l1, l2, l3, some (.int u), l5, l6, l7, l8, l9, l10, l11, l12, l13] (.int u :: st) H Q := G_iload fX9_carry_388 rfl
theorem fX9_carry_390 : ft 158 390 = some (.invokevirtual 93, 122, 0, 851, .null) := by decide +kernel
theorem gX9_carry_390 {L : List (Option Value)} {p : Nat} {a0 : Int32} {a1 : Int32} {a2 : Int32}  {H : HP} {Q : Option Value → HP → Prop} : Go 158 390 L (.int a2 :: .int a1 :: .int a0 :: .ref p :: []) H Q ↔ (iso 9 (hget H p) = true ∧ Go 122 0 [some (.ref p), some (.int a0), some (.int a1), some (.int a2), none, none, none] [] H (Cont 158 393 L [] Q)) := G_cV (n := 3) (N := 7) (as := [.int a2, .int a1, .int a0]) (st := []) fX9_carry_390 (by decide +kernel) rfl (Nat.le_of_ble_eq_true rfl) (Nat.le_of_ble_eq_true rfl) rfl
theorem fX9_carry_393 : ft 158 393 = some (.istore 6, 0, 0, 0, .null) := by decide +kernel
theorem gX9_carry_393 {l0 l1 l2 l3 l4 l5 l6 l7 l8 l9 l10 l11 l12 l13 : Option Value} {u : Int32} {st : List Value} {H : HP} {Q : Option Value → HP → Prop} : Go 158 393 [l0, l1, l2, l3, l4, l5, l6, l7, l8, l9, l10, l11, l12, l13] (.int u :: st) H Q ↔ Go 158 395 [l0, l1, l2, l3, l4, l5, some (.int u), l7, l8, l9, l10, l11, l12, l13] st H Q := G_istore fX9_carry_393 rfl
theorem fX9_carry_395 : ft 158 395 = some (.iconst 0, 0, 0, 0, .null) := by decide +kernel
theorem gX9_carry_395 {L : List (Option Value)} {st : List Value} {H : HP} {Q : Option Value → HP → Prop} : Go 158 395 L st H Q ↔ Go 158 396 L (vi 0 :: st) H Q := G_iconst fX9_carry_395
theorem fX9_carry_396 : ft 158 396 = some (.istore 7, 0, 0, 0, .null) := by decide +kernel
theorem gX9_carry_396 {l0 l1 l2 l3 l4 l5 l6 l7 l8 l9 l10 l11 l12 l13 : Option Value} {u : Int32} {st : List Value} {H : HP} {Q : Option Value → HP → Prop} : Go 158 396 [l0, l1, l2, l3, l4, l5, l6, l7, l8, l9, l10, l11, l12, l13] (.int u :: st) H Q ↔ Go 158 398 [l0, l1, l2, l3, l4, l5, l6, some (.int u), l8, l9, l10, l11, l12, l13] st H Q := G_istore fX9_carry_396 rfl
theorem fX9_carry_398 : ft 158 398 = some (.iload 7, 0, 0, 0, .null) := by decide +kernel
theorem gX9_carry_398 {l0 l1 l2 l3 l4 l5 l6 l8 l9 l10 l11 l12 l13 : Option Value} {u : Int32} {st : List Value} {H : HP} {Q : Option Value → HP → Prop} : Go 158 398 [l0, l1, l2, l3, l4, l5, l6, some (.int u), l8, l9, l10, l11, l12, l13] st H Q ↔ Go 158 400 [l0, l1, l2, l3, l4, l5, l6, some (.int u), l8, l9, l10, l11, l12, l13] (.int u :: st) H Q := G_iload fX9_carry_398 rfl
theorem fX9_carry_400 : ft 158 400 = some (.iload 4, 0, 0, 0, .null) := by decide +kernel
theorem gX9_carry_400 {l0 l1 l2 l3 l5 l6 l7 l8 l9 l10 l11 l12 l13 : Option Value} {u : Int32} {st : List Value} {H : HP} {Q : Option Value → HP → Prop} : Go 158 400 [l0, l1, l2, l3, some (.int u), l5, l6, l7, l8, l9, l10, l11, l12, l13] st H Q ↔ Go 158 402 [l0, l1, l2, l3, some (.int u), l5, l6, l7, l8, l9, l10, l11, l12, l13] (.int u :: st) H Q := G_iload fX9_carry_400 rfl
theorem fX9_carry_402 : ft 158 402 = some (.if_icmp .ge 30, 0, 0, 0, .null) := by decide +kernel
theorem gX9_carry_402T {L : List (Option Value)} {a b : Int} (c : (-2147483648 ≤ a ∧ a ≤ 2147483647 ∧ -2147483648 ≤ b ∧ b ≤ 2147483647) ∧ b ≤ a) {st : List Value} {H : HP} {Q : Option Value → HP → Prop} : Go 158 402 L (vi b :: vi a :: st) H Q ↔ Go 158 432 L st H Q := G_icT fX9_carry_402 (by decide) c
theorem gX9_carry_402F {L : List (Option Value)} {a b : Int} (c : (-2147483648 ≤ a ∧ a ≤ 2147483647 ∧ -2147483648 ≤ b ∧ b ≤ 2147483647) ∧ ¬ (b ≤ a)) {st : List Value} {H : HP} {Q : Option Value → HP → Prop} : Go 158 402 L (vi b :: vi a :: st) H Q ↔ Go 158 405 L st H Q := G_icF (tg := 432) fX9_carry_402 (by decide) c
theorem fX9_carry_405 : ft 158 405 = some (.aload_n 0, 0, 0, 0, .null) := by decide +kernel
theorem gX9_carry_405 {l1 l2 l3 l4 l5 l6 l7 l8 l9 l10 l11 l12 l13 : Option Value} {u : Nat} {st : List Value} {H : HP} {Q : Option Value → HP → Prop} : Go 158 405 [some (.ref u), l1, l2, l3, l4, l5, l6, l7, l8, l9, l10, l11, l12, l13] st H Q ↔ Go 158 406 [some (.ref u), l1, l2, l3, l4, l5, l6, l7, l8, l9, l10, l11, l12, l13] (.ref u :: st) H Q := G_aload_n fX9_carry_405 rfl
theorem fX9_carry_406 : ft 158 406 = some (.getfield 19, 9, 4, 758, .null) := by decide +kernel
theorem gX9_carry_406 {L : List (Option Value)} {p : Nat} {st : List Value} {H : HP} {Q : Option Value → HP → Prop} : Go 158 406 L (.ref p :: st) H Q ↔ Rd (gF' 9 4 (hget H p)) 158 409 L st H Q := G_getf fX9_carry_406 ⟨rfl, rfl⟩
theorem fX9_carry_409 : ft 158 409 = some (.bipush 64, 0, 0, 0, .null) := by decide +kernel
theorem gX9_carry_409 {L : List (Option Value)} {st : List Value} {H : HP} {Q : Option Value → HP → Prop} : Go 158 409 L st H Q ↔ Go 158 411 L (vi 64 :: st) H Q := G_bipush fX9_carry_409 (by decide)
theorem fX9_carry_411 : ft 158 411 = some (.iload 6, 0, 0, 0, .null) := by decide +kernel
theorem gX9_carry_411 {l0 l1 l2 l3 l4 l5 l7 l8 l9 l10 l11 l12 l13 : Option Value} {u : Int32} {st : List Value} {H : HP} {Q : Option Value → HP → Prop} : Go 158 411 [l0, l1, l2, l3, l4, l5, some (.int u), l7, l8, l9, l10, l11, l12, l13] st H Q ↔ Go 158 413 [l0, l1, l2, l3, l4, l5, some (.int u), l7, l8, l9, l10, l11, l12, l13] (.int u :: st) H Q := G_iload fX9_carry_411 rfl
theorem fX9_carry_413 : ft 158 413 = some (.imul, 0, 0, 0, .null) := by decide +kernel
theorem gX9_carry_413 {L : List (Option Value)} {a b : Int} {st : List Value} {H : HP} {Q : Option Value → HP → Prop} : Go 158 413 L (vi b :: vi a :: st) H Q ↔ Go 158 414 L (vi (a * b) :: st) H Q := G_imul fX9_carry_413
theorem fX9_carry_414 : ft 158 414 = some (.iload 7, 0, 0, 0, .null) := by decide +kernel
theorem gX9_carry_414 {l0 l1 l2 l3 l4 l5 l6 l8 l9 l10 l11 l12 l13 : Option Value} {u : Int32} {st : List Value} {H : HP} {Q : Option Value → HP → Prop} : Go 158 414 [l0, l1, l2, l3, l4, l5, l6, some (.int u), l8, l9, l10, l11, l12, l13] st H Q ↔ Go 158 416 [l0, l1, l2, l3, l4, l5, l6, some (.int u), l8, l9, l10, l11, l12, l13] (.int u :: st) H Q := G_iload fX9_carry_414 rfl
theorem fX9_carry_416 : ft 158 416 = some (.iadd, 0, 0, 0, .null) := by decide +kernel
theorem gX9_carry_416 {L : List (Option Value)} {a b : Int} {st : List Value} {H : HP} {Q : Option Value → HP → Prop} : Go 158 416 L (vi b :: vi a :: st) H Q ↔ Go 158 417 L (vi (a + b) :: st) H Q := G_iadd fX9_carry_416
theorem fX9_carry_417 : ft 158 417 = some (.aload_n 0, 0, 0, 0, .null) := by decide +kernel
theorem gX9_carry_417 {l1 l2 l3 l4 l5 l6 l7 l8 l9 l10 l11 l12 l13 : Option Value} {u : Nat} {st : List Value} {H : HP} {Q : Option Value → HP → Prop} : Go 158 417 [some (.ref u), l1, l2, l3, l4, l5, l6, l7, l8, l9, l10, l11, l12, l13] st H Q ↔ Go 158 418 [some (.ref u), l1, l2, l3, l4, l5, l6, l7, l8, l9, l10, l11, l12, l13] (.ref u :: st) H Q := G_aload_n fX9_carry_417 rfl
theorem fX9_carry_418 : ft 158 418 = some (.getfield 54, 9, 21, 775, .null) := by decide +kernel
theorem gX9_carry_418 {L : List (Option Value)} {p : Nat} {st : List Value} {H : HP} {Q : Option Value → HP → Prop} : Go 158 418 L (.ref p :: st) H Q ↔ Rd (gF' 9 21 (hget H p)) 158 421 L st H Q := G_getf fX9_carry_418 ⟨rfl, rfl⟩
theorem fX9_carry_421 : ft 158 421 = some (.iload 7, 0, 0, 0, .null) := by decide +kernel
theorem gX9_carry_421 {l0 l1 l2 l3 l4 l5 l6 l8 l9 l10 l11 l12 l13 : Option Value} {u : Int32} {st : List Value} {H : HP} {Q : Option Value → HP → Prop} : Go 158 421 [l0, l1, l2, l3, l4, l5, l6, some (.int u), l8, l9, l10, l11, l12, l13] st H Q ↔ Go 158 423 [l0, l1, l2, l3, l4, l5, l6, some (.int u), l8, l9, l10, l11, l12, l13] (.int u :: st) H Q := G_iload fX9_carry_421 rfl
theorem fX9_carry_423 : ft 158 423 = some (.iaload, 0, 0, 0, .null) := by decide +kernel
theorem gX9_carry_423 {L : List (Option Value)} {p : Nat} {a : Int} {st : List Value} {H : HP} {Q : Option Value → HP → Prop} : Go 158 423 L (vi a :: .ref p :: st) H Q ↔ Rd (aJ' (hget H p) a) 158 424 L st H Q := G_iald fX9_carry_423
theorem fX9_carry_424 : ft 158 424 = some (.i2l, 0, 0, 0, .null) := by decide +kernel
theorem gX9_carry_424 {L : List (Option Value)} {a : Int} (c : -2147483648 ≤ a ∧ a ≤ 2147483647) {st : List Value} {H : HP} {Q : Option Value → HP → Prop} : Go 158 424 L (vi a :: st) H Q ↔ Go 158 425 L (vl a :: st) H Q := G_i2l fX9_carry_424 c
theorem fX9_carry_425 : ft 158 425 = some (.lastore, 0, 0, 0, .null) := by decide +kernel
theorem gX9_carry_425 {L : List (Option Value)} {p : Nat} {a : Int} {b : Int} (hp : p ≠ 0) {st : List Value} {H : HP} {Q : Option Value → HP → Prop} : Go 158 425 L (vl b :: vi a :: .ref p :: st) H Q ↔ Wr (sL' (hget H p) a b) p 158 426 L st H Q := G_last fX9_carry_425 hp
theorem fX9_carry_426 : ft 158 426 = some (.iinc 7 1, 0, 0, 0, .null) := by decide +kernel
theorem gX9_carry_426 {l0 l1 l2 l3 l4 l5 l6 l8 l9 l10 l11 l12 l13 : Option Value} {a : Int} {st : List Value} {H : HP} {Q : Option Value → HP → Prop} : Go 158 426 [l0, l1, l2, l3, l4, l5, l6, some (vi a), l8, l9, l10, l11, l12, l13] st H Q ↔ Go 158 429 [l0, l1, l2, l3, l4, l5, l6, some (vi (a + 1)), l8, l9, l10, l11, l12, l13] st H Q := G_iinc fX9_carry_426 rfl rfl
theorem fX9_carry_429 : ft 158 429 = some (.goto (-31), 0, 0, 0, .null) := by decide +kernel
theorem gX9_carry_429 {L : List (Option Value)} {st : List Value} {H : HP} {Q : Option Value → HP → Prop} : Go 158 429 L st H Q ↔ Go 158 398 L st H Q := G_goto fX9_carry_429 (by decide)
theorem fX9_carry_432 : ft 158 432 = some (.iload 4, 0, 0, 0, .null) := by decide +kernel
theorem gX9_carry_432 {l0 l1 l2 l3 l5 l6 l7 l8 l9 l10 l11 l12 l13 : Option Value} {u : Int32} {st : List Value} {H : HP} {Q : Option Value → HP → Prop} : Go 158 432 [l0, l1, l2, l3, some (.int u), l5, l6, l7, l8, l9, l10, l11, l12, l13] st H Q ↔ Go 158 434 [l0, l1, l2, l3, some (.int u), l5, l6, l7, l8, l9, l10, l11, l12, l13] (.int u :: st) H Q := G_iload fX9_carry_432 rfl
theorem fX9_carry_434 : ft 158 434 = some (.ireturn, 0, 0, 0, .null) := by decide +kernel
theorem gX9_carry_434 {L : List (Option Value)} {u : Int32} {H : HP} {Q : Option Value → HP → Prop} : Go 158 434 L [.int u] H Q ↔ Q (some (.int u)) H := G_iret fX9_carry_434 (by decide +kernel)
theorem fX9_costOf_0 : ft 159 0 = some (.iload_n 0, 0, 0, 0, .null) := by decide +kernel
theorem gX9_costOf_0 {l1 l2 l3 l4 l5 : Option Value} {u : Int32} {st : List Value} {H : HP} {Q : Option Value → HP → Prop} : Go 159 0 [some (.int u), l1, l2, l3, l4, l5] st H Q ↔ Go 159 1 [some (.int u), l1, l2, l3, l4, l5] (.int u :: st) H Q := G_iload_n fX9_costOf_0 rfl
theorem fX9_costOf_1 : ft 159 1 = some (.ifCond .ne 7, 0, 0, 0, .null) := by decide +kernel
theorem gX9_costOf_1T {L : List (Option Value)} {a : Int} (c : (-2147483648 ≤ a ∧ a ≤ 2147483647) ∧ ¬ a = 0) {st : List Value} {H : HP} {Q : Option Value → HP → Prop} : Go 159 1 L (vi a :: st) H Q ↔ Go 159 8 L st H Q := G_ifT fX9_costOf_1 (by decide) c
theorem gX9_costOf_1F {L : List (Option Value)} {a : Int} (c : (-2147483648 ≤ a ∧ a ≤ 2147483647) ∧ ¬ (¬ a = 0)) {st : List Value} {H : HP} {Q : Option Value → HP → Prop} : Go 159 1 L (vi a :: st) H Q ↔ Go 159 4 L st H Q := G_ifF (tg := 8) fX9_costOf_1 (by decide) c
theorem fX9_costOf_4 : ft 159 4 = some (.iload_n 1, 0, 0, 0, .null) := by decide +kernel
theorem gX9_costOf_4 {l0 l2 l3 l4 l5 : Option Value} {u : Int32} {st : List Value} {H : HP} {Q : Option Value → HP → Prop} : Go 159 4 [l0, some (.int u), l2, l3, l4, l5] st H Q ↔ Go 159 5 [l0, some (.int u), l2, l3, l4, l5] (.int u :: st) H Q := G_iload_n fX9_costOf_4 rfl
theorem fX9_costOf_5 : ft 159 5 = some (.iload_n 2, 0, 0, 0, .null) := by decide +kernel
theorem gX9_costOf_5 {l0 l1 l3 l4 l5 : Option Value} {u : Int32} {st : List Value} {H : HP} {Q : Option Value → HP → Prop} : Go 159 5 [l0, l1, some (.int u), l3, l4, l5] st H Q ↔ Go 159 6 [l0, l1, some (.int u), l3, l4, l5] (.int u :: st) H Q := G_iload_n fX9_costOf_5 rfl
theorem fX9_costOf_6 : ft 159 6 = some (.imul, 0, 0, 0, .null) := by decide +kernel
theorem gX9_costOf_6 {L : List (Option Value)} {a b : Int} {st : List Value} {H : HP} {Q : Option Value → HP → Prop} : Go 159 6 L (vi b :: vi a :: st) H Q ↔ Go 159 7 L (vi (a * b) :: st) H Q := G_imul fX9_costOf_6
theorem fX9_costOf_7 : ft 159 7 = some (.ireturn, 0, 0, 0, .null) := by decide +kernel
theorem gX9_costOf_7 {L : List (Option Value)} {u : Int32} {H : HP} {Q : Option Value → HP → Prop} : Go 159 7 L [.int u] H Q ↔ Q (some (.int u)) H := G_iret fX9_costOf_7 (by decide +kernel)
theorem fX9_costOf_8 : ft 159 8 = some (.iconst 0, 0, 0, 0, .null) := by decide +kernel
theorem gX9_costOf_8 {L : List (Option Value)} {st : List Value} {H : HP} {Q : Option Value → HP → Prop} : Go 159 8 L st H Q ↔ Go 159 9 L (vi 0 :: st) H Q := G_iconst fX9_costOf_8
theorem fX9_costOf_9 : ft 159 9 = some (.istore_n 3, 0, 0, 0, .null) := by decide +kernel
theorem gX9_costOf_9 {l0 l1 l2 l3 l4 l5 : Option Value} {u : Int32} {st : List Value} {H : HP} {Q : Option Value → HP → Prop} : Go 159 9 [l0, l1, l2, l3, l4, l5] (.int u :: st) H Q ↔ Go 159 10 [l0, l1, l2, some (.int u), l4, l5] st H Q := G_istore_n fX9_costOf_9 rfl
theorem fX9_costOf_10 : ft 159 10 = some (.iconst 1, 0, 0, 0, .null) := by decide +kernel
theorem gX9_costOf_10 {L : List (Option Value)} {st : List Value} {H : HP} {Q : Option Value → HP → Prop} : Go 159 10 L st H Q ↔ Go 159 11 L (vi 1 :: st) H Q := G_iconst fX9_costOf_10
theorem fX9_costOf_11 : ft 159 11 = some (.istore 4, 0, 0, 0, .null) := by decide +kernel
theorem gX9_costOf_11 {l0 l1 l2 l3 l4 l5 : Option Value} {u : Int32} {st : List Value} {H : HP} {Q : Option Value → HP → Prop} : Go 159 11 [l0, l1, l2, l3, l4, l5] (.int u :: st) H Q ↔ Go 159 13 [l0, l1, l2, l3, some (.int u), l5] st H Q := G_istore fX9_costOf_11 rfl
theorem fX9_costOf_13 : ft 159 13 = some (.iload 4, 0, 0, 0, .null) := by decide +kernel
theorem gX9_costOf_13 {l0 l1 l2 l3 l5 : Option Value} {u : Int32} {st : List Value} {H : HP} {Q : Option Value → HP → Prop} : Go 159 13 [l0, l1, l2, l3, some (.int u), l5] st H Q ↔ Go 159 15 [l0, l1, l2, l3, some (.int u), l5] (.int u :: st) H Q := G_iload fX9_costOf_13 rfl
theorem fX9_costOf_15 : ft 159 15 = some (.iload_n 1, 0, 0, 0, .null) := by decide +kernel
theorem gX9_costOf_15 {l0 l2 l3 l4 l5 : Option Value} {u : Int32} {st : List Value} {H : HP} {Q : Option Value → HP → Prop} : Go 159 15 [l0, some (.int u), l2, l3, l4, l5] st H Q ↔ Go 159 16 [l0, some (.int u), l2, l3, l4, l5] (.int u :: st) H Q := G_iload_n fX9_costOf_15 rfl
theorem fX9_costOf_16 : ft 159 16 = some (.iload_n 2, 0, 0, 0, .null) := by decide +kernel
theorem gX9_costOf_16 {l0 l1 l3 l4 l5 : Option Value} {u : Int32} {st : List Value} {H : HP} {Q : Option Value → HP → Prop} : Go 159 16 [l0, l1, some (.int u), l3, l4, l5] st H Q ↔ Go 159 17 [l0, l1, some (.int u), l3, l4, l5] (.int u :: st) H Q := G_iload_n fX9_costOf_16 rfl
theorem fX9_costOf_17 : ft 159 17 = some (.iadd, 0, 0, 0, .null) := by decide +kernel
theorem gX9_costOf_17 {L : List (Option Value)} {a b : Int} {st : List Value} {H : HP} {Q : Option Value → HP → Prop} : Go 159 17 L (vi b :: vi a :: st) H Q ↔ Go 159 18 L (vi (a + b) :: st) H Q := G_iadd fX9_costOf_17
theorem fX9_costOf_18 : ft 159 18 = some (.iconst 1, 0, 0, 0, .null) := by decide +kernel
theorem gX9_costOf_18 {L : List (Option Value)} {st : List Value} {H : HP} {Q : Option Value → HP → Prop} : Go 159 18 L st H Q ↔ Go 159 19 L (vi 1 :: st) H Q := G_iconst fX9_costOf_18
theorem fX9_costOf_19 : ft 159 19 = some (.isub, 0, 0, 0, .null) := by decide +kernel
theorem gX9_costOf_19 {L : List (Option Value)} {a b : Int} {st : List Value} {H : HP} {Q : Option Value → HP → Prop} : Go 159 19 L (vi b :: vi a :: st) H Q ↔ Go 159 20 L (vi (a - b) :: st) H Q := G_isub fX9_costOf_19
theorem fX9_costOf_20 : ft 159 20 = some (.if_icmp .ge 15, 0, 0, 0, .null) := by decide +kernel
theorem gX9_costOf_20T {L : List (Option Value)} {a b : Int} (c : (-2147483648 ≤ a ∧ a ≤ 2147483647 ∧ -2147483648 ≤ b ∧ b ≤ 2147483647) ∧ b ≤ a) {st : List Value} {H : HP} {Q : Option Value → HP → Prop} : Go 159 20 L (vi b :: vi a :: st) H Q ↔ Go 159 35 L st H Q := G_icT fX9_costOf_20 (by decide) c
theorem gX9_costOf_20F {L : List (Option Value)} {a b : Int} (c : (-2147483648 ≤ a ∧ a ≤ 2147483647 ∧ -2147483648 ≤ b ∧ b ≤ 2147483647) ∧ ¬ (b ≤ a)) {st : List Value} {H : HP} {Q : Option Value → HP → Prop} : Go 159 20 L (vi b :: vi a :: st) H Q ↔ Go 159 23 L st H Q := G_icF (tg := 35) fX9_costOf_20 (by decide) c
theorem fX9_costOf_23 : ft 159 23 = some (.iload 4, 0, 0, 0, .null) := by decide +kernel
theorem gX9_costOf_23 {l0 l1 l2 l3 l5 : Option Value} {u : Int32} {st : List Value} {H : HP} {Q : Option Value → HP → Prop} : Go 159 23 [l0, l1, l2, l3, some (.int u), l5] st H Q ↔ Go 159 25 [l0, l1, l2, l3, some (.int u), l5] (.int u :: st) H Q := G_iload fX9_costOf_23 rfl
theorem fX9_costOf_25 : ft 159 25 = some (.iconst 2, 0, 0, 0, .null) := by decide +kernel
theorem gX9_costOf_25 {L : List (Option Value)} {st : List Value} {H : HP} {Q : Option Value → HP → Prop} : Go 159 25 L st H Q ↔ Go 159 26 L (vi 2 :: st) H Q := G_iconst fX9_costOf_25
theorem fX9_costOf_26 : ft 159 26 = some (.imul, 0, 0, 0, .null) := by decide +kernel
theorem gX9_costOf_26 {L : List (Option Value)} {a b : Int} {st : List Value} {H : HP} {Q : Option Value → HP → Prop} : Go 159 26 L (vi b :: vi a :: st) H Q ↔ Go 159 27 L (vi (a * b) :: st) H Q := G_imul fX9_costOf_26
theorem fX9_costOf_27 : ft 159 27 = some (.istore 4, 0, 0, 0, .null) := by decide +kernel
theorem gX9_costOf_27 {l0 l1 l2 l3 l4 l5 : Option Value} {u : Int32} {st : List Value} {H : HP} {Q : Option Value → HP → Prop} : Go 159 27 [l0, l1, l2, l3, l4, l5] (.int u :: st) H Q ↔ Go 159 29 [l0, l1, l2, l3, some (.int u), l5] st H Q := G_istore fX9_costOf_27 rfl
theorem fX9_costOf_29 : ft 159 29 = some (.iinc 3 1, 0, 0, 0, .null) := by decide +kernel
theorem gX9_costOf_29 {l0 l1 l2 l4 l5 : Option Value} {a : Int} {st : List Value} {H : HP} {Q : Option Value → HP → Prop} : Go 159 29 [l0, l1, l2, some (vi a), l4, l5] st H Q ↔ Go 159 32 [l0, l1, l2, some (vi (a + 1)), l4, l5] st H Q := G_iinc fX9_costOf_29 rfl rfl
theorem fX9_costOf_32 : ft 159 32 = some (.goto (-19), 0, 0, 0, .null) := by decide +kernel
theorem gX9_costOf_32 {L : List (Option Value)} {st : List Value} {H : HP} {Q : Option Value → HP → Prop} : Go 159 32 L st H Q ↔ Go 159 13 L st H Q := G_goto fX9_costOf_32 (by decide)
theorem fX9_costOf_35 : ft 159 35 = some (.iconst 3, 0, 0, 0, .null) := by decide +kernel
theorem gX9_costOf_35 {L : List (Option Value)} {st : List Value} {H : HP} {Q : Option Value → HP → Prop} : Go 159 35 L st H Q ↔ Go 159 36 L (vi 3 :: st) H Q := G_iconst fX9_costOf_35
theorem fX9_costOf_36 : ft 159 36 = some (.iload 4, 0, 0, 0, .null) := by decide +kernel
theorem gX9_costOf_36 {l0 l1 l2 l3 l5 : Option Value} {u : Int32} {st : List Value} {H : HP} {Q : Option Value → HP → Prop} : Go 159 36 [l0, l1, l2, l3, some (.int u), l5] st H Q ↔ Go 159 38 [l0, l1, l2, l3, some (.int u), l5] (.int u :: st) H Q := G_iload fX9_costOf_36 rfl
theorem fX9_costOf_38 : ft 159 38 = some (.imul, 0, 0, 0, .null) := by decide +kernel
theorem gX9_costOf_38 {L : List (Option Value)} {a b : Int} {st : List Value} {H : HP} {Q : Option Value → HP → Prop} : Go 159 38 L (vi b :: vi a :: st) H Q ↔ Go 159 39 L (vi (a * b) :: st) H Q := G_imul fX9_costOf_38
theorem fX9_costOf_39 : ft 159 39 = some (.iload_n 3, 0, 0, 0, .null) := by decide +kernel
theorem gX9_costOf_39 {l0 l1 l2 l4 l5 : Option Value} {u : Int32} {st : List Value} {H : HP} {Q : Option Value → HP → Prop} : Go 159 39 [l0, l1, l2, some (.int u), l4, l5] st H Q ↔ Go 159 40 [l0, l1, l2, some (.int u), l4, l5] (.int u :: st) H Q := G_iload_n fX9_costOf_39 rfl
theorem fX9_costOf_40 : ft 159 40 = some (.imul, 0, 0, 0, .null) := by decide +kernel
theorem gX9_costOf_40 {L : List (Option Value)} {a b : Int} {st : List Value} {H : HP} {Q : Option Value → HP → Prop} : Go 159 40 L (vi b :: vi a :: st) H Q ↔ Go 159 41 L (vi (a * b) :: st) H Q := G_imul fX9_costOf_40
theorem fX9_costOf_41 : ft 159 41 = some (.iconst 2, 0, 0, 0, .null) := by decide +kernel
theorem gX9_costOf_41 {L : List (Option Value)} {st : List Value} {H : HP} {Q : Option Value → HP → Prop} : Go 159 41 L st H Q ↔ Go 159 42 L (vi 2 :: st) H Q := G_iconst fX9_costOf_41
theorem fX9_costOf_42 : ft 159 42 = some (.idiv, 0, 0, 0, .null) := by decide +kernel
theorem gX9_costOf_42 {L : List (Option Value)} {a b : Int} (c : -2147483648 ≤ a ∧ a ≤ 2147483647 ∧ -2147483648 ≤ b ∧ b ≤ 2147483647 ∧ ¬ b = 0) {st : List Value} {H : HP} {Q : Option Value → HP → Prop} : Go 159 42 L (vi b :: vi a :: st) H Q ↔ Go 159 43 L (vi (a.tdiv b) :: st) H Q := G_idiv fX9_costOf_42 c
theorem fX9_costOf_43 : ft 159 43 = some (.iconst 2, 0, 0, 0, .null) := by decide +kernel
theorem gX9_costOf_43 {L : List (Option Value)} {st : List Value} {H : HP} {Q : Option Value → HP → Prop} : Go 159 43 L st H Q ↔ Go 159 44 L (vi 2 :: st) H Q := G_iconst fX9_costOf_43
theorem fX9_costOf_44 : ft 159 44 = some (.iload 4, 0, 0, 0, .null) := by decide +kernel
theorem gX9_costOf_44 {l0 l1 l2 l3 l5 : Option Value} {u : Int32} {st : List Value} {H : HP} {Q : Option Value → HP → Prop} : Go 159 44 [l0, l1, l2, l3, some (.int u), l5] st H Q ↔ Go 159 46 [l0, l1, l2, l3, some (.int u), l5] (.int u :: st) H Q := G_iload fX9_costOf_44 rfl
theorem fX9_costOf_46 : ft 159 46 = some (.imul, 0, 0, 0, .null) := by decide +kernel
theorem gX9_costOf_46 {L : List (Option Value)} {a b : Int} {st : List Value} {H : HP} {Q : Option Value → HP → Prop} : Go 159 46 L (vi b :: vi a :: st) H Q ↔ Go 159 47 L (vi (a * b) :: st) H Q := G_imul fX9_costOf_46
theorem fX9_costOf_47 : ft 159 47 = some (.iadd, 0, 0, 0, .null) := by decide +kernel
theorem gX9_costOf_47 {L : List (Option Value)} {a b : Int} {st : List Value} {H : HP} {Q : Option Value → HP → Prop} : Go 159 47 L (vi b :: vi a :: st) H Q ↔ Go 159 48 L (vi (a + b) :: st) H Q := G_iadd fX9_costOf_47
theorem fX9_costOf_48 : ft 159 48 = some (.istore 5, 0, 0, 0, .null) := by decide +kernel
theorem gX9_costOf_48 {l0 l1 l2 l3 l4 l5 : Option Value} {u : Int32} {st : List Value} {H : HP} {Q : Option Value → HP → Prop} : Go 159 48 [l0, l1, l2, l3, l4, l5] (.int u :: st) H Q ↔ Go 159 50 [l0, l1, l2, l3, l4, some (.int u)] st H Q := G_istore fX9_costOf_48 rfl
theorem fX9_costOf_50 : ft 159 50 = some (.iload_n 0, 0, 0, 0, .null) := by decide +kernel
theorem gX9_costOf_50 {l1 l2 l3 l4 l5 : Option Value} {u : Int32} {st : List Value} {H : HP} {Q : Option Value → HP → Prop} : Go 159 50 [some (.int u), l1, l2, l3, l4, l5] st H Q ↔ Go 159 51 [some (.int u), l1, l2, l3, l4, l5] (.int u :: st) H Q := G_iload_n fX9_costOf_50 rfl
theorem fX9_costOf_51 : ft 159 51 = some (.iconst 1, 0, 0, 0, .null) := by decide +kernel
theorem gX9_costOf_51 {L : List (Option Value)} {st : List Value} {H : HP} {Q : Option Value → HP → Prop} : Go 159 51 L st H Q ↔ Go 159 52 L (vi 1 :: st) H Q := G_iconst fX9_costOf_51
theorem fX9_costOf_52 : ft 159 52 = some (.if_icmp .ne 8, 0, 0, 0, .null) := by decide +kernel
theorem gX9_costOf_52T {L : List (Option Value)} {a b : Int} (c : (-2147483648 ≤ a ∧ a ≤ 2147483647 ∧ -2147483648 ≤ b ∧ b ≤ 2147483647) ∧ ¬ a = b) {st : List Value} {H : HP} {Q : Option Value → HP → Prop} : Go 159 52 L (vi b :: vi a :: st) H Q ↔ Go 159 60 L st H Q := G_icT fX9_costOf_52 (by decide) c
theorem gX9_costOf_52F {L : List (Option Value)} {a b : Int} (c : (-2147483648 ≤ a ∧ a ≤ 2147483647 ∧ -2147483648 ≤ b ∧ b ≤ 2147483647) ∧ ¬ (¬ a = b)) {st : List Value} {H : HP} {Q : Option Value → HP → Prop} : Go 159 52 L (vi b :: vi a :: st) H Q ↔ Go 159 55 L st H Q := G_icF (tg := 60) fX9_costOf_52 (by decide) c
theorem fX9_costOf_55 : ft 159 55 = some (.iload 5, 0, 0, 0, .null) := by decide +kernel
theorem gX9_costOf_55 {l0 l1 l2 l3 l4 : Option Value} {u : Int32} {st : List Value} {H : HP} {Q : Option Value → HP → Prop} : Go 159 55 [l0, l1, l2, l3, l4, some (.int u)] st H Q ↔ Go 159 57 [l0, l1, l2, l3, l4, some (.int u)] (.int u :: st) H Q := G_iload fX9_costOf_55 rfl
theorem fX9_costOf_57 : ft 159 57 = some (.goto 16, 0, 0, 0, .null) := by decide +kernel
theorem gX9_costOf_57 {L : List (Option Value)} {st : List Value} {H : HP} {Q : Option Value → HP → Prop} : Go 159 57 L st H Q ↔ Go 159 73 L st H Q := G_goto fX9_costOf_57 (by decide)
theorem fX9_costOf_60 : ft 159 60 = some (.iconst 3, 0, 0, 0, .null) := by decide +kernel
theorem gX9_costOf_60 {L : List (Option Value)} {st : List Value} {H : HP} {Q : Option Value → HP → Prop} : Go 159 60 L st H Q ↔ Go 159 61 L (vi 3 :: st) H Q := G_iconst fX9_costOf_60
theorem fX9_costOf_61 : ft 159 61 = some (.iload 5, 0, 0, 0, .null) := by decide +kernel
theorem gX9_costOf_61 {l0 l1 l2 l3 l4 : Option Value} {u : Int32} {st : List Value} {H : HP} {Q : Option Value → HP → Prop} : Go 159 61 [l0, l1, l2, l3, l4, some (.int u)] st H Q ↔ Go 159 63 [l0, l1, l2, l3, l4, some (.int u)] (.int u :: st) H Q := G_iload fX9_costOf_61 rfl
theorem fX9_costOf_63 : ft 159 63 = some (.imul, 0, 0, 0, .null) := by decide +kernel
theorem gX9_costOf_63 {L : List (Option Value)} {a b : Int} {st : List Value} {H : HP} {Q : Option Value → HP → Prop} : Go 159 63 L (vi b :: vi a :: st) H Q ↔ Go 159 64 L (vi (a * b) :: st) H Q := G_imul fX9_costOf_63
theorem fX9_costOf_64 : ft 159 64 = some (.bipush 6, 0, 0, 0, .null) := by decide +kernel
theorem gX9_costOf_64 {L : List (Option Value)} {st : List Value} {H : HP} {Q : Option Value → HP → Prop} : Go 159 64 L st H Q ↔ Go 159 66 L (vi 6 :: st) H Q := G_bipush fX9_costOf_64 (by decide)
theorem fX9_costOf_66 : ft 159 66 = some (.iload_n 1, 0, 0, 0, .null) := by decide +kernel
theorem gX9_costOf_66 {l0 l2 l3 l4 l5 : Option Value} {u : Int32} {st : List Value} {H : HP} {Q : Option Value → HP → Prop} : Go 159 66 [l0, some (.int u), l2, l3, l4, l5] st H Q ↔ Go 159 67 [l0, some (.int u), l2, l3, l4, l5] (.int u :: st) H Q := G_iload_n fX9_costOf_66 rfl
theorem fX9_costOf_67 : ft 159 67 = some (.iload_n 2, 0, 0, 0, .null) := by decide +kernel
theorem gX9_costOf_67 {l0 l1 l3 l4 l5 : Option Value} {u : Int32} {st : List Value} {H : HP} {Q : Option Value → HP → Prop} : Go 159 67 [l0, l1, some (.int u), l3, l4, l5] st H Q ↔ Go 159 68 [l0, l1, some (.int u), l3, l4, l5] (.int u :: st) H Q := G_iload_n fX9_costOf_67 rfl
theorem fX9_costOf_68 : ft 159 68 = some (.iadd, 0, 0, 0, .null) := by decide +kernel
theorem gX9_costOf_68 {L : List (Option Value)} {a b : Int} {st : List Value} {H : HP} {Q : Option Value → HP → Prop} : Go 159 68 L (vi b :: vi a :: st) H Q ↔ Go 159 69 L (vi (a + b) :: st) H Q := G_iadd fX9_costOf_68
theorem fX9_costOf_69 : ft 159 69 = some (.iconst 1, 0, 0, 0, .null) := by decide +kernel
theorem gX9_costOf_69 {L : List (Option Value)} {st : List Value} {H : HP} {Q : Option Value → HP → Prop} : Go 159 69 L st H Q ↔ Go 159 70 L (vi 1 :: st) H Q := G_iconst fX9_costOf_69
theorem fX9_costOf_70 : ft 159 70 = some (.isub, 0, 0, 0, .null) := by decide +kernel
theorem gX9_costOf_70 {L : List (Option Value)} {a b : Int} {st : List Value} {H : HP} {Q : Option Value → HP → Prop} : Go 159 70 L (vi b :: vi a :: st) H Q ↔ Go 159 71 L (vi (a - b) :: st) H Q := G_isub fX9_costOf_70
theorem fX9_costOf_71 : ft 159 71 = some (.imul, 0, 0, 0, .null) := by decide +kernel
theorem gX9_costOf_71 {L : List (Option Value)} {a b : Int} {st : List Value} {H : HP} {Q : Option Value → HP → Prop} : Go 159 71 L (vi b :: vi a :: st) H Q ↔ Go 159 72 L (vi (a * b) :: st) H Q := G_imul fX9_costOf_71
theorem fX9_costOf_72 : ft 159 72 = some (.iadd, 0, 0, 0, .null) := by decide +kernel
theorem gX9_costOf_72 {L : List (Option Value)} {a b : Int} {st : List Value} {H : HP} {Q : Option Value → HP → Prop} : Go 159 72 L (vi b :: vi a :: st) H Q ↔ Go 159 73 L (vi (a + b) :: st) H Q := G_iadd fX9_costOf_72
theorem fX9_costOf_73 : ft 159 73 = some (.ireturn, 0, 0, 0, .null) := by decide +kernel
theorem gX9_costOf_73 {L : List (Option Value)} {u : Int32} {H : HP} {Q : Option Value → HP → Prop} : Go 159 73 L [.int u] H Q ↔ Q (some (.int u)) H := G_iret fX9_costOf_73 (by decide +kernel)
theorem fX9_cost_0 : ft 160 0 = some (.iload_n 1, 0, 0, 0, .null) := by decide +kernel
theorem gX9_cost_0 {l0 l2 l3 : Option Value} {u : Int32} {st : List Value} {H : HP} {Q : Option Value → HP → Prop} : Go 160 0 [l0, some (.int u), l2, l3] st H Q ↔ Go 160 1 [l0, some (.int u), l2, l3] (.int u :: st) H Q := G_iload_n fX9_cost_0 rfl
theorem fX9_cost_1 : ft 160 1 = some (.iconst 0, 0, 0, 0, .null) := by decide +kernel
theorem gX9_cost_1 {L : List (Option Value)} {st : List Value} {H : HP} {Q : Option Value → HP → Prop} : Go 160 1 L st H Q ↔ Go 160 2 L (vi 0 :: st) H Q := G_iconst fX9_cost_1
theorem fX9_cost_2 : ft 160 2 = some (.iconst 2, 0, 0, 0, .null) := by decide +kernel
theorem gX9_cost_2 {L : List (Option Value)} {st : List Value} {H : HP} {Q : Option Value → HP → Prop} : Go 160 2 L st H Q ↔ Go 160 3 L (vi 2 :: st) H Q := G_iconst fX9_cost_2
theorem fX9_cost_3 : ft 160 3 = some (.invokestatic 75, 118, 0, 844, .null) := by decide +kernel
theorem gX9_cost_3 {L : List (Option Value)} {a0 : Int32} {a1 : Int32} {a2 : Int32}  {H : HP} {Q : Option Value → HP → Prop} : Go 160 3 L (.int a2 :: .int a1 :: .int a0 :: []) H Q ↔ Go 118 0 [some (.int a0), some (.int a1), some (.int a2)] [] H (Cont 160 6 L [] Q) := G_cS (n := 3) (N := 3) (as := [.int a2, .int a1, .int a0]) (st := []) fX9_cost_3 (by decide +kernel) rfl (Nat.le_of_ble_eq_true rfl) (Nat.le_of_ble_eq_true rfl) rfl
theorem fX9_cost_6 : ft 160 6 = some (.ifCond .ne 5, 0, 0, 0, .null) := by decide +kernel
theorem gX9_cost_6T {L : List (Option Value)} {a : Int} (c : (-2147483648 ≤ a ∧ a ≤ 2147483647) ∧ ¬ a = 0) {st : List Value} {H : HP} {Q : Option Value → HP → Prop} : Go 160 6 L (vi a :: st) H Q ↔ Go 160 11 L st H Q := G_ifT fX9_cost_6 (by decide) c
theorem gX9_cost_6F {L : List (Option Value)} {a : Int} (c : (-2147483648 ≤ a ∧ a ≤ 2147483647) ∧ ¬ (¬ a = 0)) {st : List Value} {H : HP} {Q : Option Value → HP → Prop} : Go 160 6 L (vi a :: st) H Q ↔ Go 160 9 L st H Q := G_ifF (tg := 11) fX9_cost_6 (by decide) c
theorem fX9_cost_9 : ft 160 9 = some (.iconst (-1), 0, 0, 0, .null) := by decide +kernel
theorem gX9_cost_9 {L : List (Option Value)} {st : List Value} {H : HP} {Q : Option Value → HP → Prop} : Go 160 9 L st H Q ↔ Go 160 10 L (vi (-1) :: st) H Q := G_iconst fX9_cost_9
theorem fX9_cost_10 : ft 160 10 = some (.ireturn, 0, 0, 0, .null) := by decide +kernel
theorem gX9_cost_10 {L : List (Option Value)} {u : Int32} {H : HP} {Q : Option Value → HP → Prop} : Go 160 10 L [.int u] H Q ↔ Q (some (.int u)) H := G_iret fX9_cost_10 (by decide +kernel)
theorem fX9_cost_11 : ft 160 11 = some (.iload_n 2, 0, 0, 0, .null) := by decide +kernel
theorem gX9_cost_11 {l0 l1 l3 : Option Value} {u : Int32} {st : List Value} {H : HP} {Q : Option Value → HP → Prop} : Go 160 11 [l0, l1, some (.int u), l3] st H Q ↔ Go 160 12 [l0, l1, some (.int u), l3] (.int u :: st) H Q := G_iload_n fX9_cost_11 rfl
theorem fX9_cost_12 : ft 160 12 = some (.iconst 1, 0, 0, 0, .null) := by decide +kernel
theorem gX9_cost_12 {L : List (Option Value)} {st : List Value} {H : HP} {Q : Option Value → HP → Prop} : Go 160 12 L st H Q ↔ Go 160 13 L (vi 1 :: st) H Q := G_iconst fX9_cost_12
theorem fX9_cost_13 : ft 160 13 = some (.bipush 64, 0, 0, 0, .null) := by decide +kernel
theorem gX9_cost_13 {L : List (Option Value)} {st : List Value} {H : HP} {Q : Option Value → HP → Prop} : Go 160 13 L st H Q ↔ Go 160 15 L (vi 64 :: st) H Q := G_bipush fX9_cost_13 (by decide)
theorem fX9_cost_15 : ft 160 15 = some (.invokestatic 75, 118, 0, 844, .null) := by decide +kernel
theorem gX9_cost_15 {L : List (Option Value)} {a0 : Int32} {a1 : Int32} {a2 : Int32}  {H : HP} {Q : Option Value → HP → Prop} : Go 160 15 L (.int a2 :: .int a1 :: .int a0 :: []) H Q ↔ Go 118 0 [some (.int a0), some (.int a1), some (.int a2)] [] H (Cont 160 18 L [] Q) := G_cS (n := 3) (N := 3) (as := [.int a2, .int a1, .int a0]) (st := []) fX9_cost_15 (by decide +kernel) rfl (Nat.le_of_ble_eq_true rfl) (Nat.le_of_ble_eq_true rfl) rfl
theorem fX9_cost_18 : ft 160 18 = some (.ifCond .eq 22, 0, 0, 0, .null) := by decide +kernel
theorem gX9_cost_18T {L : List (Option Value)} {a : Int} (c : (-2147483648 ≤ a ∧ a ≤ 2147483647) ∧ a = 0) {st : List Value} {H : HP} {Q : Option Value → HP → Prop} : Go 160 18 L (vi a :: st) H Q ↔ Go 160 40 L st H Q := G_ifT fX9_cost_18 (by decide) c
theorem gX9_cost_18F {L : List (Option Value)} {a : Int} (c : (-2147483648 ≤ a ∧ a ≤ 2147483647) ∧ ¬ (a = 0)) {st : List Value} {H : HP} {Q : Option Value → HP → Prop} : Go 160 18 L (vi a :: st) H Q ↔ Go 160 21 L st H Q := G_ifF (tg := 40) fX9_cost_18 (by decide) c
theorem fX9_cost_21 : ft 160 21 = some (.iload_n 3, 0, 0, 0, .null) := by decide +kernel
theorem gX9_cost_21 {l0 l1 l2 : Option Value} {u : Int32} {st : List Value} {H : HP} {Q : Option Value → HP → Prop} : Go 160 21 [l0, l1, l2, some (.int u)] st H Q ↔ Go 160 22 [l0, l1, l2, some (.int u)] (.int u :: st) H Q := G_iload_n fX9_cost_21 rfl
theorem fX9_cost_22 : ft 160 22 = some (.iconst 1, 0, 0, 0, .null) := by decide +kernel
theorem gX9_cost_22 {L : List (Option Value)} {st : List Value} {H : HP} {Q : Option Value → HP → Prop} : Go 160 22 L st H Q ↔ Go 160 23 L (vi 1 :: st) H Q := G_iconst fX9_cost_22
theorem fX9_cost_23 : ft 160 23 = some (.bipush 64, 0, 0, 0, .null) := by decide +kernel
theorem gX9_cost_23 {L : List (Option Value)} {st : List Value} {H : HP} {Q : Option Value → HP → Prop} : Go 160 23 L st H Q ↔ Go 160 25 L (vi 64 :: st) H Q := G_bipush fX9_cost_23 (by decide)
theorem fX9_cost_25 : ft 160 25 = some (.invokestatic 75, 118, 0, 844, .null) := by decide +kernel
theorem gX9_cost_25 {L : List (Option Value)} {a0 : Int32} {a1 : Int32} {a2 : Int32}  {H : HP} {Q : Option Value → HP → Prop} : Go 160 25 L (.int a2 :: .int a1 :: .int a0 :: []) H Q ↔ Go 118 0 [some (.int a0), some (.int a1), some (.int a2)] [] H (Cont 160 28 L [] Q) := G_cS (n := 3) (N := 3) (as := [.int a2, .int a1, .int a0]) (st := []) fX9_cost_25 (by decide +kernel) rfl (Nat.le_of_ble_eq_true rfl) (Nat.le_of_ble_eq_true rfl) rfl
theorem fX9_cost_28 : ft 160 28 = some (.ifCond .eq 12, 0, 0, 0, .null) := by decide +kernel
theorem gX9_cost_28T {L : List (Option Value)} {a : Int} (c : (-2147483648 ≤ a ∧ a ≤ 2147483647) ∧ a = 0) {st : List Value} {H : HP} {Q : Option Value → HP → Prop} : Go 160 28 L (vi a :: st) H Q ↔ Go 160 40 L st H Q := G_ifT fX9_cost_28 (by decide) c
theorem gX9_cost_28F {L : List (Option Value)} {a : Int} (c : (-2147483648 ≤ a ∧ a ≤ 2147483647) ∧ ¬ (a = 0)) {st : List Value} {H : HP} {Q : Option Value → HP → Prop} : Go 160 28 L (vi a :: st) H Q ↔ Go 160 31 L st H Q := G_ifF (tg := 40) fX9_cost_28 (by decide) c
theorem fX9_cost_31 : ft 160 31 = some (.iload_n 1, 0, 0, 0, .null) := by decide +kernel
theorem gX9_cost_31 {l0 l2 l3 : Option Value} {u : Int32} {st : List Value} {H : HP} {Q : Option Value → HP → Prop} : Go 160 31 [l0, some (.int u), l2, l3] st H Q ↔ Go 160 32 [l0, some (.int u), l2, l3] (.int u :: st) H Q := G_iload_n fX9_cost_31 rfl
theorem fX9_cost_32 : ft 160 32 = some (.iload_n 2, 0, 0, 0, .null) := by decide +kernel
theorem gX9_cost_32 {l0 l1 l3 : Option Value} {u : Int32} {st : List Value} {H : HP} {Q : Option Value → HP → Prop} : Go 160 32 [l0, l1, some (.int u), l3] st H Q ↔ Go 160 33 [l0, l1, some (.int u), l3] (.int u :: st) H Q := G_iload_n fX9_cost_32 rfl
theorem fX9_cost_33 : ft 160 33 = some (.iload_n 3, 0, 0, 0, .null) := by decide +kernel
theorem gX9_cost_33 {l0 l1 l2 : Option Value} {u : Int32} {st : List Value} {H : HP} {Q : Option Value → HP → Prop} : Go 160 33 [l0, l1, l2, some (.int u)] st H Q ↔ Go 160 34 [l0, l1, l2, some (.int u)] (.int u :: st) H Q := G_iload_n fX9_cost_33 rfl
theorem fX9_cost_34 : ft 160 34 = some (.invokestatic 184, 159, 0, 1009, .null) := by decide +kernel
theorem gX9_cost_34 {L : List (Option Value)} {a0 : Int32} {a1 : Int32} {a2 : Int32}  {H : HP} {Q : Option Value → HP → Prop} : Go 160 34 L (.int a2 :: .int a1 :: .int a0 :: []) H Q ↔ Go 159 0 [some (.int a0), some (.int a1), some (.int a2), none, none, none] [] H (Cont 160 37 L [] Q) := G_cS (n := 3) (N := 6) (as := [.int a2, .int a1, .int a0]) (st := []) fX9_cost_34 (by decide +kernel) rfl (Nat.le_of_ble_eq_true rfl) (Nat.le_of_ble_eq_true rfl) rfl
theorem fX9_cost_37 : ft 160 37 = some (.goto 5, 0, 0, 0, .null) := by decide +kernel
theorem gX9_cost_37 {L : List (Option Value)} {st : List Value} {H : HP} {Q : Option Value → HP → Prop} : Go 160 37 L st H Q ↔ Go 160 42 L st H Q := G_goto fX9_cost_37 (by decide)
theorem fX9_cost_40 : ft 160 40 = some (.bipush (-2), 0, 0, 0, .null) := by decide +kernel
theorem gX9_cost_40 {L : List (Option Value)} {st : List Value} {H : HP} {Q : Option Value → HP → Prop} : Go 160 40 L st H Q ↔ Go 160 42 L (vi (-2) :: st) H Q := G_bipush fX9_cost_40 (by decide)
theorem fX9_cost_42 : ft 160 42 = some (.ireturn, 0, 0, 0, .null) := by decide +kernel
theorem gX9_cost_42 {L : List (Option Value)} {u : Int32} {H : HP} {Q : Option Value → HP → Prop} : Go 160 42 L [.int u] H Q ↔ Q (some (.int u)) H := G_iret fX9_cost_42 (by decide +kernel)
theorem fX9_plan_0 : ft 161 0 = some (.iload_n 1, 0, 0, 0, .null) := by decide +kernel
theorem gX9_plan_0 {l0 l2 : Option Value} {u : Int32} {st : List Value} {H : HP} {Q : Option Value → HP → Prop} : Go 161 0 [l0, some (.int u), l2] st H Q ↔ Go 161 1 [l0, some (.int u), l2] (.int u :: st) H Q := G_iload_n fX9_plan_0 rfl
theorem fX9_plan_1 : ft 161 1 = some (.iconst 1, 0, 0, 0, .null) := by decide +kernel
theorem gX9_plan_1 {L : List (Option Value)} {st : List Value} {H : HP} {Q : Option Value → HP → Prop} : Go 161 1 L st H Q ↔ Go 161 2 L (vi 1 :: st) H Q := G_iconst fX9_plan_1
theorem fX9_plan_2 : ft 161 2 = some (.bipush 64, 0, 0, 0, .null) := by decide +kernel
theorem gX9_plan_2 {L : List (Option Value)} {st : List Value} {H : HP} {Q : Option Value → HP → Prop} : Go 161 2 L st H Q ↔ Go 161 4 L (vi 64 :: st) H Q := G_bipush fX9_plan_2 (by decide)
theorem fX9_plan_4 : ft 161 4 = some (.invokestatic 75, 118, 0, 844, .null) := by decide +kernel
theorem gX9_plan_4 {L : List (Option Value)} {a0 : Int32} {a1 : Int32} {a2 : Int32}  {H : HP} {Q : Option Value → HP → Prop} : Go 161 4 L (.int a2 :: .int a1 :: .int a0 :: []) H Q ↔ Go 118 0 [some (.int a0), some (.int a1), some (.int a2)] [] H (Cont 161 7 L [] Q) := G_cS (n := 3) (N := 3) (as := [.int a2, .int a1, .int a0]) (st := []) fX9_plan_4 (by decide +kernel) rfl (Nat.le_of_ble_eq_true rfl) (Nat.le_of_ble_eq_true rfl) rfl
theorem fX9_plan_7 : ft 161 7 = some (.ifCond .eq 13, 0, 0, 0, .null) := by decide +kernel
theorem gX9_plan_7T {L : List (Option Value)} {a : Int} (c : (-2147483648 ≤ a ∧ a ≤ 2147483647) ∧ a = 0) {st : List Value} {H : HP} {Q : Option Value → HP → Prop} : Go 161 7 L (vi a :: st) H Q ↔ Go 161 20 L st H Q := G_ifT fX9_plan_7 (by decide) c
theorem gX9_plan_7F {L : List (Option Value)} {a : Int} (c : (-2147483648 ≤ a ∧ a ≤ 2147483647) ∧ ¬ (a = 0)) {st : List Value} {H : HP} {Q : Option Value → HP → Prop} : Go 161 7 L (vi a :: st) H Q ↔ Go 161 10 L st H Q := G_ifF (tg := 20) fX9_plan_7 (by decide) c
theorem fX9_plan_10 : ft 161 10 = some (.iload_n 2, 0, 0, 0, .null) := by decide +kernel
theorem gX9_plan_10 {l0 l1 : Option Value} {u : Int32} {st : List Value} {H : HP} {Q : Option Value → HP → Prop} : Go 161 10 [l0, l1, some (.int u)] st H Q ↔ Go 161 11 [l0, l1, some (.int u)] (.int u :: st) H Q := G_iload_n fX9_plan_10 rfl
theorem fX9_plan_11 : ft 161 11 = some (.iconst 1, 0, 0, 0, .null) := by decide +kernel
theorem gX9_plan_11 {L : List (Option Value)} {st : List Value} {H : HP} {Q : Option Value → HP → Prop} : Go 161 11 L st H Q ↔ Go 161 12 L (vi 1 :: st) H Q := G_iconst fX9_plan_11
theorem fX9_plan_12 : ft 161 12 = some (.bipush 64, 0, 0, 0, .null) := by decide +kernel
theorem gX9_plan_12 {L : List (Option Value)} {st : List Value} {H : HP} {Q : Option Value → HP → Prop} : Go 161 12 L st H Q ↔ Go 161 14 L (vi 64 :: st) H Q := G_bipush fX9_plan_12 (by decide)
theorem fX9_plan_14 : ft 161 14 = some (.invokestatic 75, 118, 0, 844, .null) := by decide +kernel
theorem gX9_plan_14 {L : List (Option Value)} {a0 : Int32} {a1 : Int32} {a2 : Int32}  {H : HP} {Q : Option Value → HP → Prop} : Go 161 14 L (.int a2 :: .int a1 :: .int a0 :: []) H Q ↔ Go 118 0 [some (.int a0), some (.int a1), some (.int a2)] [] H (Cont 161 17 L [] Q) := G_cS (n := 3) (N := 3) (as := [.int a2, .int a1, .int a0]) (st := []) fX9_plan_14 (by decide +kernel) rfl (Nat.le_of_ble_eq_true rfl) (Nat.le_of_ble_eq_true rfl) rfl
theorem fX9_plan_17 : ft 161 17 = some (.ifCond .ne 6, 0, 0, 0, .null) := by decide +kernel
theorem gX9_plan_17T {L : List (Option Value)} {a : Int} (c : (-2147483648 ≤ a ∧ a ≤ 2147483647) ∧ ¬ a = 0) {st : List Value} {H : HP} {Q : Option Value → HP → Prop} : Go 161 17 L (vi a :: st) H Q ↔ Go 161 23 L st H Q := G_ifT fX9_plan_17 (by decide) c
theorem gX9_plan_17F {L : List (Option Value)} {a : Int} (c : (-2147483648 ≤ a ∧ a ≤ 2147483647) ∧ ¬ (¬ a = 0)) {st : List Value} {H : HP} {Q : Option Value → HP → Prop} : Go 161 17 L (vi a :: st) H Q ↔ Go 161 20 L st H Q := G_ifF (tg := 23) fX9_plan_17 (by decide) c
theorem fX9_plan_20 : ft 161 20 = some (.bipush (-2), 0, 0, 0, .null) := by decide +kernel
theorem gX9_plan_20 {L : List (Option Value)} {st : List Value} {H : HP} {Q : Option Value → HP → Prop} : Go 161 20 L st H Q ↔ Go 161 22 L (vi (-2) :: st) H Q := G_bipush fX9_plan_20 (by decide)
theorem fX9_plan_22 : ft 161 22 = some (.ireturn, 0, 0, 0, .null) := by decide +kernel
theorem gX9_plan_22 {L : List (Option Value)} {u : Int32} {H : HP} {Q : Option Value → HP → Prop} : Go 161 22 L [.int u] H Q ↔ Q (some (.int u)) H := G_iret fX9_plan_22 (by decide +kernel)
theorem fX9_plan_23 : ft 161 23 = some (.iconst 0, 0, 0, 0, .null) := by decide +kernel
theorem gX9_plan_23 {L : List (Option Value)} {st : List Value} {H : HP} {Q : Option Value → HP → Prop} : Go 161 23 L st H Q ↔ Go 161 24 L (vi 0 :: st) H Q := G_iconst fX9_plan_23
theorem fX9_plan_24 : ft 161 24 = some (.iload_n 1, 0, 0, 0, .null) := by decide +kernel
theorem gX9_plan_24 {l0 l2 : Option Value} {u : Int32} {st : List Value} {H : HP} {Q : Option Value → HP → Prop} : Go 161 24 [l0, some (.int u), l2] st H Q ↔ Go 161 25 [l0, some (.int u), l2] (.int u :: st) H Q := G_iload_n fX9_plan_24 rfl
theorem fX9_plan_25 : ft 161 25 = some (.iload_n 2, 0, 0, 0, .null) := by decide +kernel
theorem gX9_plan_25 {l0 l1 : Option Value} {u : Int32} {st : List Value} {H : HP} {Q : Option Value → HP → Prop} : Go 161 25 [l0, l1, some (.int u)] st H Q ↔ Go 161 26 [l0, l1, some (.int u)] (.int u :: st) H Q := G_iload_n fX9_plan_25 rfl
theorem fX9_plan_26 : ft 161 26 = some (.invokestatic 184, 159, 0, 1009, .null) := by decide +kernel
theorem gX9_plan_26 {L : List (Option Value)} {a0 : Int32} {a1 : Int32} {a2 : Int32}  {H : HP} {Q : Option Value → HP → Prop} : Go 161 26 L (.int a2 :: .int a1 :: .int a0 :: []) H Q ↔ Go 159 0 [some (.int a0), some (.int a1), some (.int a2), none, none, none] [] H (Cont 161 29 L [] Q) := G_cS (n := 3) (N := 6) (as := [.int a2, .int a1, .int a0]) (st := []) fX9_plan_26 (by decide +kernel) rfl (Nat.le_of_ble_eq_true rfl) (Nat.le_of_ble_eq_true rfl) rfl
theorem fX9_plan_29 : ft 161 29 = some (.iconst 2, 0, 0, 0, .null) := by decide +kernel
theorem gX9_plan_29 {L : List (Option Value)} {st : List Value} {H : HP} {Q : Option Value → HP → Prop} : Go 161 29 L st H Q ↔ Go 161 30 L (vi 2 :: st) H Q := G_iconst fX9_plan_29
theorem fX9_plan_30 : ft 161 30 = some (.iload_n 1, 0, 0, 0, .null) := by decide +kernel
theorem gX9_plan_30 {l0 l2 : Option Value} {u : Int32} {st : List Value} {H : HP} {Q : Option Value → HP → Prop} : Go 161 30 [l0, some (.int u), l2] st H Q ↔ Go 161 31 [l0, some (.int u), l2] (.int u :: st) H Q := G_iload_n fX9_plan_30 rfl
theorem fX9_plan_31 : ft 161 31 = some (.iload_n 2, 0, 0, 0, .null) := by decide +kernel
theorem gX9_plan_31 {l0 l1 : Option Value} {u : Int32} {st : List Value} {H : HP} {Q : Option Value → HP → Prop} : Go 161 31 [l0, l1, some (.int u)] st H Q ↔ Go 161 32 [l0, l1, some (.int u)] (.int u :: st) H Q := G_iload_n fX9_plan_31 rfl
theorem fX9_plan_32 : ft 161 32 = some (.invokestatic 184, 159, 0, 1009, .null) := by decide +kernel
theorem gX9_plan_32 {L : List (Option Value)} {a0 : Int32} {a1 : Int32} {a2 : Int32} {r0 : Int32} {H : HP} {Q : Option Value → HP → Prop} : Go 161 32 L (.int a2 :: .int a1 :: .int a0 :: [.int r0]) H Q ↔ Go 159 0 [some (.int a0), some (.int a1), some (.int a2), none, none, none] [] H (Cont 161 35 L [.int r0] Q) := G_cS (n := 3) (N := 6) (as := [.int a2, .int a1, .int a0]) (st := [.int r0]) fX9_plan_32 (by decide +kernel) rfl (Nat.le_of_ble_eq_true rfl) (Nat.le_of_ble_eq_true rfl) rfl
theorem fX9_plan_35 : ft 161 35 = some (.if_icmp .gt 7, 0, 0, 0, .null) := by decide +kernel
theorem gX9_plan_35T {L : List (Option Value)} {a b : Int} (c : (-2147483648 ≤ a ∧ a ≤ 2147483647 ∧ -2147483648 ≤ b ∧ b ≤ 2147483647) ∧ b < a) {st : List Value} {H : HP} {Q : Option Value → HP → Prop} : Go 161 35 L (vi b :: vi a :: st) H Q ↔ Go 161 42 L st H Q := G_icT fX9_plan_35 (by decide) c
theorem gX9_plan_35F {L : List (Option Value)} {a b : Int} (c : (-2147483648 ≤ a ∧ a ≤ 2147483647 ∧ -2147483648 ≤ b ∧ b ≤ 2147483647) ∧ ¬ (b < a)) {st : List Value} {H : HP} {Q : Option Value → HP → Prop} : Go 161 35 L (vi b :: vi a :: st) H Q ↔ Go 161 38 L st H Q := G_icF (tg := 42) fX9_plan_35 (by decide) c
theorem fX9_plan_38 : ft 161 38 = some (.iconst 0, 0, 0, 0, .null) := by decide +kernel
theorem gX9_plan_38 {L : List (Option Value)} {st : List Value} {H : HP} {Q : Option Value → HP → Prop} : Go 161 38 L st H Q ↔ Go 161 39 L (vi 0 :: st) H Q := G_iconst fX9_plan_38
theorem fX9_plan_39 : ft 161 39 = some (.goto 4, 0, 0, 0, .null) := by decide +kernel
theorem gX9_plan_39 {L : List (Option Value)} {st : List Value} {H : HP} {Q : Option Value → HP → Prop} : Go 161 39 L st H Q ↔ Go 161 43 L st H Q := G_goto fX9_plan_39 (by decide)
theorem fX9_plan_42 : ft 161 42 = some (.iconst 2, 0, 0, 0, .null) := by decide +kernel
theorem gX9_plan_42 {L : List (Option Value)} {st : List Value} {H : HP} {Q : Option Value → HP → Prop} : Go 161 42 L st H Q ↔ Go 161 43 L (vi 2 :: st) H Q := G_iconst fX9_plan_42
theorem fX9_plan_43 : ft 161 43 = some (.ireturn, 0, 0, 0, .null) := by decide +kernel
theorem gX9_plan_43 {L : List (Option Value)} {u : Int32} {H : HP} {Q : Option Value → HP → Prop} : Go 161 43 L [.int u] H Q ↔ Q (some (.int u)) H := G_iret fX9_plan_43 (by decide +kernel)

theorem fX9_as_0 : ft 133 0 = some (.aload_n 0, 0, 0, 0, .null) := by decide +kernel
theorem gX9_as_0 {l1 l2 l3 : Option Value} {u : Nat} {st : List Value} {H : HP} {Q : Option Value → HP → Prop} : Go 133 0 [some (.ref u), l1, l2, l3] st H Q ↔ Go 133 1 [some (.ref u), l1, l2, l3] (.ref u :: st) H Q := G_aload_n fX9_as_0 rfl
theorem fX9_as_1 : ft 133 1 = some (.iconst 0, 0, 0, 0, .null) := by decide +kernel
theorem gX9_as_1 {L : List (Option Value)} {st : List Value} {H : HP} {Q : Option Value → HP → Prop} : Go 133 1 L st H Q ↔ Go 133 2 L (vi 0 :: st) H Q := G_iconst fX9_as_1
theorem fX9_as_2 : ft 133 2 = some (.putfield 72, 9, 0, 754, .null) := by decide +kernel
theorem gX9_as_2 {L : List (Option Value)} {p : Nat} {u : Int32} (hp : p ≠ 0) {st : List Value} {H : HP} {Q : Option Value → HP → Prop} : Go 133 2 L (.int u :: .ref p :: st) H Q ↔ Wr (pF' 9 0 (hget H p) (.int u)) p 133 5 L st H Q := G_putf fX9_as_2 ⟨⟨rfl, rfl⟩, rfl, Or.inl rfl⟩ hp
theorem fX9_as_5 : ft 133 5 = some (.iload_n 1, 0, 0, 0, .null) := by decide +kernel
theorem gX9_as_5 {l0 l2 l3 : Option Value} {u : Int32} {st : List Value} {H : HP} {Q : Option Value → HP → Prop} : Go 133 5 [l0, some (.int u), l2, l3] st H Q ↔ Go 133 6 [l0, some (.int u), l2, l3] (.int u :: st) H Q := G_iload_n fX9_as_5 rfl
theorem fX9_as_6 : ft 133 6 = some (.invokestatic 85, 119, 0, 841, .null) := by decide +kernel
theorem gX9_as_6 {L : List (Option Value)} {a0 : Int32}  {H : HP} {Q : Option Value → HP → Prop} : Go 133 6 L (.int a0 :: []) H Q ↔ Go 119 0 [some (.int a0)] [] H (Cont 133 9 L [] Q) := G_cS (n := 1) (N := 1) (as := [.int a0]) (st := []) fX9_as_6 (by decide +kernel) rfl (Nat.le_of_ble_eq_true rfl) (Nat.le_of_ble_eq_true rfl) rfl
theorem fX9_as_9 : ft 133 9 = some (.ifCond .eq 12, 0, 0, 0, .null) := by decide +kernel
theorem gX9_as_9T {L : List (Option Value)} {a : Int} (c : (-2147483648 ≤ a ∧ a ≤ 2147483647) ∧ a = 0) {st : List Value} {H : HP} {Q : Option Value → HP → Prop} : Go 133 9 L (vi a :: st) H Q ↔ Go 133 21 L st H Q := G_ifT fX9_as_9 (by decide) c
theorem gX9_as_9F {L : List (Option Value)} {a : Int} (c : (-2147483648 ≤ a ∧ a ≤ 2147483647) ∧ ¬ (a = 0)) {st : List Value} {H : HP} {Q : Option Value → HP → Prop} : Go 133 9 L (vi a :: st) H Q ↔ Go 133 12 L st H Q := G_ifF (tg := 21) fX9_as_9 (by decide) c
theorem fX9_as_12 : ft 133 12 = some (.iload_n 3, 0, 0, 0, .null) := by decide +kernel
theorem gX9_as_12 {l0 l1 l2 : Option Value} {u : Int32} {st : List Value} {H : HP} {Q : Option Value → HP → Prop} : Go 133 12 [l0, l1, l2, some (.int u)] st H Q ↔ Go 133 13 [l0, l1, l2, some (.int u)] (.int u :: st) H Q := G_iload_n fX9_as_12 rfl
theorem fX9_as_13 : ft 133 13 = some (.iconst 0, 0, 0, 0, .null) := by decide +kernel
theorem gX9_as_13 {L : List (Option Value)} {st : List Value} {H : HP} {Q : Option Value → HP → Prop} : Go 133 13 L st H Q ↔ Go 133 14 L (vi 0 :: st) H Q := G_iconst fX9_as_13
theorem fX9_as_14 : ft 133 14 = some (.iconst 4, 0, 0, 0, .null) := by decide +kernel
theorem gX9_as_14 {L : List (Option Value)} {st : List Value} {H : HP} {Q : Option Value → HP → Prop} : Go 133 14 L st H Q ↔ Go 133 15 L (vi 4 :: st) H Q := G_iconst fX9_as_14
theorem fX9_as_15 : ft 133 15 = some (.invokestatic 75, 118, 0, 844, .null) := by decide +kernel
theorem gX9_as_15 {L : List (Option Value)} {a0 : Int32} {a1 : Int32} {a2 : Int32}  {H : HP} {Q : Option Value → HP → Prop} : Go 133 15 L (.int a2 :: .int a1 :: .int a0 :: []) H Q ↔ Go 118 0 [some (.int a0), some (.int a1), some (.int a2)] [] H (Cont 133 18 L [] Q) := G_cS (n := 3) (N := 3) (as := [.int a2, .int a1, .int a0]) (st := []) fX9_as_15 (by decide +kernel) rfl (Nat.le_of_ble_eq_true rfl) (Nat.le_of_ble_eq_true rfl) rfl
theorem fX9_as_18 : ft 133 18 = some (.ifCond .ne 5, 0, 0, 0, .null) := by decide +kernel
theorem gX9_as_18T {L : List (Option Value)} {a : Int} (c : (-2147483648 ≤ a ∧ a ≤ 2147483647) ∧ ¬ a = 0) {st : List Value} {H : HP} {Q : Option Value → HP → Prop} : Go 133 18 L (vi a :: st) H Q ↔ Go 133 23 L st H Q := G_ifT fX9_as_18 (by decide) c
theorem gX9_as_18F {L : List (Option Value)} {a : Int} (c : (-2147483648 ≤ a ∧ a ≤ 2147483647) ∧ ¬ (¬ a = 0)) {st : List Value} {H : HP} {Q : Option Value → HP → Prop} : Go 133 18 L (vi a :: st) H Q ↔ Go 133 21 L st H Q := G_ifF (tg := 23) fX9_as_18 (by decide) c
theorem fX9_as_21 : ft 133 21 = some (.lconst 0, 0, 0, 0, .null) := by decide +kernel
theorem gX9_as_21 {L : List (Option Value)} {st : List Value} {H : HP} {Q : Option Value → HP → Prop} : Go 133 21 L st H Q ↔ Go 133 22 L (vl 0 :: st) H Q := G_lconst fX9_as_21 (by decide)
theorem fX9_as_22 : ft 133 22 = some (.lreturn, 0, 0, 0, .null) := by decide +kernel
theorem gX9_as_22 {L : List (Option Value)} {u : Int64} {H : HP} {Q : Option Value → HP → Prop} : Go 133 22 L [.long u] H Q ↔ Q (some (.long u)) H := G_lret fX9_as_22 (by decide +kernel)
theorem fX9_as_23 : ft 133 23 = some (.aload_n 0, 0, 0, 0, .null) := by decide +kernel
theorem gX9_as_23 {l1 l2 l3 : Option Value} {u : Nat} {st : List Value} {H : HP} {Q : Option Value → HP → Prop} : Go 133 23 [some (.ref u), l1, l2, l3] st H Q ↔ Go 133 24 [some (.ref u), l1, l2, l3] (.ref u :: st) H Q := G_aload_n fX9_as_23 rfl
theorem fX9_as_24 : ft 133 24 = some (.getfield 9, 9, 1, 755, .null) := by decide +kernel
theorem gX9_as_24 {L : List (Option Value)} {p : Nat} {st : List Value} {H : HP} {Q : Option Value → HP → Prop} : Go 133 24 L (.ref p :: st) H Q ↔ Rd (gF' 9 1 (hget H p)) 133 27 L st H Q := G_getf fX9_as_24 ⟨rfl, rfl⟩
theorem fX9_as_27 : ft 133 27 = some (.iload_n 1, 0, 0, 0, .null) := by decide +kernel
theorem gX9_as_27 {l0 l2 l3 : Option Value} {u : Int32} {st : List Value} {H : HP} {Q : Option Value → HP → Prop} : Go 133 27 [l0, some (.int u), l2, l3] st H Q ↔ Go 133 28 [l0, some (.int u), l2, l3] (.int u :: st) H Q := G_iload_n fX9_as_27 rfl
theorem fX9_as_28 : ft 133 28 = some (.iaload, 0, 0, 0, .null) := by decide +kernel
theorem gX9_as_28 {L : List (Option Value)} {p : Nat} {a : Int} {st : List Value} {H : HP} {Q : Option Value → HP → Prop} : Go 133 28 L (vi a :: .ref p :: st) H Q ↔ Rd (aJ' (hget H p) a) 133 29 L st H Q := G_iald fX9_as_28
theorem fX9_as_29 : ft 133 29 = some (.bipush (-9), 0, 0, 0, .null) := by decide +kernel
theorem gX9_as_29 {L : List (Option Value)} {st : List Value} {H : HP} {Q : Option Value → HP → Prop} : Go 133 29 L st H Q ↔ Go 133 31 L (vi (-9) :: st) H Q := G_bipush fX9_as_29 (by decide)
theorem fX9_as_31 : ft 133 31 = some (.if_icmp .ne 11, 0, 0, 0, .null) := by decide +kernel
theorem gX9_as_31T {L : List (Option Value)} {a b : Int} (c : (-2147483648 ≤ a ∧ a ≤ 2147483647 ∧ -2147483648 ≤ b ∧ b ≤ 2147483647) ∧ ¬ a = b) {st : List Value} {H : HP} {Q : Option Value → HP → Prop} : Go 133 31 L (vi b :: vi a :: st) H Q ↔ Go 133 42 L st H Q := G_icT fX9_as_31 (by decide) c
theorem gX9_as_31F {L : List (Option Value)} {a b : Int} (c : (-2147483648 ≤ a ∧ a ≤ 2147483647 ∧ -2147483648 ≤ b ∧ b ≤ 2147483647) ∧ ¬ (¬ a = b)) {st : List Value} {H : HP} {Q : Option Value → HP → Prop} : Go 133 31 L (vi b :: vi a :: st) H Q ↔ Go 133 34 L st H Q := G_icF (tg := 42) fX9_as_31 (by decide) c
theorem fX9_as_34 : ft 133 34 = some (.aload_n 0, 0, 0, 0, .null) := by decide +kernel
theorem gX9_as_34 {l1 l2 l3 : Option Value} {u : Nat} {st : List Value} {H : HP} {Q : Option Value → HP → Prop} : Go 133 34 [some (.ref u), l1, l2, l3] st H Q ↔ Go 133 35 [some (.ref u), l1, l2, l3] (.ref u :: st) H Q := G_aload_n fX9_as_34 rfl
theorem fX9_as_35 : ft 133 35 = some (.iconst 1, 0, 0, 0, .null) := by decide +kernel
theorem gX9_as_35 {L : List (Option Value)} {st : List Value} {H : HP} {Q : Option Value → HP → Prop} : Go 133 35 L st H Q ↔ Go 133 36 L (vi 1 :: st) H Q := G_iconst fX9_as_35
theorem fX9_as_36 : ft 133 36 = some (.invokevirtual 89, 117, 0, 847, .null) := by decide +kernel
theorem gX9_as_36 {L : List (Option Value)} {p : Nat} {a0 : Int32}  {H : HP} {Q : Option Value → HP → Prop} : Go 133 36 L (.int a0 :: .ref p :: []) H Q ↔ (iso 9 (hget H p) = true ∧ Go 117 0 [some (.ref p), some (.int a0)] [] H (Cont 133 39 L [] Q)) := G_cV (n := 1) (N := 2) (as := [.int a0]) (st := []) fX9_as_36 (by decide +kernel) rfl (Nat.le_of_ble_eq_true rfl) (Nat.le_of_ble_eq_true rfl) rfl
theorem fX9_as_39 : ft 133 39 = some (.pop, 0, 0, 0, .null) := by decide +kernel
theorem gX9_as_39 {L : List (Option Value)} {u : Int32} {st : List Value} {H : HP} {Q : Option Value → HP → Prop} : Go 133 39 L (.int u :: st) H Q ↔ Go 133 40 L st H Q := G_pop fX9_as_39 rfl
theorem fX9_as_40 : ft 133 40 = some (.lconst 0, 0, 0, 0, .null) := by decide +kernel
theorem gX9_as_40 {L : List (Option Value)} {st : List Value} {H : HP} {Q : Option Value → HP → Prop} : Go 133 40 L st H Q ↔ Go 133 41 L (vl 0 :: st) H Q := G_lconst fX9_as_40 (by decide)
theorem fX9_as_41 : ft 133 41 = some (.lreturn, 0, 0, 0, .null) := by decide +kernel
theorem gX9_as_41 {L : List (Option Value)} {u : Int64} {H : HP} {Q : Option Value → HP → Prop} : Go 133 41 L [.long u] H Q ↔ Q (some (.long u)) H := G_lret fX9_as_41 (by decide +kernel)
theorem fX9_as_42 : ft 133 42 = some (.aload_n 0, 0, 0, 0, .null) := by decide +kernel
theorem gX9_as_42 {l1 l2 l3 : Option Value} {u : Nat} {st : List Value} {H : HP} {Q : Option Value → HP → Prop} : Go 133 42 [some (.ref u), l1, l2, l3] st H Q ↔ Go 133 43 [some (.ref u), l1, l2, l3] (.ref u :: st) H Q := G_aload_n fX9_as_42 rfl
theorem fX9_as_43 : ft 133 43 = some (.iload_n 1, 0, 0, 0, .null) := by decide +kernel
theorem gX9_as_43 {l0 l2 l3 : Option Value} {u : Int32} {st : List Value} {H : HP} {Q : Option Value → HP → Prop} : Go 133 43 [l0, some (.int u), l2, l3] st H Q ↔ Go 133 44 [l0, some (.int u), l2, l3] (.int u :: st) H Q := G_iload_n fX9_as_43 rfl
theorem fX9_as_44 : ft 133 44 = some (.invokevirtual 97, 125, 0, 863, .null) := by decide +kernel
theorem gX9_as_44 {L : List (Option Value)} {p : Nat} {a0 : Int32}  {H : HP} {Q : Option Value → HP → Prop} : Go 133 44 L (.int a0 :: .ref p :: []) H Q ↔ (iso 9 (hget H p) = true ∧ Go 125 0 [some (.ref p), some (.int a0)] [] H (Cont 133 47 L [] Q)) := G_cV (n := 1) (N := 2) (as := [.int a0]) (st := []) fX9_as_44 (by decide +kernel) rfl (Nat.le_of_ble_eq_true rfl) (Nat.le_of_ble_eq_true rfl) rfl
theorem fX9_as_47 : ft 133 47 = some (.iload_n 3, 0, 0, 0, .null) := by decide +kernel
theorem gX9_as_47 {l0 l1 l2 : Option Value} {u : Int32} {st : List Value} {H : HP} {Q : Option Value → HP → Prop} : Go 133 47 [l0, l1, l2, some (.int u)] st H Q ↔ Go 133 48 [l0, l1, l2, some (.int u)] (.int u :: st) H Q := G_iload_n fX9_as_47 rfl
theorem fX9_as_48 : ft 133 48 = some (.if_icmp .eq 11, 0, 0, 0, .null) := by decide +kernel
theorem gX9_as_48T {L : List (Option Value)} {a b : Int} (c : (-2147483648 ≤ a ∧ a ≤ 2147483647 ∧ -2147483648 ≤ b ∧ b ≤ 2147483647) ∧ a = b) {st : List Value} {H : HP} {Q : Option Value → HP → Prop} : Go 133 48 L (vi b :: vi a :: st) H Q ↔ Go 133 59 L st H Q := G_icT fX9_as_48 (by decide) c
theorem gX9_as_48F {L : List (Option Value)} {a b : Int} (c : (-2147483648 ≤ a ∧ a ≤ 2147483647 ∧ -2147483648 ≤ b ∧ b ≤ 2147483647) ∧ ¬ (a = b)) {st : List Value} {H : HP} {Q : Option Value → HP → Prop} : Go 133 48 L (vi b :: vi a :: st) H Q ↔ Go 133 51 L st H Q := G_icF (tg := 59) fX9_as_48 (by decide) c
theorem fX9_as_51 : ft 133 51 = some (.aload_n 0, 0, 0, 0, .null) := by decide +kernel
theorem gX9_as_51 {l1 l2 l3 : Option Value} {u : Nat} {st : List Value} {H : HP} {Q : Option Value → HP → Prop} : Go 133 51 [some (.ref u), l1, l2, l3] st H Q ↔ Go 133 52 [some (.ref u), l1, l2, l3] (.ref u :: st) H Q := G_aload_n fX9_as_51 rfl
theorem fX9_as_52 : ft 133 52 = some (.iconst 2, 0, 0, 0, .null) := by decide +kernel
theorem gX9_as_52 {L : List (Option Value)} {st : List Value} {H : HP} {Q : Option Value → HP → Prop} : Go 133 52 L st H Q ↔ Go 133 53 L (vi 2 :: st) H Q := G_iconst fX9_as_52
theorem fX9_as_53 : ft 133 53 = some (.invokevirtual 89, 117, 0, 847, .null) := by decide +kernel
theorem gX9_as_53 {L : List (Option Value)} {p : Nat} {a0 : Int32}  {H : HP} {Q : Option Value → HP → Prop} : Go 133 53 L (.int a0 :: .ref p :: []) H Q ↔ (iso 9 (hget H p) = true ∧ Go 117 0 [some (.ref p), some (.int a0)] [] H (Cont 133 56 L [] Q)) := G_cV (n := 1) (N := 2) (as := [.int a0]) (st := []) fX9_as_53 (by decide +kernel) rfl (Nat.le_of_ble_eq_true rfl) (Nat.le_of_ble_eq_true rfl) rfl
theorem fX9_as_56 : ft 133 56 = some (.pop, 0, 0, 0, .null) := by decide +kernel
theorem gX9_as_56 {L : List (Option Value)} {u : Int32} {st : List Value} {H : HP} {Q : Option Value → HP → Prop} : Go 133 56 L (.int u :: st) H Q ↔ Go 133 57 L st H Q := G_pop fX9_as_56 rfl
theorem fX9_as_57 : ft 133 57 = some (.lconst 0, 0, 0, 0, .null) := by decide +kernel
theorem gX9_as_57 {L : List (Option Value)} {st : List Value} {H : HP} {Q : Option Value → HP → Prop} : Go 133 57 L st H Q ↔ Go 133 58 L (vl 0 :: st) H Q := G_lconst fX9_as_57 (by decide)
theorem fX9_as_58 : ft 133 58 = some (.lreturn, 0, 0, 0, .null) := by decide +kernel
theorem gX9_as_58 {L : List (Option Value)} {u : Int64} {H : HP} {Q : Option Value → HP → Prop} : Go 133 58 L [.long u] H Q ↔ Q (some (.long u)) H := G_lret fX9_as_58 (by decide +kernel)
theorem fX9_as_59 : ft 133 59 = some (.iload_n 2, 0, 0, 0, .null) := by decide +kernel
theorem gX9_as_59 {l0 l1 l3 : Option Value} {u : Int32} {st : List Value} {H : HP} {Q : Option Value → HP → Prop} : Go 133 59 [l0, l1, some (.int u), l3] st H Q ↔ Go 133 60 [l0, l1, some (.int u), l3] (.int u :: st) H Q := G_iload_n fX9_as_59 rfl
theorem fX9_as_60 : ft 133 60 = some (.ifCond .lt 12, 0, 0, 0, .null) := by decide +kernel
theorem gX9_as_60T {L : List (Option Value)} {a : Int} (c : (-2147483648 ≤ a ∧ a ≤ 2147483647) ∧ a < 0) {st : List Value} {H : HP} {Q : Option Value → HP → Prop} : Go 133 60 L (vi a :: st) H Q ↔ Go 133 72 L st H Q := G_ifT fX9_as_60 (by decide) c
theorem gX9_as_60F {L : List (Option Value)} {a : Int} (c : (-2147483648 ≤ a ∧ a ≤ 2147483647) ∧ ¬ (a < 0)) {st : List Value} {H : HP} {Q : Option Value → HP → Prop} : Go 133 60 L (vi a :: st) H Q ↔ Go 133 63 L st H Q := G_ifF (tg := 72) fX9_as_60 (by decide) c
theorem fX9_as_63 : ft 133 63 = some (.iload_n 2, 0, 0, 0, .null) := by decide +kernel
theorem gX9_as_63 {l0 l1 l3 : Option Value} {u : Int32} {st : List Value} {H : HP} {Q : Option Value → HP → Prop} : Go 133 63 [l0, l1, some (.int u), l3] st H Q ↔ Go 133 64 [l0, l1, some (.int u), l3] (.int u :: st) H Q := G_iload_n fX9_as_63 rfl
theorem fX9_as_64 : ft 133 64 = some (.aload_n 0, 0, 0, 0, .null) := by decide +kernel
theorem gX9_as_64 {l1 l2 l3 : Option Value} {u : Nat} {st : List Value} {H : HP} {Q : Option Value → HP → Prop} : Go 133 64 [some (.ref u), l1, l2, l3] st H Q ↔ Go 133 65 [some (.ref u), l1, l2, l3] (.ref u :: st) H Q := G_aload_n fX9_as_64 rfl
theorem fX9_as_65 : ft 133 65 = some (.iload_n 1, 0, 0, 0, .null) := by decide +kernel
theorem gX9_as_65 {l0 l2 l3 : Option Value} {u : Int32} {st : List Value} {H : HP} {Q : Option Value → HP → Prop} : Go 133 65 [l0, some (.int u), l2, l3] st H Q ↔ Go 133 66 [l0, some (.int u), l2, l3] (.int u :: st) H Q := G_iload_n fX9_as_65 rfl
theorem fX9_as_66 : ft 133 66 = some (.invokevirtual 100, 124, 0, 867, .null) := by decide +kernel
theorem gX9_as_66 {L : List (Option Value)} {p : Nat} {a0 : Int32} {r0 : Int32} {H : HP} {Q : Option Value → HP → Prop} : Go 133 66 L (.int a0 :: .ref p :: [.int r0]) H Q ↔ (iso 9 (hget H p) = true ∧ Go 124 0 [some (.ref p), some (.int a0)] [] H (Cont 133 69 L [.int r0] Q)) := G_cV (n := 1) (N := 2) (as := [.int a0]) (st := [.int r0]) fX9_as_66 (by decide +kernel) rfl (Nat.le_of_ble_eq_true rfl) (Nat.le_of_ble_eq_true rfl) rfl
theorem fX9_as_69 : ft 133 69 = some (.if_icmp .lt 11, 0, 0, 0, .null) := by decide +kernel
theorem gX9_as_69T {L : List (Option Value)} {a b : Int} (c : (-2147483648 ≤ a ∧ a ≤ 2147483647 ∧ -2147483648 ≤ b ∧ b ≤ 2147483647) ∧ a < b) {st : List Value} {H : HP} {Q : Option Value → HP → Prop} : Go 133 69 L (vi b :: vi a :: st) H Q ↔ Go 133 80 L st H Q := G_icT fX9_as_69 (by decide) c
theorem gX9_as_69F {L : List (Option Value)} {a b : Int} (c : (-2147483648 ≤ a ∧ a ≤ 2147483647 ∧ -2147483648 ≤ b ∧ b ≤ 2147483647) ∧ ¬ (a < b)) {st : List Value} {H : HP} {Q : Option Value → HP → Prop} : Go 133 69 L (vi b :: vi a :: st) H Q ↔ Go 133 72 L st H Q := G_icF (tg := 80) fX9_as_69 (by decide) c
theorem fX9_as_72 : ft 133 72 = some (.aload_n 0, 0, 0, 0, .null) := by decide +kernel
theorem gX9_as_72 {l1 l2 l3 : Option Value} {u : Nat} {st : List Value} {H : HP} {Q : Option Value → HP → Prop} : Go 133 72 [some (.ref u), l1, l2, l3] st H Q ↔ Go 133 73 [some (.ref u), l1, l2, l3] (.ref u :: st) H Q := G_aload_n fX9_as_72 rfl
theorem fX9_as_73 : ft 133 73 = some (.iconst 3, 0, 0, 0, .null) := by decide +kernel
theorem gX9_as_73 {L : List (Option Value)} {st : List Value} {H : HP} {Q : Option Value → HP → Prop} : Go 133 73 L st H Q ↔ Go 133 74 L (vi 3 :: st) H Q := G_iconst fX9_as_73
theorem fX9_as_74 : ft 133 74 = some (.invokevirtual 89, 117, 0, 847, .null) := by decide +kernel
theorem gX9_as_74 {L : List (Option Value)} {p : Nat} {a0 : Int32}  {H : HP} {Q : Option Value → HP → Prop} : Go 133 74 L (.int a0 :: .ref p :: []) H Q ↔ (iso 9 (hget H p) = true ∧ Go 117 0 [some (.ref p), some (.int a0)] [] H (Cont 133 77 L [] Q)) := G_cV (n := 1) (N := 2) (as := [.int a0]) (st := []) fX9_as_74 (by decide +kernel) rfl (Nat.le_of_ble_eq_true rfl) (Nat.le_of_ble_eq_true rfl) rfl
theorem fX9_as_77 : ft 133 77 = some (.pop, 0, 0, 0, .null) := by decide +kernel
theorem gX9_as_77 {L : List (Option Value)} {u : Int32} {st : List Value} {H : HP} {Q : Option Value → HP → Prop} : Go 133 77 L (.int u :: st) H Q ↔ Go 133 78 L st H Q := G_pop fX9_as_77 rfl
theorem fX9_as_78 : ft 133 78 = some (.lconst 0, 0, 0, 0, .null) := by decide +kernel
theorem gX9_as_78 {L : List (Option Value)} {st : List Value} {H : HP} {Q : Option Value → HP → Prop} : Go 133 78 L st H Q ↔ Go 133 79 L (vl 0 :: st) H Q := G_lconst fX9_as_78 (by decide)
theorem fX9_as_79 : ft 133 79 = some (.lreturn, 0, 0, 0, .null) := by decide +kernel
theorem gX9_as_79 {L : List (Option Value)} {u : Int64} {H : HP} {Q : Option Value → HP → Prop} : Go 133 79 L [.long u] H Q ↔ Q (some (.long u)) H := G_lret fX9_as_79 (by decide +kernel)
theorem fX9_as_80 : ft 133 80 = some (.aload_n 0, 0, 0, 0, .null) := by decide +kernel
theorem gX9_as_80 {l1 l2 l3 : Option Value} {u : Nat} {st : List Value} {H : HP} {Q : Option Value → HP → Prop} : Go 133 80 [some (.ref u), l1, l2, l3] st H Q ↔ Go 133 81 [some (.ref u), l1, l2, l3] (.ref u :: st) H Q := G_aload_n fX9_as_80 rfl
theorem fX9_as_81 : ft 133 81 = some (.iload_n 1, 0, 0, 0, .null) := by decide +kernel
theorem gX9_as_81 {l0 l2 l3 : Option Value} {u : Int32} {st : List Value} {H : HP} {Q : Option Value → HP → Prop} : Go 133 81 [l0, some (.int u), l2, l3] st H Q ↔ Go 133 82 [l0, some (.int u), l2, l3] (.int u :: st) H Q := G_iload_n fX9_as_81 rfl
theorem fX9_as_82 : ft 133 82 = some (.iload_n 2, 0, 0, 0, .null) := by decide +kernel
theorem gX9_as_82 {l0 l1 l3 : Option Value} {u : Int32} {st : List Value} {H : HP} {Q : Option Value → HP → Prop} : Go 133 82 [l0, l1, some (.int u), l3] st H Q ↔ Go 133 83 [l0, l1, some (.int u), l3] (.int u :: st) H Q := G_iload_n fX9_as_82 rfl
theorem fX9_as_83 : ft 133 83 = some (.invokevirtual 117, 123, 0, 888, .null) := by decide +kernel
theorem gX9_as_83 {L : List (Option Value)} {p : Nat} {a0 : Int32} {a1 : Int32}  {H : HP} {Q : Option Value → HP → Prop} : Go 133 83 L (.int a1 :: .int a0 :: .ref p :: []) H Q ↔ (iso 9 (hget H p) = true ∧ Go 123 0 [some (.ref p), some (.int a0), some (.int a1)] [] H (Cont 133 86 L [] Q)) := G_cV (n := 2) (N := 3) (as := [.int a1, .int a0]) (st := []) fX9_as_83 (by decide +kernel) rfl (Nat.le_of_ble_eq_true rfl) (Nat.le_of_ble_eq_true rfl) rfl
theorem fX9_as_86 : ft 133 86 = some (.lreturn, 0, 0, 0, .null) := by decide +kernel
theorem gX9_as_86 {L : List (Option Value)} {u : Int64} {H : HP} {Q : Option Value → HP → Prop} : Go 133 86 L [.long u] H Q ↔ Q (some (.long u)) H := G_lret fX9_as_86 (by decide +kernel)
theorem fX9_keepEntries_0 : ft 134 0 = some (.iconst 0, 0, 0, 0, .null) := by decide +kernel
theorem gX9_keepEntries_0 {L : List (Option Value)} {st : List Value} {H : HP} {Q : Option Value → HP → Prop} : Go 134 0 L st H Q ↔ Go 134 1 L (vi 0 :: st) H Q := G_iconst fX9_keepEntries_0
theorem fX9_keepEntries_1 : ft 134 1 = some (.istore_n 2, 0, 0, 0, .null) := by decide +kernel
theorem gX9_keepEntries_1 {l0 l1 l2 : Option Value} {u : Int32} {st : List Value} {H : HP} {Q : Option Value → HP → Prop} : Go 134 1 [l0, l1, l2] (.int u :: st) H Q ↔ Go 134 2 [l0, l1, some (.int u)] st H Q := G_istore_n fX9_keepEntries_1 rfl
theorem fX9_keepEntries_2 : ft 134 2 = some (.iload_n 2, 0, 0, 0, .null) := by decide +kernel
theorem gX9_keepEntries_2 {l0 l1 : Option Value} {u : Int32} {st : List Value} {H : HP} {Q : Option Value → HP → Prop} : Go 134 2 [l0, l1, some (.int u)] st H Q ↔ Go 134 3 [l0, l1, some (.int u)] (.int u :: st) H Q := G_iload_n fX9_keepEntries_2 rfl
theorem fX9_keepEntries_3 : ft 134 3 = some (.aload_n 0, 0, 0, 0, .null) := by decide +kernel
theorem gX9_keepEntries_3 {l1 l2 : Option Value} {u : Nat} {st : List Value} {H : HP} {Q : Option Value → HP → Prop} : Go 134 3 [some (.ref u), l1, l2] st H Q ↔ Go 134 4 [some (.ref u), l1, l2] (.ref u :: st) H Q := G_aload_n fX9_keepEntries_3 rfl
theorem fX9_keepEntries_4 : ft 134 4 = some (.iload_n 1, 0, 0, 0, .null) := by decide +kernel
theorem gX9_keepEntries_4 {l0 l2 : Option Value} {u : Int32} {st : List Value} {H : HP} {Q : Option Value → HP → Prop} : Go 134 4 [l0, some (.int u), l2] st H Q ↔ Go 134 5 [l0, some (.int u), l2] (.int u :: st) H Q := G_iload_n fX9_keepEntries_4 rfl
theorem fX9_keepEntries_5 : ft 134 5 = some (.invokevirtual 100, 124, 0, 867, .null) := by decide +kernel
theorem gX9_keepEntries_5 {L : List (Option Value)} {p : Nat} {a0 : Int32} {r0 : Int32} {H : HP} {Q : Option Value → HP → Prop} : Go 134 5 L (.int a0 :: .ref p :: [.int r0]) H Q ↔ (iso 9 (hget H p) = true ∧ Go 124 0 [some (.ref p), some (.int a0)] [] H (Cont 134 8 L [.int r0] Q)) := G_cV (n := 1) (N := 2) (as := [.int a0]) (st := [.int r0]) fX9_keepEntries_5 (by decide +kernel) rfl (Nat.le_of_ble_eq_true rfl) (Nat.le_of_ble_eq_true rfl) rfl
theorem fX9_keepEntries_8 : ft 134 8 = some (.if_icmp .ge 21, 0, 0, 0, .null) := by decide +kernel
theorem gX9_keepEntries_8T {L : List (Option Value)} {a b : Int} (c : (-2147483648 ≤ a ∧ a ≤ 2147483647 ∧ -2147483648 ≤ b ∧ b ≤ 2147483647) ∧ b ≤ a) {st : List Value} {H : HP} {Q : Option Value → HP → Prop} : Go 134 8 L (vi b :: vi a :: st) H Q ↔ Go 134 29 L st H Q := G_icT fX9_keepEntries_8 (by decide) c
theorem gX9_keepEntries_8F {L : List (Option Value)} {a b : Int} (c : (-2147483648 ≤ a ∧ a ≤ 2147483647 ∧ -2147483648 ≤ b ∧ b ≤ 2147483647) ∧ ¬ (b ≤ a)) {st : List Value} {H : HP} {Q : Option Value → HP → Prop} : Go 134 8 L (vi b :: vi a :: st) H Q ↔ Go 134 11 L st H Q := G_icF (tg := 29) fX9_keepEntries_8 (by decide) c
theorem fX9_keepEntries_11 : ft 134 11 = some (.aload_n 0, 0, 0, 0, .null) := by decide +kernel
theorem gX9_keepEntries_11 {l1 l2 : Option Value} {u : Nat} {st : List Value} {H : HP} {Q : Option Value → HP → Prop} : Go 134 11 [some (.ref u), l1, l2] st H Q ↔ Go 134 12 [some (.ref u), l1, l2] (.ref u :: st) H Q := G_aload_n fX9_keepEntries_11 rfl
theorem fX9_keepEntries_12 : ft 134 12 = some (.getfield 48, 9, 19, 773, .null) := by decide +kernel
theorem gX9_keepEntries_12 {L : List (Option Value)} {p : Nat} {st : List Value} {H : HP} {Q : Option Value → HP → Prop} : Go 134 12 L (.ref p :: st) H Q ↔ Rd (gF' 9 19 (hget H p)) 134 15 L st H Q := G_getf fX9_keepEntries_12 ⟨rfl, rfl⟩
theorem fX9_keepEntries_15 : ft 134 15 = some (.iload_n 2, 0, 0, 0, .null) := by decide +kernel
theorem gX9_keepEntries_15 {l0 l1 : Option Value} {u : Int32} {st : List Value} {H : HP} {Q : Option Value → HP → Prop} : Go 134 15 [l0, l1, some (.int u)] st H Q ↔ Go 134 16 [l0, l1, some (.int u)] (.int u :: st) H Q := G_iload_n fX9_keepEntries_15 rfl
theorem fX9_keepEntries_16 : ft 134 16 = some (.aload_n 0, 0, 0, 0, .null) := by decide +kernel
theorem gX9_keepEntries_16 {l1 l2 : Option Value} {u : Nat} {st : List Value} {H : HP} {Q : Option Value → HP → Prop} : Go 134 16 [some (.ref u), l1, l2] st H Q ↔ Go 134 17 [some (.ref u), l1, l2] (.ref u :: st) H Q := G_aload_n fX9_keepEntries_16 rfl
theorem fX9_keepEntries_17 : ft 134 17 = some (.iload_n 1, 0, 0, 0, .null) := by decide +kernel
theorem gX9_keepEntries_17 {l0 l2 : Option Value} {u : Int32} {st : List Value} {H : HP} {Q : Option Value → HP → Prop} : Go 134 17 [l0, some (.int u), l2] st H Q ↔ Go 134 18 [l0, some (.int u), l2] (.int u :: st) H Q := G_iload_n fX9_keepEntries_17 rfl
theorem fX9_keepEntries_18 : ft 134 18 = some (.iload_n 2, 0, 0, 0, .null) := by decide +kernel
theorem gX9_keepEntries_18 {l0 l1 : Option Value} {u : Int32} {st : List Value} {H : HP} {Q : Option Value → HP → Prop} : Go 134 18 [l0, l1, some (.int u)] st H Q ↔ Go 134 19 [l0, l1, some (.int u)] (.int u :: st) H Q := G_iload_n fX9_keepEntries_18 rfl
theorem fX9_keepEntries_19 : ft 134 19 = some (.invokevirtual 117, 123, 0, 888, .null) := by decide +kernel
theorem gX9_keepEntries_19 {L : List (Option Value)} {p : Nat} {a0 : Int32} {a1 : Int32} {r0 : Int32} {r1 : Nat} {H : HP} {Q : Option Value → HP → Prop} : Go 134 19 L (.int a1 :: .int a0 :: .ref p :: [.int r0, .ref r1]) H Q ↔ (iso 9 (hget H p) = true ∧ Go 123 0 [some (.ref p), some (.int a0), some (.int a1)] [] H (Cont 134 22 L [.int r0, .ref r1] Q)) := G_cV (n := 2) (N := 3) (as := [.int a1, .int a0]) (st := [.int r0, .ref r1]) fX9_keepEntries_19 (by decide +kernel) rfl (Nat.le_of_ble_eq_true rfl) (Nat.le_of_ble_eq_true rfl) rfl
theorem fX9_keepEntries_22 : ft 134 22 = some (.lastore, 0, 0, 0, .null) := by decide +kernel
theorem gX9_keepEntries_22 {L : List (Option Value)} {p : Nat} {a : Int} {b : Int} (hp : p ≠ 0) {st : List Value} {H : HP} {Q : Option Value → HP → Prop} : Go 134 22 L (vl b :: vi a :: .ref p :: st) H Q ↔ Wr (sL' (hget H p) a b) p 134 23 L st H Q := G_last fX9_keepEntries_22 hp
theorem fX9_keepEntries_23 : ft 134 23 = some (.iinc 2 1, 0, 0, 0, .null) := by decide +kernel
theorem gX9_keepEntries_23 {l0 l1 : Option Value} {a : Int} {st : List Value} {H : HP} {Q : Option Value → HP → Prop} : Go 134 23 [l0, l1, some (vi a)] st H Q ↔ Go 134 26 [l0, l1, some (vi (a + 1))] st H Q := G_iinc fX9_keepEntries_23 rfl rfl
theorem fX9_keepEntries_26 : ft 134 26 = some (.goto (-24), 0, 0, 0, .null) := by decide +kernel
theorem gX9_keepEntries_26 {L : List (Option Value)} {st : List Value} {H : HP} {Q : Option Value → HP → Prop} : Go 134 26 L st H Q ↔ Go 134 2 L st H Q := G_goto fX9_keepEntries_26 (by decide)
theorem fX9_keepEntries_29 : ft 134 29 = some (.return_, 0, 0, 0, .null) := by decide +kernel
theorem gX9_keepEntries_29 {L : List (Option Value)} {H : HP} {Q : Option Value → HP → Prop} : Go 134 29 L [] H Q ↔ Q none H := G_vret fX9_keepEntries_29 (by decide +kernel)
theorem fX9_reverse_0 : ft 135 0 = some (.aload_n 0, 0, 0, 0, .null) := by decide +kernel
theorem gX9_reverse_0 {l1 l2 : Option Value} {u : Nat} {st : List Value} {H : HP} {Q : Option Value → HP → Prop} : Go 135 0 [some (.ref u), l1, l2] st H Q ↔ Go 135 1 [some (.ref u), l1, l2] (.ref u :: st) H Q := G_aload_n fX9_reverse_0 rfl
theorem fX9_reverse_1 : ft 135 1 = some (.iconst 0, 0, 0, 0, .null) := by decide +kernel
theorem gX9_reverse_1 {L : List (Option Value)} {st : List Value} {H : HP} {Q : Option Value → HP → Prop} : Go 135 1 L st H Q ↔ Go 135 2 L (vi 0 :: st) H Q := G_iconst fX9_reverse_1
theorem fX9_reverse_2 : ft 135 2 = some (.putfield 72, 9, 0, 754, .null) := by decide +kernel
theorem gX9_reverse_2 {L : List (Option Value)} {p : Nat} {u : Int32} (hp : p ≠ 0) {st : List Value} {H : HP} {Q : Option Value → HP → Prop} : Go 135 2 L (.int u :: .ref p :: st) H Q ↔ Wr (pF' 9 0 (hget H p) (.int u)) p 135 5 L st H Q := G_putf fX9_reverse_2 ⟨⟨rfl, rfl⟩, rfl, Or.inl rfl⟩ hp
theorem fX9_reverse_5 : ft 135 5 = some (.iload_n 1, 0, 0, 0, .null) := by decide +kernel
theorem gX9_reverse_5 {l0 l2 : Option Value} {u : Int32} {st : List Value} {H : HP} {Q : Option Value → HP → Prop} : Go 135 5 [l0, some (.int u), l2] st H Q ↔ Go 135 6 [l0, some (.int u), l2] (.int u :: st) H Q := G_iload_n fX9_reverse_5 rfl
theorem fX9_reverse_6 : ft 135 6 = some (.invokestatic 85, 119, 0, 841, .null) := by decide +kernel
theorem gX9_reverse_6 {L : List (Option Value)} {a0 : Int32}  {H : HP} {Q : Option Value → HP → Prop} : Go 135 6 L (.int a0 :: []) H Q ↔ Go 119 0 [some (.int a0)] [] H (Cont 135 9 L [] Q) := G_cS (n := 1) (N := 1) (as := [.int a0]) (st := []) fX9_reverse_6 (by decide +kernel) rfl (Nat.le_of_ble_eq_true rfl) (Nat.le_of_ble_eq_true rfl) rfl
theorem fX9_reverse_9 : ft 135 9 = some (.ifCond .ne 5, 0, 0, 0, .null) := by decide +kernel
theorem gX9_reverse_9T {L : List (Option Value)} {a : Int} (c : (-2147483648 ≤ a ∧ a ≤ 2147483647) ∧ ¬ a = 0) {st : List Value} {H : HP} {Q : Option Value → HP → Prop} : Go 135 9 L (vi a :: st) H Q ↔ Go 135 14 L st H Q := G_ifT fX9_reverse_9 (by decide) c
theorem gX9_reverse_9F {L : List (Option Value)} {a : Int} (c : (-2147483648 ≤ a ∧ a ≤ 2147483647) ∧ ¬ (¬ a = 0)) {st : List Value} {H : HP} {Q : Option Value → HP → Prop} : Go 135 9 L (vi a :: st) H Q ↔ Go 135 12 L st H Q := G_ifF (tg := 14) fX9_reverse_9 (by decide) c
theorem fX9_reverse_12 : ft 135 12 = some (.iconst (-1), 0, 0, 0, .null) := by decide +kernel
theorem gX9_reverse_12 {L : List (Option Value)} {st : List Value} {H : HP} {Q : Option Value → HP → Prop} : Go 135 12 L st H Q ↔ Go 135 13 L (vi (-1) :: st) H Q := G_iconst fX9_reverse_12
theorem fX9_reverse_13 : ft 135 13 = some (.ireturn, 0, 0, 0, .null) := by decide +kernel
theorem gX9_reverse_13 {L : List (Option Value)} {u : Int32} {H : HP} {Q : Option Value → HP → Prop} : Go 135 13 L [.int u] H Q ↔ Q (some (.int u)) H := G_iret fX9_reverse_13 (by decide +kernel)
theorem fX9_reverse_14 : ft 135 14 = some (.aload_n 0, 0, 0, 0, .null) := by decide +kernel
theorem gX9_reverse_14 {l1 l2 : Option Value} {u : Nat} {st : List Value} {H : HP} {Q : Option Value → HP → Prop} : Go 135 14 [some (.ref u), l1, l2] st H Q ↔ Go 135 15 [some (.ref u), l1, l2] (.ref u :: st) H Q := G_aload_n fX9_reverse_14 rfl
theorem fX9_reverse_15 : ft 135 15 = some (.getfield 9, 9, 1, 755, .null) := by decide +kernel
theorem gX9_reverse_15 {L : List (Option Value)} {p : Nat} {st : List Value} {H : HP} {Q : Option Value → HP → Prop} : Go 135 15 L (.ref p :: st) H Q ↔ Rd (gF' 9 1 (hget H p)) 135 18 L st H Q := G_getf fX9_reverse_15 ⟨rfl, rfl⟩
theorem fX9_reverse_18 : ft 135 18 = some (.iload_n 1, 0, 0, 0, .null) := by decide +kernel
theorem gX9_reverse_18 {l0 l2 : Option Value} {u : Int32} {st : List Value} {H : HP} {Q : Option Value → HP → Prop} : Go 135 18 [l0, some (.int u), l2] st H Q ↔ Go 135 19 [l0, some (.int u), l2] (.int u :: st) H Q := G_iload_n fX9_reverse_18 rfl
theorem fX9_reverse_19 : ft 135 19 = some (.iaload, 0, 0, 0, .null) := by decide +kernel
theorem gX9_reverse_19 {L : List (Option Value)} {p : Nat} {a : Int} {st : List Value} {H : HP} {Q : Option Value → HP → Prop} : Go 135 19 L (vi a :: .ref p :: st) H Q ↔ Rd (aJ' (hget H p) a) 135 20 L st H Q := G_iald fX9_reverse_19
theorem fX9_reverse_20 : ft 135 20 = some (.bipush (-9), 0, 0, 0, .null) := by decide +kernel
theorem gX9_reverse_20 {L : List (Option Value)} {st : List Value} {H : HP} {Q : Option Value → HP → Prop} : Go 135 20 L st H Q ↔ Go 135 22 L (vi (-9) :: st) H Q := G_bipush fX9_reverse_20 (by decide)
theorem fX9_reverse_22 : ft 135 22 = some (.if_icmp .ne 9, 0, 0, 0, .null) := by decide +kernel
theorem gX9_reverse_22T {L : List (Option Value)} {a b : Int} (c : (-2147483648 ≤ a ∧ a ≤ 2147483647 ∧ -2147483648 ≤ b ∧ b ≤ 2147483647) ∧ ¬ a = b) {st : List Value} {H : HP} {Q : Option Value → HP → Prop} : Go 135 22 L (vi b :: vi a :: st) H Q ↔ Go 135 31 L st H Q := G_icT fX9_reverse_22 (by decide) c
theorem gX9_reverse_22F {L : List (Option Value)} {a b : Int} (c : (-2147483648 ≤ a ∧ a ≤ 2147483647 ∧ -2147483648 ≤ b ∧ b ≤ 2147483647) ∧ ¬ (¬ a = b)) {st : List Value} {H : HP} {Q : Option Value → HP → Prop} : Go 135 22 L (vi b :: vi a :: st) H Q ↔ Go 135 25 L st H Q := G_icF (tg := 31) fX9_reverse_22 (by decide) c
theorem fX9_reverse_25 : ft 135 25 = some (.aload_n 0, 0, 0, 0, .null) := by decide +kernel
theorem gX9_reverse_25 {l1 l2 : Option Value} {u : Nat} {st : List Value} {H : HP} {Q : Option Value → HP → Prop} : Go 135 25 [some (.ref u), l1, l2] st H Q ↔ Go 135 26 [some (.ref u), l1, l2] (.ref u :: st) H Q := G_aload_n fX9_reverse_25 rfl
theorem fX9_reverse_26 : ft 135 26 = some (.iconst 1, 0, 0, 0, .null) := by decide +kernel
theorem gX9_reverse_26 {L : List (Option Value)} {st : List Value} {H : HP} {Q : Option Value → HP → Prop} : Go 135 26 L st H Q ↔ Go 135 27 L (vi 1 :: st) H Q := G_iconst fX9_reverse_26
theorem fX9_reverse_27 : ft 135 27 = some (.invokevirtual 89, 117, 0, 847, .null) := by decide +kernel
theorem gX9_reverse_27 {L : List (Option Value)} {p : Nat} {a0 : Int32}  {H : HP} {Q : Option Value → HP → Prop} : Go 135 27 L (.int a0 :: .ref p :: []) H Q ↔ (iso 9 (hget H p) = true ∧ Go 117 0 [some (.ref p), some (.int a0)] [] H (Cont 135 30 L [] Q)) := G_cV (n := 1) (N := 2) (as := [.int a0]) (st := []) fX9_reverse_27 (by decide +kernel) rfl (Nat.le_of_ble_eq_true rfl) (Nat.le_of_ble_eq_true rfl) rfl
theorem fX9_reverse_30 : ft 135 30 = some (.ireturn, 0, 0, 0, .null) := by decide +kernel
theorem gX9_reverse_30 {L : List (Option Value)} {u : Int32} {H : HP} {Q : Option Value → HP → Prop} : Go 135 30 L [.int u] H Q ↔ Q (some (.int u)) H := G_iret fX9_reverse_30 (by decide +kernel)
theorem fX9_reverse_31 : ft 135 31 = some (.aload_n 0, 0, 0, 0, .null) := by decide +kernel
theorem gX9_reverse_31 {l1 l2 : Option Value} {u : Nat} {st : List Value} {H : HP} {Q : Option Value → HP → Prop} : Go 135 31 [some (.ref u), l1, l2] st H Q ↔ Go 135 32 [some (.ref u), l1, l2] (.ref u :: st) H Q := G_aload_n fX9_reverse_31 rfl
theorem fX9_reverse_32 : ft 135 32 = some (.iload_n 1, 0, 0, 0, .null) := by decide +kernel
theorem gX9_reverse_32 {l0 l2 : Option Value} {u : Int32} {st : List Value} {H : HP} {Q : Option Value → HP → Prop} : Go 135 32 [l0, some (.int u), l2] st H Q ↔ Go 135 33 [l0, some (.int u), l2] (.int u :: st) H Q := G_iload_n fX9_reverse_32 rfl
theorem fX9_reverse_33 : ft 135 33 = some (.invokevirtual 121, 134, 0, 900, .null) := by decide +kernel
theorem gX9_reverse_33 {L : List (Option Value)} {p : Nat} {a0 : Int32}  {H : HP} {Q : Option Value → HP → Prop} : Go 135 33 L (.int a0 :: .ref p :: []) H Q ↔ (iso 9 (hget H p) = true ∧ Go 134 0 [some (.ref p), some (.int a0), none] [] H (Cont 135 36 L [] Q)) := G_cV (n := 1) (N := 3) (as := [.int a0]) (st := []) fX9_reverse_33 (by decide +kernel) rfl (Nat.le_of_ble_eq_true rfl) (Nat.le_of_ble_eq_true rfl) rfl
theorem fX9_reverse_36 : ft 135 36 = some (.iconst 0, 0, 0, 0, .null) := by decide +kernel
theorem gX9_reverse_36 {L : List (Option Value)} {st : List Value} {H : HP} {Q : Option Value → HP → Prop} : Go 135 36 L st H Q ↔ Go 135 37 L (vi 0 :: st) H Q := G_iconst fX9_reverse_36
theorem fX9_reverse_37 : ft 135 37 = some (.istore_n 2, 0, 0, 0, .null) := by decide +kernel
theorem gX9_reverse_37 {l0 l1 l2 : Option Value} {u : Int32} {st : List Value} {H : HP} {Q : Option Value → HP → Prop} : Go 135 37 [l0, l1, l2] (.int u :: st) H Q ↔ Go 135 38 [l0, l1, some (.int u)] st H Q := G_istore_n fX9_reverse_37 rfl
theorem fX9_reverse_38 : ft 135 38 = some (.iload_n 2, 0, 0, 0, .null) := by decide +kernel
theorem gX9_reverse_38 {l0 l1 : Option Value} {u : Int32} {st : List Value} {H : HP} {Q : Option Value → HP → Prop} : Go 135 38 [l0, l1, some (.int u)] st H Q ↔ Go 135 39 [l0, l1, some (.int u)] (.int u :: st) H Q := G_iload_n fX9_reverse_38 rfl
theorem fX9_reverse_39 : ft 135 39 = some (.aload_n 0, 0, 0, 0, .null) := by decide +kernel
theorem gX9_reverse_39 {l1 l2 : Option Value} {u : Nat} {st : List Value} {H : HP} {Q : Option Value → HP → Prop} : Go 135 39 [some (.ref u), l1, l2] st H Q ↔ Go 135 40 [some (.ref u), l1, l2] (.ref u :: st) H Q := G_aload_n fX9_reverse_39 rfl
theorem fX9_reverse_40 : ft 135 40 = some (.iload_n 1, 0, 0, 0, .null) := by decide +kernel
theorem gX9_reverse_40 {l0 l2 : Option Value} {u : Int32} {st : List Value} {H : HP} {Q : Option Value → HP → Prop} : Go 135 40 [l0, some (.int u), l2] st H Q ↔ Go 135 41 [l0, some (.int u), l2] (.int u :: st) H Q := G_iload_n fX9_reverse_40 rfl
theorem fX9_reverse_41 : ft 135 41 = some (.invokevirtual 100, 124, 0, 867, .null) := by decide +kernel
theorem gX9_reverse_41 {L : List (Option Value)} {p : Nat} {a0 : Int32} {r0 : Int32} {H : HP} {Q : Option Value → HP → Prop} : Go 135 41 L (.int a0 :: .ref p :: [.int r0]) H Q ↔ (iso 9 (hget H p) = true ∧ Go 124 0 [some (.ref p), some (.int a0)] [] H (Cont 135 44 L [.int r0] Q)) := G_cV (n := 1) (N := 2) (as := [.int a0]) (st := [.int r0]) fX9_reverse_41 (by decide +kernel) rfl (Nat.le_of_ble_eq_true rfl) (Nat.le_of_ble_eq_true rfl) rfl
theorem fX9_reverse_44 : ft 135 44 = some (.if_icmp .ge 39, 0, 0, 0, .null) := by decide +kernel
theorem gX9_reverse_44T {L : List (Option Value)} {a b : Int} (c : (-2147483648 ≤ a ∧ a ≤ 2147483647 ∧ -2147483648 ≤ b ∧ b ≤ 2147483647) ∧ b ≤ a) {st : List Value} {H : HP} {Q : Option Value → HP → Prop} : Go 135 44 L (vi b :: vi a :: st) H Q ↔ Go 135 83 L st H Q := G_icT fX9_reverse_44 (by decide) c
theorem gX9_reverse_44F {L : List (Option Value)} {a b : Int} (c : (-2147483648 ≤ a ∧ a ≤ 2147483647 ∧ -2147483648 ≤ b ∧ b ≤ 2147483647) ∧ ¬ (b ≤ a)) {st : List Value} {H : HP} {Q : Option Value → HP → Prop} : Go 135 44 L (vi b :: vi a :: st) H Q ↔ Go 135 47 L st H Q := G_icF (tg := 83) fX9_reverse_44 (by decide) c
theorem fX9_reverse_47 : ft 135 47 = some (.aload_n 0, 0, 0, 0, .null) := by decide +kernel
theorem gX9_reverse_47 {l1 l2 : Option Value} {u : Nat} {st : List Value} {H : HP} {Q : Option Value → HP → Prop} : Go 135 47 [some (.ref u), l1, l2] st H Q ↔ Go 135 48 [some (.ref u), l1, l2] (.ref u :: st) H Q := G_aload_n fX9_reverse_47 rfl
theorem fX9_reverse_48 : ft 135 48 = some (.getfield 19, 9, 4, 758, .null) := by decide +kernel
theorem gX9_reverse_48 {L : List (Option Value)} {p : Nat} {st : List Value} {H : HP} {Q : Option Value → HP → Prop} : Go 135 48 L (.ref p :: st) H Q ↔ Rd (gF' 9 4 (hget H p)) 135 51 L st H Q := G_getf fX9_reverse_48 ⟨rfl, rfl⟩
theorem fX9_reverse_51 : ft 135 51 = some (.bipush 64, 0, 0, 0, .null) := by decide +kernel
theorem gX9_reverse_51 {L : List (Option Value)} {st : List Value} {H : HP} {Q : Option Value → HP → Prop} : Go 135 51 L st H Q ↔ Go 135 53 L (vi 64 :: st) H Q := G_bipush fX9_reverse_51 (by decide)
theorem fX9_reverse_53 : ft 135 53 = some (.aload_n 0, 0, 0, 0, .null) := by decide +kernel
theorem gX9_reverse_53 {l1 l2 : Option Value} {u : Nat} {st : List Value} {H : HP} {Q : Option Value → HP → Prop} : Go 135 53 [some (.ref u), l1, l2] st H Q ↔ Go 135 54 [some (.ref u), l1, l2] (.ref u :: st) H Q := G_aload_n fX9_reverse_53 rfl
theorem fX9_reverse_54 : ft 135 54 = some (.getfield 9, 9, 1, 755, .null) := by decide +kernel
theorem gX9_reverse_54 {L : List (Option Value)} {p : Nat} {st : List Value} {H : HP} {Q : Option Value → HP → Prop} : Go 135 54 L (.ref p :: st) H Q ↔ Rd (gF' 9 1 (hget H p)) 135 57 L st H Q := G_getf fX9_reverse_54 ⟨rfl, rfl⟩
theorem fX9_reverse_57 : ft 135 57 = some (.iload_n 1, 0, 0, 0, .null) := by decide +kernel
theorem gX9_reverse_57 {l0 l2 : Option Value} {u : Int32} {st : List Value} {H : HP} {Q : Option Value → HP → Prop} : Go 135 57 [l0, some (.int u), l2] st H Q ↔ Go 135 58 [l0, some (.int u), l2] (.int u :: st) H Q := G_iload_n fX9_reverse_57 rfl
theorem fX9_reverse_58 : ft 135 58 = some (.iaload, 0, 0, 0, .null) := by decide +kernel
theorem gX9_reverse_58 {L : List (Option Value)} {p : Nat} {a : Int} {st : List Value} {H : HP} {Q : Option Value → HP → Prop} : Go 135 58 L (vi a :: .ref p :: st) H Q ↔ Rd (aJ' (hget H p) a) 135 59 L st H Q := G_iald fX9_reverse_58
theorem fX9_reverse_59 : ft 135 59 = some (.imul, 0, 0, 0, .null) := by decide +kernel
theorem gX9_reverse_59 {L : List (Option Value)} {a b : Int} {st : List Value} {H : HP} {Q : Option Value → HP → Prop} : Go 135 59 L (vi b :: vi a :: st) H Q ↔ Go 135 60 L (vi (a * b) :: st) H Q := G_imul fX9_reverse_59
theorem fX9_reverse_60 : ft 135 60 = some (.iload_n 2, 0, 0, 0, .null) := by decide +kernel
theorem gX9_reverse_60 {l0 l1 : Option Value} {u : Int32} {st : List Value} {H : HP} {Q : Option Value → HP → Prop} : Go 135 60 [l0, l1, some (.int u)] st H Q ↔ Go 135 61 [l0, l1, some (.int u)] (.int u :: st) H Q := G_iload_n fX9_reverse_60 rfl
theorem fX9_reverse_61 : ft 135 61 = some (.iadd, 0, 0, 0, .null) := by decide +kernel
theorem gX9_reverse_61 {L : List (Option Value)} {a b : Int} {st : List Value} {H : HP} {Q : Option Value → HP → Prop} : Go 135 61 L (vi b :: vi a :: st) H Q ↔ Go 135 62 L (vi (a + b) :: st) H Q := G_iadd fX9_reverse_61
theorem fX9_reverse_62 : ft 135 62 = some (.aload_n 0, 0, 0, 0, .null) := by decide +kernel
theorem gX9_reverse_62 {l1 l2 : Option Value} {u : Nat} {st : List Value} {H : HP} {Q : Option Value → HP → Prop} : Go 135 62 [some (.ref u), l1, l2] st H Q ↔ Go 135 63 [some (.ref u), l1, l2] (.ref u :: st) H Q := G_aload_n fX9_reverse_62 rfl
theorem fX9_reverse_63 : ft 135 63 = some (.getfield 48, 9, 19, 773, .null) := by decide +kernel
theorem gX9_reverse_63 {L : List (Option Value)} {p : Nat} {st : List Value} {H : HP} {Q : Option Value → HP → Prop} : Go 135 63 L (.ref p :: st) H Q ↔ Rd (gF' 9 19 (hget H p)) 135 66 L st H Q := G_getf fX9_reverse_63 ⟨rfl, rfl⟩
theorem fX9_reverse_66 : ft 135 66 = some (.aload_n 0, 0, 0, 0, .null) := by decide +kernel
theorem gX9_reverse_66 {l1 l2 : Option Value} {u : Nat} {st : List Value} {H : HP} {Q : Option Value → HP → Prop} : Go 135 66 [some (.ref u), l1, l2] st H Q ↔ Go 135 67 [some (.ref u), l1, l2] (.ref u :: st) H Q := G_aload_n fX9_reverse_66 rfl
theorem fX9_reverse_67 : ft 135 67 = some (.iload_n 1, 0, 0, 0, .null) := by decide +kernel
theorem gX9_reverse_67 {l0 l2 : Option Value} {u : Int32} {st : List Value} {H : HP} {Q : Option Value → HP → Prop} : Go 135 67 [l0, some (.int u), l2] st H Q ↔ Go 135 68 [l0, some (.int u), l2] (.int u :: st) H Q := G_iload_n fX9_reverse_67 rfl
theorem fX9_reverse_68 : ft 135 68 = some (.invokevirtual 100, 124, 0, 867, .null) := by decide +kernel
theorem gX9_reverse_68 {L : List (Option Value)} {p : Nat} {a0 : Int32} {r0 : Nat} {r1 : Int32} {r2 : Nat} {H : HP} {Q : Option Value → HP → Prop} : Go 135 68 L (.int a0 :: .ref p :: [.ref r0, .int r1, .ref r2]) H Q ↔ (iso 9 (hget H p) = true ∧ Go 124 0 [some (.ref p), some (.int a0)] [] H (Cont 135 71 L [.ref r0, .int r1, .ref r2] Q)) := G_cV (n := 1) (N := 2) (as := [.int a0]) (st := [.ref r0, .int r1, .ref r2]) fX9_reverse_68 (by decide +kernel) rfl (Nat.le_of_ble_eq_true rfl) (Nat.le_of_ble_eq_true rfl) rfl
theorem fX9_reverse_71 : ft 135 71 = some (.iconst 1, 0, 0, 0, .null) := by decide +kernel
theorem gX9_reverse_71 {L : List (Option Value)} {st : List Value} {H : HP} {Q : Option Value → HP → Prop} : Go 135 71 L st H Q ↔ Go 135 72 L (vi 1 :: st) H Q := G_iconst fX9_reverse_71
theorem fX9_reverse_72 : ft 135 72 = some (.isub, 0, 0, 0, .null) := by decide +kernel
theorem gX9_reverse_72 {L : List (Option Value)} {a b : Int} {st : List Value} {H : HP} {Q : Option Value → HP → Prop} : Go 135 72 L (vi b :: vi a :: st) H Q ↔ Go 135 73 L (vi (a - b) :: st) H Q := G_isub fX9_reverse_72
theorem fX9_reverse_73 : ft 135 73 = some (.iload_n 2, 0, 0, 0, .null) := by decide +kernel
theorem gX9_reverse_73 {l0 l1 : Option Value} {u : Int32} {st : List Value} {H : HP} {Q : Option Value → HP → Prop} : Go 135 73 [l0, l1, some (.int u)] st H Q ↔ Go 135 74 [l0, l1, some (.int u)] (.int u :: st) H Q := G_iload_n fX9_reverse_73 rfl
theorem fX9_reverse_74 : ft 135 74 = some (.isub, 0, 0, 0, .null) := by decide +kernel
theorem gX9_reverse_74 {L : List (Option Value)} {a b : Int} {st : List Value} {H : HP} {Q : Option Value → HP → Prop} : Go 135 74 L (vi b :: vi a :: st) H Q ↔ Go 135 75 L (vi (a - b) :: st) H Q := G_isub fX9_reverse_74
theorem fX9_reverse_75 : ft 135 75 = some (.laload, 0, 0, 0, .null) := by decide +kernel
theorem gX9_reverse_75 {L : List (Option Value)} {p : Nat} {a : Int} {st : List Value} {H : HP} {Q : Option Value → HP → Prop} : Go 135 75 L (vi a :: .ref p :: st) H Q ↔ Rd (aL' (hget H p) a) 135 76 L st H Q := G_lald fX9_reverse_75
theorem fX9_reverse_76 : ft 135 76 = some (.lastore, 0, 0, 0, .null) := by decide +kernel
theorem gX9_reverse_76 {L : List (Option Value)} {p : Nat} {a : Int} {b : Int} (hp : p ≠ 0) {st : List Value} {H : HP} {Q : Option Value → HP → Prop} : Go 135 76 L (vl b :: vi a :: .ref p :: st) H Q ↔ Wr (sL' (hget H p) a b) p 135 77 L st H Q := G_last fX9_reverse_76 hp
theorem fX9_reverse_77 : ft 135 77 = some (.iinc 2 1, 0, 0, 0, .null) := by decide +kernel
theorem gX9_reverse_77 {l0 l1 : Option Value} {a : Int} {st : List Value} {H : HP} {Q : Option Value → HP → Prop} : Go 135 77 [l0, l1, some (vi a)] st H Q ↔ Go 135 80 [l0, l1, some (vi (a + 1))] st H Q := G_iinc fX9_reverse_77 rfl rfl
theorem fX9_reverse_80 : ft 135 80 = some (.goto (-42), 0, 0, 0, .null) := by decide +kernel
theorem gX9_reverse_80 {L : List (Option Value)} {st : List Value} {H : HP} {Q : Option Value → HP → Prop} : Go 135 80 L st H Q ↔ Go 135 38 L st H Q := G_goto fX9_reverse_80 (by decide)
theorem fX9_reverse_83 : ft 135 83 = some (.iconst 1, 0, 0, 0, .null) := by decide +kernel
theorem gX9_reverse_83 {L : List (Option Value)} {st : List Value} {H : HP} {Q : Option Value → HP → Prop} : Go 135 83 L st H Q ↔ Go 135 84 L (vi 1 :: st) H Q := G_iconst fX9_reverse_83
theorem fX9_reverse_84 : ft 135 84 = some (.ireturn, 0, 0, 0, .null) := by decide +kernel
theorem gX9_reverse_84 {L : List (Option Value)} {u : Int32} {H : HP} {Q : Option Value → HP → Prop} : Go 135 84 L [.int u] H Q ↔ Q (some (.int u)) H := G_iret fX9_reverse_84 (by decide +kernel)
theorem fX9_shift_0 : ft 136 0 = some (.aload_n 0, 0, 0, 0, .null) := by decide +kernel
theorem gX9_shift_0 {l1 l2 l3 l4 : Option Value} {u : Nat} {st : List Value} {H : HP} {Q : Option Value → HP → Prop} : Go 136 0 [some (.ref u), l1, l2, l3, l4] st H Q ↔ Go 136 1 [some (.ref u), l1, l2, l3, l4] (.ref u :: st) H Q := G_aload_n fX9_shift_0 rfl
theorem fX9_shift_1 : ft 136 1 = some (.iconst 0, 0, 0, 0, .null) := by decide +kernel
theorem gX9_shift_1 {L : List (Option Value)} {st : List Value} {H : HP} {Q : Option Value → HP → Prop} : Go 136 1 L st H Q ↔ Go 136 2 L (vi 0 :: st) H Q := G_iconst fX9_shift_1
theorem fX9_shift_2 : ft 136 2 = some (.putfield 72, 9, 0, 754, .null) := by decide +kernel
theorem gX9_shift_2 {L : List (Option Value)} {p : Nat} {u : Int32} (hp : p ≠ 0) {st : List Value} {H : HP} {Q : Option Value → HP → Prop} : Go 136 2 L (.int u :: .ref p :: st) H Q ↔ Wr (pF' 9 0 (hget H p) (.int u)) p 136 5 L st H Q := G_putf fX9_shift_2 ⟨⟨rfl, rfl⟩, rfl, Or.inl rfl⟩ hp
theorem fX9_shift_5 : ft 136 5 = some (.iload_n 1, 0, 0, 0, .null) := by decide +kernel
theorem gX9_shift_5 {l0 l2 l3 l4 : Option Value} {u : Int32} {st : List Value} {H : HP} {Q : Option Value → HP → Prop} : Go 136 5 [l0, some (.int u), l2, l3, l4] st H Q ↔ Go 136 6 [l0, some (.int u), l2, l3, l4] (.int u :: st) H Q := G_iload_n fX9_shift_5 rfl
theorem fX9_shift_6 : ft 136 6 = some (.invokestatic 85, 119, 0, 841, .null) := by decide +kernel
theorem gX9_shift_6 {L : List (Option Value)} {a0 : Int32}  {H : HP} {Q : Option Value → HP → Prop} : Go 136 6 L (.int a0 :: []) H Q ↔ Go 119 0 [some (.int a0)] [] H (Cont 136 9 L [] Q) := G_cS (n := 1) (N := 1) (as := [.int a0]) (st := []) fX9_shift_6 (by decide +kernel) rfl (Nat.le_of_ble_eq_true rfl) (Nat.le_of_ble_eq_true rfl) rfl
theorem fX9_shift_9 : ft 136 9 = some (.ifCond .ne 5, 0, 0, 0, .null) := by decide +kernel
theorem gX9_shift_9T {L : List (Option Value)} {a : Int} (c : (-2147483648 ≤ a ∧ a ≤ 2147483647) ∧ ¬ a = 0) {st : List Value} {H : HP} {Q : Option Value → HP → Prop} : Go 136 9 L (vi a :: st) H Q ↔ Go 136 14 L st H Q := G_ifT fX9_shift_9 (by decide) c
theorem gX9_shift_9F {L : List (Option Value)} {a : Int} (c : (-2147483648 ≤ a ∧ a ≤ 2147483647) ∧ ¬ (¬ a = 0)) {st : List Value} {H : HP} {Q : Option Value → HP → Prop} : Go 136 9 L (vi a :: st) H Q ↔ Go 136 12 L st H Q := G_ifF (tg := 14) fX9_shift_9 (by decide) c
theorem fX9_shift_12 : ft 136 12 = some (.iconst (-1), 0, 0, 0, .null) := by decide +kernel
theorem gX9_shift_12 {L : List (Option Value)} {st : List Value} {H : HP} {Q : Option Value → HP → Prop} : Go 136 12 L st H Q ↔ Go 136 13 L (vi (-1) :: st) H Q := G_iconst fX9_shift_12
theorem fX9_shift_13 : ft 136 13 = some (.ireturn, 0, 0, 0, .null) := by decide +kernel
theorem gX9_shift_13 {L : List (Option Value)} {u : Int32} {H : HP} {Q : Option Value → HP → Prop} : Go 136 13 L [.int u] H Q ↔ Q (some (.int u)) H := G_iret fX9_shift_13 (by decide +kernel)
theorem fX9_shift_14 : ft 136 14 = some (.aload_n 0, 0, 0, 0, .null) := by decide +kernel
theorem gX9_shift_14 {l1 l2 l3 l4 : Option Value} {u : Nat} {st : List Value} {H : HP} {Q : Option Value → HP → Prop} : Go 136 14 [some (.ref u), l1, l2, l3, l4] st H Q ↔ Go 136 15 [some (.ref u), l1, l2, l3, l4] (.ref u :: st) H Q := G_aload_n fX9_shift_14 rfl
theorem fX9_shift_15 : ft 136 15 = some (.getfield 9, 9, 1, 755, .null) := by decide +kernel
theorem gX9_shift_15 {L : List (Option Value)} {p : Nat} {st : List Value} {H : HP} {Q : Option Value → HP → Prop} : Go 136 15 L (.ref p :: st) H Q ↔ Rd (gF' 9 1 (hget H p)) 136 18 L st H Q := G_getf fX9_shift_15 ⟨rfl, rfl⟩
theorem fX9_shift_18 : ft 136 18 = some (.iload_n 1, 0, 0, 0, .null) := by decide +kernel
theorem gX9_shift_18 {l0 l2 l3 l4 : Option Value} {u : Int32} {st : List Value} {H : HP} {Q : Option Value → HP → Prop} : Go 136 18 [l0, some (.int u), l2, l3, l4] st H Q ↔ Go 136 19 [l0, some (.int u), l2, l3, l4] (.int u :: st) H Q := G_iload_n fX9_shift_18 rfl
theorem fX9_shift_19 : ft 136 19 = some (.iaload, 0, 0, 0, .null) := by decide +kernel
theorem gX9_shift_19 {L : List (Option Value)} {p : Nat} {a : Int} {st : List Value} {H : HP} {Q : Option Value → HP → Prop} : Go 136 19 L (vi a :: .ref p :: st) H Q ↔ Rd (aJ' (hget H p) a) 136 20 L st H Q := G_iald fX9_shift_19
theorem fX9_shift_20 : ft 136 20 = some (.bipush (-9), 0, 0, 0, .null) := by decide +kernel
theorem gX9_shift_20 {L : List (Option Value)} {st : List Value} {H : HP} {Q : Option Value → HP → Prop} : Go 136 20 L st H Q ↔ Go 136 22 L (vi (-9) :: st) H Q := G_bipush fX9_shift_20 (by decide)
theorem fX9_shift_22 : ft 136 22 = some (.if_icmp .ne 9, 0, 0, 0, .null) := by decide +kernel
theorem gX9_shift_22T {L : List (Option Value)} {a b : Int} (c : (-2147483648 ≤ a ∧ a ≤ 2147483647 ∧ -2147483648 ≤ b ∧ b ≤ 2147483647) ∧ ¬ a = b) {st : List Value} {H : HP} {Q : Option Value → HP → Prop} : Go 136 22 L (vi b :: vi a :: st) H Q ↔ Go 136 31 L st H Q := G_icT fX9_shift_22 (by decide) c
theorem gX9_shift_22F {L : List (Option Value)} {a b : Int} (c : (-2147483648 ≤ a ∧ a ≤ 2147483647 ∧ -2147483648 ≤ b ∧ b ≤ 2147483647) ∧ ¬ (¬ a = b)) {st : List Value} {H : HP} {Q : Option Value → HP → Prop} : Go 136 22 L (vi b :: vi a :: st) H Q ↔ Go 136 25 L st H Q := G_icF (tg := 31) fX9_shift_22 (by decide) c
theorem fX9_shift_25 : ft 136 25 = some (.aload_n 0, 0, 0, 0, .null) := by decide +kernel
theorem gX9_shift_25 {l1 l2 l3 l4 : Option Value} {u : Nat} {st : List Value} {H : HP} {Q : Option Value → HP → Prop} : Go 136 25 [some (.ref u), l1, l2, l3, l4] st H Q ↔ Go 136 26 [some (.ref u), l1, l2, l3, l4] (.ref u :: st) H Q := G_aload_n fX9_shift_25 rfl
theorem fX9_shift_26 : ft 136 26 = some (.iconst 1, 0, 0, 0, .null) := by decide +kernel
theorem gX9_shift_26 {L : List (Option Value)} {st : List Value} {H : HP} {Q : Option Value → HP → Prop} : Go 136 26 L st H Q ↔ Go 136 27 L (vi 1 :: st) H Q := G_iconst fX9_shift_26
theorem fX9_shift_27 : ft 136 27 = some (.invokevirtual 89, 117, 0, 847, .null) := by decide +kernel
theorem gX9_shift_27 {L : List (Option Value)} {p : Nat} {a0 : Int32}  {H : HP} {Q : Option Value → HP → Prop} : Go 136 27 L (.int a0 :: .ref p :: []) H Q ↔ (iso 9 (hget H p) = true ∧ Go 117 0 [some (.ref p), some (.int a0)] [] H (Cont 136 30 L [] Q)) := G_cV (n := 1) (N := 2) (as := [.int a0]) (st := []) fX9_shift_27 (by decide +kernel) rfl (Nat.le_of_ble_eq_true rfl) (Nat.le_of_ble_eq_true rfl) rfl
theorem fX9_shift_30 : ft 136 30 = some (.ireturn, 0, 0, 0, .null) := by decide +kernel
theorem gX9_shift_30 {L : List (Option Value)} {u : Int32} {H : HP} {Q : Option Value → HP → Prop} : Go 136 30 L [.int u] H Q ↔ Q (some (.int u)) H := G_iret fX9_shift_30 (by decide +kernel)
theorem fX9_shift_31 : ft 136 31 = some (.aload_n 0, 0, 0, 0, .null) := by decide +kernel
theorem gX9_shift_31 {l1 l2 l3 l4 : Option Value} {u : Nat} {st : List Value} {H : HP} {Q : Option Value → HP → Prop} : Go 136 31 [some (.ref u), l1, l2, l3, l4] st H Q ↔ Go 136 32 [some (.ref u), l1, l2, l3, l4] (.ref u :: st) H Q := G_aload_n fX9_shift_31 rfl
theorem fX9_shift_32 : ft 136 32 = some (.iload_n 1, 0, 0, 0, .null) := by decide +kernel
theorem gX9_shift_32 {l0 l2 l3 l4 : Option Value} {u : Int32} {st : List Value} {H : HP} {Q : Option Value → HP → Prop} : Go 136 32 [l0, some (.int u), l2, l3, l4] st H Q ↔ Go 136 33 [l0, some (.int u), l2, l3, l4] (.int u :: st) H Q := G_iload_n fX9_shift_32 rfl
theorem fX9_shift_33 : ft 136 33 = some (.invokevirtual 121, 134, 0, 900, .null) := by decide +kernel
theorem gX9_shift_33 {L : List (Option Value)} {p : Nat} {a0 : Int32}  {H : HP} {Q : Option Value → HP → Prop} : Go 136 33 L (.int a0 :: .ref p :: []) H Q ↔ (iso 9 (hget H p) = true ∧ Go 134 0 [some (.ref p), some (.int a0), none] [] H (Cont 136 36 L [] Q)) := G_cV (n := 1) (N := 3) (as := [.int a0]) (st := []) fX9_shift_33 (by decide +kernel) rfl (Nat.le_of_ble_eq_true rfl) (Nat.le_of_ble_eq_true rfl) rfl
theorem fX9_shift_36 : ft 136 36 = some (.iload_n 2, 0, 0, 0, .null) := by decide +kernel
theorem gX9_shift_36 {l0 l1 l3 l4 : Option Value} {u : Int32} {st : List Value} {H : HP} {Q : Option Value → HP → Prop} : Go 136 36 [l0, l1, some (.int u), l3, l4] st H Q ↔ Go 136 37 [l0, l1, some (.int u), l3, l4] (.int u :: st) H Q := G_iload_n fX9_shift_36 rfl
theorem fX9_shift_37 : ft 136 37 = some (.aload_n 0, 0, 0, 0, .null) := by decide +kernel
theorem gX9_shift_37 {l1 l2 l3 l4 : Option Value} {u : Nat} {st : List Value} {H : HP} {Q : Option Value → HP → Prop} : Go 136 37 [some (.ref u), l1, l2, l3, l4] st H Q ↔ Go 136 38 [some (.ref u), l1, l2, l3, l4] (.ref u :: st) H Q := G_aload_n fX9_shift_37 rfl
theorem fX9_shift_38 : ft 136 38 = some (.iload_n 1, 0, 0, 0, .null) := by decide +kernel
theorem gX9_shift_38 {l0 l2 l3 l4 : Option Value} {u : Int32} {st : List Value} {H : HP} {Q : Option Value → HP → Prop} : Go 136 38 [l0, some (.int u), l2, l3, l4] st H Q ↔ Go 136 39 [l0, some (.int u), l2, l3, l4] (.int u :: st) H Q := G_iload_n fX9_shift_38 rfl
theorem fX9_shift_39 : ft 136 39 = some (.invokevirtual 100, 124, 0, 867, .null) := by decide +kernel
theorem gX9_shift_39 {L : List (Option Value)} {p : Nat} {a0 : Int32} {r0 : Int32} {H : HP} {Q : Option Value → HP → Prop} : Go 136 39 L (.int a0 :: .ref p :: [.int r0]) H Q ↔ (iso 9 (hget H p) = true ∧ Go 124 0 [some (.ref p), some (.int a0)] [] H (Cont 136 42 L [.int r0] Q)) := G_cV (n := 1) (N := 2) (as := [.int a0]) (st := [.int r0]) fX9_shift_39 (by decide +kernel) rfl (Nat.le_of_ble_eq_true rfl) (Nat.le_of_ble_eq_true rfl) rfl
theorem fX9_shift_42 : ft 136 42 = some (.irem, 0, 0, 0, .null) := by decide +kernel
theorem gX9_shift_42 {L : List (Option Value)} {a b : Int} (c : -2147483648 ≤ a ∧ a ≤ 2147483647 ∧ -2147483648 ≤ b ∧ b ≤ 2147483647 ∧ ¬ b = 0) {st : List Value} {H : HP} {Q : Option Value → HP → Prop} : Go 136 42 L (vi b :: vi a :: st) H Q ↔ Go 136 43 L (vi (a.tmod b) :: st) H Q := G_irem fX9_shift_42 c
theorem fX9_shift_43 : ft 136 43 = some (.aload_n 0, 0, 0, 0, .null) := by decide +kernel
theorem gX9_shift_43 {l1 l2 l3 l4 : Option Value} {u : Nat} {st : List Value} {H : HP} {Q : Option Value → HP → Prop} : Go 136 43 [some (.ref u), l1, l2, l3, l4] st H Q ↔ Go 136 44 [some (.ref u), l1, l2, l3, l4] (.ref u :: st) H Q := G_aload_n fX9_shift_43 rfl
theorem fX9_shift_44 : ft 136 44 = some (.iload_n 1, 0, 0, 0, .null) := by decide +kernel
theorem gX9_shift_44 {l0 l2 l3 l4 : Option Value} {u : Int32} {st : List Value} {H : HP} {Q : Option Value → HP → Prop} : Go 136 44 [l0, some (.int u), l2, l3, l4] st H Q ↔ Go 136 45 [l0, some (.int u), l2, l3, l4] (.int u :: st) H Q := G_iload_n fX9_shift_44 rfl
theorem fX9_shift_45 : ft 136 45 = some (.invokevirtual 100, 124, 0, 867, .null) := by decide +kernel
theorem gX9_shift_45 {L : List (Option Value)} {p : Nat} {a0 : Int32} {r0 : Int32} {H : HP} {Q : Option Value → HP → Prop} : Go 136 45 L (.int a0 :: .ref p :: [.int r0]) H Q ↔ (iso 9 (hget H p) = true ∧ Go 124 0 [some (.ref p), some (.int a0)] [] H (Cont 136 48 L [.int r0] Q)) := G_cV (n := 1) (N := 2) (as := [.int a0]) (st := [.int r0]) fX9_shift_45 (by decide +kernel) rfl (Nat.le_of_ble_eq_true rfl) (Nat.le_of_ble_eq_true rfl) rfl
theorem fX9_shift_48 : ft 136 48 = some (.iadd, 0, 0, 0, .null) := by decide +kernel
theorem gX9_shift_48 {L : List (Option Value)} {a b : Int} {st : List Value} {H : HP} {Q : Option Value → HP → Prop} : Go 136 48 L (vi b :: vi a :: st) H Q ↔ Go 136 49 L (vi (a + b) :: st) H Q := G_iadd fX9_shift_48
theorem fX9_shift_49 : ft 136 49 = some (.aload_n 0, 0, 0, 0, .null) := by decide +kernel
theorem gX9_shift_49 {l1 l2 l3 l4 : Option Value} {u : Nat} {st : List Value} {H : HP} {Q : Option Value → HP → Prop} : Go 136 49 [some (.ref u), l1, l2, l3, l4] st H Q ↔ Go 136 50 [some (.ref u), l1, l2, l3, l4] (.ref u :: st) H Q := G_aload_n fX9_shift_49 rfl
theorem fX9_shift_50 : ft 136 50 = some (.iload_n 1, 0, 0, 0, .null) := by decide +kernel
theorem gX9_shift_50 {l0 l2 l3 l4 : Option Value} {u : Int32} {st : List Value} {H : HP} {Q : Option Value → HP → Prop} : Go 136 50 [l0, some (.int u), l2, l3, l4] st H Q ↔ Go 136 51 [l0, some (.int u), l2, l3, l4] (.int u :: st) H Q := G_iload_n fX9_shift_50 rfl
theorem fX9_shift_51 : ft 136 51 = some (.invokevirtual 100, 124, 0, 867, .null) := by decide +kernel
theorem gX9_shift_51 {L : List (Option Value)} {p : Nat} {a0 : Int32} {r0 : Int32} {H : HP} {Q : Option Value → HP → Prop} : Go 136 51 L (.int a0 :: .ref p :: [.int r0]) H Q ↔ (iso 9 (hget H p) = true ∧ Go 124 0 [some (.ref p), some (.int a0)] [] H (Cont 136 54 L [.int r0] Q)) := G_cV (n := 1) (N := 2) (as := [.int a0]) (st := [.int r0]) fX9_shift_51 (by decide +kernel) rfl (Nat.le_of_ble_eq_true rfl) (Nat.le_of_ble_eq_true rfl) rfl
theorem fX9_shift_54 : ft 136 54 = some (.irem, 0, 0, 0, .null) := by decide +kernel
theorem gX9_shift_54 {L : List (Option Value)} {a b : Int} (c : -2147483648 ≤ a ∧ a ≤ 2147483647 ∧ -2147483648 ≤ b ∧ b ≤ 2147483647 ∧ ¬ b = 0) {st : List Value} {H : HP} {Q : Option Value → HP → Prop} : Go 136 54 L (vi b :: vi a :: st) H Q ↔ Go 136 55 L (vi (a.tmod b) :: st) H Q := G_irem fX9_shift_54 c
theorem fX9_shift_55 : ft 136 55 = some (.istore_n 3, 0, 0, 0, .null) := by decide +kernel
theorem gX9_shift_55 {l0 l1 l2 l3 l4 : Option Value} {u : Int32} {st : List Value} {H : HP} {Q : Option Value → HP → Prop} : Go 136 55 [l0, l1, l2, l3, l4] (.int u :: st) H Q ↔ Go 136 56 [l0, l1, l2, some (.int u), l4] st H Q := G_istore_n fX9_shift_55 rfl
theorem fX9_shift_56 : ft 136 56 = some (.iconst 0, 0, 0, 0, .null) := by decide +kernel
theorem gX9_shift_56 {L : List (Option Value)} {st : List Value} {H : HP} {Q : Option Value → HP → Prop} : Go 136 56 L st H Q ↔ Go 136 57 L (vi 0 :: st) H Q := G_iconst fX9_shift_56
theorem fX9_shift_57 : ft 136 57 = some (.istore 4, 0, 0, 0, .null) := by decide +kernel
theorem gX9_shift_57 {l0 l1 l2 l3 l4 : Option Value} {u : Int32} {st : List Value} {H : HP} {Q : Option Value → HP → Prop} : Go 136 57 [l0, l1, l2, l3, l4] (.int u :: st) H Q ↔ Go 136 59 [l0, l1, l2, l3, some (.int u)] st H Q := G_istore fX9_shift_57 rfl
theorem fX9_shift_59 : ft 136 59 = some (.iload 4, 0, 0, 0, .null) := by decide +kernel
theorem gX9_shift_59 {l0 l1 l2 l3 : Option Value} {u : Int32} {st : List Value} {H : HP} {Q : Option Value → HP → Prop} : Go 136 59 [l0, l1, l2, l3, some (.int u)] st H Q ↔ Go 136 61 [l0, l1, l2, l3, some (.int u)] (.int u :: st) H Q := G_iload fX9_shift_59 rfl
theorem fX9_shift_61 : ft 136 61 = some (.aload_n 0, 0, 0, 0, .null) := by decide +kernel
theorem gX9_shift_61 {l1 l2 l3 l4 : Option Value} {u : Nat} {st : List Value} {H : HP} {Q : Option Value → HP → Prop} : Go 136 61 [some (.ref u), l1, l2, l3, l4] st H Q ↔ Go 136 62 [some (.ref u), l1, l2, l3, l4] (.ref u :: st) H Q := G_aload_n fX9_shift_61 rfl
theorem fX9_shift_62 : ft 136 62 = some (.iload_n 1, 0, 0, 0, .null) := by decide +kernel
theorem gX9_shift_62 {l0 l2 l3 l4 : Option Value} {u : Int32} {st : List Value} {H : HP} {Q : Option Value → HP → Prop} : Go 136 62 [l0, some (.int u), l2, l3, l4] st H Q ↔ Go 136 63 [l0, some (.int u), l2, l3, l4] (.int u :: st) H Q := G_iload_n fX9_shift_62 rfl
theorem fX9_shift_63 : ft 136 63 = some (.invokevirtual 100, 124, 0, 867, .null) := by decide +kernel
theorem gX9_shift_63 {L : List (Option Value)} {p : Nat} {a0 : Int32} {r0 : Int32} {H : HP} {Q : Option Value → HP → Prop} : Go 136 63 L (.int a0 :: .ref p :: [.int r0]) H Q ↔ (iso 9 (hget H p) = true ∧ Go 124 0 [some (.ref p), some (.int a0)] [] H (Cont 136 66 L [.int r0] Q)) := G_cV (n := 1) (N := 2) (as := [.int a0]) (st := [.int r0]) fX9_shift_63 (by decide +kernel) rfl (Nat.le_of_ble_eq_true rfl) (Nat.le_of_ble_eq_true rfl) rfl
theorem fX9_shift_66 : ft 136 66 = some (.if_icmp .ge 41, 0, 0, 0, .null) := by decide +kernel
theorem gX9_shift_66T {L : List (Option Value)} {a b : Int} (c : (-2147483648 ≤ a ∧ a ≤ 2147483647 ∧ -2147483648 ≤ b ∧ b ≤ 2147483647) ∧ b ≤ a) {st : List Value} {H : HP} {Q : Option Value → HP → Prop} : Go 136 66 L (vi b :: vi a :: st) H Q ↔ Go 136 107 L st H Q := G_icT fX9_shift_66 (by decide) c
theorem gX9_shift_66F {L : List (Option Value)} {a b : Int} (c : (-2147483648 ≤ a ∧ a ≤ 2147483647 ∧ -2147483648 ≤ b ∧ b ≤ 2147483647) ∧ ¬ (b ≤ a)) {st : List Value} {H : HP} {Q : Option Value → HP → Prop} : Go 136 66 L (vi b :: vi a :: st) H Q ↔ Go 136 69 L st H Q := G_icF (tg := 107) fX9_shift_66 (by decide) c
theorem fX9_shift_69 : ft 136 69 = some (.aload_n 0, 0, 0, 0, .null) := by decide +kernel
theorem gX9_shift_69 {l1 l2 l3 l4 : Option Value} {u : Nat} {st : List Value} {H : HP} {Q : Option Value → HP → Prop} : Go 136 69 [some (.ref u), l1, l2, l3, l4] st H Q ↔ Go 136 70 [some (.ref u), l1, l2, l3, l4] (.ref u :: st) H Q := G_aload_n fX9_shift_69 rfl
theorem fX9_shift_70 : ft 136 70 = some (.getfield 19, 9, 4, 758, .null) := by decide +kernel
theorem gX9_shift_70 {L : List (Option Value)} {p : Nat} {st : List Value} {H : HP} {Q : Option Value → HP → Prop} : Go 136 70 L (.ref p :: st) H Q ↔ Rd (gF' 9 4 (hget H p)) 136 73 L st H Q := G_getf fX9_shift_70 ⟨rfl, rfl⟩
theorem fX9_shift_73 : ft 136 73 = some (.bipush 64, 0, 0, 0, .null) := by decide +kernel
theorem gX9_shift_73 {L : List (Option Value)} {st : List Value} {H : HP} {Q : Option Value → HP → Prop} : Go 136 73 L st H Q ↔ Go 136 75 L (vi 64 :: st) H Q := G_bipush fX9_shift_73 (by decide)
theorem fX9_shift_75 : ft 136 75 = some (.aload_n 0, 0, 0, 0, .null) := by decide +kernel
theorem gX9_shift_75 {l1 l2 l3 l4 : Option Value} {u : Nat} {st : List Value} {H : HP} {Q : Option Value → HP → Prop} : Go 136 75 [some (.ref u), l1, l2, l3, l4] st H Q ↔ Go 136 76 [some (.ref u), l1, l2, l3, l4] (.ref u :: st) H Q := G_aload_n fX9_shift_75 rfl
theorem fX9_shift_76 : ft 136 76 = some (.getfield 9, 9, 1, 755, .null) := by decide +kernel
theorem gX9_shift_76 {L : List (Option Value)} {p : Nat} {st : List Value} {H : HP} {Q : Option Value → HP → Prop} : Go 136 76 L (.ref p :: st) H Q ↔ Rd (gF' 9 1 (hget H p)) 136 79 L st H Q := G_getf fX9_shift_76 ⟨rfl, rfl⟩
theorem fX9_shift_79 : ft 136 79 = some (.iload_n 1, 0, 0, 0, .null) := by decide +kernel
theorem gX9_shift_79 {l0 l2 l3 l4 : Option Value} {u : Int32} {st : List Value} {H : HP} {Q : Option Value → HP → Prop} : Go 136 79 [l0, some (.int u), l2, l3, l4] st H Q ↔ Go 136 80 [l0, some (.int u), l2, l3, l4] (.int u :: st) H Q := G_iload_n fX9_shift_79 rfl
theorem fX9_shift_80 : ft 136 80 = some (.iaload, 0, 0, 0, .null) := by decide +kernel
theorem gX9_shift_80 {L : List (Option Value)} {p : Nat} {a : Int} {st : List Value} {H : HP} {Q : Option Value → HP → Prop} : Go 136 80 L (vi a :: .ref p :: st) H Q ↔ Rd (aJ' (hget H p) a) 136 81 L st H Q := G_iald fX9_shift_80
theorem fX9_shift_81 : ft 136 81 = some (.imul, 0, 0, 0, .null) := by decide +kernel
theorem gX9_shift_81 {L : List (Option Value)} {a b : Int} {st : List Value} {H : HP} {Q : Option Value → HP → Prop} : Go 136 81 L (vi b :: vi a :: st) H Q ↔ Go 136 82 L (vi (a * b) :: st) H Q := G_imul fX9_shift_81
theorem fX9_shift_82 : ft 136 82 = some (.iload 4, 0, 0, 0, .null) := by decide +kernel
theorem gX9_shift_82 {l0 l1 l2 l3 : Option Value} {u : Int32} {st : List Value} {H : HP} {Q : Option Value → HP → Prop} : Go 136 82 [l0, l1, l2, l3, some (.int u)] st H Q ↔ Go 136 84 [l0, l1, l2, l3, some (.int u)] (.int u :: st) H Q := G_iload fX9_shift_82 rfl
theorem fX9_shift_84 : ft 136 84 = some (.iload_n 3, 0, 0, 0, .null) := by decide +kernel
theorem gX9_shift_84 {l0 l1 l2 l4 : Option Value} {u : Int32} {st : List Value} {H : HP} {Q : Option Value → HP → Prop} : Go 136 84 [l0, l1, l2, some (.int u), l4] st H Q ↔ Go 136 85 [l0, l1, l2, some (.int u), l4] (.int u :: st) H Q := G_iload_n fX9_shift_84 rfl
theorem fX9_shift_85 : ft 136 85 = some (.iadd, 0, 0, 0, .null) := by decide +kernel
theorem gX9_shift_85 {L : List (Option Value)} {a b : Int} {st : List Value} {H : HP} {Q : Option Value → HP → Prop} : Go 136 85 L (vi b :: vi a :: st) H Q ↔ Go 136 86 L (vi (a + b) :: st) H Q := G_iadd fX9_shift_85
theorem fX9_shift_86 : ft 136 86 = some (.aload_n 0, 0, 0, 0, .null) := by decide +kernel
theorem gX9_shift_86 {l1 l2 l3 l4 : Option Value} {u : Nat} {st : List Value} {H : HP} {Q : Option Value → HP → Prop} : Go 136 86 [some (.ref u), l1, l2, l3, l4] st H Q ↔ Go 136 87 [some (.ref u), l1, l2, l3, l4] (.ref u :: st) H Q := G_aload_n fX9_shift_86 rfl
theorem fX9_shift_87 : ft 136 87 = some (.iload_n 1, 0, 0, 0, .null) := by decide +kernel
theorem gX9_shift_87 {l0 l2 l3 l4 : Option Value} {u : Int32} {st : List Value} {H : HP} {Q : Option Value → HP → Prop} : Go 136 87 [l0, some (.int u), l2, l3, l4] st H Q ↔ Go 136 88 [l0, some (.int u), l2, l3, l4] (.int u :: st) H Q := G_iload_n fX9_shift_87 rfl
theorem fX9_shift_88 : ft 136 88 = some (.invokevirtual 100, 124, 0, 867, .null) := by decide +kernel
theorem gX9_shift_88 {L : List (Option Value)} {p : Nat} {a0 : Int32} {r0 : Int32} {r1 : Int32} {r2 : Nat} {H : HP} {Q : Option Value → HP → Prop} : Go 136 88 L (.int a0 :: .ref p :: [.int r0, .int r1, .ref r2]) H Q ↔ (iso 9 (hget H p) = true ∧ Go 124 0 [some (.ref p), some (.int a0)] [] H (Cont 136 91 L [.int r0, .int r1, .ref r2] Q)) := G_cV (n := 1) (N := 2) (as := [.int a0]) (st := [.int r0, .int r1, .ref r2]) fX9_shift_88 (by decide +kernel) rfl (Nat.le_of_ble_eq_true rfl) (Nat.le_of_ble_eq_true rfl) rfl
theorem fX9_shift_91 : ft 136 91 = some (.irem, 0, 0, 0, .null) := by decide +kernel
theorem gX9_shift_91 {L : List (Option Value)} {a b : Int} (c : -2147483648 ≤ a ∧ a ≤ 2147483647 ∧ -2147483648 ≤ b ∧ b ≤ 2147483647 ∧ ¬ b = 0) {st : List Value} {H : HP} {Q : Option Value → HP → Prop} : Go 136 91 L (vi b :: vi a :: st) H Q ↔ Go 136 92 L (vi (a.tmod b) :: st) H Q := G_irem fX9_shift_91 c
theorem fX9_shift_92 : ft 136 92 = some (.iadd, 0, 0, 0, .null) := by decide +kernel
theorem gX9_shift_92 {L : List (Option Value)} {a b : Int} {st : List Value} {H : HP} {Q : Option Value → HP → Prop} : Go 136 92 L (vi b :: vi a :: st) H Q ↔ Go 136 93 L (vi (a + b) :: st) H Q := G_iadd fX9_shift_92
theorem fX9_shift_93 : ft 136 93 = some (.aload_n 0, 0, 0, 0, .null) := by decide +kernel
theorem gX9_shift_93 {l1 l2 l3 l4 : Option Value} {u : Nat} {st : List Value} {H : HP} {Q : Option Value → HP → Prop} : Go 136 93 [some (.ref u), l1, l2, l3, l4] st H Q ↔ Go 136 94 [some (.ref u), l1, l2, l3, l4] (.ref u :: st) H Q := G_aload_n fX9_shift_93 rfl
theorem fX9_shift_94 : ft 136 94 = some (.getfield 48, 9, 19, 773, .null) := by decide +kernel
theorem gX9_shift_94 {L : List (Option Value)} {p : Nat} {st : List Value} {H : HP} {Q : Option Value → HP → Prop} : Go 136 94 L (.ref p :: st) H Q ↔ Rd (gF' 9 19 (hget H p)) 136 97 L st H Q := G_getf fX9_shift_94 ⟨rfl, rfl⟩
theorem fX9_shift_97 : ft 136 97 = some (.iload 4, 0, 0, 0, .null) := by decide +kernel
theorem gX9_shift_97 {l0 l1 l2 l3 : Option Value} {u : Int32} {st : List Value} {H : HP} {Q : Option Value → HP → Prop} : Go 136 97 [l0, l1, l2, l3, some (.int u)] st H Q ↔ Go 136 99 [l0, l1, l2, l3, some (.int u)] (.int u :: st) H Q := G_iload fX9_shift_97 rfl
theorem fX9_shift_99 : ft 136 99 = some (.laload, 0, 0, 0, .null) := by decide +kernel
theorem gX9_shift_99 {L : List (Option Value)} {p : Nat} {a : Int} {st : List Value} {H : HP} {Q : Option Value → HP → Prop} : Go 136 99 L (vi a :: .ref p :: st) H Q ↔ Rd (aL' (hget H p) a) 136 100 L st H Q := G_lald fX9_shift_99
theorem fX9_shift_100 : ft 136 100 = some (.lastore, 0, 0, 0, .null) := by decide +kernel
theorem gX9_shift_100 {L : List (Option Value)} {p : Nat} {a : Int} {b : Int} (hp : p ≠ 0) {st : List Value} {H : HP} {Q : Option Value → HP → Prop} : Go 136 100 L (vl b :: vi a :: .ref p :: st) H Q ↔ Wr (sL' (hget H p) a b) p 136 101 L st H Q := G_last fX9_shift_100 hp
theorem fX9_shift_101 : ft 136 101 = some (.iinc 4 1, 0, 0, 0, .null) := by decide +kernel
theorem gX9_shift_101 {l0 l1 l2 l3 : Option Value} {a : Int} {st : List Value} {H : HP} {Q : Option Value → HP → Prop} : Go 136 101 [l0, l1, l2, l3, some (vi a)] st H Q ↔ Go 136 104 [l0, l1, l2, l3, some (vi (a + 1))] st H Q := G_iinc fX9_shift_101 rfl rfl
theorem fX9_shift_104 : ft 136 104 = some (.goto (-45), 0, 0, 0, .null) := by decide +kernel
theorem gX9_shift_104 {L : List (Option Value)} {st : List Value} {H : HP} {Q : Option Value → HP → Prop} : Go 136 104 L st H Q ↔ Go 136 59 L st H Q := G_goto fX9_shift_104 (by decide)
theorem fX9_shift_107 : ft 136 107 = some (.iconst 1, 0, 0, 0, .null) := by decide +kernel
theorem gX9_shift_107 {L : List (Option Value)} {st : List Value} {H : HP} {Q : Option Value → HP → Prop} : Go 136 107 L st H Q ↔ Go 136 108 L (vi 1 :: st) H Q := G_iconst fX9_shift_107
theorem fX9_shift_108 : ft 136 108 = some (.ireturn, 0, 0, 0, .null) := by decide +kernel
theorem gX9_shift_108 {L : List (Option Value)} {u : Int32} {H : HP} {Q : Option Value → HP → Prop} : Go 136 108 L [.int u] H Q ↔ Q (some (.int u)) H := G_iret fX9_shift_108 (by decide +kernel)
theorem fX9_residueOf_0 : ft 137 0 = some (.lload_n 0, 0, 0, 0, .null) := by decide +kernel
theorem gX9_residueOf_0 {l2 l3 l4 l5 : Option Value} {u : Int64} {st : List Value} {H : HP} {Q : Option Value → HP → Prop} : Go 137 0 [some (.long u), none, l2, l3, l4, l5] st H Q ↔ Go 137 1 [some (.long u), none, l2, l3, l4, l5] (.long u :: st) H Q := G_lload_n fX9_residueOf_0 rfl
theorem fX9_residueOf_1 : ft 137 1 = some (.lload_n 2, 0, 0, 0, .null) := by decide +kernel
theorem gX9_residueOf_1 {l0 l1 l4 l5 : Option Value} {u : Int64} {st : List Value} {H : HP} {Q : Option Value → HP → Prop} : Go 137 1 [l0, l1, some (.long u), none, l4, l5] st H Q ↔ Go 137 2 [l0, l1, some (.long u), none, l4, l5] (.long u :: st) H Q := G_lload_n fX9_residueOf_1 rfl
theorem fX9_residueOf_2 : ft 137 2 = some (.lrem, 0, 0, 0, .null) := by decide +kernel
theorem gX9_residueOf_2 {L : List (Option Value)} {a b : Int} (c : -9223372036854775808 ≤ a ∧ a ≤ 9223372036854775807 ∧ -9223372036854775808 ≤ b ∧ b ≤ 9223372036854775807 ∧ ¬ b = 0) {st : List Value} {H : HP} {Q : Option Value → HP → Prop} : Go 137 2 L (vl b :: vl a :: st) H Q ↔ Go 137 3 L (vl (a.tmod b) :: st) H Q := G_lrem fX9_residueOf_2 c
theorem fX9_residueOf_3 : ft 137 3 = some (.lstore 4, 0, 0, 0, .null) := by decide +kernel
theorem gX9_residueOf_3 {l0 l1 l2 l3 l4 l5 : Option Value} {u : Int64} {st : List Value} {H : HP} {Q : Option Value → HP → Prop} : Go 137 3 [l0, l1, l2, l3, l4, l5] (.long u :: st) H Q ↔ Go 137 5 [l0, l1, l2, l3, some (.long u), none] st H Q := G_lstore fX9_residueOf_3 rfl
theorem fX9_residueOf_5 : ft 137 5 = some (.lload 4, 0, 0, 0, .null) := by decide +kernel
theorem gX9_residueOf_5 {l0 l1 l2 l3 : Option Value} {u : Int64} {st : List Value} {H : HP} {Q : Option Value → HP → Prop} : Go 137 5 [l0, l1, l2, l3, some (.long u), none] st H Q ↔ Go 137 7 [l0, l1, l2, l3, some (.long u), none] (.long u :: st) H Q := G_lload fX9_residueOf_5 rfl
theorem fX9_residueOf_7 : ft 137 7 = some (.lconst 0, 0, 0, 0, .null) := by decide +kernel
theorem gX9_residueOf_7 {L : List (Option Value)} {st : List Value} {H : HP} {Q : Option Value → HP → Prop} : Go 137 7 L st H Q ↔ Go 137 8 L (vl 0 :: st) H Q := G_lconst fX9_residueOf_7 (by decide)
theorem fX9_residueOf_8 : ft 137 8 = some (.lcmp, 0, 0, 0, .null) := by decide +kernel
theorem fX9_residueOf_8' : ft 137 9 = some (.ifCond .ge 10, 0, 0, 0, .null) := by decide +kernel
theorem gX9_residueOf_8T {L : List (Option Value)} {a b : Int} (c : (-9223372036854775808 ≤ a ∧ a ≤ 9223372036854775807 ∧ -9223372036854775808 ≤ b ∧ b ≤ 9223372036854775807) ∧ b ≤ a) {st : List Value} {H : HP} {Q : Option Value → HP → Prop} : Go 137 8 L (vl b :: vl a :: st) H Q ↔ Go 137 19 L st H Q := G_lcT fX9_residueOf_8 fX9_residueOf_8' (by decide) c
theorem gX9_residueOf_8F {L : List (Option Value)} {a b : Int} (c : (-9223372036854775808 ≤ a ∧ a ≤ 9223372036854775807 ∧ -9223372036854775808 ≤ b ∧ b ≤ 9223372036854775807) ∧ ¬ (b ≤ a)) {st : List Value} {H : HP} {Q : Option Value → HP → Prop} : Go 137 8 L (vl b :: vl a :: st) H Q ↔ Go 137 12 L st H Q := G_lcF (tg := 19) fX9_residueOf_8 fX9_residueOf_8' (by decide) c
theorem fX9_residueOf_9 : ft 137 9 = some (.ifCond .ge 10, 0, 0, 0, .null) := by decide +kernel
theorem gX9_residueOf_9T {L : List (Option Value)} {a : Int} (c : (-2147483648 ≤ a ∧ a ≤ 2147483647) ∧ 0 ≤ a) {st : List Value} {H : HP} {Q : Option Value → HP → Prop} : Go 137 9 L (vi a :: st) H Q ↔ Go 137 19 L st H Q := G_ifT fX9_residueOf_9 (by decide) c
theorem gX9_residueOf_9F {L : List (Option Value)} {a : Int} (c : (-2147483648 ≤ a ∧ a ≤ 2147483647) ∧ ¬ (0 ≤ a)) {st : List Value} {H : HP} {Q : Option Value → HP → Prop} : Go 137 9 L (vi a :: st) H Q ↔ Go 137 12 L st H Q := G_ifF (tg := 19) fX9_residueOf_9 (by decide) c
theorem fX9_residueOf_12 : ft 137 12 = some (.lload 4, 0, 0, 0, .null) := by decide +kernel
theorem gX9_residueOf_12 {l0 l1 l2 l3 : Option Value} {u : Int64} {st : List Value} {H : HP} {Q : Option Value → HP → Prop} : Go 137 12 [l0, l1, l2, l3, some (.long u), none] st H Q ↔ Go 137 14 [l0, l1, l2, l3, some (.long u), none] (.long u :: st) H Q := G_lload fX9_residueOf_12 rfl
theorem fX9_residueOf_14 : ft 137 14 = some (.lload_n 2, 0, 0, 0, .null) := by decide +kernel
theorem gX9_residueOf_14 {l0 l1 l4 l5 : Option Value} {u : Int64} {st : List Value} {H : HP} {Q : Option Value → HP → Prop} : Go 137 14 [l0, l1, some (.long u), none, l4, l5] st H Q ↔ Go 137 15 [l0, l1, some (.long u), none, l4, l5] (.long u :: st) H Q := G_lload_n fX9_residueOf_14 rfl
theorem fX9_residueOf_15 : ft 137 15 = some (.ladd, 0, 0, 0, .null) := by decide +kernel
theorem gX9_residueOf_15 {L : List (Option Value)} {a b : Int} {st : List Value} {H : HP} {Q : Option Value → HP → Prop} : Go 137 15 L (vl b :: vl a :: st) H Q ↔ Go 137 16 L (vl (a + b) :: st) H Q := G_ladd fX9_residueOf_15
theorem fX9_residueOf_16 : ft 137 16 = some (.goto 5, 0, 0, 0, .null) := by decide +kernel
theorem gX9_residueOf_16 {L : List (Option Value)} {st : List Value} {H : HP} {Q : Option Value → HP → Prop} : Go 137 16 L st H Q ↔ Go 137 21 L st H Q := G_goto fX9_residueOf_16 (by decide)
theorem fX9_residueOf_19 : ft 137 19 = some (.lload 4, 0, 0, 0, .null) := by decide +kernel
theorem gX9_residueOf_19 {l0 l1 l2 l3 : Option Value} {u : Int64} {st : List Value} {H : HP} {Q : Option Value → HP → Prop} : Go 137 19 [l0, l1, l2, l3, some (.long u), none] st H Q ↔ Go 137 21 [l0, l1, l2, l3, some (.long u), none] (.long u :: st) H Q := G_lload fX9_residueOf_19 rfl
theorem fX9_residueOf_21 : ft 137 21 = some (.lreturn, 0, 0, 0, .null) := by decide +kernel
theorem gX9_residueOf_21 {L : List (Option Value)} {u : Int64} {H : HP} {Q : Option Value → HP → Prop} : Go 137 21 L [.long u] H Q ↔ Q (some (.long u)) H := G_lret fX9_residueOf_21 (by decide +kernel)
theorem fX9_powerOf_0 : ft 138 0 = some (.lconst 1, 0, 0, 0, .null) := by decide +kernel
theorem gX9_powerOf_0 {L : List (Option Value)} {st : List Value} {H : HP} {Q : Option Value → HP → Prop} : Go 138 0 L st H Q ↔ Go 138 1 L (vl 1 :: st) H Q := G_lconst fX9_powerOf_0 (by decide)
theorem fX9_powerOf_1 : ft 138 1 = some (.lstore 6, 0, 0, 0, .null) := by decide +kernel
theorem gX9_powerOf_1 {l0 l1 l2 l3 l4 l5 l6 l7 l8 l9 l10 l11 : Option Value} {u : Int64} {st : List Value} {H : HP} {Q : Option Value → HP → Prop} : Go 138 1 [l0, l1, l2, l3, l4, l5, l6, l7, l8, l9, l10, l11] (.long u :: st) H Q ↔ Go 138 3 [l0, l1, l2, l3, l4, l5, some (.long u), none, l8, l9, l10, l11] st H Q := G_lstore fX9_powerOf_1 rfl
theorem fX9_powerOf_3 : ft 138 3 = some (.lload_n 0, 0, 0, 0, .null) := by decide +kernel
theorem gX9_powerOf_3 {l2 l3 l4 l5 l6 l7 l8 l9 l10 l11 : Option Value} {u : Int64} {st : List Value} {H : HP} {Q : Option Value → HP → Prop} : Go 138 3 [some (.long u), none, l2, l3, l4, l5, l6, l7, l8, l9, l10, l11] st H Q ↔ Go 138 4 [some (.long u), none, l2, l3, l4, l5, l6, l7, l8, l9, l10, l11] (.long u :: st) H Q := G_lload_n fX9_powerOf_3 rfl
theorem fX9_powerOf_4 : ft 138 4 = some (.lload 4, 0, 0, 0, .null) := by decide +kernel
theorem gX9_powerOf_4 {l0 l1 l2 l3 l6 l7 l8 l9 l10 l11 : Option Value} {u : Int64} {st : List Value} {H : HP} {Q : Option Value → HP → Prop} : Go 138 4 [l0, l1, l2, l3, some (.long u), none, l6, l7, l8, l9, l10, l11] st H Q ↔ Go 138 6 [l0, l1, l2, l3, some (.long u), none, l6, l7, l8, l9, l10, l11] (.long u :: st) H Q := G_lload fX9_powerOf_4 rfl
theorem fX9_powerOf_6 : ft 138 6 = some (.lrem, 0, 0, 0, .null) := by decide +kernel
theorem gX9_powerOf_6 {L : List (Option Value)} {a b : Int} (c : -9223372036854775808 ≤ a ∧ a ≤ 9223372036854775807 ∧ -9223372036854775808 ≤ b ∧ b ≤ 9223372036854775807 ∧ ¬ b = 0) {st : List Value} {H : HP} {Q : Option Value → HP → Prop} : Go 138 6 L (vl b :: vl a :: st) H Q ↔ Go 138 7 L (vl (a.tmod b) :: st) H Q := G_lrem fX9_powerOf_6 c
theorem fX9_powerOf_7 : ft 138 7 = some (.lstore 8, 0, 0, 0, .null) := by decide +kernel
theorem gX9_powerOf_7 {l0 l1 l2 l3 l4 l5 l6 l7 l8 l9 l10 l11 : Option Value} {u : Int64} {st : List Value} {H : HP} {Q : Option Value → HP → Prop} : Go 138 7 [l0, l1, l2, l3, l4, l5, l6, l7, l8, l9, l10, l11] (.long u :: st) H Q ↔ Go 138 9 [l0, l1, l2, l3, l4, l5, l6, l7, some (.long u), none, l10, l11] st H Q := G_lstore fX9_powerOf_7 rfl
theorem fX9_powerOf_9 : ft 138 9 = some (.lload_n 2, 0, 0, 0, .null) := by decide +kernel
theorem gX9_powerOf_9 {l0 l1 l4 l5 l6 l7 l8 l9 l10 l11 : Option Value} {u : Int64} {st : List Value} {H : HP} {Q : Option Value → HP → Prop} : Go 138 9 [l0, l1, some (.long u), none, l4, l5, l6, l7, l8, l9, l10, l11] st H Q ↔ Go 138 10 [l0, l1, some (.long u), none, l4, l5, l6, l7, l8, l9, l10, l11] (.long u :: st) H Q := G_lload_n fX9_powerOf_9 rfl
theorem fX9_powerOf_10 : ft 138 10 = some (.lstore 10, 0, 0, 0, .null) := by decide +kernel
theorem gX9_powerOf_10 {l0 l1 l2 l3 l4 l5 l6 l7 l8 l9 l10 l11 : Option Value} {u : Int64} {st : List Value} {H : HP} {Q : Option Value → HP → Prop} : Go 138 10 [l0, l1, l2, l3, l4, l5, l6, l7, l8, l9, l10, l11] (.long u :: st) H Q ↔ Go 138 12 [l0, l1, l2, l3, l4, l5, l6, l7, l8, l9, some (.long u), none] st H Q := G_lstore fX9_powerOf_10 rfl
theorem fX9_powerOf_12 : ft 138 12 = some (.lload 10, 0, 0, 0, .null) := by decide +kernel
theorem gX9_powerOf_12 {l0 l1 l2 l3 l4 l5 l6 l7 l8 l9 : Option Value} {u : Int64} {st : List Value} {H : HP} {Q : Option Value → HP → Prop} : Go 138 12 [l0, l1, l2, l3, l4, l5, l6, l7, l8, l9, some (.long u), none] st H Q ↔ Go 138 14 [l0, l1, l2, l3, l4, l5, l6, l7, l8, l9, some (.long u), none] (.long u :: st) H Q := G_lload fX9_powerOf_12 rfl
theorem fX9_powerOf_14 : ft 138 14 = some (.lconst 0, 0, 0, 0, .null) := by decide +kernel
theorem gX9_powerOf_14 {L : List (Option Value)} {st : List Value} {H : HP} {Q : Option Value → HP → Prop} : Go 138 14 L st H Q ↔ Go 138 15 L (vl 0 :: st) H Q := G_lconst fX9_powerOf_14 (by decide)
theorem fX9_powerOf_15 : ft 138 15 = some (.lcmp, 0, 0, 0, .null) := by decide +kernel
theorem fX9_powerOf_15' : ft 138 16 = some (.ifCond .le 45, 0, 0, 0, .null) := by decide +kernel
theorem gX9_powerOf_15T {L : List (Option Value)} {a b : Int} (c : (-9223372036854775808 ≤ a ∧ a ≤ 9223372036854775807 ∧ -9223372036854775808 ≤ b ∧ b ≤ 9223372036854775807) ∧ a ≤ b) {st : List Value} {H : HP} {Q : Option Value → HP → Prop} : Go 138 15 L (vl b :: vl a :: st) H Q ↔ Go 138 61 L st H Q := G_lcT fX9_powerOf_15 fX9_powerOf_15' (by decide) c
theorem gX9_powerOf_15F {L : List (Option Value)} {a b : Int} (c : (-9223372036854775808 ≤ a ∧ a ≤ 9223372036854775807 ∧ -9223372036854775808 ≤ b ∧ b ≤ 9223372036854775807) ∧ ¬ (a ≤ b)) {st : List Value} {H : HP} {Q : Option Value → HP → Prop} : Go 138 15 L (vl b :: vl a :: st) H Q ↔ Go 138 19 L st H Q := G_lcF (tg := 61) fX9_powerOf_15 fX9_powerOf_15' (by decide) c
theorem fX9_powerOf_16 : ft 138 16 = some (.ifCond .le 45, 0, 0, 0, .null) := by decide +kernel
theorem gX9_powerOf_16T {L : List (Option Value)} {a : Int} (c : (-2147483648 ≤ a ∧ a ≤ 2147483647) ∧ a ≤ 0) {st : List Value} {H : HP} {Q : Option Value → HP → Prop} : Go 138 16 L (vi a :: st) H Q ↔ Go 138 61 L st H Q := G_ifT fX9_powerOf_16 (by decide) c
theorem gX9_powerOf_16F {L : List (Option Value)} {a : Int} (c : (-2147483648 ≤ a ∧ a ≤ 2147483647) ∧ ¬ (a ≤ 0)) {st : List Value} {H : HP} {Q : Option Value → HP → Prop} : Go 138 16 L (vi a :: st) H Q ↔ Go 138 19 L st H Q := G_ifF (tg := 61) fX9_powerOf_16 (by decide) c
theorem fX9_powerOf_19 : ft 138 19 = some (.lload 10, 0, 0, 0, .null) := by decide +kernel
theorem gX9_powerOf_19 {l0 l1 l2 l3 l4 l5 l6 l7 l8 l9 : Option Value} {u : Int64} {st : List Value} {H : HP} {Q : Option Value → HP → Prop} : Go 138 19 [l0, l1, l2, l3, l4, l5, l6, l7, l8, l9, some (.long u), none] st H Q ↔ Go 138 21 [l0, l1, l2, l3, l4, l5, l6, l7, l8, l9, some (.long u), none] (.long u :: st) H Q := G_lload fX9_powerOf_19 rfl
theorem fX9_powerOf_21 : ft 138 21 = some (.ldc2_w 125, 0, 0, 931, .long (2)) := by decide +kernel
theorem gX9_powerOf_21 {L : List (Option Value)} {st : List Value} {H : HP} {Q : Option Value → HP → Prop} : Go 138 21 L st H Q ↔ Go 138 24 L (vl (2) :: st) H Q := G_ldcl fX9_powerOf_21 (by decide +kernel)
theorem fX9_powerOf_24 : ft 138 24 = some (.lrem, 0, 0, 0, .null) := by decide +kernel
theorem gX9_powerOf_24 {L : List (Option Value)} {a b : Int} (c : -9223372036854775808 ≤ a ∧ a ≤ 9223372036854775807 ∧ -9223372036854775808 ≤ b ∧ b ≤ 9223372036854775807 ∧ ¬ b = 0) {st : List Value} {H : HP} {Q : Option Value → HP → Prop} : Go 138 24 L (vl b :: vl a :: st) H Q ↔ Go 138 25 L (vl (a.tmod b) :: st) H Q := G_lrem fX9_powerOf_24 c
theorem fX9_powerOf_25 : ft 138 25 = some (.lconst 1, 0, 0, 0, .null) := by decide +kernel
theorem gX9_powerOf_25 {L : List (Option Value)} {st : List Value} {H : HP} {Q : Option Value → HP → Prop} : Go 138 25 L st H Q ↔ Go 138 26 L (vl 1 :: st) H Q := G_lconst fX9_powerOf_25 (by decide)
theorem fX9_powerOf_26 : ft 138 26 = some (.lcmp, 0, 0, 0, .null) := by decide +kernel
theorem fX9_powerOf_26' : ft 138 27 = some (.ifCond .ne 13, 0, 0, 0, .null) := by decide +kernel
theorem gX9_powerOf_26T {L : List (Option Value)} {a b : Int} (c : (-9223372036854775808 ≤ a ∧ a ≤ 9223372036854775807 ∧ -9223372036854775808 ≤ b ∧ b ≤ 9223372036854775807) ∧ ¬ a = b) {st : List Value} {H : HP} {Q : Option Value → HP → Prop} : Go 138 26 L (vl b :: vl a :: st) H Q ↔ Go 138 40 L st H Q := G_lcT fX9_powerOf_26 fX9_powerOf_26' (by decide) c
theorem gX9_powerOf_26F {L : List (Option Value)} {a b : Int} (c : (-9223372036854775808 ≤ a ∧ a ≤ 9223372036854775807 ∧ -9223372036854775808 ≤ b ∧ b ≤ 9223372036854775807) ∧ ¬ (¬ a = b)) {st : List Value} {H : HP} {Q : Option Value → HP → Prop} : Go 138 26 L (vl b :: vl a :: st) H Q ↔ Go 138 30 L st H Q := G_lcF (tg := 40) fX9_powerOf_26 fX9_powerOf_26' (by decide) c
theorem fX9_powerOf_27 : ft 138 27 = some (.ifCond .ne 13, 0, 0, 0, .null) := by decide +kernel
theorem gX9_powerOf_27T {L : List (Option Value)} {a : Int} (c : (-2147483648 ≤ a ∧ a ≤ 2147483647) ∧ ¬ a = 0) {st : List Value} {H : HP} {Q : Option Value → HP → Prop} : Go 138 27 L (vi a :: st) H Q ↔ Go 138 40 L st H Q := G_ifT fX9_powerOf_27 (by decide) c
theorem gX9_powerOf_27F {L : List (Option Value)} {a : Int} (c : (-2147483648 ≤ a ∧ a ≤ 2147483647) ∧ ¬ (¬ a = 0)) {st : List Value} {H : HP} {Q : Option Value → HP → Prop} : Go 138 27 L (vi a :: st) H Q ↔ Go 138 30 L st H Q := G_ifF (tg := 40) fX9_powerOf_27 (by decide) c
theorem fX9_powerOf_30 : ft 138 30 = some (.lload 6, 0, 0, 0, .null) := by decide +kernel
theorem gX9_powerOf_30 {l0 l1 l2 l3 l4 l5 l8 l9 l10 l11 : Option Value} {u : Int64} {st : List Value} {H : HP} {Q : Option Value → HP → Prop} : Go 138 30 [l0, l1, l2, l3, l4, l5, some (.long u), none, l8, l9, l10, l11] st H Q ↔ Go 138 32 [l0, l1, l2, l3, l4, l5, some (.long u), none, l8, l9, l10, l11] (.long u :: st) H Q := G_lload fX9_powerOf_30 rfl
theorem fX9_powerOf_32 : ft 138 32 = some (.lload 8, 0, 0, 0, .null) := by decide +kernel
theorem gX9_powerOf_32 {l0 l1 l2 l3 l4 l5 l6 l7 l10 l11 : Option Value} {u : Int64} {st : List Value} {H : HP} {Q : Option Value → HP → Prop} : Go 138 32 [l0, l1, l2, l3, l4, l5, l6, l7, some (.long u), none, l10, l11] st H Q ↔ Go 138 34 [l0, l1, l2, l3, l4, l5, l6, l7, some (.long u), none, l10, l11] (.long u :: st) H Q := G_lload fX9_powerOf_32 rfl
theorem fX9_powerOf_34 : ft 138 34 = some (.lmul, 0, 0, 0, .null) := by decide +kernel
theorem gX9_powerOf_34 {L : List (Option Value)} {a b : Int} {st : List Value} {H : HP} {Q : Option Value → HP → Prop} : Go 138 34 L (vl b :: vl a :: st) H Q ↔ Go 138 35 L (vl (a * b) :: st) H Q := G_lmul fX9_powerOf_34
theorem fX9_powerOf_35 : ft 138 35 = some (.lload 4, 0, 0, 0, .null) := by decide +kernel
theorem gX9_powerOf_35 {l0 l1 l2 l3 l6 l7 l8 l9 l10 l11 : Option Value} {u : Int64} {st : List Value} {H : HP} {Q : Option Value → HP → Prop} : Go 138 35 [l0, l1, l2, l3, some (.long u), none, l6, l7, l8, l9, l10, l11] st H Q ↔ Go 138 37 [l0, l1, l2, l3, some (.long u), none, l6, l7, l8, l9, l10, l11] (.long u :: st) H Q := G_lload fX9_powerOf_35 rfl
theorem fX9_powerOf_37 : ft 138 37 = some (.lrem, 0, 0, 0, .null) := by decide +kernel
theorem gX9_powerOf_37 {L : List (Option Value)} {a b : Int} (c : -9223372036854775808 ≤ a ∧ a ≤ 9223372036854775807 ∧ -9223372036854775808 ≤ b ∧ b ≤ 9223372036854775807 ∧ ¬ b = 0) {st : List Value} {H : HP} {Q : Option Value → HP → Prop} : Go 138 37 L (vl b :: vl a :: st) H Q ↔ Go 138 38 L (vl (a.tmod b) :: st) H Q := G_lrem fX9_powerOf_37 c
theorem fX9_powerOf_38 : ft 138 38 = some (.lstore 6, 0, 0, 0, .null) := by decide +kernel
theorem gX9_powerOf_38 {l0 l1 l2 l3 l4 l5 l6 l7 l8 l9 l10 l11 : Option Value} {u : Int64} {st : List Value} {H : HP} {Q : Option Value → HP → Prop} : Go 138 38 [l0, l1, l2, l3, l4, l5, l6, l7, l8, l9, l10, l11] (.long u :: st) H Q ↔ Go 138 40 [l0, l1, l2, l3, l4, l5, some (.long u), none, l8, l9, l10, l11] st H Q := G_lstore fX9_powerOf_38 rfl
theorem fX9_powerOf_40 : ft 138 40 = some (.lload 8, 0, 0, 0, .null) := by decide +kernel
theorem gX9_powerOf_40 {l0 l1 l2 l3 l4 l5 l6 l7 l10 l11 : Option Value} {u : Int64} {st : List Value} {H : HP} {Q : Option Value → HP → Prop} : Go 138 40 [l0, l1, l2, l3, l4, l5, l6, l7, some (.long u), none, l10, l11] st H Q ↔ Go 138 42 [l0, l1, l2, l3, l4, l5, l6, l7, some (.long u), none, l10, l11] (.long u :: st) H Q := G_lload fX9_powerOf_40 rfl
theorem fX9_powerOf_42 : ft 138 42 = some (.lload 8, 0, 0, 0, .null) := by decide +kernel
theorem gX9_powerOf_42 {l0 l1 l2 l3 l4 l5 l6 l7 l10 l11 : Option Value} {u : Int64} {st : List Value} {H : HP} {Q : Option Value → HP → Prop} : Go 138 42 [l0, l1, l2, l3, l4, l5, l6, l7, some (.long u), none, l10, l11] st H Q ↔ Go 138 44 [l0, l1, l2, l3, l4, l5, l6, l7, some (.long u), none, l10, l11] (.long u :: st) H Q := G_lload fX9_powerOf_42 rfl
theorem fX9_powerOf_44 : ft 138 44 = some (.lmul, 0, 0, 0, .null) := by decide +kernel
theorem gX9_powerOf_44 {L : List (Option Value)} {a b : Int} {st : List Value} {H : HP} {Q : Option Value → HP → Prop} : Go 138 44 L (vl b :: vl a :: st) H Q ↔ Go 138 45 L (vl (a * b) :: st) H Q := G_lmul fX9_powerOf_44
theorem fX9_powerOf_45 : ft 138 45 = some (.lload 4, 0, 0, 0, .null) := by decide +kernel
theorem gX9_powerOf_45 {l0 l1 l2 l3 l6 l7 l8 l9 l10 l11 : Option Value} {u : Int64} {st : List Value} {H : HP} {Q : Option Value → HP → Prop} : Go 138 45 [l0, l1, l2, l3, some (.long u), none, l6, l7, l8, l9, l10, l11] st H Q ↔ Go 138 47 [l0, l1, l2, l3, some (.long u), none, l6, l7, l8, l9, l10, l11] (.long u :: st) H Q := G_lload fX9_powerOf_45 rfl
theorem fX9_powerOf_47 : ft 138 47 = some (.lrem, 0, 0, 0, .null) := by decide +kernel
theorem gX9_powerOf_47 {L : List (Option Value)} {a b : Int} (c : -9223372036854775808 ≤ a ∧ a ≤ 9223372036854775807 ∧ -9223372036854775808 ≤ b ∧ b ≤ 9223372036854775807 ∧ ¬ b = 0) {st : List Value} {H : HP} {Q : Option Value → HP → Prop} : Go 138 47 L (vl b :: vl a :: st) H Q ↔ Go 138 48 L (vl (a.tmod b) :: st) H Q := G_lrem fX9_powerOf_47 c
theorem fX9_powerOf_48 : ft 138 48 = some (.lstore 8, 0, 0, 0, .null) := by decide +kernel
theorem gX9_powerOf_48 {l0 l1 l2 l3 l4 l5 l6 l7 l8 l9 l10 l11 : Option Value} {u : Int64} {st : List Value} {H : HP} {Q : Option Value → HP → Prop} : Go 138 48 [l0, l1, l2, l3, l4, l5, l6, l7, l8, l9, l10, l11] (.long u :: st) H Q ↔ Go 138 50 [l0, l1, l2, l3, l4, l5, l6, l7, some (.long u), none, l10, l11] st H Q := G_lstore fX9_powerOf_48 rfl
theorem fX9_powerOf_50 : ft 138 50 = some (.lload 10, 0, 0, 0, .null) := by decide +kernel
theorem gX9_powerOf_50 {l0 l1 l2 l3 l4 l5 l6 l7 l8 l9 : Option Value} {u : Int64} {st : List Value} {H : HP} {Q : Option Value → HP → Prop} : Go 138 50 [l0, l1, l2, l3, l4, l5, l6, l7, l8, l9, some (.long u), none] st H Q ↔ Go 138 52 [l0, l1, l2, l3, l4, l5, l6, l7, l8, l9, some (.long u), none] (.long u :: st) H Q := G_lload fX9_powerOf_50 rfl
theorem fX9_powerOf_52 : ft 138 52 = some (.ldc2_w 125, 0, 0, 931, .long (2)) := by decide +kernel
theorem gX9_powerOf_52 {L : List (Option Value)} {st : List Value} {H : HP} {Q : Option Value → HP → Prop} : Go 138 52 L st H Q ↔ Go 138 55 L (vl (2) :: st) H Q := G_ldcl fX9_powerOf_52 (by decide +kernel)
theorem fX9_powerOf_55 : ft 138 55 = some (.ldiv, 0, 0, 0, .null) := by decide +kernel
theorem gX9_powerOf_55 {L : List (Option Value)} {a b : Int} (c : -9223372036854775808 ≤ a ∧ a ≤ 9223372036854775807 ∧ -9223372036854775808 ≤ b ∧ b ≤ 9223372036854775807 ∧ ¬ b = 0) {st : List Value} {H : HP} {Q : Option Value → HP → Prop} : Go 138 55 L (vl b :: vl a :: st) H Q ↔ Go 138 56 L (vl (a.tdiv b) :: st) H Q := G_ldiv fX9_powerOf_55 c
theorem fX9_powerOf_56 : ft 138 56 = some (.lstore 10, 0, 0, 0, .null) := by decide +kernel
theorem gX9_powerOf_56 {l0 l1 l2 l3 l4 l5 l6 l7 l8 l9 l10 l11 : Option Value} {u : Int64} {st : List Value} {H : HP} {Q : Option Value → HP → Prop} : Go 138 56 [l0, l1, l2, l3, l4, l5, l6, l7, l8, l9, l10, l11] (.long u :: st) H Q ↔ Go 138 58 [l0, l1, l2, l3, l4, l5, l6, l7, l8, l9, some (.long u), none] st H Q := G_lstore fX9_powerOf_56 rfl
theorem fX9_powerOf_58 : ft 138 58 = some (.goto (-46), 0, 0, 0, .null) := by decide +kernel
theorem gX9_powerOf_58 {L : List (Option Value)} {st : List Value} {H : HP} {Q : Option Value → HP → Prop} : Go 138 58 L st H Q ↔ Go 138 12 L st H Q := G_goto fX9_powerOf_58 (by decide)
theorem fX9_powerOf_61 : ft 138 61 = some (.lload 6, 0, 0, 0, .null) := by decide +kernel
theorem gX9_powerOf_61 {l0 l1 l2 l3 l4 l5 l8 l9 l10 l11 : Option Value} {u : Int64} {st : List Value} {H : HP} {Q : Option Value → HP → Prop} : Go 138 61 [l0, l1, l2, l3, l4, l5, some (.long u), none, l8, l9, l10, l11] st H Q ↔ Go 138 63 [l0, l1, l2, l3, l4, l5, some (.long u), none, l8, l9, l10, l11] (.long u :: st) H Q := G_lload fX9_powerOf_61 rfl
theorem fX9_powerOf_63 : ft 138 63 = some (.lreturn, 0, 0, 0, .null) := by decide +kernel
theorem gX9_powerOf_63 {L : List (Option Value)} {u : Int64} {H : HP} {Q : Option Value → HP → Prop} : Go 138 63 L [.long u] H Q ↔ Q (some (.long u)) H := G_lret fX9_powerOf_63 (by decide +kernel)
theorem fX9_inverseOf_0 : ft 139 0 = some (.lload_n 0, 0, 0, 0, .null) := by decide +kernel
theorem gX9_inverseOf_0 {l2 l3 : Option Value} {u : Int64} {st : List Value} {H : HP} {Q : Option Value → HP → Prop} : Go 139 0 [some (.long u), none, l2, l3] st H Q ↔ Go 139 1 [some (.long u), none, l2, l3] (.long u :: st) H Q := G_lload_n fX9_inverseOf_0 rfl
theorem fX9_inverseOf_1 : ft 139 1 = some (.lload_n 2, 0, 0, 0, .null) := by decide +kernel
theorem gX9_inverseOf_1 {l0 l1 : Option Value} {u : Int64} {st : List Value} {H : HP} {Q : Option Value → HP → Prop} : Go 139 1 [l0, l1, some (.long u), none] st H Q ↔ Go 139 2 [l0, l1, some (.long u), none] (.long u :: st) H Q := G_lload_n fX9_inverseOf_1 rfl
theorem fX9_inverseOf_2 : ft 139 2 = some (.ldc2_w 125, 0, 0, 931, .long (2)) := by decide +kernel
theorem gX9_inverseOf_2 {L : List (Option Value)} {st : List Value} {H : HP} {Q : Option Value → HP → Prop} : Go 139 2 L st H Q ↔ Go 139 5 L (vl (2) :: st) H Q := G_ldcl fX9_inverseOf_2 (by decide +kernel)
theorem fX9_inverseOf_5 : ft 139 5 = some (.lsub, 0, 0, 0, .null) := by decide +kernel
theorem gX9_inverseOf_5 {L : List (Option Value)} {a b : Int} {st : List Value} {H : HP} {Q : Option Value → HP → Prop} : Go 139 5 L (vl b :: vl a :: st) H Q ↔ Go 139 6 L (vl (a - b) :: st) H Q := G_lsub fX9_inverseOf_5
theorem fX9_inverseOf_6 : ft 139 6 = some (.lload_n 2, 0, 0, 0, .null) := by decide +kernel
theorem gX9_inverseOf_6 {l0 l1 : Option Value} {u : Int64} {st : List Value} {H : HP} {Q : Option Value → HP → Prop} : Go 139 6 [l0, l1, some (.long u), none] st H Q ↔ Go 139 7 [l0, l1, some (.long u), none] (.long u :: st) H Q := G_lload_n fX9_inverseOf_6 rfl
theorem fX9_inverseOf_7 : ft 139 7 = some (.invokestatic 127, 138, 0, 928, .null) := by decide +kernel
theorem gX9_inverseOf_7 {L : List (Option Value)} {a0 : Int64} {a1 : Int64} {a2 : Int64}  {H : HP} {Q : Option Value → HP → Prop} : Go 139 7 L (.long a2 :: .long a1 :: .long a0 :: []) H Q ↔ Go 138 0 [some (.long a0), none, some (.long a1), none, some (.long a2), none, none, none, none, none, none, none] [] H (Cont 139 10 L [] Q) := G_cS (n := 3) (N := 12) (as := [.long a2, .long a1, .long a0]) (st := []) fX9_inverseOf_7 (by decide +kernel) rfl (Nat.le_of_ble_eq_true rfl) (Nat.le_of_ble_eq_true rfl) rfl
theorem fX9_inverseOf_10 : ft 139 10 = some (.lreturn, 0, 0, 0, .null) := by decide +kernel
theorem gX9_inverseOf_10 {L : List (Option Value)} {u : Int64} {H : HP} {Q : Option Value → HP → Prop} : Go 139 10 L [.long u] H Q ↔ Q (some (.long u)) H := G_lret fX9_inverseOf_10 (by decide +kernel)
theorem fX9_rootOf_0 : ft 140 0 = some (.ldc2_w 131, 0, 0, 927, .long (3)) := by decide +kernel
theorem gX9_rootOf_0 {L : List (Option Value)} {st : List Value} {H : HP} {Q : Option Value → HP → Prop} : Go 140 0 L st H Q ↔ Go 140 3 L (vl (3) :: st) H Q := G_ldcl fX9_rootOf_0 (by decide +kernel)
theorem fX9_rootOf_3 : ft 140 3 = some (.iload_n 0, 0, 0, 0, .null) := by decide +kernel
theorem gX9_rootOf_3 {l1 : Option Value} {u : Int32} {st : List Value} {H : HP} {Q : Option Value → HP → Prop} : Go 140 3 [some (.int u), l1] st H Q ↔ Go 140 4 [some (.int u), l1] (.int u :: st) H Q := G_iload_n fX9_rootOf_3 rfl
theorem fX9_rootOf_4 : ft 140 4 = some (.invokestatic 133, 121, 0, 918, .null) := by decide +kernel
theorem gX9_rootOf_4 {L : List (Option Value)} {a0 : Int32} {r0 : Int64} {H : HP} {Q : Option Value → HP → Prop} : Go 140 4 L (.int a0 :: [.long r0]) H Q ↔ Go 121 0 [some (.int a0)] [] H (Cont 140 7 L [.long r0] Q) := G_cS (n := 1) (N := 1) (as := [.int a0]) (st := [.long r0]) fX9_rootOf_4 (by decide +kernel) rfl (Nat.le_of_ble_eq_true rfl) (Nat.le_of_ble_eq_true rfl) rfl
theorem fX9_rootOf_7 : ft 140 7 = some (.lconst 1, 0, 0, 0, .null) := by decide +kernel
theorem gX9_rootOf_7 {L : List (Option Value)} {st : List Value} {H : HP} {Q : Option Value → HP → Prop} : Go 140 7 L st H Q ↔ Go 140 8 L (vl 1 :: st) H Q := G_lconst fX9_rootOf_7 (by decide)
theorem fX9_rootOf_8 : ft 140 8 = some (.lsub, 0, 0, 0, .null) := by decide +kernel
theorem gX9_rootOf_8 {L : List (Option Value)} {a b : Int} {st : List Value} {H : HP} {Q : Option Value → HP → Prop} : Go 140 8 L (vl b :: vl a :: st) H Q ↔ Go 140 9 L (vl (a - b) :: st) H Q := G_lsub fX9_rootOf_8
theorem fX9_rootOf_9 : ft 140 9 = some (.iload_n 1, 0, 0, 0, .null) := by decide +kernel
theorem gX9_rootOf_9 {l0 : Option Value} {u : Int32} {st : List Value} {H : HP} {Q : Option Value → HP → Prop} : Go 140 9 [l0, some (.int u)] st H Q ↔ Go 140 10 [l0, some (.int u)] (.int u :: st) H Q := G_iload_n fX9_rootOf_9 rfl
theorem fX9_rootOf_10 : ft 140 10 = some (.i2l, 0, 0, 0, .null) := by decide +kernel
theorem gX9_rootOf_10 {L : List (Option Value)} {a : Int} (c : -2147483648 ≤ a ∧ a ≤ 2147483647) {st : List Value} {H : HP} {Q : Option Value → HP → Prop} : Go 140 10 L (vi a :: st) H Q ↔ Go 140 11 L (vl a :: st) H Q := G_i2l fX9_rootOf_10 c
theorem fX9_rootOf_11 : ft 140 11 = some (.ldiv, 0, 0, 0, .null) := by decide +kernel
theorem gX9_rootOf_11 {L : List (Option Value)} {a b : Int} (c : -9223372036854775808 ≤ a ∧ a ≤ 9223372036854775807 ∧ -9223372036854775808 ≤ b ∧ b ≤ 9223372036854775807 ∧ ¬ b = 0) {st : List Value} {H : HP} {Q : Option Value → HP → Prop} : Go 140 11 L (vl b :: vl a :: st) H Q ↔ Go 140 12 L (vl (a.tdiv b) :: st) H Q := G_ldiv fX9_rootOf_11 c
theorem fX9_rootOf_12 : ft 140 12 = some (.iload_n 0, 0, 0, 0, .null) := by decide +kernel
theorem gX9_rootOf_12 {l1 : Option Value} {u : Int32} {st : List Value} {H : HP} {Q : Option Value → HP → Prop} : Go 140 12 [some (.int u), l1] st H Q ↔ Go 140 13 [some (.int u), l1] (.int u :: st) H Q := G_iload_n fX9_rootOf_12 rfl
theorem fX9_rootOf_13 : ft 140 13 = some (.invokestatic 133, 121, 0, 918, .null) := by decide +kernel
theorem gX9_rootOf_13 {L : List (Option Value)} {a0 : Int32} {r0 : Int64} {r1 : Int64} {H : HP} {Q : Option Value → HP → Prop} : Go 140 13 L (.int a0 :: [.long r0, .long r1]) H Q ↔ Go 121 0 [some (.int a0)] [] H (Cont 140 16 L [.long r0, .long r1] Q) := G_cS (n := 1) (N := 1) (as := [.int a0]) (st := [.long r0, .long r1]) fX9_rootOf_13 (by decide +kernel) rfl (Nat.le_of_ble_eq_true rfl) (Nat.le_of_ble_eq_true rfl) rfl
theorem fX9_rootOf_16 : ft 140 16 = some (.invokestatic 127, 138, 0, 928, .null) := by decide +kernel
theorem gX9_rootOf_16 {L : List (Option Value)} {a0 : Int64} {a1 : Int64} {a2 : Int64}  {H : HP} {Q : Option Value → HP → Prop} : Go 140 16 L (.long a2 :: .long a1 :: .long a0 :: []) H Q ↔ Go 138 0 [some (.long a0), none, some (.long a1), none, some (.long a2), none, none, none, none, none, none, none] [] H (Cont 140 19 L [] Q) := G_cS (n := 3) (N := 12) (as := [.long a2, .long a1, .long a0]) (st := []) fX9_rootOf_16 (by decide +kernel) rfl (Nat.le_of_ble_eq_true rfl) (Nat.le_of_ble_eq_true rfl) rfl
theorem fX9_rootOf_19 : ft 140 19 = some (.lreturn, 0, 0, 0, .null) := by decide +kernel
theorem gX9_rootOf_19 {L : List (Option Value)} {u : Int64} {H : HP} {Q : Option Value → HP → Prop} : Go 140 19 L [.long u] H Q ↔ Q (some (.long u)) H := G_lret fX9_rootOf_19 (by decide +kernel)
theorem fX9_hasRoot_0 : ft 141 0 = some (.iload_n 0, 0, 0, 0, .null) := by decide +kernel
theorem gX9_hasRoot_0 {l1 : Option Value} {u : Int32} {st : List Value} {H : HP} {Q : Option Value → HP → Prop} : Go 141 0 [some (.int u), l1] st H Q ↔ Go 141 1 [some (.int u), l1] (.int u :: st) H Q := G_iload_n fX9_hasRoot_0 rfl
theorem fX9_hasRoot_1 : ft 141 1 = some (.invokestatic 133, 121, 0, 918, .null) := by decide +kernel
theorem gX9_hasRoot_1 {L : List (Option Value)} {a0 : Int32}  {H : HP} {Q : Option Value → HP → Prop} : Go 141 1 L (.int a0 :: []) H Q ↔ Go 121 0 [some (.int a0)] [] H (Cont 141 4 L [] Q) := G_cS (n := 1) (N := 1) (as := [.int a0]) (st := []) fX9_hasRoot_1 (by decide +kernel) rfl (Nat.le_of_ble_eq_true rfl) (Nat.le_of_ble_eq_true rfl) rfl
theorem fX9_hasRoot_4 : ft 141 4 = some (.lconst 1, 0, 0, 0, .null) := by decide +kernel
theorem gX9_hasRoot_4 {L : List (Option Value)} {st : List Value} {H : HP} {Q : Option Value → HP → Prop} : Go 141 4 L st H Q ↔ Go 141 5 L (vl 1 :: st) H Q := G_lconst fX9_hasRoot_4 (by decide)
theorem fX9_hasRoot_5 : ft 141 5 = some (.lsub, 0, 0, 0, .null) := by decide +kernel
theorem gX9_hasRoot_5 {L : List (Option Value)} {a b : Int} {st : List Value} {H : HP} {Q : Option Value → HP → Prop} : Go 141 5 L (vl b :: vl a :: st) H Q ↔ Go 141 6 L (vl (a - b) :: st) H Q := G_lsub fX9_hasRoot_5
theorem fX9_hasRoot_6 : ft 141 6 = some (.iload_n 1, 0, 0, 0, .null) := by decide +kernel
theorem gX9_hasRoot_6 {l0 : Option Value} {u : Int32} {st : List Value} {H : HP} {Q : Option Value → HP → Prop} : Go 141 6 [l0, some (.int u)] st H Q ↔ Go 141 7 [l0, some (.int u)] (.int u :: st) H Q := G_iload_n fX9_hasRoot_6 rfl
theorem fX9_hasRoot_7 : ft 141 7 = some (.i2l, 0, 0, 0, .null) := by decide +kernel
theorem gX9_hasRoot_7 {L : List (Option Value)} {a : Int} (c : -2147483648 ≤ a ∧ a ≤ 2147483647) {st : List Value} {H : HP} {Q : Option Value → HP → Prop} : Go 141 7 L (vi a :: st) H Q ↔ Go 141 8 L (vl a :: st) H Q := G_i2l fX9_hasRoot_7 c
theorem fX9_hasRoot_8 : ft 141 8 = some (.lrem, 0, 0, 0, .null) := by decide +kernel
theorem gX9_hasRoot_8 {L : List (Option Value)} {a b : Int} (c : -9223372036854775808 ≤ a ∧ a ≤ 9223372036854775807 ∧ -9223372036854775808 ≤ b ∧ b ≤ 9223372036854775807 ∧ ¬ b = 0) {st : List Value} {H : HP} {Q : Option Value → HP → Prop} : Go 141 8 L (vl b :: vl a :: st) H Q ↔ Go 141 9 L (vl (a.tmod b) :: st) H Q := G_lrem fX9_hasRoot_8 c
theorem fX9_hasRoot_9 : ft 141 9 = some (.lconst 0, 0, 0, 0, .null) := by decide +kernel
theorem gX9_hasRoot_9 {L : List (Option Value)} {st : List Value} {H : HP} {Q : Option Value → HP → Prop} : Go 141 9 L st H Q ↔ Go 141 10 L (vl 0 :: st) H Q := G_lconst fX9_hasRoot_9 (by decide)
theorem fX9_hasRoot_10 : ft 141 10 = some (.lcmp, 0, 0, 0, .null) := by decide +kernel
theorem fX9_hasRoot_10' : ft 141 11 = some (.ifCond .ne 7, 0, 0, 0, .null) := by decide +kernel
theorem gX9_hasRoot_10T {L : List (Option Value)} {a b : Int} (c : (-9223372036854775808 ≤ a ∧ a ≤ 9223372036854775807 ∧ -9223372036854775808 ≤ b ∧ b ≤ 9223372036854775807) ∧ ¬ a = b) {st : List Value} {H : HP} {Q : Option Value → HP → Prop} : Go 141 10 L (vl b :: vl a :: st) H Q ↔ Go 141 18 L st H Q := G_lcT fX9_hasRoot_10 fX9_hasRoot_10' (by decide) c
theorem gX9_hasRoot_10F {L : List (Option Value)} {a b : Int} (c : (-9223372036854775808 ≤ a ∧ a ≤ 9223372036854775807 ∧ -9223372036854775808 ≤ b ∧ b ≤ 9223372036854775807) ∧ ¬ (¬ a = b)) {st : List Value} {H : HP} {Q : Option Value → HP → Prop} : Go 141 10 L (vl b :: vl a :: st) H Q ↔ Go 141 14 L st H Q := G_lcF (tg := 18) fX9_hasRoot_10 fX9_hasRoot_10' (by decide) c
theorem fX9_hasRoot_11 : ft 141 11 = some (.ifCond .ne 7, 0, 0, 0, .null) := by decide +kernel
theorem gX9_hasRoot_11T {L : List (Option Value)} {a : Int} (c : (-2147483648 ≤ a ∧ a ≤ 2147483647) ∧ ¬ a = 0) {st : List Value} {H : HP} {Q : Option Value → HP → Prop} : Go 141 11 L (vi a :: st) H Q ↔ Go 141 18 L st H Q := G_ifT fX9_hasRoot_11 (by decide) c
theorem gX9_hasRoot_11F {L : List (Option Value)} {a : Int} (c : (-2147483648 ≤ a ∧ a ≤ 2147483647) ∧ ¬ (¬ a = 0)) {st : List Value} {H : HP} {Q : Option Value → HP → Prop} : Go 141 11 L (vi a :: st) H Q ↔ Go 141 14 L st H Q := G_ifF (tg := 18) fX9_hasRoot_11 (by decide) c
theorem fX9_hasRoot_14 : ft 141 14 = some (.iconst 1, 0, 0, 0, .null) := by decide +kernel
theorem gX9_hasRoot_14 {L : List (Option Value)} {st : List Value} {H : HP} {Q : Option Value → HP → Prop} : Go 141 14 L st H Q ↔ Go 141 15 L (vi 1 :: st) H Q := G_iconst fX9_hasRoot_14
theorem fX9_hasRoot_15 : ft 141 15 = some (.goto 4, 0, 0, 0, .null) := by decide +kernel
theorem gX9_hasRoot_15 {L : List (Option Value)} {st : List Value} {H : HP} {Q : Option Value → HP → Prop} : Go 141 15 L st H Q ↔ Go 141 19 L st H Q := G_goto fX9_hasRoot_15 (by decide)
theorem fX9_hasRoot_18 : ft 141 18 = some (.iconst 0, 0, 0, 0, .null) := by decide +kernel
theorem gX9_hasRoot_18 {L : List (Option Value)} {st : List Value} {H : HP} {Q : Option Value → HP → Prop} : Go 141 18 L st H Q ↔ Go 141 19 L (vi 0 :: st) H Q := G_iconst fX9_hasRoot_18
theorem fX9_hasRoot_19 : ft 141 19 = some (.ireturn, 0, 0, 0, .null) := by decide +kernel
theorem gX9_hasRoot_19 {L : List (Option Value)} {a : Int} (c : a = 0 ∨ a = 1) {H : HP} {Q : Option Value → HP → Prop} : Go 141 19 L [vi a] H Q ↔ Q (some (vi a)) H := G_zret fX9_hasRoot_19 (by decide +kernel) c
theorem fX9_root_0 : ft 142 0 = some (.aload_n 0, 0, 0, 0, .null) := by decide +kernel
theorem gX9_root_0 {l1 l2 : Option Value} {u : Nat} {st : List Value} {H : HP} {Q : Option Value → HP → Prop} : Go 142 0 [some (.ref u), l1, l2] st H Q ↔ Go 142 1 [some (.ref u), l1, l2] (.ref u :: st) H Q := G_aload_n fX9_root_0 rfl
theorem fX9_root_1 : ft 142 1 = some (.iconst 0, 0, 0, 0, .null) := by decide +kernel
theorem gX9_root_1 {L : List (Option Value)} {st : List Value} {H : HP} {Q : Option Value → HP → Prop} : Go 142 1 L st H Q ↔ Go 142 2 L (vi 0 :: st) H Q := G_iconst fX9_root_1
theorem fX9_root_2 : ft 142 2 = some (.putfield 72, 9, 0, 754, .null) := by decide +kernel
theorem gX9_root_2 {L : List (Option Value)} {p : Nat} {u : Int32} (hp : p ≠ 0) {st : List Value} {H : HP} {Q : Option Value → HP → Prop} : Go 142 2 L (.int u :: .ref p :: st) H Q ↔ Wr (pF' 9 0 (hget H p) (.int u)) p 142 5 L st H Q := G_putf fX9_root_2 ⟨⟨rfl, rfl⟩, rfl, Or.inl rfl⟩ hp
theorem fX9_root_5 : ft 142 5 = some (.iload_n 1, 0, 0, 0, .null) := by decide +kernel
theorem gX9_root_5 {l0 l2 : Option Value} {u : Int32} {st : List Value} {H : HP} {Q : Option Value → HP → Prop} : Go 142 5 [l0, some (.int u), l2] st H Q ↔ Go 142 6 [l0, some (.int u), l2] (.int u :: st) H Q := G_iload_n fX9_root_5 rfl
theorem fX9_root_6 : ft 142 6 = some (.invokestatic 137, 120, 0, 912, .null) := by decide +kernel
theorem gX9_root_6 {L : List (Option Value)} {a0 : Int32}  {H : HP} {Q : Option Value → HP → Prop} : Go 142 6 L (.int a0 :: []) H Q ↔ Go 120 0 [some (.int a0)] [] H (Cont 142 9 L [] Q) := G_cS (n := 1) (N := 1) (as := [.int a0]) (st := []) fX9_root_6 (by decide +kernel) rfl (Nat.le_of_ble_eq_true rfl) (Nat.le_of_ble_eq_true rfl) rfl
theorem fX9_root_9 : ft 142 9 = some (.ifCond .eq 13, 0, 0, 0, .null) := by decide +kernel
theorem gX9_root_9T {L : List (Option Value)} {a : Int} (c : (-2147483648 ≤ a ∧ a ≤ 2147483647) ∧ a = 0) {st : List Value} {H : HP} {Q : Option Value → HP → Prop} : Go 142 9 L (vi a :: st) H Q ↔ Go 142 22 L st H Q := G_ifT fX9_root_9 (by decide) c
theorem gX9_root_9F {L : List (Option Value)} {a : Int} (c : (-2147483648 ≤ a ∧ a ≤ 2147483647) ∧ ¬ (a = 0)) {st : List Value} {H : HP} {Q : Option Value → HP → Prop} : Go 142 9 L (vi a :: st) H Q ↔ Go 142 12 L st H Q := G_ifF (tg := 22) fX9_root_9 (by decide) c
theorem fX9_root_12 : ft 142 12 = some (.iload_n 2, 0, 0, 0, .null) := by decide +kernel
theorem gX9_root_12 {l0 l1 : Option Value} {u : Int32} {st : List Value} {H : HP} {Q : Option Value → HP → Prop} : Go 142 12 [l0, l1, some (.int u)] st H Q ↔ Go 142 13 [l0, l1, some (.int u)] (.int u :: st) H Q := G_iload_n fX9_root_12 rfl
theorem fX9_root_13 : ft 142 13 = some (.iconst 1, 0, 0, 0, .null) := by decide +kernel
theorem gX9_root_13 {L : List (Option Value)} {st : List Value} {H : HP} {Q : Option Value → HP → Prop} : Go 142 13 L st H Q ↔ Go 142 14 L (vi 1 :: st) H Q := G_iconst fX9_root_13
theorem fX9_root_14 : ft 142 14 = some (.bipush 64, 0, 0, 0, .null) := by decide +kernel
theorem gX9_root_14 {L : List (Option Value)} {st : List Value} {H : HP} {Q : Option Value → HP → Prop} : Go 142 14 L st H Q ↔ Go 142 16 L (vi 64 :: st) H Q := G_bipush fX9_root_14 (by decide)
theorem fX9_root_16 : ft 142 16 = some (.invokestatic 75, 118, 0, 844, .null) := by decide +kernel
theorem gX9_root_16 {L : List (Option Value)} {a0 : Int32} {a1 : Int32} {a2 : Int32}  {H : HP} {Q : Option Value → HP → Prop} : Go 142 16 L (.int a2 :: .int a1 :: .int a0 :: []) H Q ↔ Go 118 0 [some (.int a0), some (.int a1), some (.int a2)] [] H (Cont 142 19 L [] Q) := G_cS (n := 3) (N := 3) (as := [.int a2, .int a1, .int a0]) (st := []) fX9_root_16 (by decide +kernel) rfl (Nat.le_of_ble_eq_true rfl) (Nat.le_of_ble_eq_true rfl) rfl
theorem fX9_root_19 : ft 142 19 = some (.ifCond .ne 5, 0, 0, 0, .null) := by decide +kernel
theorem gX9_root_19T {L : List (Option Value)} {a : Int} (c : (-2147483648 ≤ a ∧ a ≤ 2147483647) ∧ ¬ a = 0) {st : List Value} {H : HP} {Q : Option Value → HP → Prop} : Go 142 19 L (vi a :: st) H Q ↔ Go 142 24 L st H Q := G_ifT fX9_root_19 (by decide) c
theorem gX9_root_19F {L : List (Option Value)} {a : Int} (c : (-2147483648 ≤ a ∧ a ≤ 2147483647) ∧ ¬ (¬ a = 0)) {st : List Value} {H : HP} {Q : Option Value → HP → Prop} : Go 142 19 L (vi a :: st) H Q ↔ Go 142 22 L st H Q := G_ifF (tg := 24) fX9_root_19 (by decide) c
theorem fX9_root_22 : ft 142 22 = some (.lconst 0, 0, 0, 0, .null) := by decide +kernel
theorem gX9_root_22 {L : List (Option Value)} {st : List Value} {H : HP} {Q : Option Value → HP → Prop} : Go 142 22 L st H Q ↔ Go 142 23 L (vl 0 :: st) H Q := G_lconst fX9_root_22 (by decide)
theorem fX9_root_23 : ft 142 23 = some (.lreturn, 0, 0, 0, .null) := by decide +kernel
theorem gX9_root_23 {L : List (Option Value)} {u : Int64} {H : HP} {Q : Option Value → HP → Prop} : Go 142 23 L [.long u] H Q ↔ Q (some (.long u)) H := G_lret fX9_root_23 (by decide +kernel)
theorem fX9_root_24 : ft 142 24 = some (.iload_n 1, 0, 0, 0, .null) := by decide +kernel
theorem gX9_root_24 {l0 l2 : Option Value} {u : Int32} {st : List Value} {H : HP} {Q : Option Value → HP → Prop} : Go 142 24 [l0, some (.int u), l2] st H Q ↔ Go 142 25 [l0, some (.int u), l2] (.int u :: st) H Q := G_iload_n fX9_root_24 rfl
theorem fX9_root_25 : ft 142 25 = some (.iload_n 2, 0, 0, 0, .null) := by decide +kernel
theorem gX9_root_25 {l0 l1 : Option Value} {u : Int32} {st : List Value} {H : HP} {Q : Option Value → HP → Prop} : Go 142 25 [l0, l1, some (.int u)] st H Q ↔ Go 142 26 [l0, l1, some (.int u)] (.int u :: st) H Q := G_iload_n fX9_root_25 rfl
theorem fX9_root_26 : ft 142 26 = some (.invokestatic 140, 141, 0, 915, .null) := by decide +kernel
theorem gX9_root_26 {L : List (Option Value)} {a0 : Int32} {a1 : Int32}  {H : HP} {Q : Option Value → HP → Prop} : Go 142 26 L (.int a1 :: .int a0 :: []) H Q ↔ Go 141 0 [some (.int a0), some (.int a1)] [] H (Cont 142 29 L [] Q) := G_cS (n := 2) (N := 2) (as := [.int a1, .int a0]) (st := []) fX9_root_26 (by decide +kernel) rfl (Nat.le_of_ble_eq_true rfl) (Nat.le_of_ble_eq_true rfl) rfl
theorem fX9_root_29 : ft 142 29 = some (.ifCond .ne 11, 0, 0, 0, .null) := by decide +kernel
theorem gX9_root_29T {L : List (Option Value)} {a : Int} (c : (-2147483648 ≤ a ∧ a ≤ 2147483647) ∧ ¬ a = 0) {st : List Value} {H : HP} {Q : Option Value → HP → Prop} : Go 142 29 L (vi a :: st) H Q ↔ Go 142 40 L st H Q := G_ifT fX9_root_29 (by decide) c
theorem gX9_root_29F {L : List (Option Value)} {a : Int} (c : (-2147483648 ≤ a ∧ a ≤ 2147483647) ∧ ¬ (¬ a = 0)) {st : List Value} {H : HP} {Q : Option Value → HP → Prop} : Go 142 29 L (vi a :: st) H Q ↔ Go 142 32 L st H Q := G_ifF (tg := 40) fX9_root_29 (by decide) c
theorem fX9_root_32 : ft 142 32 = some (.aload_n 0, 0, 0, 0, .null) := by decide +kernel
theorem gX9_root_32 {l1 l2 : Option Value} {u : Nat} {st : List Value} {H : HP} {Q : Option Value → HP → Prop} : Go 142 32 [some (.ref u), l1, l2] st H Q ↔ Go 142 33 [some (.ref u), l1, l2] (.ref u :: st) H Q := G_aload_n fX9_root_32 rfl
theorem fX9_root_33 : ft 142 33 = some (.iconst 5, 0, 0, 0, .null) := by decide +kernel
theorem gX9_root_33 {L : List (Option Value)} {st : List Value} {H : HP} {Q : Option Value → HP → Prop} : Go 142 33 L st H Q ↔ Go 142 34 L (vi 5 :: st) H Q := G_iconst fX9_root_33
theorem fX9_root_34 : ft 142 34 = some (.invokevirtual 89, 117, 0, 847, .null) := by decide +kernel
theorem gX9_root_34 {L : List (Option Value)} {p : Nat} {a0 : Int32}  {H : HP} {Q : Option Value → HP → Prop} : Go 142 34 L (.int a0 :: .ref p :: []) H Q ↔ (iso 9 (hget H p) = true ∧ Go 117 0 [some (.ref p), some (.int a0)] [] H (Cont 142 37 L [] Q)) := G_cV (n := 1) (N := 2) (as := [.int a0]) (st := []) fX9_root_34 (by decide +kernel) rfl (Nat.le_of_ble_eq_true rfl) (Nat.le_of_ble_eq_true rfl) rfl
theorem fX9_root_37 : ft 142 37 = some (.pop, 0, 0, 0, .null) := by decide +kernel
theorem gX9_root_37 {L : List (Option Value)} {u : Int32} {st : List Value} {H : HP} {Q : Option Value → HP → Prop} : Go 142 37 L (.int u :: st) H Q ↔ Go 142 38 L st H Q := G_pop fX9_root_37 rfl
theorem fX9_root_38 : ft 142 38 = some (.lconst 0, 0, 0, 0, .null) := by decide +kernel
theorem gX9_root_38 {L : List (Option Value)} {st : List Value} {H : HP} {Q : Option Value → HP → Prop} : Go 142 38 L st H Q ↔ Go 142 39 L (vl 0 :: st) H Q := G_lconst fX9_root_38 (by decide)
theorem fX9_root_39 : ft 142 39 = some (.lreturn, 0, 0, 0, .null) := by decide +kernel
theorem gX9_root_39 {L : List (Option Value)} {u : Int64} {H : HP} {Q : Option Value → HP → Prop} : Go 142 39 L [.long u] H Q ↔ Q (some (.long u)) H := G_lret fX9_root_39 (by decide +kernel)
theorem fX9_root_40 : ft 142 40 = some (.iload_n 1, 0, 0, 0, .null) := by decide +kernel
theorem gX9_root_40 {l0 l2 : Option Value} {u : Int32} {st : List Value} {H : HP} {Q : Option Value → HP → Prop} : Go 142 40 [l0, some (.int u), l2] st H Q ↔ Go 142 41 [l0, some (.int u), l2] (.int u :: st) H Q := G_iload_n fX9_root_40 rfl
theorem fX9_root_41 : ft 142 41 = some (.iload_n 2, 0, 0, 0, .null) := by decide +kernel
theorem gX9_root_41 {l0 l1 : Option Value} {u : Int32} {st : List Value} {H : HP} {Q : Option Value → HP → Prop} : Go 142 41 [l0, l1, some (.int u)] st H Q ↔ Go 142 42 [l0, l1, some (.int u)] (.int u :: st) H Q := G_iload_n fX9_root_41 rfl
theorem fX9_root_42 : ft 142 42 = some (.invokestatic 144, 140, 0, 924, .null) := by decide +kernel
theorem gX9_root_42 {L : List (Option Value)} {a0 : Int32} {a1 : Int32}  {H : HP} {Q : Option Value → HP → Prop} : Go 142 42 L (.int a1 :: .int a0 :: []) H Q ↔ Go 140 0 [some (.int a0), some (.int a1)] [] H (Cont 142 45 L [] Q) := G_cS (n := 2) (N := 2) (as := [.int a1, .int a0]) (st := []) fX9_root_42 (by decide +kernel) rfl (Nat.le_of_ble_eq_true rfl) (Nat.le_of_ble_eq_true rfl) rfl
theorem fX9_root_45 : ft 142 45 = some (.lreturn, 0, 0, 0, .null) := by decide +kernel
theorem gX9_root_45 {L : List (Option Value)} {u : Int64} {H : HP} {Q : Option Value → HP → Prop} : Go 142 45 L [.long u] H Q ↔ Q (some (.long u)) H := G_lret fX9_root_45 (by decide +kernel)
theorem fX9_transformed_0 : ft 143 0 = some (.iload_n 2, 0, 0, 0, .null) := by decide +kernel
theorem gX9_transformed_0 {l0 l1 l3 l4 l5 l6 l7 l8 l9 l10 l11 l12 l13 l14 l15 : Option Value} {u : Int32} {st : List Value} {H : HP} {Q : Option Value → HP → Prop} : Go 143 0 [l0, l1, some (.int u), l3, l4, l5, l6, l7, l8, l9, l10, l11, l12, l13, l14, l15] st H Q ↔ Go 143 1 [l0, l1, some (.int u), l3, l4, l5, l6, l7, l8, l9, l10, l11, l12, l13, l14, l15] (.int u :: st) H Q := G_iload_n fX9_transformed_0 rfl
theorem fX9_transformed_1 : ft 143 1 = some (.invokestatic 133, 121, 0, 918, .null) := by decide +kernel
theorem gX9_transformed_1 {L : List (Option Value)} {a0 : Int32}  {H : HP} {Q : Option Value → HP → Prop} : Go 143 1 L (.int a0 :: []) H Q ↔ Go 121 0 [some (.int a0)] [] H (Cont 143 4 L [] Q) := G_cS (n := 1) (N := 1) (as := [.int a0]) (st := []) fX9_transformed_1 (by decide +kernel) rfl (Nat.le_of_ble_eq_true rfl) (Nat.le_of_ble_eq_true rfl) rfl
theorem fX9_transformed_4 : ft 143 4 = some (.lstore_n 3, 0, 0, 0, .null) := by decide +kernel
theorem gX9_transformed_4 {l0 l1 l2 l3 l4 l5 l6 l7 l8 l9 l10 l11 l12 l13 l14 l15 : Option Value} {u : Int64} {st : List Value} {H : HP} {Q : Option Value → HP → Prop} : Go 143 4 [l0, l1, l2, l3, l4, l5, l6, l7, l8, l9, l10, l11, l12, l13, l14, l15] (.long u :: st) H Q ↔ Go 143 5 [l0, l1, l2, some (.long u), none, l5, l6, l7, l8, l9, l10, l11, l12, l13, l14, l15] st H Q := G_lstore_n fX9_transformed_4 rfl
theorem fX9_transformed_5 : ft 143 5 = some (.aload_n 0, 0, 0, 0, .null) := by decide +kernel
theorem gX9_transformed_5 {l1 l2 l3 l4 l5 l6 l7 l8 l9 l10 l11 l12 l13 l14 l15 : Option Value} {u : Nat} {st : List Value} {H : HP} {Q : Option Value → HP → Prop} : Go 143 5 [some (.ref u), l1, l2, l3, l4, l5, l6, l7, l8, l9, l10, l11, l12, l13, l14, l15] st H Q ↔ Go 143 6 [some (.ref u), l1, l2, l3, l4, l5, l6, l7, l8, l9, l10, l11, l12, l13, l14, l15] (.ref u :: st) H Q := G_aload_n fX9_transformed_5 rfl
theorem fX9_transformed_6 : ft 143 6 = some (.iload_n 1, 0, 0, 0, .null) := by decide +kernel
theorem gX9_transformed_6 {l0 l2 l3 l4 l5 l6 l7 l8 l9 l10 l11 l12 l13 l14 l15 : Option Value} {u : Int32} {st : List Value} {H : HP} {Q : Option Value → HP → Prop} : Go 143 6 [l0, some (.int u), l2, l3, l4, l5, l6, l7, l8, l9, l10, l11, l12, l13, l14, l15] st H Q ↔ Go 143 7 [l0, some (.int u), l2, l3, l4, l5, l6, l7, l8, l9, l10, l11, l12, l13, l14, l15] (.int u :: st) H Q := G_iload_n fX9_transformed_6 rfl
theorem fX9_transformed_7 : ft 143 7 = some (.invokevirtual 100, 124, 0, 867, .null) := by decide +kernel
theorem gX9_transformed_7 {L : List (Option Value)} {p : Nat} {a0 : Int32}  {H : HP} {Q : Option Value → HP → Prop} : Go 143 7 L (.int a0 :: .ref p :: []) H Q ↔ (iso 9 (hget H p) = true ∧ Go 124 0 [some (.ref p), some (.int a0)] [] H (Cont 143 10 L [] Q)) := G_cV (n := 1) (N := 2) (as := [.int a0]) (st := []) fX9_transformed_7 (by decide +kernel) rfl (Nat.le_of_ble_eq_true rfl) (Nat.le_of_ble_eq_true rfl) rfl
theorem fX9_transformed_10 : ft 143 10 = some (.istore 5, 0, 0, 0, .null) := by decide +kernel
theorem gX9_transformed_10 {l0 l1 l2 l3 l4 l5 l6 l7 l8 l9 l10 l11 l12 l13 l14 l15 : Option Value} {u : Int32} {st : List Value} {H : HP} {Q : Option Value → HP → Prop} : Go 143 10 [l0, l1, l2, l3, l4, l5, l6, l7, l8, l9, l10, l11, l12, l13, l14, l15] (.int u :: st) H Q ↔ Go 143 12 [l0, l1, l2, l3, l4, some (.int u), l6, l7, l8, l9, l10, l11, l12, l13, l14, l15] st H Q := G_istore fX9_transformed_10 rfl
theorem fX9_transformed_12 : ft 143 12 = some (.iload_n 2, 0, 0, 0, .null) := by decide +kernel
theorem gX9_transformed_12 {l0 l1 l3 l4 l5 l6 l7 l8 l9 l10 l11 l12 l13 l14 l15 : Option Value} {u : Int32} {st : List Value} {H : HP} {Q : Option Value → HP → Prop} : Go 143 12 [l0, l1, some (.int u), l3, l4, l5, l6, l7, l8, l9, l10, l11, l12, l13, l14, l15] st H Q ↔ Go 143 13 [l0, l1, some (.int u), l3, l4, l5, l6, l7, l8, l9, l10, l11, l12, l13, l14, l15] (.int u :: st) H Q := G_iload_n fX9_transformed_12 rfl
theorem fX9_transformed_13 : ft 143 13 = some (.iload 5, 0, 0, 0, .null) := by decide +kernel
theorem gX9_transformed_13 {l0 l1 l2 l3 l4 l6 l7 l8 l9 l10 l11 l12 l13 l14 l15 : Option Value} {u : Int32} {st : List Value} {H : HP} {Q : Option Value → HP → Prop} : Go 143 13 [l0, l1, l2, l3, l4, some (.int u), l6, l7, l8, l9, l10, l11, l12, l13, l14, l15] st H Q ↔ Go 143 15 [l0, l1, l2, l3, l4, some (.int u), l6, l7, l8, l9, l10, l11, l12, l13, l14, l15] (.int u :: st) H Q := G_iload fX9_transformed_13 rfl
theorem fX9_transformed_15 : ft 143 15 = some (.invokestatic 144, 140, 0, 924, .null) := by decide +kernel
theorem gX9_transformed_15 {L : List (Option Value)} {a0 : Int32} {a1 : Int32}  {H : HP} {Q : Option Value → HP → Prop} : Go 143 15 L (.int a1 :: .int a0 :: []) H Q ↔ Go 140 0 [some (.int a0), some (.int a1)] [] H (Cont 143 18 L [] Q) := G_cS (n := 2) (N := 2) (as := [.int a1, .int a0]) (st := []) fX9_transformed_15 (by decide +kernel) rfl (Nat.le_of_ble_eq_true rfl) (Nat.le_of_ble_eq_true rfl) rfl
theorem fX9_transformed_18 : ft 143 18 = some (.lstore 6, 0, 0, 0, .null) := by decide +kernel
theorem gX9_transformed_18 {l0 l1 l2 l3 l4 l5 l6 l7 l8 l9 l10 l11 l12 l13 l14 l15 : Option Value} {u : Int64} {st : List Value} {H : HP} {Q : Option Value → HP → Prop} : Go 143 18 [l0, l1, l2, l3, l4, l5, l6, l7, l8, l9, l10, l11, l12, l13, l14, l15] (.long u :: st) H Q ↔ Go 143 20 [l0, l1, l2, l3, l4, l5, some (.long u), none, l8, l9, l10, l11, l12, l13, l14, l15] st H Q := G_lstore fX9_transformed_18 rfl
theorem fX9_transformed_20 : ft 143 20 = some (.iconst 0, 0, 0, 0, .null) := by decide +kernel
theorem gX9_transformed_20 {L : List (Option Value)} {st : List Value} {H : HP} {Q : Option Value → HP → Prop} : Go 143 20 L st H Q ↔ Go 143 21 L (vi 0 :: st) H Q := G_iconst fX9_transformed_20
theorem fX9_transformed_21 : ft 143 21 = some (.istore 8, 0, 0, 0, .null) := by decide +kernel
theorem gX9_transformed_21 {l0 l1 l2 l3 l4 l5 l6 l7 l8 l9 l10 l11 l12 l13 l14 l15 : Option Value} {u : Int32} {st : List Value} {H : HP} {Q : Option Value → HP → Prop} : Go 143 21 [l0, l1, l2, l3, l4, l5, l6, l7, l8, l9, l10, l11, l12, l13, l14, l15] (.int u :: st) H Q ↔ Go 143 23 [l0, l1, l2, l3, l4, l5, l6, l7, some (.int u), l9, l10, l11, l12, l13, l14, l15] st H Q := G_istore fX9_transformed_21 rfl
theorem fX9_transformed_23 : ft 143 23 = some (.iload 8, 0, 0, 0, .null) := by decide +kernel
theorem gX9_transformed_23 {l0 l1 l2 l3 l4 l5 l6 l7 l9 l10 l11 l12 l13 l14 l15 : Option Value} {u : Int32} {st : List Value} {H : HP} {Q : Option Value → HP → Prop} : Go 143 23 [l0, l1, l2, l3, l4, l5, l6, l7, some (.int u), l9, l10, l11, l12, l13, l14, l15] st H Q ↔ Go 143 25 [l0, l1, l2, l3, l4, l5, l6, l7, some (.int u), l9, l10, l11, l12, l13, l14, l15] (.int u :: st) H Q := G_iload fX9_transformed_23 rfl
theorem fX9_transformed_25 : ft 143 25 = some (.iload 5, 0, 0, 0, .null) := by decide +kernel
theorem gX9_transformed_25 {l0 l1 l2 l3 l4 l6 l7 l8 l9 l10 l11 l12 l13 l14 l15 : Option Value} {u : Int32} {st : List Value} {H : HP} {Q : Option Value → HP → Prop} : Go 143 25 [l0, l1, l2, l3, l4, some (.int u), l6, l7, l8, l9, l10, l11, l12, l13, l14, l15] st H Q ↔ Go 143 27 [l0, l1, l2, l3, l4, some (.int u), l6, l7, l8, l9, l10, l11, l12, l13, l14, l15] (.int u :: st) H Q := G_iload fX9_transformed_25 rfl
theorem fX9_transformed_27 : ft 143 27 = some (.if_icmp .ge 81, 0, 0, 0, .null) := by decide +kernel
theorem gX9_transformed_27T {L : List (Option Value)} {a b : Int} (c : (-2147483648 ≤ a ∧ a ≤ 2147483647 ∧ -2147483648 ≤ b ∧ b ≤ 2147483647) ∧ b ≤ a) {st : List Value} {H : HP} {Q : Option Value → HP → Prop} : Go 143 27 L (vi b :: vi a :: st) H Q ↔ Go 143 108 L st H Q := G_icT fX9_transformed_27 (by decide) c
theorem gX9_transformed_27F {L : List (Option Value)} {a b : Int} (c : (-2147483648 ≤ a ∧ a ≤ 2147483647 ∧ -2147483648 ≤ b ∧ b ≤ 2147483647) ∧ ¬ (b ≤ a)) {st : List Value} {H : HP} {Q : Option Value → HP → Prop} : Go 143 27 L (vi b :: vi a :: st) H Q ↔ Go 143 30 L st H Q := G_icF (tg := 108) fX9_transformed_27 (by decide) c
theorem fX9_transformed_30 : ft 143 30 = some (.lload 6, 0, 0, 0, .null) := by decide +kernel
theorem gX9_transformed_30 {l0 l1 l2 l3 l4 l5 l8 l9 l10 l11 l12 l13 l14 l15 : Option Value} {u : Int64} {st : List Value} {H : HP} {Q : Option Value → HP → Prop} : Go 143 30 [l0, l1, l2, l3, l4, l5, some (.long u), none, l8, l9, l10, l11, l12, l13, l14, l15] st H Q ↔ Go 143 32 [l0, l1, l2, l3, l4, l5, some (.long u), none, l8, l9, l10, l11, l12, l13, l14, l15] (.long u :: st) H Q := G_lload fX9_transformed_30 rfl
theorem fX9_transformed_32 : ft 143 32 = some (.iload 8, 0, 0, 0, .null) := by decide +kernel
theorem gX9_transformed_32 {l0 l1 l2 l3 l4 l5 l6 l7 l9 l10 l11 l12 l13 l14 l15 : Option Value} {u : Int32} {st : List Value} {H : HP} {Q : Option Value → HP → Prop} : Go 143 32 [l0, l1, l2, l3, l4, l5, l6, l7, some (.int u), l9, l10, l11, l12, l13, l14, l15] st H Q ↔ Go 143 34 [l0, l1, l2, l3, l4, l5, l6, l7, some (.int u), l9, l10, l11, l12, l13, l14, l15] (.int u :: st) H Q := G_iload fX9_transformed_32 rfl
theorem fX9_transformed_34 : ft 143 34 = some (.i2l, 0, 0, 0, .null) := by decide +kernel
theorem gX9_transformed_34 {L : List (Option Value)} {a : Int} (c : -2147483648 ≤ a ∧ a ≤ 2147483647) {st : List Value} {H : HP} {Q : Option Value → HP → Prop} : Go 143 34 L (vi a :: st) H Q ↔ Go 143 35 L (vl a :: st) H Q := G_i2l fX9_transformed_34 c
theorem fX9_transformed_35 : ft 143 35 = some (.lload_n 3, 0, 0, 0, .null) := by decide +kernel
theorem gX9_transformed_35 {l0 l1 l2 l5 l6 l7 l8 l9 l10 l11 l12 l13 l14 l15 : Option Value} {u : Int64} {st : List Value} {H : HP} {Q : Option Value → HP → Prop} : Go 143 35 [l0, l1, l2, some (.long u), none, l5, l6, l7, l8, l9, l10, l11, l12, l13, l14, l15] st H Q ↔ Go 143 36 [l0, l1, l2, some (.long u), none, l5, l6, l7, l8, l9, l10, l11, l12, l13, l14, l15] (.long u :: st) H Q := G_lload_n fX9_transformed_35 rfl
theorem fX9_transformed_36 : ft 143 36 = some (.invokestatic 127, 138, 0, 928, .null) := by decide +kernel
theorem gX9_transformed_36 {L : List (Option Value)} {a0 : Int64} {a1 : Int64} {a2 : Int64}  {H : HP} {Q : Option Value → HP → Prop} : Go 143 36 L (.long a2 :: .long a1 :: .long a0 :: []) H Q ↔ Go 138 0 [some (.long a0), none, some (.long a1), none, some (.long a2), none, none, none, none, none, none, none] [] H (Cont 143 39 L [] Q) := G_cS (n := 3) (N := 12) (as := [.long a2, .long a1, .long a0]) (st := []) fX9_transformed_36 (by decide +kernel) rfl (Nat.le_of_ble_eq_true rfl) (Nat.le_of_ble_eq_true rfl) rfl
theorem fX9_transformed_39 : ft 143 39 = some (.lstore 9, 0, 0, 0, .null) := by decide +kernel
theorem gX9_transformed_39 {l0 l1 l2 l3 l4 l5 l6 l7 l8 l9 l10 l11 l12 l13 l14 l15 : Option Value} {u : Int64} {st : List Value} {H : HP} {Q : Option Value → HP → Prop} : Go 143 39 [l0, l1, l2, l3, l4, l5, l6, l7, l8, l9, l10, l11, l12, l13, l14, l15] (.long u :: st) H Q ↔ Go 143 41 [l0, l1, l2, l3, l4, l5, l6, l7, l8, some (.long u), none, l11, l12, l13, l14, l15] st H Q := G_lstore fX9_transformed_39 rfl
theorem fX9_transformed_41 : ft 143 41 = some (.lconst 1, 0, 0, 0, .null) := by decide +kernel
theorem gX9_transformed_41 {L : List (Option Value)} {st : List Value} {H : HP} {Q : Option Value → HP → Prop} : Go 143 41 L st H Q ↔ Go 143 42 L (vl 1 :: st) H Q := G_lconst fX9_transformed_41 (by decide)
theorem fX9_transformed_42 : ft 143 42 = some (.lstore 11, 0, 0, 0, .null) := by decide +kernel
theorem gX9_transformed_42 {l0 l1 l2 l3 l4 l5 l6 l7 l8 l9 l10 l11 l12 l13 l14 l15 : Option Value} {u : Int64} {st : List Value} {H : HP} {Q : Option Value → HP → Prop} : Go 143 42 [l0, l1, l2, l3, l4, l5, l6, l7, l8, l9, l10, l11, l12, l13, l14, l15] (.long u :: st) H Q ↔ Go 143 44 [l0, l1, l2, l3, l4, l5, l6, l7, l8, l9, l10, some (.long u), none, l13, l14, l15] st H Q := G_lstore fX9_transformed_42 rfl
theorem fX9_transformed_44 : ft 143 44 = some (.lconst 0, 0, 0, 0, .null) := by decide +kernel
theorem gX9_transformed_44 {L : List (Option Value)} {st : List Value} {H : HP} {Q : Option Value → HP → Prop} : Go 143 44 L st H Q ↔ Go 143 45 L (vl 0 :: st) H Q := G_lconst fX9_transformed_44 (by decide)
theorem fX9_transformed_45 : ft 143 45 = some (.lstore 13, 0, 0, 0, .null) := by decide +kernel
theorem gX9_transformed_45 {l0 l1 l2 l3 l4 l5 l6 l7 l8 l9 l10 l11 l12 l13 l14 l15 : Option Value} {u : Int64} {st : List Value} {H : HP} {Q : Option Value → HP → Prop} : Go 143 45 [l0, l1, l2, l3, l4, l5, l6, l7, l8, l9, l10, l11, l12, l13, l14, l15] (.long u :: st) H Q ↔ Go 143 47 [l0, l1, l2, l3, l4, l5, l6, l7, l8, l9, l10, l11, l12, some (.long u), none, l15] st H Q := G_lstore fX9_transformed_45 rfl
theorem fX9_transformed_47 : ft 143 47 = some (.iconst 0, 0, 0, 0, .null) := by decide +kernel
theorem gX9_transformed_47 {L : List (Option Value)} {st : List Value} {H : HP} {Q : Option Value → HP → Prop} : Go 143 47 L st H Q ↔ Go 143 48 L (vi 0 :: st) H Q := G_iconst fX9_transformed_47
theorem fX9_transformed_48 : ft 143 48 = some (.istore 15, 0, 0, 0, .null) := by decide +kernel
theorem gX9_transformed_48 {l0 l1 l2 l3 l4 l5 l6 l7 l8 l9 l10 l11 l12 l13 l14 l15 : Option Value} {u : Int32} {st : List Value} {H : HP} {Q : Option Value → HP → Prop} : Go 143 48 [l0, l1, l2, l3, l4, l5, l6, l7, l8, l9, l10, l11, l12, l13, l14, l15] (.int u :: st) H Q ↔ Go 143 50 [l0, l1, l2, l3, l4, l5, l6, l7, l8, l9, l10, l11, l12, l13, l14, some (.int u)] st H Q := G_istore fX9_transformed_48 rfl
theorem fX9_transformed_50 : ft 143 50 = some (.iload 15, 0, 0, 0, .null) := by decide +kernel
theorem gX9_transformed_50 {l0 l1 l2 l3 l4 l5 l6 l7 l8 l9 l10 l11 l12 l13 l14 : Option Value} {u : Int32} {st : List Value} {H : HP} {Q : Option Value → HP → Prop} : Go 143 50 [l0, l1, l2, l3, l4, l5, l6, l7, l8, l9, l10, l11, l12, l13, l14, some (.int u)] st H Q ↔ Go 143 52 [l0, l1, l2, l3, l4, l5, l6, l7, l8, l9, l10, l11, l12, l13, l14, some (.int u)] (.int u :: st) H Q := G_iload fX9_transformed_50 rfl
theorem fX9_transformed_52 : ft 143 52 = some (.iload 5, 0, 0, 0, .null) := by decide +kernel
theorem gX9_transformed_52 {l0 l1 l2 l3 l4 l6 l7 l8 l9 l10 l11 l12 l13 l14 l15 : Option Value} {u : Int32} {st : List Value} {H : HP} {Q : Option Value → HP → Prop} : Go 143 52 [l0, l1, l2, l3, l4, some (.int u), l6, l7, l8, l9, l10, l11, l12, l13, l14, l15] st H Q ↔ Go 143 54 [l0, l1, l2, l3, l4, some (.int u), l6, l7, l8, l9, l10, l11, l12, l13, l14, l15] (.int u :: st) H Q := G_iload fX9_transformed_52 rfl
theorem fX9_transformed_54 : ft 143 54 = some (.if_icmp .ge 39, 0, 0, 0, .null) := by decide +kernel
theorem gX9_transformed_54T {L : List (Option Value)} {a b : Int} (c : (-2147483648 ≤ a ∧ a ≤ 2147483647 ∧ -2147483648 ≤ b ∧ b ≤ 2147483647) ∧ b ≤ a) {st : List Value} {H : HP} {Q : Option Value → HP → Prop} : Go 143 54 L (vi b :: vi a :: st) H Q ↔ Go 143 93 L st H Q := G_icT fX9_transformed_54 (by decide) c
theorem gX9_transformed_54F {L : List (Option Value)} {a b : Int} (c : (-2147483648 ≤ a ∧ a ≤ 2147483647 ∧ -2147483648 ≤ b ∧ b ≤ 2147483647) ∧ ¬ (b ≤ a)) {st : List Value} {H : HP} {Q : Option Value → HP → Prop} : Go 143 54 L (vi b :: vi a :: st) H Q ↔ Go 143 57 L st H Q := G_icF (tg := 93) fX9_transformed_54 (by decide) c
theorem fX9_transformed_57 : ft 143 57 = some (.lload 13, 0, 0, 0, .null) := by decide +kernel
theorem gX9_transformed_57 {l0 l1 l2 l3 l4 l5 l6 l7 l8 l9 l10 l11 l12 l15 : Option Value} {u : Int64} {st : List Value} {H : HP} {Q : Option Value → HP → Prop} : Go 143 57 [l0, l1, l2, l3, l4, l5, l6, l7, l8, l9, l10, l11, l12, some (.long u), none, l15] st H Q ↔ Go 143 59 [l0, l1, l2, l3, l4, l5, l6, l7, l8, l9, l10, l11, l12, some (.long u), none, l15] (.long u :: st) H Q := G_lload fX9_transformed_57 rfl
theorem fX9_transformed_59 : ft 143 59 = some (.aload_n 0, 0, 0, 0, .null) := by decide +kernel
theorem gX9_transformed_59 {l1 l2 l3 l4 l5 l6 l7 l8 l9 l10 l11 l12 l13 l14 l15 : Option Value} {u : Nat} {st : List Value} {H : HP} {Q : Option Value → HP → Prop} : Go 143 59 [some (.ref u), l1, l2, l3, l4, l5, l6, l7, l8, l9, l10, l11, l12, l13, l14, l15] st H Q ↔ Go 143 60 [some (.ref u), l1, l2, l3, l4, l5, l6, l7, l8, l9, l10, l11, l12, l13, l14, l15] (.ref u :: st) H Q := G_aload_n fX9_transformed_59 rfl
theorem fX9_transformed_60 : ft 143 60 = some (.iload_n 1, 0, 0, 0, .null) := by decide +kernel
theorem gX9_transformed_60 {l0 l2 l3 l4 l5 l6 l7 l8 l9 l10 l11 l12 l13 l14 l15 : Option Value} {u : Int32} {st : List Value} {H : HP} {Q : Option Value → HP → Prop} : Go 143 60 [l0, some (.int u), l2, l3, l4, l5, l6, l7, l8, l9, l10, l11, l12, l13, l14, l15] st H Q ↔ Go 143 61 [l0, some (.int u), l2, l3, l4, l5, l6, l7, l8, l9, l10, l11, l12, l13, l14, l15] (.int u :: st) H Q := G_iload_n fX9_transformed_60 rfl
theorem fX9_transformed_61 : ft 143 61 = some (.iload 15, 0, 0, 0, .null) := by decide +kernel
theorem gX9_transformed_61 {l0 l1 l2 l3 l4 l5 l6 l7 l8 l9 l10 l11 l12 l13 l14 : Option Value} {u : Int32} {st : List Value} {H : HP} {Q : Option Value → HP → Prop} : Go 143 61 [l0, l1, l2, l3, l4, l5, l6, l7, l8, l9, l10, l11, l12, l13, l14, some (.int u)] st H Q ↔ Go 143 63 [l0, l1, l2, l3, l4, l5, l6, l7, l8, l9, l10, l11, l12, l13, l14, some (.int u)] (.int u :: st) H Q := G_iload fX9_transformed_61 rfl
theorem fX9_transformed_63 : ft 143 63 = some (.invokevirtual 117, 123, 0, 888, .null) := by decide +kernel
theorem gX9_transformed_63 {L : List (Option Value)} {p : Nat} {a0 : Int32} {a1 : Int32} {r0 : Int64} {H : HP} {Q : Option Value → HP → Prop} : Go 143 63 L (.int a1 :: .int a0 :: .ref p :: [.long r0]) H Q ↔ (iso 9 (hget H p) = true ∧ Go 123 0 [some (.ref p), some (.int a0), some (.int a1)] [] H (Cont 143 66 L [.long r0] Q)) := G_cV (n := 2) (N := 3) (as := [.int a1, .int a0]) (st := [.long r0]) fX9_transformed_63 (by decide +kernel) rfl (Nat.le_of_ble_eq_true rfl) (Nat.le_of_ble_eq_true rfl) rfl
theorem fX9_transformed_66 : ft 143 66 = some (.lload_n 3, 0, 0, 0, .null) := by decide +kernel
theorem gX9_transformed_66 {l0 l1 l2 l5 l6 l7 l8 l9 l10 l11 l12 l13 l14 l15 : Option Value} {u : Int64} {st : List Value} {H : HP} {Q : Option Value → HP → Prop} : Go 143 66 [l0, l1, l2, some (.long u), none, l5, l6, l7, l8, l9, l10, l11, l12, l13, l14, l15] st H Q ↔ Go 143 67 [l0, l1, l2, some (.long u), none, l5, l6, l7, l8, l9, l10, l11, l12, l13, l14, l15] (.long u :: st) H Q := G_lload_n fX9_transformed_66 rfl
theorem fX9_transformed_67 : ft 143 67 = some (.invokestatic 147, 137, 0, 940, .null) := by decide +kernel
theorem gX9_transformed_67 {L : List (Option Value)} {a0 : Int64} {a1 : Int64} {r0 : Int64} {H : HP} {Q : Option Value → HP → Prop} : Go 143 67 L (.long a1 :: .long a0 :: [.long r0]) H Q ↔ Go 137 0 [some (.long a0), none, some (.long a1), none, none, none] [] H (Cont 143 70 L [.long r0] Q) := G_cS (n := 2) (N := 6) (as := [.long a1, .long a0]) (st := [.long r0]) fX9_transformed_67 (by decide +kernel) rfl (Nat.le_of_ble_eq_true rfl) (Nat.le_of_ble_eq_true rfl) rfl
theorem fX9_transformed_70 : ft 143 70 = some (.lload 11, 0, 0, 0, .null) := by decide +kernel
theorem gX9_transformed_70 {l0 l1 l2 l3 l4 l5 l6 l7 l8 l9 l10 l13 l14 l15 : Option Value} {u : Int64} {st : List Value} {H : HP} {Q : Option Value → HP → Prop} : Go 143 70 [l0, l1, l2, l3, l4, l5, l6, l7, l8, l9, l10, some (.long u), none, l13, l14, l15] st H Q ↔ Go 143 72 [l0, l1, l2, l3, l4, l5, l6, l7, l8, l9, l10, some (.long u), none, l13, l14, l15] (.long u :: st) H Q := G_lload fX9_transformed_70 rfl
theorem fX9_transformed_72 : ft 143 72 = some (.lmul, 0, 0, 0, .null) := by decide +kernel
theorem gX9_transformed_72 {L : List (Option Value)} {a b : Int} {st : List Value} {H : HP} {Q : Option Value → HP → Prop} : Go 143 72 L (vl b :: vl a :: st) H Q ↔ Go 143 73 L (vl (a * b) :: st) H Q := G_lmul fX9_transformed_72
theorem fX9_transformed_73 : ft 143 73 = some (.ladd, 0, 0, 0, .null) := by decide +kernel
theorem gX9_transformed_73 {L : List (Option Value)} {a b : Int} {st : List Value} {H : HP} {Q : Option Value → HP → Prop} : Go 143 73 L (vl b :: vl a :: st) H Q ↔ Go 143 74 L (vl (a + b) :: st) H Q := G_ladd fX9_transformed_73
theorem fX9_transformed_74 : ft 143 74 = some (.lload_n 3, 0, 0, 0, .null) := by decide +kernel
theorem gX9_transformed_74 {l0 l1 l2 l5 l6 l7 l8 l9 l10 l11 l12 l13 l14 l15 : Option Value} {u : Int64} {st : List Value} {H : HP} {Q : Option Value → HP → Prop} : Go 143 74 [l0, l1, l2, some (.long u), none, l5, l6, l7, l8, l9, l10, l11, l12, l13, l14, l15] st H Q ↔ Go 143 75 [l0, l1, l2, some (.long u), none, l5, l6, l7, l8, l9, l10, l11, l12, l13, l14, l15] (.long u :: st) H Q := G_lload_n fX9_transformed_74 rfl
theorem fX9_transformed_75 : ft 143 75 = some (.lrem, 0, 0, 0, .null) := by decide +kernel
theorem gX9_transformed_75 {L : List (Option Value)} {a b : Int} (c : -9223372036854775808 ≤ a ∧ a ≤ 9223372036854775807 ∧ -9223372036854775808 ≤ b ∧ b ≤ 9223372036854775807 ∧ ¬ b = 0) {st : List Value} {H : HP} {Q : Option Value → HP → Prop} : Go 143 75 L (vl b :: vl a :: st) H Q ↔ Go 143 76 L (vl (a.tmod b) :: st) H Q := G_lrem fX9_transformed_75 c
theorem fX9_transformed_76 : ft 143 76 = some (.lstore 13, 0, 0, 0, .null) := by decide +kernel
theorem gX9_transformed_76 {l0 l1 l2 l3 l4 l5 l6 l7 l8 l9 l10 l11 l12 l13 l14 l15 : Option Value} {u : Int64} {st : List Value} {H : HP} {Q : Option Value → HP → Prop} : Go 143 76 [l0, l1, l2, l3, l4, l5, l6, l7, l8, l9, l10, l11, l12, l13, l14, l15] (.long u :: st) H Q ↔ Go 143 78 [l0, l1, l2, l3, l4, l5, l6, l7, l8, l9, l10, l11, l12, some (.long u), none, l15] st H Q := G_lstore fX9_transformed_76 rfl
theorem fX9_transformed_78 : ft 143 78 = some (.lload 11, 0, 0, 0, .null) := by decide +kernel
theorem gX9_transformed_78 {l0 l1 l2 l3 l4 l5 l6 l7 l8 l9 l10 l13 l14 l15 : Option Value} {u : Int64} {st : List Value} {H : HP} {Q : Option Value → HP → Prop} : Go 143 78 [l0, l1, l2, l3, l4, l5, l6, l7, l8, l9, l10, some (.long u), none, l13, l14, l15] st H Q ↔ Go 143 80 [l0, l1, l2, l3, l4, l5, l6, l7, l8, l9, l10, some (.long u), none, l13, l14, l15] (.long u :: st) H Q := G_lload fX9_transformed_78 rfl
theorem fX9_transformed_80 : ft 143 80 = some (.lload 9, 0, 0, 0, .null) := by decide +kernel
theorem gX9_transformed_80 {l0 l1 l2 l3 l4 l5 l6 l7 l8 l11 l12 l13 l14 l15 : Option Value} {u : Int64} {st : List Value} {H : HP} {Q : Option Value → HP → Prop} : Go 143 80 [l0, l1, l2, l3, l4, l5, l6, l7, l8, some (.long u), none, l11, l12, l13, l14, l15] st H Q ↔ Go 143 82 [l0, l1, l2, l3, l4, l5, l6, l7, l8, some (.long u), none, l11, l12, l13, l14, l15] (.long u :: st) H Q := G_lload fX9_transformed_80 rfl
theorem fX9_transformed_82 : ft 143 82 = some (.lmul, 0, 0, 0, .null) := by decide +kernel
theorem gX9_transformed_82 {L : List (Option Value)} {a b : Int} {st : List Value} {H : HP} {Q : Option Value → HP → Prop} : Go 143 82 L (vl b :: vl a :: st) H Q ↔ Go 143 83 L (vl (a * b) :: st) H Q := G_lmul fX9_transformed_82
theorem fX9_transformed_83 : ft 143 83 = some (.lload_n 3, 0, 0, 0, .null) := by decide +kernel
theorem gX9_transformed_83 {l0 l1 l2 l5 l6 l7 l8 l9 l10 l11 l12 l13 l14 l15 : Option Value} {u : Int64} {st : List Value} {H : HP} {Q : Option Value → HP → Prop} : Go 143 83 [l0, l1, l2, some (.long u), none, l5, l6, l7, l8, l9, l10, l11, l12, l13, l14, l15] st H Q ↔ Go 143 84 [l0, l1, l2, some (.long u), none, l5, l6, l7, l8, l9, l10, l11, l12, l13, l14, l15] (.long u :: st) H Q := G_lload_n fX9_transformed_83 rfl
theorem fX9_transformed_84 : ft 143 84 = some (.lrem, 0, 0, 0, .null) := by decide +kernel
theorem gX9_transformed_84 {L : List (Option Value)} {a b : Int} (c : -9223372036854775808 ≤ a ∧ a ≤ 9223372036854775807 ∧ -9223372036854775808 ≤ b ∧ b ≤ 9223372036854775807 ∧ ¬ b = 0) {st : List Value} {H : HP} {Q : Option Value → HP → Prop} : Go 143 84 L (vl b :: vl a :: st) H Q ↔ Go 143 85 L (vl (a.tmod b) :: st) H Q := G_lrem fX9_transformed_84 c
theorem fX9_transformed_85 : ft 143 85 = some (.lstore 11, 0, 0, 0, .null) := by decide +kernel
theorem gX9_transformed_85 {l0 l1 l2 l3 l4 l5 l6 l7 l8 l9 l10 l11 l12 l13 l14 l15 : Option Value} {u : Int64} {st : List Value} {H : HP} {Q : Option Value → HP → Prop} : Go 143 85 [l0, l1, l2, l3, l4, l5, l6, l7, l8, l9, l10, l11, l12, l13, l14, l15] (.long u :: st) H Q ↔ Go 143 87 [l0, l1, l2, l3, l4, l5, l6, l7, l8, l9, l10, some (.long u), none, l13, l14, l15] st H Q := G_lstore fX9_transformed_85 rfl
theorem fX9_transformed_87 : ft 143 87 = some (.iinc 15 1, 0, 0, 0, .null) := by decide +kernel
theorem gX9_transformed_87 {l0 l1 l2 l3 l4 l5 l6 l7 l8 l9 l10 l11 l12 l13 l14 : Option Value} {a : Int} {st : List Value} {H : HP} {Q : Option Value → HP → Prop} : Go 143 87 [l0, l1, l2, l3, l4, l5, l6, l7, l8, l9, l10, l11, l12, l13, l14, some (vi a)] st H Q ↔ Go 143 90 [l0, l1, l2, l3, l4, l5, l6, l7, l8, l9, l10, l11, l12, l13, l14, some (vi (a + 1))] st H Q := G_iinc fX9_transformed_87 rfl rfl
theorem fX9_transformed_90 : ft 143 90 = some (.goto (-40), 0, 0, 0, .null) := by decide +kernel
theorem gX9_transformed_90 {L : List (Option Value)} {st : List Value} {H : HP} {Q : Option Value → HP → Prop} : Go 143 90 L st H Q ↔ Go 143 50 L st H Q := G_goto fX9_transformed_90 (by decide)
theorem fX9_transformed_93 : ft 143 93 = some (.aload_n 0, 0, 0, 0, .null) := by decide +kernel
theorem gX9_transformed_93 {l1 l2 l3 l4 l5 l6 l7 l8 l9 l10 l11 l12 l13 l14 l15 : Option Value} {u : Nat} {st : List Value} {H : HP} {Q : Option Value → HP → Prop} : Go 143 93 [some (.ref u), l1, l2, l3, l4, l5, l6, l7, l8, l9, l10, l11, l12, l13, l14, l15] st H Q ↔ Go 143 94 [some (.ref u), l1, l2, l3, l4, l5, l6, l7, l8, l9, l10, l11, l12, l13, l14, l15] (.ref u :: st) H Q := G_aload_n fX9_transformed_93 rfl
theorem fX9_transformed_94 : ft 143 94 = some (.getfield 51, 9, 20, 774, .null) := by decide +kernel
theorem gX9_transformed_94 {L : List (Option Value)} {p : Nat} {st : List Value} {H : HP} {Q : Option Value → HP → Prop} : Go 143 94 L (.ref p :: st) H Q ↔ Rd (gF' 9 20 (hget H p)) 143 97 L st H Q := G_getf fX9_transformed_94 ⟨rfl, rfl⟩
theorem fX9_transformed_97 : ft 143 97 = some (.iload 8, 0, 0, 0, .null) := by decide +kernel
theorem gX9_transformed_97 {l0 l1 l2 l3 l4 l5 l6 l7 l9 l10 l11 l12 l13 l14 l15 : Option Value} {u : Int32} {st : List Value} {H : HP} {Q : Option Value → HP → Prop} : Go 143 97 [l0, l1, l2, l3, l4, l5, l6, l7, some (.int u), l9, l10, l11, l12, l13, l14, l15] st H Q ↔ Go 143 99 [l0, l1, l2, l3, l4, l5, l6, l7, some (.int u), l9, l10, l11, l12, l13, l14, l15] (.int u :: st) H Q := G_iload fX9_transformed_97 rfl
theorem fX9_transformed_99 : ft 143 99 = some (.lload 13, 0, 0, 0, .null) := by decide +kernel
theorem gX9_transformed_99 {l0 l1 l2 l3 l4 l5 l6 l7 l8 l9 l10 l11 l12 l15 : Option Value} {u : Int64} {st : List Value} {H : HP} {Q : Option Value → HP → Prop} : Go 143 99 [l0, l1, l2, l3, l4, l5, l6, l7, l8, l9, l10, l11, l12, some (.long u), none, l15] st H Q ↔ Go 143 101 [l0, l1, l2, l3, l4, l5, l6, l7, l8, l9, l10, l11, l12, some (.long u), none, l15] (.long u :: st) H Q := G_lload fX9_transformed_99 rfl
theorem fX9_transformed_101 : ft 143 101 = some (.lastore, 0, 0, 0, .null) := by decide +kernel
theorem gX9_transformed_101 {L : List (Option Value)} {p : Nat} {a : Int} {b : Int} (hp : p ≠ 0) {st : List Value} {H : HP} {Q : Option Value → HP → Prop} : Go 143 101 L (vl b :: vi a :: .ref p :: st) H Q ↔ Wr (sL' (hget H p) a b) p 143 102 L st H Q := G_last fX9_transformed_101 hp
theorem fX9_transformed_102 : ft 143 102 = some (.iinc 8 1, 0, 0, 0, .null) := by decide +kernel
theorem gX9_transformed_102 {l0 l1 l2 l3 l4 l5 l6 l7 l9 l10 l11 l12 l13 l14 l15 : Option Value} {a : Int} {st : List Value} {H : HP} {Q : Option Value → HP → Prop} : Go 143 102 [l0, l1, l2, l3, l4, l5, l6, l7, some (vi a), l9, l10, l11, l12, l13, l14, l15] st H Q ↔ Go 143 105 [l0, l1, l2, l3, l4, l5, l6, l7, some (vi (a + 1)), l9, l10, l11, l12, l13, l14, l15] st H Q := G_iinc fX9_transformed_102 rfl rfl
theorem fX9_transformed_105 : ft 143 105 = some (.goto (-82), 0, 0, 0, .null) := by decide +kernel
theorem gX9_transformed_105 {L : List (Option Value)} {st : List Value} {H : HP} {Q : Option Value → HP → Prop} : Go 143 105 L st H Q ↔ Go 143 23 L st H Q := G_goto fX9_transformed_105 (by decide)
theorem fX9_transformed_108 : ft 143 108 = some (.return_, 0, 0, 0, .null) := by decide +kernel
theorem gX9_transformed_108 {L : List (Option Value)} {H : HP} {Q : Option Value → HP → Prop} : Go 143 108 L [] H Q ↔ Q none H := G_vret fX9_transformed_108 (by decide +kernel)
theorem fX9_transform_0 : ft 144 0 = some (.aload_n 0, 0, 0, 0, .null) := by decide +kernel
theorem gX9_transform_0 {l1 l2 l3 : Option Value} {u : Nat} {st : List Value} {H : HP} {Q : Option Value → HP → Prop} : Go 144 0 [some (.ref u), l1, l2, l3] st H Q ↔ Go 144 1 [some (.ref u), l1, l2, l3] (.ref u :: st) H Q := G_aload_n fX9_transform_0 rfl
theorem fX9_transform_1 : ft 144 1 = some (.iconst 0, 0, 0, 0, .null) := by decide +kernel
theorem gX9_transform_1 {L : List (Option Value)} {st : List Value} {H : HP} {Q : Option Value → HP → Prop} : Go 144 1 L st H Q ↔ Go 144 2 L (vi 0 :: st) H Q := G_iconst fX9_transform_1
theorem fX9_transform_2 : ft 144 2 = some (.putfield 72, 9, 0, 754, .null) := by decide +kernel
theorem gX9_transform_2 {L : List (Option Value)} {p : Nat} {u : Int32} (hp : p ≠ 0) {st : List Value} {H : HP} {Q : Option Value → HP → Prop} : Go 144 2 L (.int u :: .ref p :: st) H Q ↔ Wr (pF' 9 0 (hget H p) (.int u)) p 144 5 L st H Q := G_putf fX9_transform_2 ⟨⟨rfl, rfl⟩, rfl, Or.inl rfl⟩ hp
theorem fX9_transform_5 : ft 144 5 = some (.iload_n 1, 0, 0, 0, .null) := by decide +kernel
theorem gX9_transform_5 {l0 l2 l3 : Option Value} {u : Int32} {st : List Value} {H : HP} {Q : Option Value → HP → Prop} : Go 144 5 [l0, some (.int u), l2, l3] st H Q ↔ Go 144 6 [l0, some (.int u), l2, l3] (.int u :: st) H Q := G_iload_n fX9_transform_5 rfl
theorem fX9_transform_6 : ft 144 6 = some (.invokestatic 85, 119, 0, 841, .null) := by decide +kernel
theorem gX9_transform_6 {L : List (Option Value)} {a0 : Int32}  {H : HP} {Q : Option Value → HP → Prop} : Go 144 6 L (.int a0 :: []) H Q ↔ Go 119 0 [some (.int a0)] [] H (Cont 144 9 L [] Q) := G_cS (n := 1) (N := 1) (as := [.int a0]) (st := []) fX9_transform_6 (by decide +kernel) rfl (Nat.le_of_ble_eq_true rfl) (Nat.le_of_ble_eq_true rfl) rfl
theorem fX9_transform_9 : ft 144 9 = some (.ifCond .eq 10, 0, 0, 0, .null) := by decide +kernel
theorem gX9_transform_9T {L : List (Option Value)} {a : Int} (c : (-2147483648 ≤ a ∧ a ≤ 2147483647) ∧ a = 0) {st : List Value} {H : HP} {Q : Option Value → HP → Prop} : Go 144 9 L (vi a :: st) H Q ↔ Go 144 19 L st H Q := G_ifT fX9_transform_9 (by decide) c
theorem gX9_transform_9F {L : List (Option Value)} {a : Int} (c : (-2147483648 ≤ a ∧ a ≤ 2147483647) ∧ ¬ (a = 0)) {st : List Value} {H : HP} {Q : Option Value → HP → Prop} : Go 144 9 L (vi a :: st) H Q ↔ Go 144 12 L st H Q := G_ifF (tg := 19) fX9_transform_9 (by decide) c
theorem fX9_transform_12 : ft 144 12 = some (.iload_n 2, 0, 0, 0, .null) := by decide +kernel
theorem gX9_transform_12 {l0 l1 l3 : Option Value} {u : Int32} {st : List Value} {H : HP} {Q : Option Value → HP → Prop} : Go 144 12 [l0, l1, some (.int u), l3] st H Q ↔ Go 144 13 [l0, l1, some (.int u), l3] (.int u :: st) H Q := G_iload_n fX9_transform_12 rfl
theorem fX9_transform_13 : ft 144 13 = some (.invokestatic 137, 120, 0, 912, .null) := by decide +kernel
theorem gX9_transform_13 {L : List (Option Value)} {a0 : Int32}  {H : HP} {Q : Option Value → HP → Prop} : Go 144 13 L (.int a0 :: []) H Q ↔ Go 120 0 [some (.int a0)] [] H (Cont 144 16 L [] Q) := G_cS (n := 1) (N := 1) (as := [.int a0]) (st := []) fX9_transform_13 (by decide +kernel) rfl (Nat.le_of_ble_eq_true rfl) (Nat.le_of_ble_eq_true rfl) rfl
theorem fX9_transform_16 : ft 144 16 = some (.ifCond .ne 5, 0, 0, 0, .null) := by decide +kernel
theorem gX9_transform_16T {L : List (Option Value)} {a : Int} (c : (-2147483648 ≤ a ∧ a ≤ 2147483647) ∧ ¬ a = 0) {st : List Value} {H : HP} {Q : Option Value → HP → Prop} : Go 144 16 L (vi a :: st) H Q ↔ Go 144 21 L st H Q := G_ifT fX9_transform_16 (by decide) c
theorem gX9_transform_16F {L : List (Option Value)} {a : Int} (c : (-2147483648 ≤ a ∧ a ≤ 2147483647) ∧ ¬ (¬ a = 0)) {st : List Value} {H : HP} {Q : Option Value → HP → Prop} : Go 144 16 L (vi a :: st) H Q ↔ Go 144 19 L st H Q := G_ifF (tg := 21) fX9_transform_16 (by decide) c
theorem fX9_transform_19 : ft 144 19 = some (.iconst (-1), 0, 0, 0, .null) := by decide +kernel
theorem gX9_transform_19 {L : List (Option Value)} {st : List Value} {H : HP} {Q : Option Value → HP → Prop} : Go 144 19 L st H Q ↔ Go 144 20 L (vi (-1) :: st) H Q := G_iconst fX9_transform_19
theorem fX9_transform_20 : ft 144 20 = some (.ireturn, 0, 0, 0, .null) := by decide +kernel
theorem gX9_transform_20 {L : List (Option Value)} {u : Int32} {H : HP} {Q : Option Value → HP → Prop} : Go 144 20 L [.int u] H Q ↔ Q (some (.int u)) H := G_iret fX9_transform_20 (by decide +kernel)
theorem fX9_transform_21 : ft 144 21 = some (.aload_n 0, 0, 0, 0, .null) := by decide +kernel
theorem gX9_transform_21 {l1 l2 l3 : Option Value} {u : Nat} {st : List Value} {H : HP} {Q : Option Value → HP → Prop} : Go 144 21 [some (.ref u), l1, l2, l3] st H Q ↔ Go 144 22 [some (.ref u), l1, l2, l3] (.ref u :: st) H Q := G_aload_n fX9_transform_21 rfl
theorem fX9_transform_22 : ft 144 22 = some (.getfield 9, 9, 1, 755, .null) := by decide +kernel
theorem gX9_transform_22 {L : List (Option Value)} {p : Nat} {st : List Value} {H : HP} {Q : Option Value → HP → Prop} : Go 144 22 L (.ref p :: st) H Q ↔ Rd (gF' 9 1 (hget H p)) 144 25 L st H Q := G_getf fX9_transform_22 ⟨rfl, rfl⟩
theorem fX9_transform_25 : ft 144 25 = some (.iload_n 1, 0, 0, 0, .null) := by decide +kernel
theorem gX9_transform_25 {l0 l2 l3 : Option Value} {u : Int32} {st : List Value} {H : HP} {Q : Option Value → HP → Prop} : Go 144 25 [l0, some (.int u), l2, l3] st H Q ↔ Go 144 26 [l0, some (.int u), l2, l3] (.int u :: st) H Q := G_iload_n fX9_transform_25 rfl
theorem fX9_transform_26 : ft 144 26 = some (.iaload, 0, 0, 0, .null) := by decide +kernel
theorem gX9_transform_26 {L : List (Option Value)} {p : Nat} {a : Int} {st : List Value} {H : HP} {Q : Option Value → HP → Prop} : Go 144 26 L (vi a :: .ref p :: st) H Q ↔ Rd (aJ' (hget H p) a) 144 27 L st H Q := G_iald fX9_transform_26
theorem fX9_transform_27 : ft 144 27 = some (.bipush (-9), 0, 0, 0, .null) := by decide +kernel
theorem gX9_transform_27 {L : List (Option Value)} {st : List Value} {H : HP} {Q : Option Value → HP → Prop} : Go 144 27 L st H Q ↔ Go 144 29 L (vi (-9) :: st) H Q := G_bipush fX9_transform_27 (by decide)
theorem fX9_transform_29 : ft 144 29 = some (.if_icmp .ne 9, 0, 0, 0, .null) := by decide +kernel
theorem gX9_transform_29T {L : List (Option Value)} {a b : Int} (c : (-2147483648 ≤ a ∧ a ≤ 2147483647 ∧ -2147483648 ≤ b ∧ b ≤ 2147483647) ∧ ¬ a = b) {st : List Value} {H : HP} {Q : Option Value → HP → Prop} : Go 144 29 L (vi b :: vi a :: st) H Q ↔ Go 144 38 L st H Q := G_icT fX9_transform_29 (by decide) c
theorem gX9_transform_29F {L : List (Option Value)} {a b : Int} (c : (-2147483648 ≤ a ∧ a ≤ 2147483647 ∧ -2147483648 ≤ b ∧ b ≤ 2147483647) ∧ ¬ (¬ a = b)) {st : List Value} {H : HP} {Q : Option Value → HP → Prop} : Go 144 29 L (vi b :: vi a :: st) H Q ↔ Go 144 32 L st H Q := G_icF (tg := 38) fX9_transform_29 (by decide) c
theorem fX9_transform_32 : ft 144 32 = some (.aload_n 0, 0, 0, 0, .null) := by decide +kernel
theorem gX9_transform_32 {l1 l2 l3 : Option Value} {u : Nat} {st : List Value} {H : HP} {Q : Option Value → HP → Prop} : Go 144 32 [some (.ref u), l1, l2, l3] st H Q ↔ Go 144 33 [some (.ref u), l1, l2, l3] (.ref u :: st) H Q := G_aload_n fX9_transform_32 rfl
theorem fX9_transform_33 : ft 144 33 = some (.iconst 1, 0, 0, 0, .null) := by decide +kernel
theorem gX9_transform_33 {L : List (Option Value)} {st : List Value} {H : HP} {Q : Option Value → HP → Prop} : Go 144 33 L st H Q ↔ Go 144 34 L (vi 1 :: st) H Q := G_iconst fX9_transform_33
theorem fX9_transform_34 : ft 144 34 = some (.invokevirtual 89, 117, 0, 847, .null) := by decide +kernel
theorem gX9_transform_34 {L : List (Option Value)} {p : Nat} {a0 : Int32}  {H : HP} {Q : Option Value → HP → Prop} : Go 144 34 L (.int a0 :: .ref p :: []) H Q ↔ (iso 9 (hget H p) = true ∧ Go 117 0 [some (.ref p), some (.int a0)] [] H (Cont 144 37 L [] Q)) := G_cV (n := 1) (N := 2) (as := [.int a0]) (st := []) fX9_transform_34 (by decide +kernel) rfl (Nat.le_of_ble_eq_true rfl) (Nat.le_of_ble_eq_true rfl) rfl
theorem fX9_transform_37 : ft 144 37 = some (.ireturn, 0, 0, 0, .null) := by decide +kernel
theorem gX9_transform_37 {L : List (Option Value)} {u : Int32} {H : HP} {Q : Option Value → HP → Prop} : Go 144 37 L [.int u] H Q ↔ Q (some (.int u)) H := G_iret fX9_transform_37 (by decide +kernel)
theorem fX9_transform_38 : ft 144 38 = some (.aload_n 0, 0, 0, 0, .null) := by decide +kernel
theorem gX9_transform_38 {l1 l2 l3 : Option Value} {u : Nat} {st : List Value} {H : HP} {Q : Option Value → HP → Prop} : Go 144 38 [some (.ref u), l1, l2, l3] st H Q ↔ Go 144 39 [some (.ref u), l1, l2, l3] (.ref u :: st) H Q := G_aload_n fX9_transform_38 rfl
theorem fX9_transform_39 : ft 144 39 = some (.iload_n 1, 0, 0, 0, .null) := by decide +kernel
theorem gX9_transform_39 {l0 l2 l3 : Option Value} {u : Int32} {st : List Value} {H : HP} {Q : Option Value → HP → Prop} : Go 144 39 [l0, some (.int u), l2, l3] st H Q ↔ Go 144 40 [l0, some (.int u), l2, l3] (.int u :: st) H Q := G_iload_n fX9_transform_39 rfl
theorem fX9_transform_40 : ft 144 40 = some (.invokevirtual 97, 125, 0, 863, .null) := by decide +kernel
theorem gX9_transform_40 {L : List (Option Value)} {p : Nat} {a0 : Int32}  {H : HP} {Q : Option Value → HP → Prop} : Go 144 40 L (.int a0 :: .ref p :: []) H Q ↔ (iso 9 (hget H p) = true ∧ Go 125 0 [some (.ref p), some (.int a0)] [] H (Cont 144 43 L [] Q)) := G_cV (n := 1) (N := 2) (as := [.int a0]) (st := []) fX9_transform_40 (by decide +kernel) rfl (Nat.le_of_ble_eq_true rfl) (Nat.le_of_ble_eq_true rfl) rfl
theorem fX9_transform_43 : ft 144 43 = some (.iconst 4, 0, 0, 0, .null) := by decide +kernel
theorem gX9_transform_43 {L : List (Option Value)} {st : List Value} {H : HP} {Q : Option Value → HP → Prop} : Go 144 43 L st H Q ↔ Go 144 44 L (vi 4 :: st) H Q := G_iconst fX9_transform_43
theorem fX9_transform_44 : ft 144 44 = some (.if_icmp .ne 9, 0, 0, 0, .null) := by decide +kernel
theorem gX9_transform_44T {L : List (Option Value)} {a b : Int} (c : (-2147483648 ≤ a ∧ a ≤ 2147483647 ∧ -2147483648 ≤ b ∧ b ≤ 2147483647) ∧ ¬ a = b) {st : List Value} {H : HP} {Q : Option Value → HP → Prop} : Go 144 44 L (vi b :: vi a :: st) H Q ↔ Go 144 53 L st H Q := G_icT fX9_transform_44 (by decide) c
theorem gX9_transform_44F {L : List (Option Value)} {a b : Int} (c : (-2147483648 ≤ a ∧ a ≤ 2147483647 ∧ -2147483648 ≤ b ∧ b ≤ 2147483647) ∧ ¬ (¬ a = b)) {st : List Value} {H : HP} {Q : Option Value → HP → Prop} : Go 144 44 L (vi b :: vi a :: st) H Q ↔ Go 144 47 L st H Q := G_icF (tg := 53) fX9_transform_44 (by decide) c
theorem fX9_transform_47 : ft 144 47 = some (.aload_n 0, 0, 0, 0, .null) := by decide +kernel
theorem gX9_transform_47 {l1 l2 l3 : Option Value} {u : Nat} {st : List Value} {H : HP} {Q : Option Value → HP → Prop} : Go 144 47 [some (.ref u), l1, l2, l3] st H Q ↔ Go 144 48 [some (.ref u), l1, l2, l3] (.ref u :: st) H Q := G_aload_n fX9_transform_47 rfl
theorem fX9_transform_48 : ft 144 48 = some (.iconst 2, 0, 0, 0, .null) := by decide +kernel
theorem gX9_transform_48 {L : List (Option Value)} {st : List Value} {H : HP} {Q : Option Value → HP → Prop} : Go 144 48 L st H Q ↔ Go 144 49 L (vi 2 :: st) H Q := G_iconst fX9_transform_48
theorem fX9_transform_49 : ft 144 49 = some (.invokevirtual 89, 117, 0, 847, .null) := by decide +kernel
theorem gX9_transform_49 {L : List (Option Value)} {p : Nat} {a0 : Int32}  {H : HP} {Q : Option Value → HP → Prop} : Go 144 49 L (.int a0 :: .ref p :: []) H Q ↔ (iso 9 (hget H p) = true ∧ Go 117 0 [some (.ref p), some (.int a0)] [] H (Cont 144 52 L [] Q)) := G_cV (n := 1) (N := 2) (as := [.int a0]) (st := []) fX9_transform_49 (by decide +kernel) rfl (Nat.le_of_ble_eq_true rfl) (Nat.le_of_ble_eq_true rfl) rfl
theorem fX9_transform_52 : ft 144 52 = some (.ireturn, 0, 0, 0, .null) := by decide +kernel
theorem gX9_transform_52 {L : List (Option Value)} {u : Int32} {H : HP} {Q : Option Value → HP → Prop} : Go 144 52 L [.int u] H Q ↔ Q (some (.int u)) H := G_iret fX9_transform_52 (by decide +kernel)
theorem fX9_transform_53 : ft 144 53 = some (.iload_n 2, 0, 0, 0, .null) := by decide +kernel
theorem gX9_transform_53 {l0 l1 l3 : Option Value} {u : Int32} {st : List Value} {H : HP} {Q : Option Value → HP → Prop} : Go 144 53 [l0, l1, some (.int u), l3] st H Q ↔ Go 144 54 [l0, l1, some (.int u), l3] (.int u :: st) H Q := G_iload_n fX9_transform_53 rfl
theorem fX9_transform_54 : ft 144 54 = some (.aload_n 0, 0, 0, 0, .null) := by decide +kernel
theorem gX9_transform_54 {l1 l2 l3 : Option Value} {u : Nat} {st : List Value} {H : HP} {Q : Option Value → HP → Prop} : Go 144 54 [some (.ref u), l1, l2, l3] st H Q ↔ Go 144 55 [some (.ref u), l1, l2, l3] (.ref u :: st) H Q := G_aload_n fX9_transform_54 rfl
theorem fX9_transform_55 : ft 144 55 = some (.iload_n 1, 0, 0, 0, .null) := by decide +kernel
theorem gX9_transform_55 {l0 l2 l3 : Option Value} {u : Int32} {st : List Value} {H : HP} {Q : Option Value → HP → Prop} : Go 144 55 [l0, some (.int u), l2, l3] st H Q ↔ Go 144 56 [l0, some (.int u), l2, l3] (.int u :: st) H Q := G_iload_n fX9_transform_55 rfl
theorem fX9_transform_56 : ft 144 56 = some (.invokevirtual 100, 124, 0, 867, .null) := by decide +kernel
theorem gX9_transform_56 {L : List (Option Value)} {p : Nat} {a0 : Int32} {r0 : Int32} {H : HP} {Q : Option Value → HP → Prop} : Go 144 56 L (.int a0 :: .ref p :: [.int r0]) H Q ↔ (iso 9 (hget H p) = true ∧ Go 124 0 [some (.ref p), some (.int a0)] [] H (Cont 144 59 L [.int r0] Q)) := G_cV (n := 1) (N := 2) (as := [.int a0]) (st := [.int r0]) fX9_transform_56 (by decide +kernel) rfl (Nat.le_of_ble_eq_true rfl) (Nat.le_of_ble_eq_true rfl) rfl
theorem fX9_transform_59 : ft 144 59 = some (.invokestatic 140, 141, 0, 915, .null) := by decide +kernel
theorem gX9_transform_59 {L : List (Option Value)} {a0 : Int32} {a1 : Int32}  {H : HP} {Q : Option Value → HP → Prop} : Go 144 59 L (.int a1 :: .int a0 :: []) H Q ↔ Go 141 0 [some (.int a0), some (.int a1)] [] H (Cont 144 62 L [] Q) := G_cS (n := 2) (N := 2) (as := [.int a1, .int a0]) (st := []) fX9_transform_59 (by decide +kernel) rfl (Nat.le_of_ble_eq_true rfl) (Nat.le_of_ble_eq_true rfl) rfl
theorem fX9_transform_62 : ft 144 62 = some (.ifCond .ne 6, 0, 0, 0, .null) := by decide +kernel
theorem gX9_transform_62T {L : List (Option Value)} {a : Int} (c : (-2147483648 ≤ a ∧ a ≤ 2147483647) ∧ ¬ a = 0) {st : List Value} {H : HP} {Q : Option Value → HP → Prop} : Go 144 62 L (vi a :: st) H Q ↔ Go 144 68 L st H Q := G_ifT fX9_transform_62 (by decide) c
theorem gX9_transform_62F {L : List (Option Value)} {a : Int} (c : (-2147483648 ≤ a ∧ a ≤ 2147483647) ∧ ¬ (¬ a = 0)) {st : List Value} {H : HP} {Q : Option Value → HP → Prop} : Go 144 62 L (vi a :: st) H Q ↔ Go 144 65 L st H Q := G_ifF (tg := 68) fX9_transform_62 (by decide) c
theorem fX9_transform_65 : ft 144 65 = some (.bipush (-3), 0, 0, 0, .null) := by decide +kernel
theorem gX9_transform_65 {L : List (Option Value)} {st : List Value} {H : HP} {Q : Option Value → HP → Prop} : Go 144 65 L st H Q ↔ Go 144 67 L (vi (-3) :: st) H Q := G_bipush fX9_transform_65 (by decide)
theorem fX9_transform_67 : ft 144 67 = some (.ireturn, 0, 0, 0, .null) := by decide +kernel
theorem gX9_transform_67 {L : List (Option Value)} {u : Int32} {H : HP} {Q : Option Value → HP → Prop} : Go 144 67 L [.int u] H Q ↔ Q (some (.int u)) H := G_iret fX9_transform_67 (by decide +kernel)
theorem fX9_transform_68 : ft 144 68 = some (.aload_n 0, 0, 0, 0, .null) := by decide +kernel
theorem gX9_transform_68 {l1 l2 l3 : Option Value} {u : Nat} {st : List Value} {H : HP} {Q : Option Value → HP → Prop} : Go 144 68 [some (.ref u), l1, l2, l3] st H Q ↔ Go 144 69 [some (.ref u), l1, l2, l3] (.ref u :: st) H Q := G_aload_n fX9_transform_68 rfl
theorem fX9_transform_69 : ft 144 69 = some (.iload_n 1, 0, 0, 0, .null) := by decide +kernel
theorem gX9_transform_69 {l0 l2 l3 : Option Value} {u : Int32} {st : List Value} {H : HP} {Q : Option Value → HP → Prop} : Go 144 69 [l0, some (.int u), l2, l3] st H Q ↔ Go 144 70 [l0, some (.int u), l2, l3] (.int u :: st) H Q := G_iload_n fX9_transform_69 rfl
theorem fX9_transform_70 : ft 144 70 = some (.iload_n 2, 0, 0, 0, .null) := by decide +kernel
theorem gX9_transform_70 {l0 l1 l3 : Option Value} {u : Int32} {st : List Value} {H : HP} {Q : Option Value → HP → Prop} : Go 144 70 [l0, l1, some (.int u), l3] st H Q ↔ Go 144 71 [l0, l1, some (.int u), l3] (.int u :: st) H Q := G_iload_n fX9_transform_70 rfl
theorem fX9_transform_71 : ft 144 71 = some (.invokevirtual 151, 143, 0, 936, .null) := by decide +kernel
theorem gX9_transform_71 {L : List (Option Value)} {p : Nat} {a0 : Int32} {a1 : Int32}  {H : HP} {Q : Option Value → HP → Prop} : Go 144 71 L (.int a1 :: .int a0 :: .ref p :: []) H Q ↔ (iso 9 (hget H p) = true ∧ Go 143 0 [some (.ref p), some (.int a0), some (.int a1), none, none, none, none, none, none, none, none, none, none, none, none, none] [] H (Cont 144 74 L [] Q)) := G_cV (n := 2) (N := 16) (as := [.int a1, .int a0]) (st := []) fX9_transform_71 (by decide +kernel) rfl (Nat.le_of_ble_eq_true rfl) (Nat.le_of_ble_eq_true rfl) rfl
theorem fX9_transform_74 : ft 144 74 = some (.aload_n 0, 0, 0, 0, .null) := by decide +kernel
theorem gX9_transform_74 {l1 l2 l3 : Option Value} {u : Nat} {st : List Value} {H : HP} {Q : Option Value → HP → Prop} : Go 144 74 [some (.ref u), l1, l2, l3] st H Q ↔ Go 144 75 [some (.ref u), l1, l2, l3] (.ref u :: st) H Q := G_aload_n fX9_transform_74 rfl
theorem fX9_transform_75 : ft 144 75 = some (.aload_n 0, 0, 0, 0, .null) := by decide +kernel
theorem gX9_transform_75 {l1 l2 l3 : Option Value} {u : Nat} {st : List Value} {H : HP} {Q : Option Value → HP → Prop} : Go 144 75 [some (.ref u), l1, l2, l3] st H Q ↔ Go 144 76 [some (.ref u), l1, l2, l3] (.ref u :: st) H Q := G_aload_n fX9_transform_75 rfl
theorem fX9_transform_76 : ft 144 76 = some (.iload_n 1, 0, 0, 0, .null) := by decide +kernel
theorem gX9_transform_76 {l0 l2 l3 : Option Value} {u : Int32} {st : List Value} {H : HP} {Q : Option Value → HP → Prop} : Go 144 76 [l0, some (.int u), l2, l3] st H Q ↔ Go 144 77 [l0, some (.int u), l2, l3] (.int u :: st) H Q := G_iload_n fX9_transform_76 rfl
theorem fX9_transform_77 : ft 144 77 = some (.invokevirtual 100, 124, 0, 867, .null) := by decide +kernel
theorem gX9_transform_77 {L : List (Option Value)} {p : Nat} {a0 : Int32} {r0 : Nat} {H : HP} {Q : Option Value → HP → Prop} : Go 144 77 L (.int a0 :: .ref p :: [.ref r0]) H Q ↔ (iso 9 (hget H p) = true ∧ Go 124 0 [some (.ref p), some (.int a0)] [] H (Cont 144 80 L [.ref r0] Q)) := G_cV (n := 1) (N := 2) (as := [.int a0]) (st := [.ref r0]) fX9_transform_77 (by decide +kernel) rfl (Nat.le_of_ble_eq_true rfl) (Nat.le_of_ble_eq_true rfl) rfl
theorem fX9_transform_80 : ft 144 80 = some (.putfield 155, 9, 5, 759, .null) := by decide +kernel
theorem gX9_transform_80 {L : List (Option Value)} {p : Nat} {u : Int32} (hp : p ≠ 0) {st : List Value} {H : HP} {Q : Option Value → HP → Prop} : Go 144 80 L (.int u :: .ref p :: st) H Q ↔ Wr (pF' 9 5 (hget H p) (.int u)) p 144 83 L st H Q := G_putf fX9_transform_80 ⟨⟨rfl, rfl⟩, rfl, Or.inl rfl⟩ hp
theorem fX9_transform_83 : ft 144 83 = some (.aload_n 0, 0, 0, 0, .null) := by decide +kernel
theorem gX9_transform_83 {l1 l2 l3 : Option Value} {u : Nat} {st : List Value} {H : HP} {Q : Option Value → HP → Prop} : Go 144 83 [some (.ref u), l1, l2, l3] st H Q ↔ Go 144 84 [some (.ref u), l1, l2, l3] (.ref u :: st) H Q := G_aload_n fX9_transform_83 rfl
theorem fX9_transform_84 : ft 144 84 = some (.iload_n 2, 0, 0, 0, .null) := by decide +kernel
theorem gX9_transform_84 {l0 l1 l3 : Option Value} {u : Int32} {st : List Value} {H : HP} {Q : Option Value → HP → Prop} : Go 144 84 [l0, l1, some (.int u), l3] st H Q ↔ Go 144 85 [l0, l1, some (.int u), l3] (.int u :: st) H Q := G_iload_n fX9_transform_84 rfl
theorem fX9_transform_85 : ft 144 85 = some (.putfield 23, 9, 6, 760, .null) := by decide +kernel
theorem gX9_transform_85 {L : List (Option Value)} {p : Nat} {u : Int32} (hp : p ≠ 0) {st : List Value} {H : HP} {Q : Option Value → HP → Prop} : Go 144 85 L (.int u :: .ref p :: st) H Q ↔ Wr (pF' 9 6 (hget H p) (.int u)) p 144 88 L st H Q := G_putf fX9_transform_85 ⟨⟨rfl, rfl⟩, rfl, Or.inl rfl⟩ hp
theorem fX9_transform_88 : ft 144 88 = some (.iconst 0, 0, 0, 0, .null) := by decide +kernel
theorem gX9_transform_88 {L : List (Option Value)} {st : List Value} {H : HP} {Q : Option Value → HP → Prop} : Go 144 88 L st H Q ↔ Go 144 89 L (vi 0 :: st) H Q := G_iconst fX9_transform_88
theorem fX9_transform_89 : ft 144 89 = some (.istore_n 3, 0, 0, 0, .null) := by decide +kernel
theorem gX9_transform_89 {l0 l1 l2 l3 : Option Value} {u : Int32} {st : List Value} {H : HP} {Q : Option Value → HP → Prop} : Go 144 89 [l0, l1, l2, l3] (.int u :: st) H Q ↔ Go 144 90 [l0, l1, l2, some (.int u)] st H Q := G_istore_n fX9_transform_89 rfl
theorem fX9_transform_90 : ft 144 90 = some (.iload_n 3, 0, 0, 0, .null) := by decide +kernel
theorem gX9_transform_90 {l0 l1 l2 : Option Value} {u : Int32} {st : List Value} {H : HP} {Q : Option Value → HP → Prop} : Go 144 90 [l0, l1, l2, some (.int u)] st H Q ↔ Go 144 91 [l0, l1, l2, some (.int u)] (.int u :: st) H Q := G_iload_n fX9_transform_90 rfl
theorem fX9_transform_91 : ft 144 91 = some (.aload_n 0, 0, 0, 0, .null) := by decide +kernel
theorem gX9_transform_91 {l1 l2 l3 : Option Value} {u : Nat} {st : List Value} {H : HP} {Q : Option Value → HP → Prop} : Go 144 91 [some (.ref u), l1, l2, l3] st H Q ↔ Go 144 92 [some (.ref u), l1, l2, l3] (.ref u :: st) H Q := G_aload_n fX9_transform_91 rfl
theorem fX9_transform_92 : ft 144 92 = some (.getfield 155, 9, 5, 759, .null) := by decide +kernel
theorem gX9_transform_92 {L : List (Option Value)} {p : Nat} {st : List Value} {H : HP} {Q : Option Value → HP → Prop} : Go 144 92 L (.ref p :: st) H Q ↔ Rd (gF' 9 5 (hget H p)) 144 95 L st H Q := G_getf fX9_transform_92 ⟨rfl, rfl⟩
theorem fX9_transform_95 : ft 144 95 = some (.if_icmp .ge 21, 0, 0, 0, .null) := by decide +kernel
theorem gX9_transform_95T {L : List (Option Value)} {a b : Int} (c : (-2147483648 ≤ a ∧ a ≤ 2147483647 ∧ -2147483648 ≤ b ∧ b ≤ 2147483647) ∧ b ≤ a) {st : List Value} {H : HP} {Q : Option Value → HP → Prop} : Go 144 95 L (vi b :: vi a :: st) H Q ↔ Go 144 116 L st H Q := G_icT fX9_transform_95 (by decide) c
theorem gX9_transform_95F {L : List (Option Value)} {a b : Int} (c : (-2147483648 ≤ a ∧ a ≤ 2147483647 ∧ -2147483648 ≤ b ∧ b ≤ 2147483647) ∧ ¬ (b ≤ a)) {st : List Value} {H : HP} {Q : Option Value → HP → Prop} : Go 144 95 L (vi b :: vi a :: st) H Q ↔ Go 144 98 L st H Q := G_icF (tg := 116) fX9_transform_95 (by decide) c
theorem fX9_transform_98 : ft 144 98 = some (.aload_n 0, 0, 0, 0, .null) := by decide +kernel
theorem gX9_transform_98 {l1 l2 l3 : Option Value} {u : Nat} {st : List Value} {H : HP} {Q : Option Value → HP → Prop} : Go 144 98 [some (.ref u), l1, l2, l3] st H Q ↔ Go 144 99 [some (.ref u), l1, l2, l3] (.ref u :: st) H Q := G_aload_n fX9_transform_98 rfl
theorem fX9_transform_99 : ft 144 99 = some (.getfield 27, 9, 7, 761, .null) := by decide +kernel
theorem gX9_transform_99 {L : List (Option Value)} {p : Nat} {st : List Value} {H : HP} {Q : Option Value → HP → Prop} : Go 144 99 L (.ref p :: st) H Q ↔ Rd (gF' 9 7 (hget H p)) 144 102 L st H Q := G_getf fX9_transform_99 ⟨rfl, rfl⟩
theorem fX9_transform_102 : ft 144 102 = some (.iload_n 3, 0, 0, 0, .null) := by decide +kernel
theorem gX9_transform_102 {l0 l1 l2 : Option Value} {u : Int32} {st : List Value} {H : HP} {Q : Option Value → HP → Prop} : Go 144 102 [l0, l1, l2, some (.int u)] st H Q ↔ Go 144 103 [l0, l1, l2, some (.int u)] (.int u :: st) H Q := G_iload_n fX9_transform_102 rfl
theorem fX9_transform_103 : ft 144 103 = some (.aload_n 0, 0, 0, 0, .null) := by decide +kernel
theorem gX9_transform_103 {l1 l2 l3 : Option Value} {u : Nat} {st : List Value} {H : HP} {Q : Option Value → HP → Prop} : Go 144 103 [some (.ref u), l1, l2, l3] st H Q ↔ Go 144 104 [some (.ref u), l1, l2, l3] (.ref u :: st) H Q := G_aload_n fX9_transform_103 rfl
theorem fX9_transform_104 : ft 144 104 = some (.getfield 51, 9, 20, 774, .null) := by decide +kernel
theorem gX9_transform_104 {L : List (Option Value)} {p : Nat} {st : List Value} {H : HP} {Q : Option Value → HP → Prop} : Go 144 104 L (.ref p :: st) H Q ↔ Rd (gF' 9 20 (hget H p)) 144 107 L st H Q := G_getf fX9_transform_104 ⟨rfl, rfl⟩
theorem fX9_transform_107 : ft 144 107 = some (.iload_n 3, 0, 0, 0, .null) := by decide +kernel
theorem gX9_transform_107 {l0 l1 l2 : Option Value} {u : Int32} {st : List Value} {H : HP} {Q : Option Value → HP → Prop} : Go 144 107 [l0, l1, l2, some (.int u)] st H Q ↔ Go 144 108 [l0, l1, l2, some (.int u)] (.int u :: st) H Q := G_iload_n fX9_transform_107 rfl
theorem fX9_transform_108 : ft 144 108 = some (.laload, 0, 0, 0, .null) := by decide +kernel
theorem gX9_transform_108 {L : List (Option Value)} {p : Nat} {a : Int} {st : List Value} {H : HP} {Q : Option Value → HP → Prop} : Go 144 108 L (vi a :: .ref p :: st) H Q ↔ Rd (aL' (hget H p) a) 144 109 L st H Q := G_lald fX9_transform_108
theorem fX9_transform_109 : ft 144 109 = some (.lastore, 0, 0, 0, .null) := by decide +kernel
theorem gX9_transform_109 {L : List (Option Value)} {p : Nat} {a : Int} {b : Int} (hp : p ≠ 0) {st : List Value} {H : HP} {Q : Option Value → HP → Prop} : Go 144 109 L (vl b :: vi a :: .ref p :: st) H Q ↔ Wr (sL' (hget H p) a b) p 144 110 L st H Q := G_last fX9_transform_109 hp
theorem fX9_transform_110 : ft 144 110 = some (.iinc 3 1, 0, 0, 0, .null) := by decide +kernel
theorem gX9_transform_110 {l0 l1 l2 : Option Value} {a : Int} {st : List Value} {H : HP} {Q : Option Value → HP → Prop} : Go 144 110 [l0, l1, l2, some (vi a)] st H Q ↔ Go 144 113 [l0, l1, l2, some (vi (a + 1))] st H Q := G_iinc fX9_transform_110 rfl rfl
theorem fX9_transform_113 : ft 144 113 = some (.goto (-23), 0, 0, 0, .null) := by decide +kernel
theorem gX9_transform_113 {L : List (Option Value)} {st : List Value} {H : HP} {Q : Option Value → HP → Prop} : Go 144 113 L st H Q ↔ Go 144 90 L st H Q := G_goto fX9_transform_113 (by decide)
theorem fX9_transform_116 : ft 144 116 = some (.aload_n 0, 0, 0, 0, .null) := by decide +kernel
theorem gX9_transform_116 {l1 l2 l3 : Option Value} {u : Nat} {st : List Value} {H : HP} {Q : Option Value → HP → Prop} : Go 144 116 [some (.ref u), l1, l2, l3] st H Q ↔ Go 144 117 [some (.ref u), l1, l2, l3] (.ref u :: st) H Q := G_aload_n fX9_transform_116 rfl
theorem fX9_transform_117 : ft 144 117 = some (.getfield 155, 9, 5, 759, .null) := by decide +kernel
theorem gX9_transform_117 {L : List (Option Value)} {p : Nat} {st : List Value} {H : HP} {Q : Option Value → HP → Prop} : Go 144 117 L (.ref p :: st) H Q ↔ Rd (gF' 9 5 (hget H p)) 144 120 L st H Q := G_getf fX9_transform_117 ⟨rfl, rfl⟩
theorem fX9_transform_120 : ft 144 120 = some (.ireturn, 0, 0, 0, .null) := by decide +kernel
theorem gX9_transform_120 {L : List (Option Value)} {u : Int32} {H : HP} {Q : Option Value → HP → Prop} : Go 144 120 L [.int u] H Q ↔ Q (some (.int u)) H := G_iret fX9_transform_120 (by decide +kernel)
theorem fX9_times_0 : ft 145 0 = some (.aload_n 0, 0, 0, 0, .null) := by decide +kernel
theorem gX9_times_0 {l1 l2 : Option Value} {u : Nat} {st : List Value} {H : HP} {Q : Option Value → HP → Prop} : Go 145 0 [some (.ref u), l1, l2] st H Q ↔ Go 145 1 [some (.ref u), l1, l2] (.ref u :: st) H Q := G_aload_n fX9_times_0 rfl
theorem fX9_times_1 : ft 145 1 = some (.iconst 0, 0, 0, 0, .null) := by decide +kernel
theorem gX9_times_1 {L : List (Option Value)} {st : List Value} {H : HP} {Q : Option Value → HP → Prop} : Go 145 1 L st H Q ↔ Go 145 2 L (vi 0 :: st) H Q := G_iconst fX9_times_1
theorem fX9_times_2 : ft 145 2 = some (.putfield 72, 9, 0, 754, .null) := by decide +kernel
theorem gX9_times_2 {L : List (Option Value)} {p : Nat} {u : Int32} (hp : p ≠ 0) {st : List Value} {H : HP} {Q : Option Value → HP → Prop} : Go 145 2 L (.int u :: .ref p :: st) H Q ↔ Wr (pF' 9 0 (hget H p) (.int u)) p 145 5 L st H Q := G_putf fX9_times_2 ⟨⟨rfl, rfl⟩, rfl, Or.inl rfl⟩ hp
theorem fX9_times_5 : ft 145 5 = some (.iload_n 1, 0, 0, 0, .null) := by decide +kernel
theorem gX9_times_5 {l0 l2 : Option Value} {u : Int32} {st : List Value} {H : HP} {Q : Option Value → HP → Prop} : Go 145 5 [l0, some (.int u), l2] st H Q ↔ Go 145 6 [l0, some (.int u), l2] (.int u :: st) H Q := G_iload_n fX9_times_5 rfl
theorem fX9_times_6 : ft 145 6 = some (.invokestatic 85, 119, 0, 841, .null) := by decide +kernel
theorem gX9_times_6 {L : List (Option Value)} {a0 : Int32}  {H : HP} {Q : Option Value → HP → Prop} : Go 145 6 L (.int a0 :: []) H Q ↔ Go 119 0 [some (.int a0)] [] H (Cont 145 9 L [] Q) := G_cS (n := 1) (N := 1) (as := [.int a0]) (st := []) fX9_times_6 (by decide +kernel) rfl (Nat.le_of_ble_eq_true rfl) (Nat.le_of_ble_eq_true rfl) rfl
theorem fX9_times_9 : ft 145 9 = some (.ifCond .ne 5, 0, 0, 0, .null) := by decide +kernel
theorem gX9_times_9T {L : List (Option Value)} {a : Int} (c : (-2147483648 ≤ a ∧ a ≤ 2147483647) ∧ ¬ a = 0) {st : List Value} {H : HP} {Q : Option Value → HP → Prop} : Go 145 9 L (vi a :: st) H Q ↔ Go 145 14 L st H Q := G_ifT fX9_times_9 (by decide) c
theorem gX9_times_9F {L : List (Option Value)} {a : Int} (c : (-2147483648 ≤ a ∧ a ≤ 2147483647) ∧ ¬ (¬ a = 0)) {st : List Value} {H : HP} {Q : Option Value → HP → Prop} : Go 145 9 L (vi a :: st) H Q ↔ Go 145 12 L st H Q := G_ifF (tg := 14) fX9_times_9 (by decide) c
theorem fX9_times_12 : ft 145 12 = some (.iconst (-1), 0, 0, 0, .null) := by decide +kernel
theorem gX9_times_12 {L : List (Option Value)} {st : List Value} {H : HP} {Q : Option Value → HP → Prop} : Go 145 12 L st H Q ↔ Go 145 13 L (vi (-1) :: st) H Q := G_iconst fX9_times_12
theorem fX9_times_13 : ft 145 13 = some (.ireturn, 0, 0, 0, .null) := by decide +kernel
theorem gX9_times_13 {L : List (Option Value)} {u : Int32} {H : HP} {Q : Option Value → HP → Prop} : Go 145 13 L [.int u] H Q ↔ Q (some (.int u)) H := G_iret fX9_times_13 (by decide +kernel)
theorem fX9_times_14 : ft 145 14 = some (.aload_n 0, 0, 0, 0, .null) := by decide +kernel
theorem gX9_times_14 {l1 l2 : Option Value} {u : Nat} {st : List Value} {H : HP} {Q : Option Value → HP → Prop} : Go 145 14 [some (.ref u), l1, l2] st H Q ↔ Go 145 15 [some (.ref u), l1, l2] (.ref u :: st) H Q := G_aload_n fX9_times_14 rfl
theorem fX9_times_15 : ft 145 15 = some (.getfield 9, 9, 1, 755, .null) := by decide +kernel
theorem gX9_times_15 {L : List (Option Value)} {p : Nat} {st : List Value} {H : HP} {Q : Option Value → HP → Prop} : Go 145 15 L (.ref p :: st) H Q ↔ Rd (gF' 9 1 (hget H p)) 145 18 L st H Q := G_getf fX9_times_15 ⟨rfl, rfl⟩
theorem fX9_times_18 : ft 145 18 = some (.iload_n 1, 0, 0, 0, .null) := by decide +kernel
theorem gX9_times_18 {l0 l2 : Option Value} {u : Int32} {st : List Value} {H : HP} {Q : Option Value → HP → Prop} : Go 145 18 [l0, some (.int u), l2] st H Q ↔ Go 145 19 [l0, some (.int u), l2] (.int u :: st) H Q := G_iload_n fX9_times_18 rfl
theorem fX9_times_19 : ft 145 19 = some (.iaload, 0, 0, 0, .null) := by decide +kernel
theorem gX9_times_19 {L : List (Option Value)} {p : Nat} {a : Int} {st : List Value} {H : HP} {Q : Option Value → HP → Prop} : Go 145 19 L (vi a :: .ref p :: st) H Q ↔ Rd (aJ' (hget H p) a) 145 20 L st H Q := G_iald fX9_times_19
theorem fX9_times_20 : ft 145 20 = some (.bipush (-9), 0, 0, 0, .null) := by decide +kernel
theorem gX9_times_20 {L : List (Option Value)} {st : List Value} {H : HP} {Q : Option Value → HP → Prop} : Go 145 20 L st H Q ↔ Go 145 22 L (vi (-9) :: st) H Q := G_bipush fX9_times_20 (by decide)
theorem fX9_times_22 : ft 145 22 = some (.if_icmp .ne 9, 0, 0, 0, .null) := by decide +kernel
theorem gX9_times_22T {L : List (Option Value)} {a b : Int} (c : (-2147483648 ≤ a ∧ a ≤ 2147483647 ∧ -2147483648 ≤ b ∧ b ≤ 2147483647) ∧ ¬ a = b) {st : List Value} {H : HP} {Q : Option Value → HP → Prop} : Go 145 22 L (vi b :: vi a :: st) H Q ↔ Go 145 31 L st H Q := G_icT fX9_times_22 (by decide) c
theorem gX9_times_22F {L : List (Option Value)} {a b : Int} (c : (-2147483648 ≤ a ∧ a ≤ 2147483647 ∧ -2147483648 ≤ b ∧ b ≤ 2147483647) ∧ ¬ (¬ a = b)) {st : List Value} {H : HP} {Q : Option Value → HP → Prop} : Go 145 22 L (vi b :: vi a :: st) H Q ↔ Go 145 25 L st H Q := G_icF (tg := 31) fX9_times_22 (by decide) c
theorem fX9_times_25 : ft 145 25 = some (.aload_n 0, 0, 0, 0, .null) := by decide +kernel
theorem gX9_times_25 {l1 l2 : Option Value} {u : Nat} {st : List Value} {H : HP} {Q : Option Value → HP → Prop} : Go 145 25 [some (.ref u), l1, l2] st H Q ↔ Go 145 26 [some (.ref u), l1, l2] (.ref u :: st) H Q := G_aload_n fX9_times_25 rfl
theorem fX9_times_26 : ft 145 26 = some (.iconst 1, 0, 0, 0, .null) := by decide +kernel
theorem gX9_times_26 {L : List (Option Value)} {st : List Value} {H : HP} {Q : Option Value → HP → Prop} : Go 145 26 L st H Q ↔ Go 145 27 L (vi 1 :: st) H Q := G_iconst fX9_times_26
theorem fX9_times_27 : ft 145 27 = some (.invokevirtual 89, 117, 0, 847, .null) := by decide +kernel
theorem gX9_times_27 {L : List (Option Value)} {p : Nat} {a0 : Int32}  {H : HP} {Q : Option Value → HP → Prop} : Go 145 27 L (.int a0 :: .ref p :: []) H Q ↔ (iso 9 (hget H p) = true ∧ Go 117 0 [some (.ref p), some (.int a0)] [] H (Cont 145 30 L [] Q)) := G_cV (n := 1) (N := 2) (as := [.int a0]) (st := []) fX9_times_27 (by decide +kernel) rfl (Nat.le_of_ble_eq_true rfl) (Nat.le_of_ble_eq_true rfl) rfl
theorem fX9_times_30 : ft 145 30 = some (.ireturn, 0, 0, 0, .null) := by decide +kernel
theorem gX9_times_30 {L : List (Option Value)} {u : Int32} {H : HP} {Q : Option Value → HP → Prop} : Go 145 30 L [.int u] H Q ↔ Q (some (.int u)) H := G_iret fX9_times_30 (by decide +kernel)
theorem fX9_times_31 : ft 145 31 = some (.aload_n 0, 0, 0, 0, .null) := by decide +kernel
theorem gX9_times_31 {l1 l2 : Option Value} {u : Nat} {st : List Value} {H : HP} {Q : Option Value → HP → Prop} : Go 145 31 [some (.ref u), l1, l2] st H Q ↔ Go 145 32 [some (.ref u), l1, l2] (.ref u :: st) H Q := G_aload_n fX9_times_31 rfl
theorem fX9_times_32 : ft 145 32 = some (.iload_n 1, 0, 0, 0, .null) := by decide +kernel
theorem gX9_times_32 {l0 l2 : Option Value} {u : Int32} {st : List Value} {H : HP} {Q : Option Value → HP → Prop} : Go 145 32 [l0, some (.int u), l2] st H Q ↔ Go 145 33 [l0, some (.int u), l2] (.int u :: st) H Q := G_iload_n fX9_times_32 rfl
theorem fX9_times_33 : ft 145 33 = some (.invokevirtual 97, 125, 0, 863, .null) := by decide +kernel
theorem gX9_times_33 {L : List (Option Value)} {p : Nat} {a0 : Int32}  {H : HP} {Q : Option Value → HP → Prop} : Go 145 33 L (.int a0 :: .ref p :: []) H Q ↔ (iso 9 (hget H p) = true ∧ Go 125 0 [some (.ref p), some (.int a0)] [] H (Cont 145 36 L [] Q)) := G_cV (n := 1) (N := 2) (as := [.int a0]) (st := []) fX9_times_33 (by decide +kernel) rfl (Nat.le_of_ble_eq_true rfl) (Nat.le_of_ble_eq_true rfl) rfl
theorem fX9_times_36 : ft 145 36 = some (.iconst 4, 0, 0, 0, .null) := by decide +kernel
theorem gX9_times_36 {L : List (Option Value)} {st : List Value} {H : HP} {Q : Option Value → HP → Prop} : Go 145 36 L st H Q ↔ Go 145 37 L (vi 4 :: st) H Q := G_iconst fX9_times_36
theorem fX9_times_37 : ft 145 37 = some (.if_icmp .ne 9, 0, 0, 0, .null) := by decide +kernel
theorem gX9_times_37T {L : List (Option Value)} {a b : Int} (c : (-2147483648 ≤ a ∧ a ≤ 2147483647 ∧ -2147483648 ≤ b ∧ b ≤ 2147483647) ∧ ¬ a = b) {st : List Value} {H : HP} {Q : Option Value → HP → Prop} : Go 145 37 L (vi b :: vi a :: st) H Q ↔ Go 145 46 L st H Q := G_icT fX9_times_37 (by decide) c
theorem gX9_times_37F {L : List (Option Value)} {a b : Int} (c : (-2147483648 ≤ a ∧ a ≤ 2147483647 ∧ -2147483648 ≤ b ∧ b ≤ 2147483647) ∧ ¬ (¬ a = b)) {st : List Value} {H : HP} {Q : Option Value → HP → Prop} : Go 145 37 L (vi b :: vi a :: st) H Q ↔ Go 145 40 L st H Q := G_icF (tg := 46) fX9_times_37 (by decide) c
theorem fX9_times_40 : ft 145 40 = some (.aload_n 0, 0, 0, 0, .null) := by decide +kernel
theorem gX9_times_40 {l1 l2 : Option Value} {u : Nat} {st : List Value} {H : HP} {Q : Option Value → HP → Prop} : Go 145 40 [some (.ref u), l1, l2] st H Q ↔ Go 145 41 [some (.ref u), l1, l2] (.ref u :: st) H Q := G_aload_n fX9_times_40 rfl
theorem fX9_times_41 : ft 145 41 = some (.iconst 2, 0, 0, 0, .null) := by decide +kernel
theorem gX9_times_41 {L : List (Option Value)} {st : List Value} {H : HP} {Q : Option Value → HP → Prop} : Go 145 41 L st H Q ↔ Go 145 42 L (vi 2 :: st) H Q := G_iconst fX9_times_41
theorem fX9_times_42 : ft 145 42 = some (.invokevirtual 89, 117, 0, 847, .null) := by decide +kernel
theorem gX9_times_42 {L : List (Option Value)} {p : Nat} {a0 : Int32}  {H : HP} {Q : Option Value → HP → Prop} : Go 145 42 L (.int a0 :: .ref p :: []) H Q ↔ (iso 9 (hget H p) = true ∧ Go 117 0 [some (.ref p), some (.int a0)] [] H (Cont 145 45 L [] Q)) := G_cV (n := 1) (N := 2) (as := [.int a0]) (st := []) fX9_times_42 (by decide +kernel) rfl (Nat.le_of_ble_eq_true rfl) (Nat.le_of_ble_eq_true rfl) rfl
theorem fX9_times_45 : ft 145 45 = some (.ireturn, 0, 0, 0, .null) := by decide +kernel
theorem gX9_times_45 {L : List (Option Value)} {u : Int32} {H : HP} {Q : Option Value → HP → Prop} : Go 145 45 L [.int u] H Q ↔ Q (some (.int u)) H := G_iret fX9_times_45 (by decide +kernel)
theorem fX9_times_46 : ft 145 46 = some (.aload_n 0, 0, 0, 0, .null) := by decide +kernel
theorem gX9_times_46 {l1 l2 : Option Value} {u : Nat} {st : List Value} {H : HP} {Q : Option Value → HP → Prop} : Go 145 46 [some (.ref u), l1, l2] st H Q ↔ Go 145 47 [some (.ref u), l1, l2] (.ref u :: st) H Q := G_aload_n fX9_times_46 rfl
theorem fX9_times_47 : ft 145 47 = some (.getfield 23, 9, 6, 760, .null) := by decide +kernel
theorem gX9_times_47 {L : List (Option Value)} {p : Nat} {st : List Value} {H : HP} {Q : Option Value → HP → Prop} : Go 145 47 L (.ref p :: st) H Q ↔ Rd (gF' 9 6 (hget H p)) 145 50 L st H Q := G_getf fX9_times_47 ⟨rfl, rfl⟩
theorem fX9_times_50 : ft 145 50 = some (.bipush (-9), 0, 0, 0, .null) := by decide +kernel
theorem gX9_times_50 {L : List (Option Value)} {st : List Value} {H : HP} {Q : Option Value → HP → Prop} : Go 145 50 L st H Q ↔ Go 145 52 L (vi (-9) :: st) H Q := G_bipush fX9_times_50 (by decide)
theorem fX9_times_52 : ft 145 52 = some (.if_icmp .eq 15, 0, 0, 0, .null) := by decide +kernel
theorem gX9_times_52T {L : List (Option Value)} {a b : Int} (c : (-2147483648 ≤ a ∧ a ≤ 2147483647 ∧ -2147483648 ≤ b ∧ b ≤ 2147483647) ∧ a = b) {st : List Value} {H : HP} {Q : Option Value → HP → Prop} : Go 145 52 L (vi b :: vi a :: st) H Q ↔ Go 145 67 L st H Q := G_icT fX9_times_52 (by decide) c
theorem gX9_times_52F {L : List (Option Value)} {a b : Int} (c : (-2147483648 ≤ a ∧ a ≤ 2147483647 ∧ -2147483648 ≤ b ∧ b ≤ 2147483647) ∧ ¬ (a = b)) {st : List Value} {H : HP} {Q : Option Value → HP → Prop} : Go 145 52 L (vi b :: vi a :: st) H Q ↔ Go 145 55 L st H Q := G_icF (tg := 67) fX9_times_52 (by decide) c
theorem fX9_times_55 : ft 145 55 = some (.aload_n 0, 0, 0, 0, .null) := by decide +kernel
theorem gX9_times_55 {l1 l2 : Option Value} {u : Nat} {st : List Value} {H : HP} {Q : Option Value → HP → Prop} : Go 145 55 [some (.ref u), l1, l2] st H Q ↔ Go 145 56 [some (.ref u), l1, l2] (.ref u :: st) H Q := G_aload_n fX9_times_55 rfl
theorem fX9_times_56 : ft 145 56 = some (.iload_n 1, 0, 0, 0, .null) := by decide +kernel
theorem gX9_times_56 {l0 l2 : Option Value} {u : Int32} {st : List Value} {H : HP} {Q : Option Value → HP → Prop} : Go 145 56 [l0, some (.int u), l2] st H Q ↔ Go 145 57 [l0, some (.int u), l2] (.int u :: st) H Q := G_iload_n fX9_times_56 rfl
theorem fX9_times_57 : ft 145 57 = some (.invokevirtual 100, 124, 0, 867, .null) := by decide +kernel
theorem gX9_times_57 {L : List (Option Value)} {p : Nat} {a0 : Int32}  {H : HP} {Q : Option Value → HP → Prop} : Go 145 57 L (.int a0 :: .ref p :: []) H Q ↔ (iso 9 (hget H p) = true ∧ Go 124 0 [some (.ref p), some (.int a0)] [] H (Cont 145 60 L [] Q)) := G_cV (n := 1) (N := 2) (as := [.int a0]) (st := []) fX9_times_57 (by decide +kernel) rfl (Nat.le_of_ble_eq_true rfl) (Nat.le_of_ble_eq_true rfl) rfl
theorem fX9_times_60 : ft 145 60 = some (.aload_n 0, 0, 0, 0, .null) := by decide +kernel
theorem gX9_times_60 {l1 l2 : Option Value} {u : Nat} {st : List Value} {H : HP} {Q : Option Value → HP → Prop} : Go 145 60 [some (.ref u), l1, l2] st H Q ↔ Go 145 61 [some (.ref u), l1, l2] (.ref u :: st) H Q := G_aload_n fX9_times_60 rfl
theorem fX9_times_61 : ft 145 61 = some (.getfield 155, 9, 5, 759, .null) := by decide +kernel
theorem gX9_times_61 {L : List (Option Value)} {p : Nat} {st : List Value} {H : HP} {Q : Option Value → HP → Prop} : Go 145 61 L (.ref p :: st) H Q ↔ Rd (gF' 9 5 (hget H p)) 145 64 L st H Q := G_getf fX9_times_61 ⟨rfl, rfl⟩
theorem fX9_times_64 : ft 145 64 = some (.if_icmp .eq 6, 0, 0, 0, .null) := by decide +kernel
theorem gX9_times_64T {L : List (Option Value)} {a b : Int} (c : (-2147483648 ≤ a ∧ a ≤ 2147483647 ∧ -2147483648 ≤ b ∧ b ≤ 2147483647) ∧ a = b) {st : List Value} {H : HP} {Q : Option Value → HP → Prop} : Go 145 64 L (vi b :: vi a :: st) H Q ↔ Go 145 70 L st H Q := G_icT fX9_times_64 (by decide) c
theorem gX9_times_64F {L : List (Option Value)} {a b : Int} (c : (-2147483648 ≤ a ∧ a ≤ 2147483647 ∧ -2147483648 ≤ b ∧ b ≤ 2147483647) ∧ ¬ (a = b)) {st : List Value} {H : HP} {Q : Option Value → HP → Prop} : Go 145 64 L (vi b :: vi a :: st) H Q ↔ Go 145 67 L st H Q := G_icF (tg := 70) fX9_times_64 (by decide) c
theorem fX9_times_67 : ft 145 67 = some (.bipush (-3), 0, 0, 0, .null) := by decide +kernel
theorem gX9_times_67 {L : List (Option Value)} {st : List Value} {H : HP} {Q : Option Value → HP → Prop} : Go 145 67 L st H Q ↔ Go 145 69 L (vi (-3) :: st) H Q := G_bipush fX9_times_67 (by decide)
theorem fX9_times_69 : ft 145 69 = some (.ireturn, 0, 0, 0, .null) := by decide +kernel
theorem gX9_times_69 {L : List (Option Value)} {u : Int32} {H : HP} {Q : Option Value → HP → Prop} : Go 145 69 L [.int u] H Q ↔ Q (some (.int u)) H := G_iret fX9_times_69 (by decide +kernel)
theorem fX9_times_70 : ft 145 70 = some (.aload_n 0, 0, 0, 0, .null) := by decide +kernel
theorem gX9_times_70 {l1 l2 : Option Value} {u : Nat} {st : List Value} {H : HP} {Q : Option Value → HP → Prop} : Go 145 70 [some (.ref u), l1, l2] st H Q ↔ Go 145 71 [some (.ref u), l1, l2] (.ref u :: st) H Q := G_aload_n fX9_times_70 rfl
theorem fX9_times_71 : ft 145 71 = some (.iload_n 1, 0, 0, 0, .null) := by decide +kernel
theorem gX9_times_71 {l0 l2 : Option Value} {u : Int32} {st : List Value} {H : HP} {Q : Option Value → HP → Prop} : Go 145 71 [l0, some (.int u), l2] st H Q ↔ Go 145 72 [l0, some (.int u), l2] (.int u :: st) H Q := G_iload_n fX9_times_71 rfl
theorem fX9_times_72 : ft 145 72 = some (.aload_n 0, 0, 0, 0, .null) := by decide +kernel
theorem gX9_times_72 {l1 l2 : Option Value} {u : Nat} {st : List Value} {H : HP} {Q : Option Value → HP → Prop} : Go 145 72 [some (.ref u), l1, l2] st H Q ↔ Go 145 73 [some (.ref u), l1, l2] (.ref u :: st) H Q := G_aload_n fX9_times_72 rfl
theorem fX9_times_73 : ft 145 73 = some (.getfield 23, 9, 6, 760, .null) := by decide +kernel
theorem gX9_times_73 {L : List (Option Value)} {p : Nat} {st : List Value} {H : HP} {Q : Option Value → HP → Prop} : Go 145 73 L (.ref p :: st) H Q ↔ Rd (gF' 9 6 (hget H p)) 145 76 L st H Q := G_getf fX9_times_73 ⟨rfl, rfl⟩
theorem fX9_times_76 : ft 145 76 = some (.invokevirtual 151, 143, 0, 936, .null) := by decide +kernel
theorem gX9_times_76 {L : List (Option Value)} {p : Nat} {a0 : Int32} {a1 : Int32}  {H : HP} {Q : Option Value → HP → Prop} : Go 145 76 L (.int a1 :: .int a0 :: .ref p :: []) H Q ↔ (iso 9 (hget H p) = true ∧ Go 143 0 [some (.ref p), some (.int a0), some (.int a1), none, none, none, none, none, none, none, none, none, none, none, none, none] [] H (Cont 145 79 L [] Q)) := G_cV (n := 2) (N := 16) (as := [.int a1, .int a0]) (st := []) fX9_times_76 (by decide +kernel) rfl (Nat.le_of_ble_eq_true rfl) (Nat.le_of_ble_eq_true rfl) rfl
theorem fX9_times_79 : ft 145 79 = some (.iconst 0, 0, 0, 0, .null) := by decide +kernel
theorem gX9_times_79 {L : List (Option Value)} {st : List Value} {H : HP} {Q : Option Value → HP → Prop} : Go 145 79 L st H Q ↔ Go 145 80 L (vi 0 :: st) H Q := G_iconst fX9_times_79
theorem fX9_times_80 : ft 145 80 = some (.istore_n 2, 0, 0, 0, .null) := by decide +kernel
theorem gX9_times_80 {l0 l1 l2 : Option Value} {u : Int32} {st : List Value} {H : HP} {Q : Option Value → HP → Prop} : Go 145 80 [l0, l1, l2] (.int u :: st) H Q ↔ Go 145 81 [l0, l1, some (.int u)] st H Q := G_istore_n fX9_times_80 rfl
theorem fX9_times_81 : ft 145 81 = some (.iload_n 2, 0, 0, 0, .null) := by decide +kernel
theorem gX9_times_81 {l0 l1 : Option Value} {u : Int32} {st : List Value} {H : HP} {Q : Option Value → HP → Prop} : Go 145 81 [l0, l1, some (.int u)] st H Q ↔ Go 145 82 [l0, l1, some (.int u)] (.int u :: st) H Q := G_iload_n fX9_times_81 rfl
theorem fX9_times_82 : ft 145 82 = some (.aload_n 0, 0, 0, 0, .null) := by decide +kernel
theorem gX9_times_82 {l1 l2 : Option Value} {u : Nat} {st : List Value} {H : HP} {Q : Option Value → HP → Prop} : Go 145 82 [some (.ref u), l1, l2] st H Q ↔ Go 145 83 [some (.ref u), l1, l2] (.ref u :: st) H Q := G_aload_n fX9_times_82 rfl
theorem fX9_times_83 : ft 145 83 = some (.getfield 155, 9, 5, 759, .null) := by decide +kernel
theorem gX9_times_83 {L : List (Option Value)} {p : Nat} {st : List Value} {H : HP} {Q : Option Value → HP → Prop} : Go 145 83 L (.ref p :: st) H Q ↔ Rd (gF' 9 5 (hget H p)) 145 86 L st H Q := G_getf fX9_times_83 ⟨rfl, rfl⟩
theorem fX9_times_86 : ft 145 86 = some (.if_icmp .ge 36, 0, 0, 0, .null) := by decide +kernel
theorem gX9_times_86T {L : List (Option Value)} {a b : Int} (c : (-2147483648 ≤ a ∧ a ≤ 2147483647 ∧ -2147483648 ≤ b ∧ b ≤ 2147483647) ∧ b ≤ a) {st : List Value} {H : HP} {Q : Option Value → HP → Prop} : Go 145 86 L (vi b :: vi a :: st) H Q ↔ Go 145 122 L st H Q := G_icT fX9_times_86 (by decide) c
theorem gX9_times_86F {L : List (Option Value)} {a b : Int} (c : (-2147483648 ≤ a ∧ a ≤ 2147483647 ∧ -2147483648 ≤ b ∧ b ≤ 2147483647) ∧ ¬ (b ≤ a)) {st : List Value} {H : HP} {Q : Option Value → HP → Prop} : Go 145 86 L (vi b :: vi a :: st) H Q ↔ Go 145 89 L st H Q := G_icF (tg := 122) fX9_times_86 (by decide) c
theorem fX9_times_89 : ft 145 89 = some (.aload_n 0, 0, 0, 0, .null) := by decide +kernel
theorem gX9_times_89 {l1 l2 : Option Value} {u : Nat} {st : List Value} {H : HP} {Q : Option Value → HP → Prop} : Go 145 89 [some (.ref u), l1, l2] st H Q ↔ Go 145 90 [some (.ref u), l1, l2] (.ref u :: st) H Q := G_aload_n fX9_times_89 rfl
theorem fX9_times_90 : ft 145 90 = some (.getfield 27, 9, 7, 761, .null) := by decide +kernel
theorem gX9_times_90 {L : List (Option Value)} {p : Nat} {st : List Value} {H : HP} {Q : Option Value → HP → Prop} : Go 145 90 L (.ref p :: st) H Q ↔ Rd (gF' 9 7 (hget H p)) 145 93 L st H Q := G_getf fX9_times_90 ⟨rfl, rfl⟩
theorem fX9_times_93 : ft 145 93 = some (.iload_n 2, 0, 0, 0, .null) := by decide +kernel
theorem gX9_times_93 {l0 l1 : Option Value} {u : Int32} {st : List Value} {H : HP} {Q : Option Value → HP → Prop} : Go 145 93 [l0, l1, some (.int u)] st H Q ↔ Go 145 94 [l0, l1, some (.int u)] (.int u :: st) H Q := G_iload_n fX9_times_93 rfl
theorem fX9_times_94 : ft 145 94 = some (.aload_n 0, 0, 0, 0, .null) := by decide +kernel
theorem gX9_times_94 {l1 l2 : Option Value} {u : Nat} {st : List Value} {H : HP} {Q : Option Value → HP → Prop} : Go 145 94 [some (.ref u), l1, l2] st H Q ↔ Go 145 95 [some (.ref u), l1, l2] (.ref u :: st) H Q := G_aload_n fX9_times_94 rfl
theorem fX9_times_95 : ft 145 95 = some (.getfield 27, 9, 7, 761, .null) := by decide +kernel
theorem gX9_times_95 {L : List (Option Value)} {p : Nat} {st : List Value} {H : HP} {Q : Option Value → HP → Prop} : Go 145 95 L (.ref p :: st) H Q ↔ Rd (gF' 9 7 (hget H p)) 145 98 L st H Q := G_getf fX9_times_95 ⟨rfl, rfl⟩
theorem fX9_times_98 : ft 145 98 = some (.iload_n 2, 0, 0, 0, .null) := by decide +kernel
theorem gX9_times_98 {l0 l1 : Option Value} {u : Int32} {st : List Value} {H : HP} {Q : Option Value → HP → Prop} : Go 145 98 [l0, l1, some (.int u)] st H Q ↔ Go 145 99 [l0, l1, some (.int u)] (.int u :: st) H Q := G_iload_n fX9_times_98 rfl
theorem fX9_times_99 : ft 145 99 = some (.laload, 0, 0, 0, .null) := by decide +kernel
theorem gX9_times_99 {L : List (Option Value)} {p : Nat} {a : Int} {st : List Value} {H : HP} {Q : Option Value → HP → Prop} : Go 145 99 L (vi a :: .ref p :: st) H Q ↔ Rd (aL' (hget H p) a) 145 100 L st H Q := G_lald fX9_times_99
theorem fX9_times_100 : ft 145 100 = some (.aload_n 0, 0, 0, 0, .null) := by decide +kernel
theorem gX9_times_100 {l1 l2 : Option Value} {u : Nat} {st : List Value} {H : HP} {Q : Option Value → HP → Prop} : Go 145 100 [some (.ref u), l1, l2] st H Q ↔ Go 145 101 [some (.ref u), l1, l2] (.ref u :: st) H Q := G_aload_n fX9_times_100 rfl
theorem fX9_times_101 : ft 145 101 = some (.getfield 51, 9, 20, 774, .null) := by decide +kernel
theorem gX9_times_101 {L : List (Option Value)} {p : Nat} {st : List Value} {H : HP} {Q : Option Value → HP → Prop} : Go 145 101 L (.ref p :: st) H Q ↔ Rd (gF' 9 20 (hget H p)) 145 104 L st H Q := G_getf fX9_times_101 ⟨rfl, rfl⟩
theorem fX9_times_104 : ft 145 104 = some (.iload_n 2, 0, 0, 0, .null) := by decide +kernel
theorem gX9_times_104 {l0 l1 : Option Value} {u : Int32} {st : List Value} {H : HP} {Q : Option Value → HP → Prop} : Go 145 104 [l0, l1, some (.int u)] st H Q ↔ Go 145 105 [l0, l1, some (.int u)] (.int u :: st) H Q := G_iload_n fX9_times_104 rfl
theorem fX9_times_105 : ft 145 105 = some (.laload, 0, 0, 0, .null) := by decide +kernel
theorem gX9_times_105 {L : List (Option Value)} {p : Nat} {a : Int} {st : List Value} {H : HP} {Q : Option Value → HP → Prop} : Go 145 105 L (vi a :: .ref p :: st) H Q ↔ Rd (aL' (hget H p) a) 145 106 L st H Q := G_lald fX9_times_105
theorem fX9_times_106 : ft 145 106 = some (.lmul, 0, 0, 0, .null) := by decide +kernel
theorem gX9_times_106 {L : List (Option Value)} {a b : Int} {st : List Value} {H : HP} {Q : Option Value → HP → Prop} : Go 145 106 L (vl b :: vl a :: st) H Q ↔ Go 145 107 L (vl (a * b) :: st) H Q := G_lmul fX9_times_106
theorem fX9_times_107 : ft 145 107 = some (.aload_n 0, 0, 0, 0, .null) := by decide +kernel
theorem gX9_times_107 {l1 l2 : Option Value} {u : Nat} {st : List Value} {H : HP} {Q : Option Value → HP → Prop} : Go 145 107 [some (.ref u), l1, l2] st H Q ↔ Go 145 108 [some (.ref u), l1, l2] (.ref u :: st) H Q := G_aload_n fX9_times_107 rfl
theorem fX9_times_108 : ft 145 108 = some (.getfield 23, 9, 6, 760, .null) := by decide +kernel
theorem gX9_times_108 {L : List (Option Value)} {p : Nat} {st : List Value} {H : HP} {Q : Option Value → HP → Prop} : Go 145 108 L (.ref p :: st) H Q ↔ Rd (gF' 9 6 (hget H p)) 145 111 L st H Q := G_getf fX9_times_108 ⟨rfl, rfl⟩
theorem fX9_times_111 : ft 145 111 = some (.invokestatic 133, 121, 0, 918, .null) := by decide +kernel
theorem gX9_times_111 {L : List (Option Value)} {a0 : Int32} {r0 : Int64} {r1 : Int32} {r2 : Nat} {H : HP} {Q : Option Value → HP → Prop} : Go 145 111 L (.int a0 :: [.long r0, .int r1, .ref r2]) H Q ↔ Go 121 0 [some (.int a0)] [] H (Cont 145 114 L [.long r0, .int r1, .ref r2] Q) := G_cS (n := 1) (N := 1) (as := [.int a0]) (st := [.long r0, .int r1, .ref r2]) fX9_times_111 (by decide +kernel) rfl (Nat.le_of_ble_eq_true rfl) (Nat.le_of_ble_eq_true rfl) rfl
theorem fX9_times_114 : ft 145 114 = some (.lrem, 0, 0, 0, .null) := by decide +kernel
theorem gX9_times_114 {L : List (Option Value)} {a b : Int} (c : -9223372036854775808 ≤ a ∧ a ≤ 9223372036854775807 ∧ -9223372036854775808 ≤ b ∧ b ≤ 9223372036854775807 ∧ ¬ b = 0) {st : List Value} {H : HP} {Q : Option Value → HP → Prop} : Go 145 114 L (vl b :: vl a :: st) H Q ↔ Go 145 115 L (vl (a.tmod b) :: st) H Q := G_lrem fX9_times_114 c
theorem fX9_times_115 : ft 145 115 = some (.lastore, 0, 0, 0, .null) := by decide +kernel
theorem gX9_times_115 {L : List (Option Value)} {p : Nat} {a : Int} {b : Int} (hp : p ≠ 0) {st : List Value} {H : HP} {Q : Option Value → HP → Prop} : Go 145 115 L (vl b :: vi a :: .ref p :: st) H Q ↔ Wr (sL' (hget H p) a b) p 145 116 L st H Q := G_last fX9_times_115 hp
theorem fX9_times_116 : ft 145 116 = some (.iinc 2 1, 0, 0, 0, .null) := by decide +kernel
theorem gX9_times_116 {l0 l1 : Option Value} {a : Int} {st : List Value} {H : HP} {Q : Option Value → HP → Prop} : Go 145 116 [l0, l1, some (vi a)] st H Q ↔ Go 145 119 [l0, l1, some (vi (a + 1))] st H Q := G_iinc fX9_times_116 rfl rfl
theorem fX9_times_119 : ft 145 119 = some (.goto (-38), 0, 0, 0, .null) := by decide +kernel
theorem gX9_times_119 {L : List (Option Value)} {st : List Value} {H : HP} {Q : Option Value → HP → Prop} : Go 145 119 L st H Q ↔ Go 145 81 L st H Q := G_goto fX9_times_119 (by decide)
theorem fX9_times_122 : ft 145 122 = some (.aload_n 0, 0, 0, 0, .null) := by decide +kernel
theorem gX9_times_122 {l1 l2 : Option Value} {u : Nat} {st : List Value} {H : HP} {Q : Option Value → HP → Prop} : Go 145 122 [some (.ref u), l1, l2] st H Q ↔ Go 145 123 [some (.ref u), l1, l2] (.ref u :: st) H Q := G_aload_n fX9_times_122 rfl
theorem fX9_times_123 : ft 145 123 = some (.getfield 155, 9, 5, 759, .null) := by decide +kernel
theorem gX9_times_123 {L : List (Option Value)} {p : Nat} {st : List Value} {H : HP} {Q : Option Value → HP → Prop} : Go 145 123 L (.ref p :: st) H Q ↔ Rd (gF' 9 5 (hget H p)) 145 126 L st H Q := G_getf fX9_times_123 ⟨rfl, rfl⟩
theorem fX9_times_126 : ft 145 126 = some (.ireturn, 0, 0, 0, .null) := by decide +kernel
theorem gX9_times_126 {L : List (Option Value)} {u : Int32} {H : HP} {Q : Option Value → HP → Prop} : Go 145 126 L [.int u] H Q ↔ Q (some (.int u)) H := G_iret fX9_times_126 (by decide +kernel)

theorem fX8_match_0 : ft 99 0 = some (.aload_n 0, 0, 0, 0, .null) := by decide +kernel
theorem gX8_match_0 {l1 l2 l3 l4 l5 l6 l7 : Option Value} {u : Nat} {st : List Value} {H : HP} {Q : Option Value → HP → Prop} : Go 99 0 [some (.ref u), l1, l2, l3, l4, l5, l6, l7] st H Q ↔ Go 99 1 [some (.ref u), l1, l2, l3, l4, l5, l6, l7] (.ref u :: st) H Q := G_aload_n fX8_match_0 rfl
theorem fX8_match_1 : ft 99 1 = some (.iconst 0, 0, 0, 0, .null) := by decide +kernel
theorem gX8_match_1 {L : List (Option Value)} {st : List Value} {H : HP} {Q : Option Value → HP → Prop} : Go 99 1 L st H Q ↔ Go 99 2 L (vi 0 :: st) H Q := G_iconst fX8_match_1
theorem fX8_match_2 : ft 99 2 = some (.putfield 64, 8, 12, 233, .null) := by decide +kernel
theorem gX8_match_2 {L : List (Option Value)} {p : Nat} {u : Int32} (hp : p ≠ 0) {st : List Value} {H : HP} {Q : Option Value → HP → Prop} : Go 99 2 L (.int u :: .ref p :: st) H Q ↔ Wr (pF' 8 12 (hget H p) (.int u)) p 99 5 L st H Q := G_putf fX8_match_2 ⟨⟨rfl, rfl⟩, rfl, Or.inl rfl⟩ hp
theorem fX8_match_5 : ft 99 5 = some (.iload_n 1, 0, 0, 0, .null) := by decide +kernel
theorem gX8_match_5 {l0 l2 l3 l4 l5 l6 l7 : Option Value} {u : Int32} {st : List Value} {H : HP} {Q : Option Value → HP → Prop} : Go 99 5 [l0, some (.int u), l2, l3, l4, l5, l6, l7] st H Q ↔ Go 99 6 [l0, some (.int u), l2, l3, l4, l5, l6, l7] (.int u :: st) H Q := G_iload_n fX8_match_5 rfl
theorem fX8_match_6 : ft 99 6 = some (.invokestatic 85, 108, 0, 265, .null) := by decide +kernel
theorem gX8_match_6 {L : List (Option Value)} {a0 : Int32}  {H : HP} {Q : Option Value → HP → Prop} : Go 99 6 L (.int a0 :: []) H Q ↔ Go 108 0 [some (.int a0)] [] H (Cont 99 9 L [] Q) := G_cS (n := 1) (N := 1) (as := [.int a0]) (st := []) fX8_match_6 (by decide +kernel) rfl (Nat.le_of_ble_eq_true rfl) (Nat.le_of_ble_eq_true rfl) rfl
theorem fX8_match_9 : ft 99 9 = some (.ifCond .eq 10, 0, 0, 0, .null) := by decide +kernel
theorem gX8_match_9T {L : List (Option Value)} {a : Int} (c : (-2147483648 ≤ a ∧ a ≤ 2147483647) ∧ a = 0) {st : List Value} {H : HP} {Q : Option Value → HP → Prop} : Go 99 9 L (vi a :: st) H Q ↔ Go 99 19 L st H Q := G_ifT fX8_match_9 (by decide) c
theorem gX8_match_9F {L : List (Option Value)} {a : Int} (c : (-2147483648 ≤ a ∧ a ≤ 2147483647) ∧ ¬ (a = 0)) {st : List Value} {H : HP} {Q : Option Value → HP → Prop} : Go 99 9 L (vi a :: st) H Q ↔ Go 99 12 L st H Q := G_ifF (tg := 19) fX8_match_9 (by decide) c
theorem fX8_match_12 : ft 99 12 = some (.iload_n 2, 0, 0, 0, .null) := by decide +kernel
theorem gX8_match_12 {l0 l1 l3 l4 l5 l6 l7 : Option Value} {u : Int32} {st : List Value} {H : HP} {Q : Option Value → HP → Prop} : Go 99 12 [l0, l1, some (.int u), l3, l4, l5, l6, l7] st H Q ↔ Go 99 13 [l0, l1, some (.int u), l3, l4, l5, l6, l7] (.int u :: st) H Q := G_iload_n fX8_match_12 rfl
theorem fX8_match_13 : ft 99 13 = some (.invokestatic 85, 108, 0, 265, .null) := by decide +kernel
theorem gX8_match_13 {L : List (Option Value)} {a0 : Int32}  {H : HP} {Q : Option Value → HP → Prop} : Go 99 13 L (.int a0 :: []) H Q ↔ Go 108 0 [some (.int a0)] [] H (Cont 99 16 L [] Q) := G_cS (n := 1) (N := 1) (as := [.int a0]) (st := []) fX8_match_13 (by decide +kernel) rfl (Nat.le_of_ble_eq_true rfl) (Nat.le_of_ble_eq_true rfl) rfl
theorem fX8_match_16 : ft 99 16 = some (.ifCond .ne 5, 0, 0, 0, .null) := by decide +kernel
theorem gX8_match_16T {L : List (Option Value)} {a : Int} (c : (-2147483648 ≤ a ∧ a ≤ 2147483647) ∧ ¬ a = 0) {st : List Value} {H : HP} {Q : Option Value → HP → Prop} : Go 99 16 L (vi a :: st) H Q ↔ Go 99 21 L st H Q := G_ifT fX8_match_16 (by decide) c
theorem gX8_match_16F {L : List (Option Value)} {a : Int} (c : (-2147483648 ≤ a ∧ a ≤ 2147483647) ∧ ¬ (¬ a = 0)) {st : List Value} {H : HP} {Q : Option Value → HP → Prop} : Go 99 16 L (vi a :: st) H Q ↔ Go 99 19 L st H Q := G_ifF (tg := 21) fX8_match_16 (by decide) c
theorem fX8_match_19 : ft 99 19 = some (.iconst (-1), 0, 0, 0, .null) := by decide +kernel
theorem gX8_match_19 {L : List (Option Value)} {st : List Value} {H : HP} {Q : Option Value → HP → Prop} : Go 99 19 L st H Q ↔ Go 99 20 L (vi (-1) :: st) H Q := G_iconst fX8_match_19
theorem fX8_match_20 : ft 99 20 = some (.ireturn, 0, 0, 0, .null) := by decide +kernel
theorem gX8_match_20 {L : List (Option Value)} {u : Int32} {H : HP} {Q : Option Value → HP → Prop} : Go 99 20 L [.int u] H Q ↔ Q (some (.int u)) H := G_iret fX8_match_20 (by decide +kernel)
theorem fX8_match_21 : ft 99 21 = some (.aload_n 0, 0, 0, 0, .null) := by decide +kernel
theorem gX8_match_21 {l1 l2 l3 l4 l5 l6 l7 : Option Value} {u : Nat} {st : List Value} {H : HP} {Q : Option Value → HP → Prop} : Go 99 21 [some (.ref u), l1, l2, l3, l4, l5, l6, l7] st H Q ↔ Go 99 22 [some (.ref u), l1, l2, l3, l4, l5, l6, l7] (.ref u :: st) H Q := G_aload_n fX8_match_21 rfl
theorem fX8_match_22 : ft 99 22 = some (.getfield 11, 8, 0, 221, .null) := by decide +kernel
theorem gX8_match_22 {L : List (Option Value)} {p : Nat} {st : List Value} {H : HP} {Q : Option Value → HP → Prop} : Go 99 22 L (.ref p :: st) H Q ↔ Rd (gF' 8 0 (hget H p)) 99 25 L st H Q := G_getf fX8_match_22 ⟨rfl, rfl⟩
theorem fX8_match_25 : ft 99 25 = some (.iload_n 1, 0, 0, 0, .null) := by decide +kernel
theorem gX8_match_25 {l0 l2 l3 l4 l5 l6 l7 : Option Value} {u : Int32} {st : List Value} {H : HP} {Q : Option Value → HP → Prop} : Go 99 25 [l0, some (.int u), l2, l3, l4, l5, l6, l7] st H Q ↔ Go 99 26 [l0, some (.int u), l2, l3, l4, l5, l6, l7] (.int u :: st) H Q := G_iload_n fX8_match_25 rfl
theorem fX8_match_26 : ft 99 26 = some (.aaload, 0, 0, 0, .null) := by decide +kernel
theorem gX8_match_26 {L : List (Option Value)} {p : Nat} {a : Int} {st : List Value} {H : HP} {Q : Option Value → HP → Prop} : Go 99 26 L (vi a :: .ref p :: st) H Q ↔ Rd (aR' (hget H p) a) 99 27 L st H Q := G_aald fX8_match_26
theorem fX8_match_27 : ft 99 27 = some (.astore 5, 0, 0, 0, .null) := by decide +kernel
theorem gX8_match_27 {l0 l1 l2 l3 l4 l5 l6 l7 : Option Value} {u : Nat} {st : List Value} {H : HP} {Q : Option Value → HP → Prop} : Go 99 27 [l0, l1, l2, l3, l4, l5, l6, l7] (.ref u :: st) H Q ↔ Go 99 29 [l0, l1, l2, l3, l4, some (.ref u), l6, l7] st H Q := G_astore fX8_match_27 rfl
theorem gX8_match_27N {l0 l1 l2 l3 l4 l5 l6 l7 : Option Value} {st : List Value} {H : HP} {Q : Option Value → HP → Prop} : Go 99 27 [l0, l1, l2, l3, l4, l5, l6, l7] (.null :: st) H Q ↔ Go 99 29 [l0, l1, l2, l3, l4, some .null, l6, l7] st H Q := G_astoreN fX8_match_27 rfl
theorem fX8_match_29 : ft 99 29 = some (.aload_n 0, 0, 0, 0, .null) := by decide +kernel
theorem gX8_match_29 {l1 l2 l3 l4 l5 l6 l7 : Option Value} {u : Nat} {st : List Value} {H : HP} {Q : Option Value → HP → Prop} : Go 99 29 [some (.ref u), l1, l2, l3, l4, l5, l6, l7] st H Q ↔ Go 99 30 [some (.ref u), l1, l2, l3, l4, l5, l6, l7] (.ref u :: st) H Q := G_aload_n fX8_match_29 rfl
theorem fX8_match_30 : ft 99 30 = some (.getfield 11, 8, 0, 221, .null) := by decide +kernel
theorem gX8_match_30 {L : List (Option Value)} {p : Nat} {st : List Value} {H : HP} {Q : Option Value → HP → Prop} : Go 99 30 L (.ref p :: st) H Q ↔ Rd (gF' 8 0 (hget H p)) 99 33 L st H Q := G_getf fX8_match_30 ⟨rfl, rfl⟩
theorem fX8_match_33 : ft 99 33 = some (.iload_n 2, 0, 0, 0, .null) := by decide +kernel
theorem gX8_match_33 {l0 l1 l3 l4 l5 l6 l7 : Option Value} {u : Int32} {st : List Value} {H : HP} {Q : Option Value → HP → Prop} : Go 99 33 [l0, l1, some (.int u), l3, l4, l5, l6, l7] st H Q ↔ Go 99 34 [l0, l1, some (.int u), l3, l4, l5, l6, l7] (.int u :: st) H Q := G_iload_n fX8_match_33 rfl
theorem fX8_match_34 : ft 99 34 = some (.aaload, 0, 0, 0, .null) := by decide +kernel
theorem gX8_match_34 {L : List (Option Value)} {p : Nat} {a : Int} {st : List Value} {H : HP} {Q : Option Value → HP → Prop} : Go 99 34 L (vi a :: .ref p :: st) H Q ↔ Rd (aR' (hget H p) a) 99 35 L st H Q := G_aald fX8_match_34
theorem fX8_match_35 : ft 99 35 = some (.astore 6, 0, 0, 0, .null) := by decide +kernel
theorem gX8_match_35 {l0 l1 l2 l3 l4 l5 l6 l7 : Option Value} {u : Nat} {st : List Value} {H : HP} {Q : Option Value → HP → Prop} : Go 99 35 [l0, l1, l2, l3, l4, l5, l6, l7] (.ref u :: st) H Q ↔ Go 99 37 [l0, l1, l2, l3, l4, l5, some (.ref u), l7] st H Q := G_astore fX8_match_35 rfl
theorem gX8_match_35N {l0 l1 l2 l3 l4 l5 l6 l7 : Option Value} {st : List Value} {H : HP} {Q : Option Value → HP → Prop} : Go 99 35 [l0, l1, l2, l3, l4, l5, l6, l7] (.null :: st) H Q ↔ Go 99 37 [l0, l1, l2, l3, l4, l5, some .null, l7] st H Q := G_astoreN fX8_match_35 rfl
theorem fX8_match_37 : ft 99 37 = some (.aload 5, 0, 0, 0, .null) := by decide +kernel
theorem gX8_match_37 {l0 l1 l2 l3 l4 l6 l7 : Option Value} {u : Nat} {st : List Value} {H : HP} {Q : Option Value → HP → Prop} : Go 99 37 [l0, l1, l2, l3, l4, some (.ref u), l6, l7] st H Q ↔ Go 99 39 [l0, l1, l2, l3, l4, some (.ref u), l6, l7] (.ref u :: st) H Q := G_aload fX8_match_37 rfl
theorem gX8_match_37N {l0 l1 l2 l3 l4 l6 l7 : Option Value} {st : List Value} {H : HP} {Q : Option Value → HP → Prop} : Go 99 37 [l0, l1, l2, l3, l4, some .null, l6, l7] st H Q ↔ Go 99 39 [l0, l1, l2, l3, l4, some .null, l6, l7] (.null :: st) H Q := G_aloadN fX8_match_37 rfl
theorem fX8_match_39 : ft 99 39 = some (.ifnull 8, 0, 0, 0, .null) := by decide +kernel
theorem gX8_match_39T {L : List (Option Value)} {st : List Value} {H : HP} {Q : Option Value → HP → Prop} : Go 99 39 L (.null :: st) H Q ↔ Go 99 47 L st H Q := G_nullT fX8_match_39 (by decide)
theorem gX8_match_39F {L : List (Option Value)} {p : Nat} {st : List Value} {H : HP} {Q : Option Value → HP → Prop} : Go 99 39 L ((.ref p) :: st) H Q ↔ Go 99 42 L st H Q := G_nullF (tg := 47) fX8_match_39 (by decide)
theorem fX8_match_42 : ft 99 42 = some (.aload 6, 0, 0, 0, .null) := by decide +kernel
theorem gX8_match_42 {l0 l1 l2 l3 l4 l5 l7 : Option Value} {u : Nat} {st : List Value} {H : HP} {Q : Option Value → HP → Prop} : Go 99 42 [l0, l1, l2, l3, l4, l5, some (.ref u), l7] st H Q ↔ Go 99 44 [l0, l1, l2, l3, l4, l5, some (.ref u), l7] (.ref u :: st) H Q := G_aload fX8_match_42 rfl
theorem gX8_match_42N {l0 l1 l2 l3 l4 l5 l7 : Option Value} {st : List Value} {H : HP} {Q : Option Value → HP → Prop} : Go 99 42 [l0, l1, l2, l3, l4, l5, some .null, l7] st H Q ↔ Go 99 44 [l0, l1, l2, l3, l4, l5, some .null, l7] (.null :: st) H Q := G_aloadN fX8_match_42 rfl
theorem fX8_match_44 : ft 99 44 = some (.ifnonnull 9, 0, 0, 0, .null) := by decide +kernel
theorem gX8_match_44T {L : List (Option Value)} {p : Nat} {st : List Value} {H : HP} {Q : Option Value → HP → Prop} : Go 99 44 L ((.ref p) :: st) H Q ↔ Go 99 53 L st H Q := G_nnT fX8_match_44 (by decide)
theorem gX8_match_44F {L : List (Option Value)} {st : List Value} {H : HP} {Q : Option Value → HP → Prop} : Go 99 44 L (.null :: st) H Q ↔ Go 99 47 L st H Q := G_nnF (tg := 53) fX8_match_44 (by decide)
theorem fX8_match_47 : ft 99 47 = some (.aload_n 0, 0, 0, 0, .null) := by decide +kernel
theorem gX8_match_47 {l1 l2 l3 l4 l5 l6 l7 : Option Value} {u : Nat} {st : List Value} {H : HP} {Q : Option Value → HP → Prop} : Go 99 47 [some (.ref u), l1, l2, l3, l4, l5, l6, l7] st H Q ↔ Go 99 48 [some (.ref u), l1, l2, l3, l4, l5, l6, l7] (.ref u :: st) H Q := G_aload_n fX8_match_47 rfl
theorem fX8_match_48 : ft 99 48 = some (.iconst 1, 0, 0, 0, .null) := by decide +kernel
theorem gX8_match_48 {L : List (Option Value)} {st : List Value} {H : HP} {Q : Option Value → HP → Prop} : Go 99 48 L st H Q ↔ Go 99 49 L (vi 1 :: st) H Q := G_iconst fX8_match_48
theorem fX8_match_49 : ft 99 49 = some (.invokevirtual 92, 105, 0, 271, .null) := by decide +kernel
theorem gX8_match_49 {L : List (Option Value)} {p : Nat} {a0 : Int32}  {H : HP} {Q : Option Value → HP → Prop} : Go 99 49 L (.int a0 :: .ref p :: []) H Q ↔ (iso 8 (hget H p) = true ∧ Go 105 0 [some (.ref p), some (.int a0)] [] H (Cont 99 52 L [] Q)) := G_cV (n := 1) (N := 2) (as := [.int a0]) (st := []) fX8_match_49 (by decide +kernel) rfl (Nat.le_of_ble_eq_true rfl) (Nat.le_of_ble_eq_true rfl) rfl
theorem fX8_match_52 : ft 99 52 = some (.ireturn, 0, 0, 0, .null) := by decide +kernel
theorem gX8_match_52 {L : List (Option Value)} {u : Int32} {H : HP} {Q : Option Value → HP → Prop} : Go 99 52 L [.int u] H Q ↔ Q (some (.int u)) H := G_iret fX8_match_52 (by decide +kernel)
theorem fX8_match_53 : ft 99 53 = some (.aload 5, 0, 0, 0, .null) := by decide +kernel
theorem gX8_match_53 {l0 l1 l2 l3 l4 l6 l7 : Option Value} {u : Nat} {st : List Value} {H : HP} {Q : Option Value → HP → Prop} : Go 99 53 [l0, l1, l2, l3, l4, some (.ref u), l6, l7] st H Q ↔ Go 99 55 [l0, l1, l2, l3, l4, some (.ref u), l6, l7] (.ref u :: st) H Q := G_aload fX8_match_53 rfl
theorem gX8_match_53N {l0 l1 l2 l3 l4 l6 l7 : Option Value} {st : List Value} {H : HP} {Q : Option Value → HP → Prop} : Go 99 53 [l0, l1, l2, l3, l4, some .null, l6, l7] st H Q ↔ Go 99 55 [l0, l1, l2, l3, l4, some .null, l6, l7] (.null :: st) H Q := G_aloadN fX8_match_53 rfl
theorem fX8_match_55 : ft 99 55 = some (.getfield 99, 5, 0, 282, .null) := by decide +kernel
theorem gX8_match_55 {L : List (Option Value)} {p : Nat} {st : List Value} {H : HP} {Q : Option Value → HP → Prop} : Go 99 55 L (.ref p :: st) H Q ↔ Rd (gF' 5 0 (hget H p)) 99 58 L st H Q := G_getf fX8_match_55 ⟨rfl, rfl⟩
theorem fX8_match_58 : ft 99 58 = some (.iconst 3, 0, 0, 0, .null) := by decide +kernel
theorem gX8_match_58 {L : List (Option Value)} {st : List Value} {H : HP} {Q : Option Value → HP → Prop} : Go 99 58 L st H Q ↔ Go 99 59 L (vi 3 :: st) H Q := G_iconst fX8_match_58
theorem fX8_match_59 : ft 99 59 = some (.if_icmp .gt 12, 0, 0, 0, .null) := by decide +kernel
theorem gX8_match_59T {L : List (Option Value)} {a b : Int} (c : (-2147483648 ≤ a ∧ a ≤ 2147483647 ∧ -2147483648 ≤ b ∧ b ≤ 2147483647) ∧ b < a) {st : List Value} {H : HP} {Q : Option Value → HP → Prop} : Go 99 59 L (vi b :: vi a :: st) H Q ↔ Go 99 71 L st H Q := G_icT fX8_match_59 (by decide) c
theorem gX8_match_59F {L : List (Option Value)} {a b : Int} (c : (-2147483648 ≤ a ∧ a ≤ 2147483647 ∧ -2147483648 ≤ b ∧ b ≤ 2147483647) ∧ ¬ (b < a)) {st : List Value} {H : HP} {Q : Option Value → HP → Prop} : Go 99 59 L (vi b :: vi a :: st) H Q ↔ Go 99 62 L st H Q := G_icF (tg := 71) fX8_match_59 (by decide) c
theorem fX8_match_62 : ft 99 62 = some (.aload 6, 0, 0, 0, .null) := by decide +kernel
theorem gX8_match_62 {l0 l1 l2 l3 l4 l5 l7 : Option Value} {u : Nat} {st : List Value} {H : HP} {Q : Option Value → HP → Prop} : Go 99 62 [l0, l1, l2, l3, l4, l5, some (.ref u), l7] st H Q ↔ Go 99 64 [l0, l1, l2, l3, l4, l5, some (.ref u), l7] (.ref u :: st) H Q := G_aload fX8_match_62 rfl
theorem gX8_match_62N {l0 l1 l2 l3 l4 l5 l7 : Option Value} {st : List Value} {H : HP} {Q : Option Value → HP → Prop} : Go 99 62 [l0, l1, l2, l3, l4, l5, some .null, l7] st H Q ↔ Go 99 64 [l0, l1, l2, l3, l4, l5, some .null, l7] (.null :: st) H Q := G_aloadN fX8_match_62 rfl
theorem fX8_match_64 : ft 99 64 = some (.getfield 99, 5, 0, 282, .null) := by decide +kernel
theorem gX8_match_64 {L : List (Option Value)} {p : Nat} {st : List Value} {H : HP} {Q : Option Value → HP → Prop} : Go 99 64 L (.ref p :: st) H Q ↔ Rd (gF' 5 0 (hget H p)) 99 67 L st H Q := G_getf fX8_match_64 ⟨rfl, rfl⟩
theorem fX8_match_67 : ft 99 67 = some (.iconst 3, 0, 0, 0, .null) := by decide +kernel
theorem gX8_match_67 {L : List (Option Value)} {st : List Value} {H : HP} {Q : Option Value → HP → Prop} : Go 99 67 L st H Q ↔ Go 99 68 L (vi 3 :: st) H Q := G_iconst fX8_match_67
theorem fX8_match_68 : ft 99 68 = some (.if_icmp .le 9, 0, 0, 0, .null) := by decide +kernel
theorem gX8_match_68T {L : List (Option Value)} {a b : Int} (c : (-2147483648 ≤ a ∧ a ≤ 2147483647 ∧ -2147483648 ≤ b ∧ b ≤ 2147483647) ∧ a ≤ b) {st : List Value} {H : HP} {Q : Option Value → HP → Prop} : Go 99 68 L (vi b :: vi a :: st) H Q ↔ Go 99 77 L st H Q := G_icT fX8_match_68 (by decide) c
theorem gX8_match_68F {L : List (Option Value)} {a b : Int} (c : (-2147483648 ≤ a ∧ a ≤ 2147483647 ∧ -2147483648 ≤ b ∧ b ≤ 2147483647) ∧ ¬ (a ≤ b)) {st : List Value} {H : HP} {Q : Option Value → HP → Prop} : Go 99 68 L (vi b :: vi a :: st) H Q ↔ Go 99 71 L st H Q := G_icF (tg := 77) fX8_match_68 (by decide) c
theorem fX8_match_71 : ft 99 71 = some (.aload_n 0, 0, 0, 0, .null) := by decide +kernel
theorem gX8_match_71 {l1 l2 l3 l4 l5 l6 l7 : Option Value} {u : Nat} {st : List Value} {H : HP} {Q : Option Value → HP → Prop} : Go 99 71 [some (.ref u), l1, l2, l3, l4, l5, l6, l7] st H Q ↔ Go 99 72 [some (.ref u), l1, l2, l3, l4, l5, l6, l7] (.ref u :: st) H Q := G_aload_n fX8_match_71 rfl
theorem fX8_match_72 : ft 99 72 = some (.iconst 2, 0, 0, 0, .null) := by decide +kernel
theorem gX8_match_72 {L : List (Option Value)} {st : List Value} {H : HP} {Q : Option Value → HP → Prop} : Go 99 72 L st H Q ↔ Go 99 73 L (vi 2 :: st) H Q := G_iconst fX8_match_72
theorem fX8_match_73 : ft 99 73 = some (.invokevirtual 92, 105, 0, 271, .null) := by decide +kernel
theorem gX8_match_73 {L : List (Option Value)} {p : Nat} {a0 : Int32}  {H : HP} {Q : Option Value → HP → Prop} : Go 99 73 L (.int a0 :: .ref p :: []) H Q ↔ (iso 8 (hget H p) = true ∧ Go 105 0 [some (.ref p), some (.int a0)] [] H (Cont 99 76 L [] Q)) := G_cV (n := 1) (N := 2) (as := [.int a0]) (st := []) fX8_match_73 (by decide +kernel) rfl (Nat.le_of_ble_eq_true rfl) (Nat.le_of_ble_eq_true rfl) rfl
theorem fX8_match_76 : ft 99 76 = some (.ireturn, 0, 0, 0, .null) := by decide +kernel
theorem gX8_match_76 {L : List (Option Value)} {u : Int32} {H : HP} {Q : Option Value → HP → Prop} : Go 99 76 L [.int u] H Q ↔ Q (some (.int u)) H := G_iret fX8_match_76 (by decide +kernel)
theorem fX8_match_77 : ft 99 77 = some (.aload_n 0, 0, 0, 0, .null) := by decide +kernel
theorem gX8_match_77 {l1 l2 l3 l4 l5 l6 l7 : Option Value} {u : Nat} {st : List Value} {H : HP} {Q : Option Value → HP → Prop} : Go 99 77 [some (.ref u), l1, l2, l3, l4, l5, l6, l7] st H Q ↔ Go 99 78 [some (.ref u), l1, l2, l3, l4, l5, l6, l7] (.ref u :: st) H Q := G_aload_n fX8_match_77 rfl
theorem fX8_match_78 : ft 99 78 = some (.getfield 50, 8, 8, 229, .null) := by decide +kernel
theorem gX8_match_78 {L : List (Option Value)} {p : Nat} {st : List Value} {H : HP} {Q : Option Value → HP → Prop} : Go 99 78 L (.ref p :: st) H Q ↔ Rd (gF' 8 8 (hget H p)) 99 81 L st H Q := G_getf fX8_match_78 ⟨rfl, rfl⟩
theorem fX8_match_81 : ft 99 81 = some (.iconst 0, 0, 0, 0, .null) := by decide +kernel
theorem gX8_match_81 {L : List (Option Value)} {st : List Value} {H : HP} {Q : Option Value → HP → Prop} : Go 99 81 L st H Q ↔ Go 99 82 L (vi 0 :: st) H Q := G_iconst fX8_match_81
theorem fX8_match_82 : ft 99 82 = some (.putfield 143, 6, 1, 111, .null) := by decide +kernel
theorem gX8_match_82 {L : List (Option Value)} {p : Nat} {u : Int32} (hp : p ≠ 0) {st : List Value} {H : HP} {Q : Option Value → HP → Prop} : Go 99 82 L (.int u :: .ref p :: st) H Q ↔ Wr (pF' 6 1 (hget H p) (.int u)) p 99 85 L st H Q := G_putf fX8_match_82 ⟨⟨rfl, rfl⟩, rfl, Or.inl rfl⟩ hp
theorem fX8_match_85 : ft 99 85 = some (.iconst 0, 0, 0, 0, .null) := by decide +kernel
theorem gX8_match_85 {L : List (Option Value)} {st : List Value} {H : HP} {Q : Option Value → HP → Prop} : Go 99 85 L st H Q ↔ Go 99 86 L (vi 0 :: st) H Q := G_iconst fX8_match_85
theorem fX8_match_86 : ft 99 86 = some (.istore 7, 0, 0, 0, .null) := by decide +kernel
theorem gX8_match_86 {l0 l1 l2 l3 l4 l5 l6 l7 : Option Value} {u : Int32} {st : List Value} {H : HP} {Q : Option Value → HP → Prop} : Go 99 86 [l0, l1, l2, l3, l4, l5, l6, l7] (.int u :: st) H Q ↔ Go 99 88 [l0, l1, l2, l3, l4, l5, l6, some (.int u)] st H Q := G_istore fX8_match_86 rfl
theorem fX8_match_88 : ft 99 88 = some (.iload 7, 0, 0, 0, .null) := by decide +kernel
theorem gX8_match_88 {l0 l1 l2 l3 l4 l5 l6 : Option Value} {u : Int32} {st : List Value} {H : HP} {Q : Option Value → HP → Prop} : Go 99 88 [l0, l1, l2, l3, l4, l5, l6, some (.int u)] st H Q ↔ Go 99 90 [l0, l1, l2, l3, l4, l5, l6, some (.int u)] (.int u :: st) H Q := G_iload fX8_match_88 rfl
theorem fX8_match_90 : ft 99 90 = some (.aload 6, 0, 0, 0, .null) := by decide +kernel
theorem gX8_match_90 {l0 l1 l2 l3 l4 l5 l7 : Option Value} {u : Nat} {st : List Value} {H : HP} {Q : Option Value → HP → Prop} : Go 99 90 [l0, l1, l2, l3, l4, l5, some (.ref u), l7] st H Q ↔ Go 99 92 [l0, l1, l2, l3, l4, l5, some (.ref u), l7] (.ref u :: st) H Q := G_aload fX8_match_90 rfl
theorem gX8_match_90N {l0 l1 l2 l3 l4 l5 l7 : Option Value} {st : List Value} {H : HP} {Q : Option Value → HP → Prop} : Go 99 90 [l0, l1, l2, l3, l4, l5, some .null, l7] st H Q ↔ Go 99 92 [l0, l1, l2, l3, l4, l5, some .null, l7] (.null :: st) H Q := G_aloadN fX8_match_90 rfl
theorem fX8_match_92 : ft 99 92 = some (.invokevirtual 102, 55, 0, 302, .null) := by decide +kernel
theorem gX8_match_92 {L : List (Option Value)} {p : Nat}  {r0 : Int32} {H : HP} {Q : Option Value → HP → Prop} : Go 99 92 L (.ref p :: [.int r0]) H Q ↔ (iso 5 (hget H p) = true ∧ Go 55 0 [some (.ref p)] [] H (Cont 99 95 L [.int r0] Q)) := G_cV (n := 0) (N := 1) (as := []) (st := [.int r0]) fX8_match_92 (by decide +kernel) rfl (Nat.le_of_ble_eq_true rfl) (Nat.le_of_ble_eq_true rfl) rfl
theorem fX8_match_95 : ft 99 95 = some (.iadd, 0, 0, 0, .null) := by decide +kernel
theorem gX8_match_95 {L : List (Option Value)} {a b : Int} {st : List Value} {H : HP} {Q : Option Value → HP → Prop} : Go 99 95 L (vi b :: vi a :: st) H Q ↔ Go 99 96 L (vi (a + b) :: st) H Q := G_iadd fX8_match_95
theorem fX8_match_96 : ft 99 96 = some (.aload 5, 0, 0, 0, .null) := by decide +kernel
theorem gX8_match_96 {l0 l1 l2 l3 l4 l6 l7 : Option Value} {u : Nat} {st : List Value} {H : HP} {Q : Option Value → HP → Prop} : Go 99 96 [l0, l1, l2, l3, l4, some (.ref u), l6, l7] st H Q ↔ Go 99 98 [l0, l1, l2, l3, l4, some (.ref u), l6, l7] (.ref u :: st) H Q := G_aload fX8_match_96 rfl
theorem gX8_match_96N {l0 l1 l2 l3 l4 l6 l7 : Option Value} {st : List Value} {H : HP} {Q : Option Value → HP → Prop} : Go 99 96 [l0, l1, l2, l3, l4, some .null, l6, l7] st H Q ↔ Go 99 98 [l0, l1, l2, l3, l4, some .null, l6, l7] (.null :: st) H Q := G_aloadN fX8_match_96 rfl
theorem fX8_match_98 : ft 99 98 = some (.invokevirtual 102, 55, 0, 302, .null) := by decide +kernel
theorem gX8_match_98 {L : List (Option Value)} {p : Nat}  {r0 : Int32} {H : HP} {Q : Option Value → HP → Prop} : Go 99 98 L (.ref p :: [.int r0]) H Q ↔ (iso 5 (hget H p) = true ∧ Go 55 0 [some (.ref p)] [] H (Cont 99 101 L [.int r0] Q)) := G_cV (n := 0) (N := 1) (as := []) (st := [.int r0]) fX8_match_98 (by decide +kernel) rfl (Nat.le_of_ble_eq_true rfl) (Nat.le_of_ble_eq_true rfl) rfl
theorem fX8_match_101 : ft 99 101 = some (.if_icmp .gt 53, 0, 0, 0, .null) := by decide +kernel
theorem gX8_match_101T {L : List (Option Value)} {a b : Int} (c : (-2147483648 ≤ a ∧ a ≤ 2147483647 ∧ -2147483648 ≤ b ∧ b ≤ 2147483647) ∧ b < a) {st : List Value} {H : HP} {Q : Option Value → HP → Prop} : Go 99 101 L (vi b :: vi a :: st) H Q ↔ Go 99 154 L st H Q := G_icT fX8_match_101 (by decide) c
theorem gX8_match_101F {L : List (Option Value)} {a b : Int} (c : (-2147483648 ≤ a ∧ a ≤ 2147483647 ∧ -2147483648 ≤ b ∧ b ≤ 2147483647) ∧ ¬ (b < a)) {st : List Value} {H : HP} {Q : Option Value → HP → Prop} : Go 99 101 L (vi b :: vi a :: st) H Q ↔ Go 99 104 L st H Q := G_icF (tg := 154) fX8_match_101 (by decide) c
theorem fX8_match_104 : ft 99 104 = some (.aload 5, 0, 0, 0, .null) := by decide +kernel
theorem gX8_match_104 {l0 l1 l2 l3 l4 l6 l7 : Option Value} {u : Nat} {st : List Value} {H : HP} {Q : Option Value → HP → Prop} : Go 99 104 [l0, l1, l2, l3, l4, some (.ref u), l6, l7] st H Q ↔ Go 99 106 [l0, l1, l2, l3, l4, some (.ref u), l6, l7] (.ref u :: st) H Q := G_aload fX8_match_104 rfl
theorem gX8_match_104N {l0 l1 l2 l3 l4 l6 l7 : Option Value} {st : List Value} {H : HP} {Q : Option Value → HP → Prop} : Go 99 104 [l0, l1, l2, l3, l4, some .null, l6, l7] st H Q ↔ Go 99 106 [l0, l1, l2, l3, l4, some .null, l6, l7] (.null :: st) H Q := G_aloadN fX8_match_104 rfl
theorem fX8_match_106 : ft 99 106 = some (.aload 6, 0, 0, 0, .null) := by decide +kernel
theorem gX8_match_106 {l0 l1 l2 l3 l4 l5 l7 : Option Value} {u : Nat} {st : List Value} {H : HP} {Q : Option Value → HP → Prop} : Go 99 106 [l0, l1, l2, l3, l4, l5, some (.ref u), l7] st H Q ↔ Go 99 108 [l0, l1, l2, l3, l4, l5, some (.ref u), l7] (.ref u :: st) H Q := G_aload fX8_match_106 rfl
theorem gX8_match_106N {l0 l1 l2 l3 l4 l5 l7 : Option Value} {st : List Value} {H : HP} {Q : Option Value → HP → Prop} : Go 99 106 [l0, l1, l2, l3, l4, l5, some .null, l7] st H Q ↔ Go 99 108 [l0, l1, l2, l3, l4, l5, some .null, l7] (.null :: st) H Q := G_aloadN fX8_match_106 rfl
theorem fX8_match_108 : ft 99 108 = some (.iload 7, 0, 0, 0, .null) := by decide +kernel
theorem gX8_match_108 {l0 l1 l2 l3 l4 l5 l6 : Option Value} {u : Int32} {st : List Value} {H : HP} {Q : Option Value → HP → Prop} : Go 99 108 [l0, l1, l2, l3, l4, l5, l6, some (.int u)] st H Q ↔ Go 99 110 [l0, l1, l2, l3, l4, l5, l6, some (.int u)] (.int u :: st) H Q := G_iload fX8_match_108 rfl
theorem fX8_match_110 : ft 99 110 = some (.lload_n 3, 0, 0, 0, .null) := by decide +kernel
theorem gX8_match_110 {l0 l1 l2 l5 l6 l7 : Option Value} {u : Int64} {st : List Value} {H : HP} {Q : Option Value → HP → Prop} : Go 99 110 [l0, l1, l2, some (.long u), none, l5, l6, l7] st H Q ↔ Go 99 111 [l0, l1, l2, some (.long u), none, l5, l6, l7] (.long u :: st) H Q := G_lload_n fX8_match_110 rfl
theorem fX8_match_111 : ft 99 111 = some (.invokestatic 243, 113, 0, 671, .null) := by decide +kernel
theorem gX8_match_111 {L : List (Option Value)} {a0 : Nat} {a1 : Nat} {a2 : Int32} {a3 : Int64}  {H : HP} {Q : Option Value → HP → Prop} : Go 99 111 L (.long a3 :: .int a2 :: .ref a1 :: .ref a0 :: []) H Q ↔ Go 113 0 [some (.ref a0), some (.ref a1), some (.int a2), some (.long a3), none, none, none, none, none, none] [] H (Cont 99 114 L [] Q) := G_cS (n := 4) (N := 10) (as := [.long a3, .int a2, .ref a1, .ref a0]) (st := []) fX8_match_111 (by decide +kernel) rfl (Nat.le_of_ble_eq_true rfl) (Nat.le_of_ble_eq_true rfl) rfl
theorem fX8_match_114 : ft 99 114 = some (.ifCond .eq 34, 0, 0, 0, .null) := by decide +kernel
theorem gX8_match_114T {L : List (Option Value)} {a : Int} (c : (-2147483648 ≤ a ∧ a ≤ 2147483647) ∧ a = 0) {st : List Value} {H : HP} {Q : Option Value → HP → Prop} : Go 99 114 L (vi a :: st) H Q ↔ Go 99 148 L st H Q := G_ifT fX8_match_114 (by decide) c
theorem gX8_match_114F {L : List (Option Value)} {a : Int} (c : (-2147483648 ≤ a ∧ a ≤ 2147483647) ∧ ¬ (a = 0)) {st : List Value} {H : HP} {Q : Option Value → HP → Prop} : Go 99 114 L (vi a :: st) H Q ↔ Go 99 117 L st H Q := G_ifF (tg := 148) fX8_match_114 (by decide) c
theorem fX8_match_117 : ft 99 117 = some (.aload_n 0, 0, 0, 0, .null) := by decide +kernel
theorem gX8_match_117 {l1 l2 l3 l4 l5 l6 l7 : Option Value} {u : Nat} {st : List Value} {H : HP} {Q : Option Value → HP → Prop} : Go 99 117 [some (.ref u), l1, l2, l3, l4, l5, l6, l7] st H Q ↔ Go 99 118 [some (.ref u), l1, l2, l3, l4, l5, l6, l7] (.ref u :: st) H Q := G_aload_n fX8_match_117 rfl
theorem fX8_match_118 : ft 99 118 = some (.getfield 50, 8, 8, 229, .null) := by decide +kernel
theorem gX8_match_118 {L : List (Option Value)} {p : Nat} {st : List Value} {H : HP} {Q : Option Value → HP → Prop} : Go 99 118 L (.ref p :: st) H Q ↔ Rd (gF' 8 8 (hget H p)) 99 121 L st H Q := G_getf fX8_match_118 ⟨rfl, rfl⟩
theorem fX8_match_121 : ft 99 121 = some (.getfield 142, 6, 0, 107, .null) := by decide +kernel
theorem gX8_match_121 {L : List (Option Value)} {p : Nat} {st : List Value} {H : HP} {Q : Option Value → HP → Prop} : Go 99 121 L (.ref p :: st) H Q ↔ Rd (gF' 6 0 (hget H p)) 99 124 L st H Q := G_getf fX8_match_121 ⟨rfl, rfl⟩
theorem fX8_match_124 : ft 99 124 = some (.aload_n 0, 0, 0, 0, .null) := by decide +kernel
theorem gX8_match_124 {l1 l2 l3 l4 l5 l6 l7 : Option Value} {u : Nat} {st : List Value} {H : HP} {Q : Option Value → HP → Prop} : Go 99 124 [some (.ref u), l1, l2, l3, l4, l5, l6, l7] st H Q ↔ Go 99 125 [some (.ref u), l1, l2, l3, l4, l5, l6, l7] (.ref u :: st) H Q := G_aload_n fX8_match_124 rfl
theorem fX8_match_125 : ft 99 125 = some (.getfield 50, 8, 8, 229, .null) := by decide +kernel
theorem gX8_match_125 {L : List (Option Value)} {p : Nat} {st : List Value} {H : HP} {Q : Option Value → HP → Prop} : Go 99 125 L (.ref p :: st) H Q ↔ Rd (gF' 8 8 (hget H p)) 99 128 L st H Q := G_getf fX8_match_125 ⟨rfl, rfl⟩
theorem fX8_match_128 : ft 99 128 = some (.getfield 143, 6, 1, 111, .null) := by decide +kernel
theorem gX8_match_128 {L : List (Option Value)} {p : Nat} {st : List Value} {H : HP} {Q : Option Value → HP → Prop} : Go 99 128 L (.ref p :: st) H Q ↔ Rd (gF' 6 1 (hget H p)) 99 131 L st H Q := G_getf fX8_match_128 ⟨rfl, rfl⟩
theorem fX8_match_131 : ft 99 131 = some (.iload 7, 0, 0, 0, .null) := by decide +kernel
theorem gX8_match_131 {l0 l1 l2 l3 l4 l5 l6 : Option Value} {u : Int32} {st : List Value} {H : HP} {Q : Option Value → HP → Prop} : Go 99 131 [l0, l1, l2, l3, l4, l5, l6, some (.int u)] st H Q ↔ Go 99 133 [l0, l1, l2, l3, l4, l5, l6, some (.int u)] (.int u :: st) H Q := G_iload fX8_match_131 rfl
theorem fX8_match_133 : ft 99 133 = some (.i2l, 0, 0, 0, .null) := by decide +kernel
theorem gX8_match_133 {L : List (Option Value)} {a : Int} (c : -2147483648 ≤ a ∧ a ≤ 2147483647) {st : List Value} {H : HP} {Q : Option Value → HP → Prop} : Go 99 133 L (vi a :: st) H Q ↔ Go 99 134 L (vl a :: st) H Q := G_i2l fX8_match_133 c
theorem fX8_match_134 : ft 99 134 = some (.lastore, 0, 0, 0, .null) := by decide +kernel
theorem gX8_match_134 {L : List (Option Value)} {p : Nat} {a : Int} {b : Int} (hp : p ≠ 0) {st : List Value} {H : HP} {Q : Option Value → HP → Prop} : Go 99 134 L (vl b :: vi a :: .ref p :: st) H Q ↔ Wr (sL' (hget H p) a b) p 99 135 L st H Q := G_last fX8_match_134 hp
theorem fX8_match_135 : ft 99 135 = some (.aload_n 0, 0, 0, 0, .null) := by decide +kernel
theorem gX8_match_135 {l1 l2 l3 l4 l5 l6 l7 : Option Value} {u : Nat} {st : List Value} {H : HP} {Q : Option Value → HP → Prop} : Go 99 135 [some (.ref u), l1, l2, l3, l4, l5, l6, l7] st H Q ↔ Go 99 136 [some (.ref u), l1, l2, l3, l4, l5, l6, l7] (.ref u :: st) H Q := G_aload_n fX8_match_135 rfl
theorem fX8_match_136 : ft 99 136 = some (.getfield 50, 8, 8, 229, .null) := by decide +kernel
theorem gX8_match_136 {L : List (Option Value)} {p : Nat} {st : List Value} {H : HP} {Q : Option Value → HP → Prop} : Go 99 136 L (.ref p :: st) H Q ↔ Rd (gF' 8 8 (hget H p)) 99 139 L st H Q := G_getf fX8_match_136 ⟨rfl, rfl⟩
theorem fX8_match_139 : ft 99 139 = some (.dup, 0, 0, 0, .null) := by decide +kernel
theorem gX8_match_139 {L : List (Option Value)} {u : Nat} {st : List Value} {H : HP} {Q : Option Value → HP → Prop} : Go 99 139 L (.ref u :: st) H Q ↔ Go 99 140 L (.ref u :: .ref u :: st) H Q := G_dup fX8_match_139 rfl
theorem fX8_match_140 : ft 99 140 = some (.getfield 143, 6, 1, 111, .null) := by decide +kernel
theorem gX8_match_140 {L : List (Option Value)} {p : Nat} {st : List Value} {H : HP} {Q : Option Value → HP → Prop} : Go 99 140 L (.ref p :: st) H Q ↔ Rd (gF' 6 1 (hget H p)) 99 143 L st H Q := G_getf fX8_match_140 ⟨rfl, rfl⟩
theorem fX8_match_143 : ft 99 143 = some (.iconst 1, 0, 0, 0, .null) := by decide +kernel
theorem gX8_match_143 {L : List (Option Value)} {st : List Value} {H : HP} {Q : Option Value → HP → Prop} : Go 99 143 L st H Q ↔ Go 99 144 L (vi 1 :: st) H Q := G_iconst fX8_match_143
theorem fX8_match_144 : ft 99 144 = some (.iadd, 0, 0, 0, .null) := by decide +kernel
theorem gX8_match_144 {L : List (Option Value)} {a b : Int} {st : List Value} {H : HP} {Q : Option Value → HP → Prop} : Go 99 144 L (vi b :: vi a :: st) H Q ↔ Go 99 145 L (vi (a + b) :: st) H Q := G_iadd fX8_match_144
theorem fX8_match_145 : ft 99 145 = some (.putfield 143, 6, 1, 111, .null) := by decide +kernel
theorem gX8_match_145 {L : List (Option Value)} {p : Nat} {u : Int32} (hp : p ≠ 0) {st : List Value} {H : HP} {Q : Option Value → HP → Prop} : Go 99 145 L (.int u :: .ref p :: st) H Q ↔ Wr (pF' 6 1 (hget H p) (.int u)) p 99 148 L st H Q := G_putf fX8_match_145 ⟨⟨rfl, rfl⟩, rfl, Or.inl rfl⟩ hp
theorem fX8_match_148 : ft 99 148 = some (.iinc 7 1, 0, 0, 0, .null) := by decide +kernel
theorem gX8_match_148 {l0 l1 l2 l3 l4 l5 l6 : Option Value} {a : Int} {st : List Value} {H : HP} {Q : Option Value → HP → Prop} : Go 99 148 [l0, l1, l2, l3, l4, l5, l6, some (vi a)] st H Q ↔ Go 99 151 [l0, l1, l2, l3, l4, l5, l6, some (vi (a + 1))] st H Q := G_iinc fX8_match_148 rfl rfl
theorem fX8_match_151 : ft 99 151 = some (.goto (-63), 0, 0, 0, .null) := by decide +kernel
theorem gX8_match_151 {L : List (Option Value)} {st : List Value} {H : HP} {Q : Option Value → HP → Prop} : Go 99 151 L st H Q ↔ Go 99 88 L st H Q := G_goto fX8_match_151 (by decide)
theorem fX8_match_154 : ft 99 154 = some (.aload_n 0, 0, 0, 0, .null) := by decide +kernel
theorem gX8_match_154 {l1 l2 l3 l4 l5 l6 l7 : Option Value} {u : Nat} {st : List Value} {H : HP} {Q : Option Value → HP → Prop} : Go 99 154 [some (.ref u), l1, l2, l3, l4, l5, l6, l7] st H Q ↔ Go 99 155 [some (.ref u), l1, l2, l3, l4, l5, l6, l7] (.ref u :: st) H Q := G_aload_n fX8_match_154 rfl
theorem fX8_match_155 : ft 99 155 = some (.getfield 50, 8, 8, 229, .null) := by decide +kernel
theorem gX8_match_155 {L : List (Option Value)} {p : Nat} {st : List Value} {H : HP} {Q : Option Value → HP → Prop} : Go 99 155 L (.ref p :: st) H Q ↔ Rd (gF' 8 8 (hget H p)) 99 158 L st H Q := G_getf fX8_match_155 ⟨rfl, rfl⟩
theorem fX8_match_158 : ft 99 158 = some (.getfield 143, 6, 1, 111, .null) := by decide +kernel
theorem gX8_match_158 {L : List (Option Value)} {p : Nat} {st : List Value} {H : HP} {Q : Option Value → HP → Prop} : Go 99 158 L (.ref p :: st) H Q ↔ Rd (gF' 6 1 (hget H p)) 99 161 L st H Q := G_getf fX8_match_158 ⟨rfl, rfl⟩
theorem fX8_match_161 : ft 99 161 = some (.ireturn, 0, 0, 0, .null) := by decide +kernel
theorem gX8_match_161 {L : List (Option Value)} {u : Int32} {H : HP} {Q : Option Value → HP → Prop} : Go 99 161 L [.int u] H Q ↔ Q (some (.int u)) H := G_iret fX8_match_161 (by decide +kernel)
theorem fX8_matchAt_0 : ft 100 0 = some (.aload_n 0, 0, 0, 0, .null) := by decide +kernel
theorem gX8_matchAt_0 {l1 : Option Value} {u : Nat} {st : List Value} {H : HP} {Q : Option Value → HP → Prop} : Go 100 0 [some (.ref u), l1] st H Q ↔ Go 100 1 [some (.ref u), l1] (.ref u :: st) H Q := G_aload_n fX8_matchAt_0 rfl
theorem fX8_matchAt_1 : ft 100 1 = some (.getfield 50, 8, 8, 229, .null) := by decide +kernel
theorem gX8_matchAt_1 {L : List (Option Value)} {p : Nat} {st : List Value} {H : HP} {Q : Option Value → HP → Prop} : Go 100 1 L (.ref p :: st) H Q ↔ Rd (gF' 8 8 (hget H p)) 100 4 L st H Q := G_getf fX8_matchAt_1 ⟨rfl, rfl⟩
theorem fX8_matchAt_4 : ft 100 4 = some (.iload_n 1, 0, 0, 0, .null) := by decide +kernel
theorem gX8_matchAt_4 {l0 : Option Value} {u : Int32} {st : List Value} {H : HP} {Q : Option Value → HP → Prop} : Go 100 4 [l0, some (.int u)] st H Q ↔ Go 100 5 [l0, some (.int u)] (.int u :: st) H Q := G_iload_n fX8_matchAt_4 rfl
theorem fX8_matchAt_5 : ft 100 5 = some (.ldc2_w 247, 0, 0, 678, .long (-9)) := by decide +kernel
theorem gX8_matchAt_5 {L : List (Option Value)} {st : List Value} {H : HP} {Q : Option Value → HP → Prop} : Go 100 5 L st H Q ↔ Go 100 8 L (vl (-9) :: st) H Q := G_ldcl fX8_matchAt_5 (by decide +kernel)
theorem fX8_matchAt_8 : ft 100 8 = some (.invokevirtual 152, 62, 0, 420, .null) := by decide +kernel
theorem gX8_matchAt_8 {L : List (Option Value)} {p : Nat} {a0 : Int32} {a1 : Int64}  {H : HP} {Q : Option Value → HP → Prop} : Go 100 8 L (.long a1 :: .int a0 :: .ref p :: []) H Q ↔ (iso 6 (hget H p) = true ∧ Go 62 0 [some (.ref p), some (.int a0), some (.long a1), none] [] H (Cont 100 11 L [] Q)) := G_cV (n := 2) (N := 4) (as := [.long a1, .int a0]) (st := []) fX8_matchAt_8 (by decide +kernel) rfl (Nat.le_of_ble_eq_true rfl) (Nat.le_of_ble_eq_true rfl) rfl
theorem fX8_matchAt_11 : ft 100 11 = some (.l2i, 0, 0, 0, .null) := by decide +kernel
theorem gX8_matchAt_11 {L : List (Option Value)} {a : Int} {st : List Value} {H : HP} {Q : Option Value → HP → Prop} : Go 100 11 L (vl a :: st) H Q ↔ Go 100 12 L (vi a :: st) H Q := G_l2i fX8_matchAt_11
theorem fX8_matchAt_12 : ft 100 12 = some (.ireturn, 0, 0, 0, .null) := by decide +kernel
theorem gX8_matchAt_12 {L : List (Option Value)} {u : Int32} {H : HP} {Q : Option Value → HP → Prop} : Go 100 12 L [.int u] H Q ↔ Q (some (.int u)) H := G_iret fX8_matchAt_12 (by decide +kernel)
theorem fX8_real_0 : ft 101 0 = some (.aload_n 0, 0, 0, 0, .null) := by decide +kernel
theorem gX8_real_0 {l1 l2 l3 l4 : Option Value} {u : Nat} {st : List Value} {H : HP} {Q : Option Value → HP → Prop} : Go 101 0 [some (.ref u), l1, l2, l3, l4] st H Q ↔ Go 101 1 [some (.ref u), l1, l2, l3, l4] (.ref u :: st) H Q := G_aload_n fX8_real_0 rfl
theorem fX8_real_1 : ft 101 1 = some (.iconst 0, 0, 0, 0, .null) := by decide +kernel
theorem gX8_real_1 {L : List (Option Value)} {st : List Value} {H : HP} {Q : Option Value → HP → Prop} : Go 101 1 L st H Q ↔ Go 101 2 L (vi 0 :: st) H Q := G_iconst fX8_real_1
theorem fX8_real_2 : ft 101 2 = some (.putfield 64, 8, 12, 233, .null) := by decide +kernel
theorem gX8_real_2 {L : List (Option Value)} {p : Nat} {u : Int32} (hp : p ≠ 0) {st : List Value} {H : HP} {Q : Option Value → HP → Prop} : Go 101 2 L (.int u :: .ref p :: st) H Q ↔ Wr (pF' 8 12 (hget H p) (.int u)) p 101 5 L st H Q := G_putf fX8_real_2 ⟨⟨rfl, rfl⟩, rfl, Or.inl rfl⟩ hp
theorem fX8_real_5 : ft 101 5 = some (.iload_n 1, 0, 0, 0, .null) := by decide +kernel
theorem gX8_real_5 {l0 l2 l3 l4 : Option Value} {u : Int32} {st : List Value} {H : HP} {Q : Option Value → HP → Prop} : Go 101 5 [l0, some (.int u), l2, l3, l4] st H Q ↔ Go 101 6 [l0, some (.int u), l2, l3, l4] (.int u :: st) H Q := G_iload_n fX8_real_5 rfl
theorem fX8_real_6 : ft 101 6 = some (.invokestatic 85, 108, 0, 265, .null) := by decide +kernel
theorem gX8_real_6 {L : List (Option Value)} {a0 : Int32}  {H : HP} {Q : Option Value → HP → Prop} : Go 101 6 L (.int a0 :: []) H Q ↔ Go 108 0 [some (.int a0)] [] H (Cont 101 9 L [] Q) := G_cS (n := 1) (N := 1) (as := [.int a0]) (st := []) fX8_real_6 (by decide +kernel) rfl (Nat.le_of_ble_eq_true rfl) (Nat.le_of_ble_eq_true rfl) rfl
theorem fX8_real_9 : ft 101 9 = some (.ifCond .eq 10, 0, 0, 0, .null) := by decide +kernel
theorem gX8_real_9T {L : List (Option Value)} {a : Int} (c : (-2147483648 ≤ a ∧ a ≤ 2147483647) ∧ a = 0) {st : List Value} {H : HP} {Q : Option Value → HP → Prop} : Go 101 9 L (vi a :: st) H Q ↔ Go 101 19 L st H Q := G_ifT fX8_real_9 (by decide) c
theorem gX8_real_9F {L : List (Option Value)} {a : Int} (c : (-2147483648 ≤ a ∧ a ≤ 2147483647) ∧ ¬ (a = 0)) {st : List Value} {H : HP} {Q : Option Value → HP → Prop} : Go 101 9 L (vi a :: st) H Q ↔ Go 101 12 L st H Q := G_ifF (tg := 19) fX8_real_9 (by decide) c
theorem fX8_real_12 : ft 101 12 = some (.iload_n 2, 0, 0, 0, .null) := by decide +kernel
theorem gX8_real_12 {l0 l1 l3 l4 : Option Value} {u : Int32} {st : List Value} {H : HP} {Q : Option Value → HP → Prop} : Go 101 12 [l0, l1, some (.int u), l3, l4] st H Q ↔ Go 101 13 [l0, l1, some (.int u), l3, l4] (.int u :: st) H Q := G_iload_n fX8_real_12 rfl
theorem fX8_real_13 : ft 101 13 = some (.invokestatic 85, 108, 0, 265, .null) := by decide +kernel
theorem gX8_real_13 {L : List (Option Value)} {a0 : Int32}  {H : HP} {Q : Option Value → HP → Prop} : Go 101 13 L (.int a0 :: []) H Q ↔ Go 108 0 [some (.int a0)] [] H (Cont 101 16 L [] Q) := G_cS (n := 1) (N := 1) (as := [.int a0]) (st := []) fX8_real_13 (by decide +kernel) rfl (Nat.le_of_ble_eq_true rfl) (Nat.le_of_ble_eq_true rfl) rfl
theorem fX8_real_16 : ft 101 16 = some (.ifCond .ne 5, 0, 0, 0, .null) := by decide +kernel
theorem gX8_real_16T {L : List (Option Value)} {a : Int} (c : (-2147483648 ≤ a ∧ a ≤ 2147483647) ∧ ¬ a = 0) {st : List Value} {H : HP} {Q : Option Value → HP → Prop} : Go 101 16 L (vi a :: st) H Q ↔ Go 101 21 L st H Q := G_ifT fX8_real_16 (by decide) c
theorem gX8_real_16F {L : List (Option Value)} {a : Int} (c : (-2147483648 ≤ a ∧ a ≤ 2147483647) ∧ ¬ (¬ a = 0)) {st : List Value} {H : HP} {Q : Option Value → HP → Prop} : Go 101 16 L (vi a :: st) H Q ↔ Go 101 19 L st H Q := G_ifF (tg := 21) fX8_real_16 (by decide) c
theorem fX8_real_19 : ft 101 19 = some (.iconst (-1), 0, 0, 0, .null) := by decide +kernel
theorem gX8_real_19 {L : List (Option Value)} {st : List Value} {H : HP} {Q : Option Value → HP → Prop} : Go 101 19 L st H Q ↔ Go 101 20 L (vi (-1) :: st) H Q := G_iconst fX8_real_19
theorem fX8_real_20 : ft 101 20 = some (.ireturn, 0, 0, 0, .null) := by decide +kernel
theorem gX8_real_20 {L : List (Option Value)} {u : Int32} {H : HP} {Q : Option Value → HP → Prop} : Go 101 20 L [.int u] H Q ↔ Q (some (.int u)) H := G_iret fX8_real_20 (by decide +kernel)
theorem fX8_real_21 : ft 101 21 = some (.aload_n 0, 0, 0, 0, .null) := by decide +kernel
theorem gX8_real_21 {l1 l2 l3 l4 : Option Value} {u : Nat} {st : List Value} {H : HP} {Q : Option Value → HP → Prop} : Go 101 21 [some (.ref u), l1, l2, l3, l4] st H Q ↔ Go 101 22 [some (.ref u), l1, l2, l3, l4] (.ref u :: st) H Q := G_aload_n fX8_real_21 rfl
theorem fX8_real_22 : ft 101 22 = some (.getfield 11, 8, 0, 221, .null) := by decide +kernel
theorem gX8_real_22 {L : List (Option Value)} {p : Nat} {st : List Value} {H : HP} {Q : Option Value → HP → Prop} : Go 101 22 L (.ref p :: st) H Q ↔ Rd (gF' 8 0 (hget H p)) 101 25 L st H Q := G_getf fX8_real_22 ⟨rfl, rfl⟩
theorem fX8_real_25 : ft 101 25 = some (.iload_n 1, 0, 0, 0, .null) := by decide +kernel
theorem gX8_real_25 {l0 l2 l3 l4 : Option Value} {u : Int32} {st : List Value} {H : HP} {Q : Option Value → HP → Prop} : Go 101 25 [l0, some (.int u), l2, l3, l4] st H Q ↔ Go 101 26 [l0, some (.int u), l2, l3, l4] (.int u :: st) H Q := G_iload_n fX8_real_25 rfl
theorem fX8_real_26 : ft 101 26 = some (.aaload, 0, 0, 0, .null) := by decide +kernel
theorem gX8_real_26 {L : List (Option Value)} {p : Nat} {a : Int} {st : List Value} {H : HP} {Q : Option Value → HP → Prop} : Go 101 26 L (vi a :: .ref p :: st) H Q ↔ Rd (aR' (hget H p) a) 101 27 L st H Q := G_aald fX8_real_26
theorem fX8_real_27 : ft 101 27 = some (.astore_n 3, 0, 0, 0, .null) := by decide +kernel
theorem gX8_real_27 {l0 l1 l2 l3 l4 : Option Value} {u : Nat} {st : List Value} {H : HP} {Q : Option Value → HP → Prop} : Go 101 27 [l0, l1, l2, l3, l4] (.ref u :: st) H Q ↔ Go 101 28 [l0, l1, l2, some (.ref u), l4] st H Q := G_astore_n fX8_real_27 rfl
theorem gX8_real_27N {l0 l1 l2 l3 l4 : Option Value} {st : List Value} {H : HP} {Q : Option Value → HP → Prop} : Go 101 27 [l0, l1, l2, l3, l4] (.null :: st) H Q ↔ Go 101 28 [l0, l1, l2, some .null, l4] st H Q := G_astore_nN fX8_real_27 rfl
theorem fX8_real_28 : ft 101 28 = some (.aload_n 0, 0, 0, 0, .null) := by decide +kernel
theorem gX8_real_28 {l1 l2 l3 l4 : Option Value} {u : Nat} {st : List Value} {H : HP} {Q : Option Value → HP → Prop} : Go 101 28 [some (.ref u), l1, l2, l3, l4] st H Q ↔ Go 101 29 [some (.ref u), l1, l2, l3, l4] (.ref u :: st) H Q := G_aload_n fX8_real_28 rfl
theorem fX8_real_29 : ft 101 29 = some (.getfield 11, 8, 0, 221, .null) := by decide +kernel
theorem gX8_real_29 {L : List (Option Value)} {p : Nat} {st : List Value} {H : HP} {Q : Option Value → HP → Prop} : Go 101 29 L (.ref p :: st) H Q ↔ Rd (gF' 8 0 (hget H p)) 101 32 L st H Q := G_getf fX8_real_29 ⟨rfl, rfl⟩
theorem fX8_real_32 : ft 101 32 = some (.iload_n 2, 0, 0, 0, .null) := by decide +kernel
theorem gX8_real_32 {l0 l1 l3 l4 : Option Value} {u : Int32} {st : List Value} {H : HP} {Q : Option Value → HP → Prop} : Go 101 32 [l0, l1, some (.int u), l3, l4] st H Q ↔ Go 101 33 [l0, l1, some (.int u), l3, l4] (.int u :: st) H Q := G_iload_n fX8_real_32 rfl
theorem fX8_real_33 : ft 101 33 = some (.aaload, 0, 0, 0, .null) := by decide +kernel
theorem gX8_real_33 {L : List (Option Value)} {p : Nat} {a : Int} {st : List Value} {H : HP} {Q : Option Value → HP → Prop} : Go 101 33 L (vi a :: .ref p :: st) H Q ↔ Rd (aR' (hget H p) a) 101 34 L st H Q := G_aald fX8_real_33
theorem fX8_real_34 : ft 101 34 = some (.astore 4, 0, 0, 0, .null) := by decide +kernel
theorem gX8_real_34 {l0 l1 l2 l3 l4 : Option Value} {u : Nat} {st : List Value} {H : HP} {Q : Option Value → HP → Prop} : Go 101 34 [l0, l1, l2, l3, l4] (.ref u :: st) H Q ↔ Go 101 36 [l0, l1, l2, l3, some (.ref u)] st H Q := G_astore fX8_real_34 rfl
theorem gX8_real_34N {l0 l1 l2 l3 l4 : Option Value} {st : List Value} {H : HP} {Q : Option Value → HP → Prop} : Go 101 34 [l0, l1, l2, l3, l4] (.null :: st) H Q ↔ Go 101 36 [l0, l1, l2, l3, some .null] st H Q := G_astoreN fX8_real_34 rfl
theorem fX8_real_36 : ft 101 36 = some (.aload_n 3, 0, 0, 0, .null) := by decide +kernel
theorem gX8_real_36 {l0 l1 l2 l4 : Option Value} {u : Nat} {st : List Value} {H : HP} {Q : Option Value → HP → Prop} : Go 101 36 [l0, l1, l2, some (.ref u), l4] st H Q ↔ Go 101 37 [l0, l1, l2, some (.ref u), l4] (.ref u :: st) H Q := G_aload_n fX8_real_36 rfl
theorem gX8_real_36N {l0 l1 l2 l4 : Option Value} {st : List Value} {H : HP} {Q : Option Value → HP → Prop} : Go 101 36 [l0, l1, l2, some .null, l4] st H Q ↔ Go 101 37 [l0, l1, l2, some .null, l4] (.null :: st) H Q := G_aload_nN fX8_real_36 rfl
theorem fX8_real_37 : ft 101 37 = some (.ifnull 8, 0, 0, 0, .null) := by decide +kernel
theorem gX8_real_37T {L : List (Option Value)} {st : List Value} {H : HP} {Q : Option Value → HP → Prop} : Go 101 37 L (.null :: st) H Q ↔ Go 101 45 L st H Q := G_nullT fX8_real_37 (by decide)
theorem gX8_real_37F {L : List (Option Value)} {p : Nat} {st : List Value} {H : HP} {Q : Option Value → HP → Prop} : Go 101 37 L ((.ref p) :: st) H Q ↔ Go 101 40 L st H Q := G_nullF (tg := 45) fX8_real_37 (by decide)
theorem fX8_real_40 : ft 101 40 = some (.aload 4, 0, 0, 0, .null) := by decide +kernel
theorem gX8_real_40 {l0 l1 l2 l3 : Option Value} {u : Nat} {st : List Value} {H : HP} {Q : Option Value → HP → Prop} : Go 101 40 [l0, l1, l2, l3, some (.ref u)] st H Q ↔ Go 101 42 [l0, l1, l2, l3, some (.ref u)] (.ref u :: st) H Q := G_aload fX8_real_40 rfl
theorem gX8_real_40N {l0 l1 l2 l3 : Option Value} {st : List Value} {H : HP} {Q : Option Value → HP → Prop} : Go 101 40 [l0, l1, l2, l3, some .null] st H Q ↔ Go 101 42 [l0, l1, l2, l3, some .null] (.null :: st) H Q := G_aloadN fX8_real_40 rfl
theorem fX8_real_42 : ft 101 42 = some (.ifnonnull 9, 0, 0, 0, .null) := by decide +kernel
theorem gX8_real_42T {L : List (Option Value)} {p : Nat} {st : List Value} {H : HP} {Q : Option Value → HP → Prop} : Go 101 42 L ((.ref p) :: st) H Q ↔ Go 101 51 L st H Q := G_nnT fX8_real_42 (by decide)
theorem gX8_real_42F {L : List (Option Value)} {st : List Value} {H : HP} {Q : Option Value → HP → Prop} : Go 101 42 L (.null :: st) H Q ↔ Go 101 45 L st H Q := G_nnF (tg := 51) fX8_real_42 (by decide)
theorem fX8_real_45 : ft 101 45 = some (.aload_n 0, 0, 0, 0, .null) := by decide +kernel
theorem gX8_real_45 {l1 l2 l3 l4 : Option Value} {u : Nat} {st : List Value} {H : HP} {Q : Option Value → HP → Prop} : Go 101 45 [some (.ref u), l1, l2, l3, l4] st H Q ↔ Go 101 46 [some (.ref u), l1, l2, l3, l4] (.ref u :: st) H Q := G_aload_n fX8_real_45 rfl
theorem fX8_real_46 : ft 101 46 = some (.iconst 1, 0, 0, 0, .null) := by decide +kernel
theorem gX8_real_46 {L : List (Option Value)} {st : List Value} {H : HP} {Q : Option Value → HP → Prop} : Go 101 46 L st H Q ↔ Go 101 47 L (vi 1 :: st) H Q := G_iconst fX8_real_46
theorem fX8_real_47 : ft 101 47 = some (.invokevirtual 92, 105, 0, 271, .null) := by decide +kernel
theorem gX8_real_47 {L : List (Option Value)} {p : Nat} {a0 : Int32}  {H : HP} {Q : Option Value → HP → Prop} : Go 101 47 L (.int a0 :: .ref p :: []) H Q ↔ (iso 8 (hget H p) = true ∧ Go 105 0 [some (.ref p), some (.int a0)] [] H (Cont 101 50 L [] Q)) := G_cV (n := 1) (N := 2) (as := [.int a0]) (st := []) fX8_real_47 (by decide +kernel) rfl (Nat.le_of_ble_eq_true rfl) (Nat.le_of_ble_eq_true rfl) rfl
theorem fX8_real_50 : ft 101 50 = some (.ireturn, 0, 0, 0, .null) := by decide +kernel
theorem gX8_real_50 {L : List (Option Value)} {u : Int32} {H : HP} {Q : Option Value → HP → Prop} : Go 101 50 L [.int u] H Q ↔ Q (some (.int u)) H := G_iret fX8_real_50 (by decide +kernel)
theorem fX8_real_51 : ft 101 51 = some (.aload_n 0, 0, 0, 0, .null) := by decide +kernel
theorem gX8_real_51 {l1 l2 l3 l4 : Option Value} {u : Nat} {st : List Value} {H : HP} {Q : Option Value → HP → Prop} : Go 101 51 [some (.ref u), l1, l2, l3, l4] st H Q ↔ Go 101 52 [some (.ref u), l1, l2, l3, l4] (.ref u :: st) H Q := G_aload_n fX8_real_51 rfl
theorem fX8_real_52 : ft 101 52 = some (.getfield 53, 8, 9, 230, .null) := by decide +kernel
theorem gX8_real_52 {L : List (Option Value)} {p : Nat} {st : List Value} {H : HP} {Q : Option Value → HP → Prop} : Go 101 52 L (.ref p :: st) H Q ↔ Rd (gF' 8 9 (hget H p)) 101 55 L st H Q := G_getf fX8_real_52 ⟨rfl, rfl⟩
theorem fX8_real_55 : ft 101 55 = some (.aload_n 3, 0, 0, 0, .null) := by decide +kernel
theorem gX8_real_55 {l0 l1 l2 l4 : Option Value} {u : Nat} {st : List Value} {H : HP} {Q : Option Value → HP → Prop} : Go 101 55 [l0, l1, l2, some (.ref u), l4] st H Q ↔ Go 101 56 [l0, l1, l2, some (.ref u), l4] (.ref u :: st) H Q := G_aload_n fX8_real_55 rfl
theorem gX8_real_55N {l0 l1 l2 l4 : Option Value} {st : List Value} {H : HP} {Q : Option Value → HP → Prop} : Go 101 55 [l0, l1, l2, some .null, l4] st H Q ↔ Go 101 56 [l0, l1, l2, some .null, l4] (.null :: st) H Q := G_aload_nN fX8_real_55 rfl
theorem fX8_real_56 : ft 101 56 = some (.invokevirtual 102, 55, 0, 302, .null) := by decide +kernel
theorem gX8_real_56 {L : List (Option Value)} {p : Nat}  {r0 : Nat} {H : HP} {Q : Option Value → HP → Prop} : Go 101 56 L (.ref p :: [.ref r0]) H Q ↔ (iso 5 (hget H p) = true ∧ Go 55 0 [some (.ref p)] [] H (Cont 101 59 L [.ref r0] Q)) := G_cV (n := 0) (N := 1) (as := []) (st := [.ref r0]) fX8_real_56 (by decide +kernel) rfl (Nat.le_of_ble_eq_true rfl) (Nat.le_of_ble_eq_true rfl) rfl
theorem fX8_real_59 : ft 101 59 = some (.aload 4, 0, 0, 0, .null) := by decide +kernel
theorem gX8_real_59 {l0 l1 l2 l3 : Option Value} {u : Nat} {st : List Value} {H : HP} {Q : Option Value → HP → Prop} : Go 101 59 [l0, l1, l2, l3, some (.ref u)] st H Q ↔ Go 101 61 [l0, l1, l2, l3, some (.ref u)] (.ref u :: st) H Q := G_aload fX8_real_59 rfl
theorem gX8_real_59N {l0 l1 l2 l3 : Option Value} {st : List Value} {H : HP} {Q : Option Value → HP → Prop} : Go 101 59 [l0, l1, l2, l3, some .null] st H Q ↔ Go 101 61 [l0, l1, l2, l3, some .null] (.null :: st) H Q := G_aloadN fX8_real_59 rfl
theorem fX8_real_61 : ft 101 61 = some (.invokevirtual 102, 55, 0, 302, .null) := by decide +kernel
theorem gX8_real_61 {L : List (Option Value)} {p : Nat}  {r0 : Int32} {r1 : Nat} {H : HP} {Q : Option Value → HP → Prop} : Go 101 61 L (.ref p :: [.int r0, .ref r1]) H Q ↔ (iso 5 (hget H p) = true ∧ Go 55 0 [some (.ref p)] [] H (Cont 101 64 L [.int r0, .ref r1] Q)) := G_cV (n := 0) (N := 1) (as := []) (st := [.int r0, .ref r1]) fX8_real_61 (by decide +kernel) rfl (Nat.le_of_ble_eq_true rfl) (Nat.le_of_ble_eq_true rfl) rfl
theorem fX8_real_64 : ft 101 64 = some (.iadd, 0, 0, 0, .null) := by decide +kernel
theorem gX8_real_64 {L : List (Option Value)} {a b : Int} {st : List Value} {H : HP} {Q : Option Value → HP → Prop} : Go 101 64 L (vi b :: vi a :: st) H Q ↔ Go 101 65 L (vi (a + b) :: st) H Q := G_iadd fX8_real_64
theorem fX8_real_65 : ft 101 65 = some (.iconst 1, 0, 0, 0, .null) := by decide +kernel
theorem gX8_real_65 {L : List (Option Value)} {st : List Value} {H : HP} {Q : Option Value → HP → Prop} : Go 101 65 L st H Q ↔ Go 101 66 L (vi 1 :: st) H Q := G_iconst fX8_real_65
theorem fX8_real_66 : ft 101 66 = some (.isub, 0, 0, 0, .null) := by decide +kernel
theorem gX8_real_66 {L : List (Option Value)} {a b : Int} {st : List Value} {H : HP} {Q : Option Value → HP → Prop} : Go 101 66 L (vi b :: vi a :: st) H Q ↔ Go 101 67 L (vi (a - b) :: st) H Q := G_isub fX8_real_66
theorem fX8_real_67 : ft 101 67 = some (.putfield 143, 6, 1, 111, .null) := by decide +kernel
theorem gX8_real_67 {L : List (Option Value)} {p : Nat} {u : Int32} (hp : p ≠ 0) {st : List Value} {H : HP} {Q : Option Value → HP → Prop} : Go 101 67 L (.int u :: .ref p :: st) H Q ↔ Wr (pF' 6 1 (hget H p) (.int u)) p 101 70 L st H Q := G_putf fX8_real_67 ⟨⟨rfl, rfl⟩, rfl, Or.inl rfl⟩ hp
theorem fX8_real_70 : ft 101 70 = some (.aload_n 0, 0, 0, 0, .null) := by decide +kernel
theorem gX8_real_70 {l1 l2 l3 l4 : Option Value} {u : Nat} {st : List Value} {H : HP} {Q : Option Value → HP → Prop} : Go 101 70 [some (.ref u), l1, l2, l3, l4] st H Q ↔ Go 101 71 [some (.ref u), l1, l2, l3, l4] (.ref u :: st) H Q := G_aload_n fX8_real_70 rfl
theorem fX8_real_71 : ft 101 71 = some (.getfield 31, 8, 4, 225, .null) := by decide +kernel
theorem gX8_real_71 {L : List (Option Value)} {p : Nat} {st : List Value} {H : HP} {Q : Option Value → HP → Prop} : Go 101 71 L (.ref p :: st) H Q ↔ Rd (gF' 8 4 (hget H p)) 101 74 L st H Q := G_getf fX8_real_71 ⟨rfl, rfl⟩
theorem fX8_real_74 : ft 101 74 = some (.aload_n 3, 0, 0, 0, .null) := by decide +kernel
theorem gX8_real_74 {l0 l1 l2 l4 : Option Value} {u : Nat} {st : List Value} {H : HP} {Q : Option Value → HP → Prop} : Go 101 74 [l0, l1, l2, some (.ref u), l4] st H Q ↔ Go 101 75 [l0, l1, l2, some (.ref u), l4] (.ref u :: st) H Q := G_aload_n fX8_real_74 rfl
theorem gX8_real_74N {l0 l1 l2 l4 : Option Value} {st : List Value} {H : HP} {Q : Option Value → HP → Prop} : Go 101 74 [l0, l1, l2, some .null, l4] st H Q ↔ Go 101 75 [l0, l1, l2, some .null, l4] (.null :: st) H Q := G_aload_nN fX8_real_74 rfl
theorem fX8_real_75 : ft 101 75 = some (.aload 4, 0, 0, 0, .null) := by decide +kernel
theorem gX8_real_75 {l0 l1 l2 l3 : Option Value} {u : Nat} {st : List Value} {H : HP} {Q : Option Value → HP → Prop} : Go 101 75 [l0, l1, l2, l3, some (.ref u)] st H Q ↔ Go 101 77 [l0, l1, l2, l3, some (.ref u)] (.ref u :: st) H Q := G_aload fX8_real_75 rfl
theorem gX8_real_75N {l0 l1 l2 l3 : Option Value} {st : List Value} {H : HP} {Q : Option Value → HP → Prop} : Go 101 75 [l0, l1, l2, l3, some .null] st H Q ↔ Go 101 77 [l0, l1, l2, l3, some .null] (.null :: st) H Q := G_aloadN fX8_real_75 rfl
theorem fX8_real_77 : ft 101 77 = some (.aload_n 0, 0, 0, 0, .null) := by decide +kernel
theorem gX8_real_77 {l1 l2 l3 l4 : Option Value} {u : Nat} {st : List Value} {H : HP} {Q : Option Value → HP → Prop} : Go 101 77 [some (.ref u), l1, l2, l3, l4] st H Q ↔ Go 101 78 [some (.ref u), l1, l2, l3, l4] (.ref u :: st) H Q := G_aload_n fX8_real_77 rfl
theorem fX8_real_78 : ft 101 78 = some (.getfield 53, 8, 9, 230, .null) := by decide +kernel
theorem gX8_real_78 {L : List (Option Value)} {p : Nat} {st : List Value} {H : HP} {Q : Option Value → HP → Prop} : Go 101 78 L (.ref p :: st) H Q ↔ Rd (gF' 8 9 (hget H p)) 101 81 L st H Q := G_getf fX8_real_78 ⟨rfl, rfl⟩
theorem fX8_real_81 : ft 101 81 = some (.invokevirtual 249, 2, 0, 683, .null) := by decide +kernel
theorem gX8_real_81 {L : List (Option Value)} {p : Nat} {a0 : Nat} {a1 : Nat} {a2 : Nat}  {H : HP} {Q : Option Value → HP → Prop} : Go 101 81 L (.ref a2 :: .ref a1 :: .ref a0 :: .ref p :: []) H Q ↔ (iso 0 (hget H p) = true ∧ Go 2 0 [some (.ref p), some (.ref a0), some (.ref a1), some (.ref a2), none] [] H (Cont 101 84 L [] Q)) := G_cV (n := 3) (N := 5) (as := [.ref a2, .ref a1, .ref a0]) (st := []) fX8_real_81 (by decide +kernel) rfl (Nat.le_of_ble_eq_true rfl) (Nat.le_of_ble_eq_true rfl) rfl
theorem fX8_real_84 : ft 101 84 = some (.aload_n 0, 0, 0, 0, .null) := by decide +kernel
theorem gX8_real_84 {l1 l2 l3 l4 : Option Value} {u : Nat} {st : List Value} {H : HP} {Q : Option Value → HP → Prop} : Go 101 84 [some (.ref u), l1, l2, l3, l4] st H Q ↔ Go 101 85 [some (.ref u), l1, l2, l3, l4] (.ref u :: st) H Q := G_aload_n fX8_real_84 rfl
theorem fX8_real_85 : ft 101 85 = some (.getfield 53, 8, 9, 230, .null) := by decide +kernel
theorem gX8_real_85 {L : List (Option Value)} {p : Nat} {st : List Value} {H : HP} {Q : Option Value → HP → Prop} : Go 101 85 L (.ref p :: st) H Q ↔ Rd (gF' 8 9 (hget H p)) 101 88 L st H Q := G_getf fX8_real_85 ⟨rfl, rfl⟩
theorem fX8_real_88 : ft 101 88 = some (.getfield 143, 6, 1, 111, .null) := by decide +kernel
theorem gX8_real_88 {L : List (Option Value)} {p : Nat} {st : List Value} {H : HP} {Q : Option Value → HP → Prop} : Go 101 88 L (.ref p :: st) H Q ↔ Rd (gF' 6 1 (hget H p)) 101 91 L st H Q := G_getf fX8_real_88 ⟨rfl, rfl⟩
theorem fX8_real_91 : ft 101 91 = some (.ireturn, 0, 0, 0, .null) := by decide +kernel
theorem gX8_real_91 {L : List (Option Value)} {u : Int32} {H : HP} {Q : Option Value → HP → Prop} : Go 101 91 L [.int u] H Q ↔ Q (some (.int u)) H := G_iret fX8_real_91 (by decide +kernel)
theorem fX8_realAt_0 : ft 102 0 = some (.aload_n 0, 0, 0, 0, .null) := by decide +kernel
theorem gX8_realAt_0 {l1 : Option Value} {u : Nat} {st : List Value} {H : HP} {Q : Option Value → HP → Prop} : Go 102 0 [some (.ref u), l1] st H Q ↔ Go 102 1 [some (.ref u), l1] (.ref u :: st) H Q := G_aload_n fX8_realAt_0 rfl
theorem fX8_realAt_1 : ft 102 1 = some (.getfield 53, 8, 9, 230, .null) := by decide +kernel
theorem gX8_realAt_1 {L : List (Option Value)} {p : Nat} {st : List Value} {H : HP} {Q : Option Value → HP → Prop} : Go 102 1 L (.ref p :: st) H Q ↔ Rd (gF' 8 9 (hget H p)) 102 4 L st H Q := G_getf fX8_realAt_1 ⟨rfl, rfl⟩
theorem fX8_realAt_4 : ft 102 4 = some (.iload_n 1, 0, 0, 0, .null) := by decide +kernel
theorem gX8_realAt_4 {l0 : Option Value} {u : Int32} {st : List Value} {H : HP} {Q : Option Value → HP → Prop} : Go 102 4 [l0, some (.int u)] st H Q ↔ Go 102 5 [l0, some (.int u)] (.int u :: st) H Q := G_iload_n fX8_realAt_4 rfl
theorem fX8_realAt_5 : ft 102 5 = some (.ldc2_w 253, 0, 0, 739, .long (9221120237041090560)) := by decide +kernel
theorem gX8_realAt_5 {L : List (Option Value)} {st : List Value} {H : HP} {Q : Option Value → HP → Prop} : Go 102 5 L st H Q ↔ Go 102 8 L (vl (9221120237041090560) :: st) H Q := G_ldcl fX8_realAt_5 (by decide +kernel)
theorem fX8_realAt_8 : ft 102 8 = some (.invokevirtual 152, 62, 0, 420, .null) := by decide +kernel
theorem gX8_realAt_8 {L : List (Option Value)} {p : Nat} {a0 : Int32} {a1 : Int64}  {H : HP} {Q : Option Value → HP → Prop} : Go 102 8 L (.long a1 :: .int a0 :: .ref p :: []) H Q ↔ (iso 6 (hget H p) = true ∧ Go 62 0 [some (.ref p), some (.int a0), some (.long a1), none] [] H (Cont 102 11 L [] Q)) := G_cV (n := 2) (N := 4) (as := [.long a1, .int a0]) (st := []) fX8_realAt_8 (by decide +kernel) rfl (Nat.le_of_ble_eq_true rfl) (Nat.le_of_ble_eq_true rfl) rfl
theorem fX8_realAt_11 : ft 102 11 = some (.lreturn, 0, 0, 0, .null) := by decide +kernel
theorem gX8_realAt_11 {L : List (Option Value)} {u : Int64} {H : HP} {Q : Option Value → HP → Prop} : Go 102 11 L [.long u] H Q ↔ Q (some (.long u)) H := G_lret fX8_realAt_11 (by decide +kernel)
theorem fX8_fault_0 : ft 103 0 = some (.aload_n 0, 0, 0, 0, .null) := by decide +kernel
theorem gX8_fault_0  {u : Nat} {st : List Value} {H : HP} {Q : Option Value → HP → Prop} : Go 103 0 [some (.ref u)] st H Q ↔ Go 103 1 [some (.ref u)] (.ref u :: st) H Q := G_aload_n fX8_fault_0 rfl
theorem fX8_fault_1 : ft 103 1 = some (.getfield 64, 8, 12, 233, .null) := by decide +kernel
theorem gX8_fault_1 {L : List (Option Value)} {p : Nat} {st : List Value} {H : HP} {Q : Option Value → HP → Prop} : Go 103 1 L (.ref p :: st) H Q ↔ Rd (gF' 8 12 (hget H p)) 103 4 L st H Q := G_getf fX8_fault_1 ⟨rfl, rfl⟩
theorem fX8_fault_4 : ft 103 4 = some (.ireturn, 0, 0, 0, .null) := by decide +kernel
theorem gX8_fault_4 {L : List (Option Value)} {u : Int32} {H : HP} {Q : Option Value → HP → Prop} : Go 103 4 L [.int u] H Q ↔ Q (some (.int u)) H := G_iret fX8_fault_4 (by decide +kernel)
theorem fX8_told_0 : ft 104 0 = some (.iload_n 1, 0, 0, 0, .null) := by decide +kernel
theorem gX8_told_0 {l0 : Option Value} {u : Int32} {st : List Value} {H : HP} {Q : Option Value → HP → Prop} : Go 104 0 [l0, some (.int u)] st H Q ↔ Go 104 1 [l0, some (.int u)] (.int u :: st) H Q := G_iload_n fX8_told_0 rfl
theorem fX8_told_1 : ft 104 1 = some (.tableswitch 96 0 6 #[43, 51, 56, 64, 72, 80, 88], 0, 0, 0, .null) := by decide +kernel
theorem gX8_told_1O {L : List (Option Value)} {a : Int} (c : (-2147483648 ≤ a ∧ a ≤ 2147483647) ∧ (a < 0 ∨ 6 < a)) {st : List Value} {H : HP} {Q : Option Value → HP → Prop} : Go 104 1 L (vi a :: st) H Q ↔ Go 104 97 L st H Q := G_swO fX8_told_1 (by decide) c
theorem gX8_told_1_0 {L : List (Option Value)} {a : Int} (c : a = 0) {st : List Value} {H : HP} {Q : Option Value → HP → Prop} : Go 104 1 L (vi a :: st) H Q ↔ Go 104 44 L st H Q := G_swI (i := 43) (j := 0) fX8_told_1 (by decide) (by decide) (by decide) c
theorem gX8_told_1_1 {L : List (Option Value)} {a : Int} (c : a = 1) {st : List Value} {H : HP} {Q : Option Value → HP → Prop} : Go 104 1 L (vi a :: st) H Q ↔ Go 104 52 L st H Q := G_swI (i := 51) (j := 1) fX8_told_1 (by decide) (by decide) (by decide) c
theorem gX8_told_1_2 {L : List (Option Value)} {a : Int} (c : a = 2) {st : List Value} {H : HP} {Q : Option Value → HP → Prop} : Go 104 1 L (vi a :: st) H Q ↔ Go 104 57 L st H Q := G_swI (i := 56) (j := 2) fX8_told_1 (by decide) (by decide) (by decide) c
theorem gX8_told_1_3 {L : List (Option Value)} {a : Int} (c : a = 3) {st : List Value} {H : HP} {Q : Option Value → HP → Prop} : Go 104 1 L (vi a :: st) H Q ↔ Go 104 65 L st H Q := G_swI (i := 64) (j := 3) fX8_told_1 (by decide) (by decide) (by decide) c
theorem gX8_told_1_4 {L : List (Option Value)} {a : Int} (c : a = 4) {st : List Value} {H : HP} {Q : Option Value → HP → Prop} : Go 104 1 L (vi a :: st) H Q ↔ Go 104 73 L st H Q := G_swI (i := 72) (j := 4) fX8_told_1 (by decide) (by decide) (by decide) c
theorem gX8_told_1_5 {L : List (Option Value)} {a : Int} (c : a = 5) {st : List Value} {H : HP} {Q : Option Value → HP → Prop} : Go 104 1 L (vi a :: st) H Q ↔ Go 104 81 L st H Q := G_swI (i := 80) (j := 5) fX8_told_1 (by decide) (by decide) (by decide) c
theorem gX8_told_1_6 {L : List (Option Value)} {a : Int} (c : a = 6) {st : List Value} {H : HP} {Q : Option Value → HP → Prop} : Go 104 1 L (vi a :: st) H Q ↔ Go 104 89 L st H Q := G_swI (i := 88) (j := 6) fX8_told_1 (by decide) (by decide) (by decide) c
theorem fX8_told_44 : ft 104 44 = some (.aload_n 0, 0, 0, 0, .null) := by decide +kernel
theorem gX8_told_44 {l1 : Option Value} {u : Nat} {st : List Value} {H : HP} {Q : Option Value → HP → Prop} : Go 104 44 [some (.ref u), l1] st H Q ↔ Go 104 45 [some (.ref u), l1] (.ref u :: st) H Q := G_aload_n fX8_told_44 rfl
theorem fX8_told_45 : ft 104 45 = some (.getfield 40, 8, 5, 226, .null) := by decide +kernel
theorem gX8_told_45 {L : List (Option Value)} {p : Nat} {st : List Value} {H : HP} {Q : Option Value → HP → Prop} : Go 104 45 L (.ref p :: st) H Q ↔ Rd (gF' 8 5 (hget H p)) 104 48 L st H Q := G_getf fX8_told_45 ⟨rfl, rfl⟩
theorem fX8_told_48 : ft 104 48 = some (.getfield 143, 6, 1, 111, .null) := by decide +kernel
theorem gX8_told_48 {L : List (Option Value)} {p : Nat} {st : List Value} {H : HP} {Q : Option Value → HP → Prop} : Go 104 48 L (.ref p :: st) H Q ↔ Rd (gF' 6 1 (hget H p)) 104 51 L st H Q := G_getf fX8_told_48 ⟨rfl, rfl⟩
theorem fX8_told_51 : ft 104 51 = some (.ireturn, 0, 0, 0, .null) := by decide +kernel
theorem gX8_told_51 {L : List (Option Value)} {u : Int32} {H : HP} {Q : Option Value → HP → Prop} : Go 104 51 L [.int u] H Q ↔ Q (some (.int u)) H := G_iret fX8_told_51 (by decide +kernel)
theorem fX8_told_52 : ft 104 52 = some (.aload_n 0, 0, 0, 0, .null) := by decide +kernel
theorem gX8_told_52 {l1 : Option Value} {u : Nat} {st : List Value} {H : HP} {Q : Option Value → HP → Prop} : Go 104 52 [some (.ref u), l1] st H Q ↔ Go 104 53 [some (.ref u), l1] (.ref u :: st) H Q := G_aload_n fX8_told_52 rfl
theorem fX8_told_53 : ft 104 53 = some (.getfield 60, 8, 11, 232, .null) := by decide +kernel
theorem gX8_told_53 {L : List (Option Value)} {p : Nat} {st : List Value} {H : HP} {Q : Option Value → HP → Prop} : Go 104 53 L (.ref p :: st) H Q ↔ Rd (gF' 8 11 (hget H p)) 104 56 L st H Q := G_getf fX8_told_53 ⟨rfl, rfl⟩
theorem fX8_told_56 : ft 104 56 = some (.ireturn, 0, 0, 0, .null) := by decide +kernel
theorem gX8_told_56 {L : List (Option Value)} {u : Int32} {H : HP} {Q : Option Value → HP → Prop} : Go 104 56 L [.int u] H Q ↔ Q (some (.int u)) H := G_iret fX8_told_56 (by decide +kernel)
theorem fX8_told_57 : ft 104 57 = some (.aload_n 0, 0, 0, 0, .null) := by decide +kernel
theorem gX8_told_57 {l1 : Option Value} {u : Nat} {st : List Value} {H : HP} {Q : Option Value → HP → Prop} : Go 104 57 [some (.ref u), l1] st H Q ↔ Go 104 58 [some (.ref u), l1] (.ref u :: st) H Q := G_aload_n fX8_told_57 rfl
theorem fX8_told_58 : ft 104 58 = some (.getfield 81, 8, 2, 223, .null) := by decide +kernel
theorem gX8_told_58 {L : List (Option Value)} {p : Nat} {st : List Value} {H : HP} {Q : Option Value → HP → Prop} : Go 104 58 L (.ref p :: st) H Q ↔ Rd (gF' 8 2 (hget H p)) 104 61 L st H Q := G_getf fX8_told_58 ⟨rfl, rfl⟩
theorem fX8_told_61 : ft 104 61 = some (.getfield 177, 4, 2, 195, .null) := by decide +kernel
theorem gX8_told_61 {L : List (Option Value)} {p : Nat} {st : List Value} {H : HP} {Q : Option Value → HP → Prop} : Go 104 61 L (.ref p :: st) H Q ↔ Rd (gF' 4 2 (hget H p)) 104 64 L st H Q := G_getf fX8_told_61 ⟨rfl, rfl⟩
theorem fX8_told_64 : ft 104 64 = some (.ireturn, 0, 0, 0, .null) := by decide +kernel
theorem gX8_told_64 {L : List (Option Value)} {u : Int32} {H : HP} {Q : Option Value → HP → Prop} : Go 104 64 L [.int u] H Q ↔ Q (some (.int u)) H := G_iret fX8_told_64 (by decide +kernel)
theorem fX8_told_65 : ft 104 65 = some (.aload_n 0, 0, 0, 0, .null) := by decide +kernel
theorem gX8_told_65 {l1 : Option Value} {u : Nat} {st : List Value} {H : HP} {Q : Option Value → HP → Prop} : Go 104 65 [some (.ref u), l1] st H Q ↔ Go 104 66 [some (.ref u), l1] (.ref u :: st) H Q := G_aload_n fX8_told_65 rfl
theorem fX8_told_66 : ft 104 66 = some (.getfield 44, 8, 6, 227, .null) := by decide +kernel
theorem gX8_told_66 {L : List (Option Value)} {p : Nat} {st : List Value} {H : HP} {Q : Option Value → HP → Prop} : Go 104 66 L (.ref p :: st) H Q ↔ Rd (gF' 8 6 (hget H p)) 104 69 L st H Q := G_getf fX8_told_66 ⟨rfl, rfl⟩
theorem fX8_told_69 : ft 104 69 = some (.getfield 143, 6, 1, 111, .null) := by decide +kernel
theorem gX8_told_69 {L : List (Option Value)} {p : Nat} {st : List Value} {H : HP} {Q : Option Value → HP → Prop} : Go 104 69 L (.ref p :: st) H Q ↔ Rd (gF' 6 1 (hget H p)) 104 72 L st H Q := G_getf fX8_told_69 ⟨rfl, rfl⟩
theorem fX8_told_72 : ft 104 72 = some (.ireturn, 0, 0, 0, .null) := by decide +kernel
theorem gX8_told_72 {L : List (Option Value)} {u : Int32} {H : HP} {Q : Option Value → HP → Prop} : Go 104 72 L [.int u] H Q ↔ Q (some (.int u)) H := G_iret fX8_told_72 (by decide +kernel)
theorem fX8_told_73 : ft 104 73 = some (.aload_n 0, 0, 0, 0, .null) := by decide +kernel
theorem gX8_told_73 {l1 : Option Value} {u : Nat} {st : List Value} {H : HP} {Q : Option Value → HP → Prop} : Go 104 73 [some (.ref u), l1] st H Q ↔ Go 104 74 [some (.ref u), l1] (.ref u :: st) H Q := G_aload_n fX8_told_73 rfl
theorem fX8_told_74 : ft 104 74 = some (.getfield 47, 8, 7, 228, .null) := by decide +kernel
theorem gX8_told_74 {L : List (Option Value)} {p : Nat} {st : List Value} {H : HP} {Q : Option Value → HP → Prop} : Go 104 74 L (.ref p :: st) H Q ↔ Rd (gF' 8 7 (hget H p)) 104 77 L st H Q := G_getf fX8_told_74 ⟨rfl, rfl⟩
theorem fX8_told_77 : ft 104 77 = some (.getfield 143, 6, 1, 111, .null) := by decide +kernel
theorem gX8_told_77 {L : List (Option Value)} {p : Nat} {st : List Value} {H : HP} {Q : Option Value → HP → Prop} : Go 104 77 L (.ref p :: st) H Q ↔ Rd (gF' 6 1 (hget H p)) 104 80 L st H Q := G_getf fX8_told_77 ⟨rfl, rfl⟩
theorem fX8_told_80 : ft 104 80 = some (.ireturn, 0, 0, 0, .null) := by decide +kernel
theorem gX8_told_80 {L : List (Option Value)} {u : Int32} {H : HP} {Q : Option Value → HP → Prop} : Go 104 80 L [.int u] H Q ↔ Q (some (.int u)) H := G_iret fX8_told_80 (by decide +kernel)
theorem fX8_told_81 : ft 104 81 = some (.aload_n 0, 0, 0, 0, .null) := by decide +kernel
theorem gX8_told_81 {l1 : Option Value} {u : Nat} {st : List Value} {H : HP} {Q : Option Value → HP → Prop} : Go 104 81 [some (.ref u), l1] st H Q ↔ Go 104 82 [some (.ref u), l1] (.ref u :: st) H Q := G_aload_n fX8_told_81 rfl
theorem fX8_told_82 : ft 104 82 = some (.getfield 50, 8, 8, 229, .null) := by decide +kernel
theorem gX8_told_82 {L : List (Option Value)} {p : Nat} {st : List Value} {H : HP} {Q : Option Value → HP → Prop} : Go 104 82 L (.ref p :: st) H Q ↔ Rd (gF' 8 8 (hget H p)) 104 85 L st H Q := G_getf fX8_told_82 ⟨rfl, rfl⟩
theorem fX8_told_85 : ft 104 85 = some (.getfield 143, 6, 1, 111, .null) := by decide +kernel
theorem gX8_told_85 {L : List (Option Value)} {p : Nat} {st : List Value} {H : HP} {Q : Option Value → HP → Prop} : Go 104 85 L (.ref p :: st) H Q ↔ Rd (gF' 6 1 (hget H p)) 104 88 L st H Q := G_getf fX8_told_85 ⟨rfl, rfl⟩
theorem fX8_told_88 : ft 104 88 = some (.ireturn, 0, 0, 0, .null) := by decide +kernel
theorem gX8_told_88 {L : List (Option Value)} {u : Int32} {H : HP} {Q : Option Value → HP → Prop} : Go 104 88 L [.int u] H Q ↔ Q (some (.int u)) H := G_iret fX8_told_88 (by decide +kernel)
theorem fX8_told_89 : ft 104 89 = some (.aload_n 0, 0, 0, 0, .null) := by decide +kernel
theorem gX8_told_89 {l1 : Option Value} {u : Nat} {st : List Value} {H : HP} {Q : Option Value → HP → Prop} : Go 104 89 [some (.ref u), l1] st H Q ↔ Go 104 90 [some (.ref u), l1] (.ref u :: st) H Q := G_aload_n fX8_told_89 rfl
theorem fX8_told_90 : ft 104 90 = some (.getfield 53, 8, 9, 230, .null) := by decide +kernel
theorem gX8_told_90 {L : List (Option Value)} {p : Nat} {st : List Value} {H : HP} {Q : Option Value → HP → Prop} : Go 104 90 L (.ref p :: st) H Q ↔ Rd (gF' 8 9 (hget H p)) 104 93 L st H Q := G_getf fX8_told_90 ⟨rfl, rfl⟩
theorem fX8_told_93 : ft 104 93 = some (.getfield 143, 6, 1, 111, .null) := by decide +kernel
theorem gX8_told_93 {L : List (Option Value)} {p : Nat} {st : List Value} {H : HP} {Q : Option Value → HP → Prop} : Go 104 93 L (.ref p :: st) H Q ↔ Rd (gF' 6 1 (hget H p)) 104 96 L st H Q := G_getf fX8_told_93 ⟨rfl, rfl⟩
theorem fX8_told_96 : ft 104 96 = some (.ireturn, 0, 0, 0, .null) := by decide +kernel
theorem gX8_told_96 {L : List (Option Value)} {u : Int32} {H : HP} {Q : Option Value → HP → Prop} : Go 104 96 L [.int u] H Q ↔ Q (some (.int u)) H := G_iret fX8_told_96 (by decide +kernel)
theorem fX8_told_97 : ft 104 97 = some (.bipush (-2), 0, 0, 0, .null) := by decide +kernel
theorem gX8_told_97 {L : List (Option Value)} {st : List Value} {H : HP} {Q : Option Value → HP → Prop} : Go 104 97 L st H Q ↔ Go 104 99 L (vi (-2) :: st) H Q := G_bipush fX8_told_97 (by decide)
theorem fX8_told_99 : ft 104 99 = some (.ireturn, 0, 0, 0, .null) := by decide +kernel
theorem gX8_told_99 {L : List (Option Value)} {u : Int32} {H : HP} {Q : Option Value → HP → Prop} : Go 104 99 L [.int u] H Q ↔ Q (some (.int u)) H := G_iret fX8_told_99 (by decide +kernel)
theorem fX8_faulted_0 : ft 105 0 = some (.aload_n 0, 0, 0, 0, .null) := by decide +kernel
theorem gX8_faulted_0 {l1 : Option Value} {u : Nat} {st : List Value} {H : HP} {Q : Option Value → HP → Prop} : Go 105 0 [some (.ref u), l1] st H Q ↔ Go 105 1 [some (.ref u), l1] (.ref u :: st) H Q := G_aload_n fX8_faulted_0 rfl
theorem fX8_faulted_1 : ft 105 1 = some (.iload_n 1, 0, 0, 0, .null) := by decide +kernel
theorem gX8_faulted_1 {l0 : Option Value} {u : Int32} {st : List Value} {H : HP} {Q : Option Value → HP → Prop} : Go 105 1 [l0, some (.int u)] st H Q ↔ Go 105 2 [l0, some (.int u)] (.int u :: st) H Q := G_iload_n fX8_faulted_1 rfl
theorem fX8_faulted_2 : ft 105 2 = some (.putfield 64, 8, 12, 233, .null) := by decide +kernel
theorem gX8_faulted_2 {L : List (Option Value)} {p : Nat} {u : Int32} (hp : p ≠ 0) {st : List Value} {H : HP} {Q : Option Value → HP → Prop} : Go 105 2 L (.int u :: .ref p :: st) H Q ↔ Wr (pF' 8 12 (hget H p) (.int u)) p 105 5 L st H Q := G_putf fX8_faulted_2 ⟨⟨rfl, rfl⟩, rfl, Or.inl rfl⟩ hp
theorem fX8_faulted_5 : ft 105 5 = some (.bipush (-10), 0, 0, 0, .null) := by decide +kernel
theorem gX8_faulted_5 {L : List (Option Value)} {st : List Value} {H : HP} {Q : Option Value → HP → Prop} : Go 105 5 L st H Q ↔ Go 105 7 L (vi (-10) :: st) H Q := G_bipush fX8_faulted_5 (by decide)
theorem fX8_faulted_7 : ft 105 7 = some (.iload_n 1, 0, 0, 0, .null) := by decide +kernel
theorem gX8_faulted_7 {l0 : Option Value} {u : Int32} {st : List Value} {H : HP} {Q : Option Value → HP → Prop} : Go 105 7 [l0, some (.int u)] st H Q ↔ Go 105 8 [l0, some (.int u)] (.int u :: st) H Q := G_iload_n fX8_faulted_7 rfl
theorem fX8_faulted_8 : ft 105 8 = some (.isub, 0, 0, 0, .null) := by decide +kernel
theorem gX8_faulted_8 {L : List (Option Value)} {a b : Int} {st : List Value} {H : HP} {Q : Option Value → HP → Prop} : Go 105 8 L (vi b :: vi a :: st) H Q ↔ Go 105 9 L (vi (a - b) :: st) H Q := G_isub fX8_faulted_8
theorem fX8_faulted_9 : ft 105 9 = some (.ireturn, 0, 0, 0, .null) := by decide +kernel
theorem gX8_faulted_9 {L : List (Option Value)} {u : Int32} {H : HP} {Q : Option Value → HP → Prop} : Go 105 9 L [.int u] H Q ↔ Q (some (.int u)) H := G_iret fX8_faulted_9 (by decide +kernel)
theorem fX8_faultedLong_0 : ft 106 0 = some (.aload_n 0, 0, 0, 0, .null) := by decide +kernel
theorem gX8_faultedLong_0 {l1 : Option Value} {u : Nat} {st : List Value} {H : HP} {Q : Option Value → HP → Prop} : Go 106 0 [some (.ref u), l1] st H Q ↔ Go 106 1 [some (.ref u), l1] (.ref u :: st) H Q := G_aload_n fX8_faultedLong_0 rfl
theorem fX8_faultedLong_1 : ft 106 1 = some (.iload_n 1, 0, 0, 0, .null) := by decide +kernel
theorem gX8_faultedLong_1 {l0 : Option Value} {u : Int32} {st : List Value} {H : HP} {Q : Option Value → HP → Prop} : Go 106 1 [l0, some (.int u)] st H Q ↔ Go 106 2 [l0, some (.int u)] (.int u :: st) H Q := G_iload_n fX8_faultedLong_1 rfl
theorem fX8_faultedLong_2 : ft 106 2 = some (.putfield 64, 8, 12, 233, .null) := by decide +kernel
theorem gX8_faultedLong_2 {L : List (Option Value)} {p : Nat} {u : Int32} (hp : p ≠ 0) {st : List Value} {H : HP} {Q : Option Value → HP → Prop} : Go 106 2 L (.int u :: .ref p :: st) H Q ↔ Wr (pF' 8 12 (hget H p) (.int u)) p 106 5 L st H Q := G_putf fX8_faultedLong_2 ⟨⟨rfl, rfl⟩, rfl, Or.inl rfl⟩ hp
theorem fX8_faultedLong_5 : ft 106 5 = some (.lconst 0, 0, 0, 0, .null) := by decide +kernel
theorem gX8_faultedLong_5 {L : List (Option Value)} {st : List Value} {H : HP} {Q : Option Value → HP → Prop} : Go 106 5 L st H Q ↔ Go 106 6 L (vl 0 :: st) H Q := G_lconst fX8_faultedLong_5 (by decide)
theorem fX8_faultedLong_6 : ft 106 6 = some (.lreturn, 0, 0, 0, .null) := by decide +kernel
theorem gX8_faultedLong_6 {L : List (Option Value)} {u : Int64} {H : HP} {Q : Option Value → HP → Prop} : Go 106 6 L [.long u] H Q ↔ Q (some (.long u)) H := G_lret fX8_faultedLong_6 (by decide +kernel)
theorem fX8_entryOf_0 : ft 107 0 = some (.aload_n 1, 0, 0, 0, .null) := by decide +kernel
theorem gX8_entryOf_0 {l0 l2 : Option Value} {u : Nat} {st : List Value} {H : HP} {Q : Option Value → HP → Prop} : Go 107 0 [l0, some (.ref u), l2] st H Q ↔ Go 107 1 [l0, some (.ref u), l2] (.ref u :: st) H Q := G_aload_n fX8_entryOf_0 rfl
theorem gX8_entryOf_0N {l0 l2 : Option Value} {st : List Value} {H : HP} {Q : Option Value → HP → Prop} : Go 107 0 [l0, some .null, l2] st H Q ↔ Go 107 1 [l0, some .null, l2] (.null :: st) H Q := G_aload_nN fX8_entryOf_0 rfl
theorem fX8_entryOf_1 : ft 107 1 = some (.ifnonnull 9, 0, 0, 0, .null) := by decide +kernel
theorem gX8_entryOf_1T {L : List (Option Value)} {p : Nat} {st : List Value} {H : HP} {Q : Option Value → HP → Prop} : Go 107 1 L ((.ref p) :: st) H Q ↔ Go 107 10 L st H Q := G_nnT fX8_entryOf_1 (by decide)
theorem gX8_entryOf_1F {L : List (Option Value)} {st : List Value} {H : HP} {Q : Option Value → HP → Prop} : Go 107 1 L (.null :: st) H Q ↔ Go 107 4 L st H Q := G_nnF (tg := 10) fX8_entryOf_1 (by decide)
theorem fX8_entryOf_4 : ft 107 4 = some (.aload_n 0, 0, 0, 0, .null) := by decide +kernel
theorem gX8_entryOf_4 {l1 l2 : Option Value} {u : Nat} {st : List Value} {H : HP} {Q : Option Value → HP → Prop} : Go 107 4 [some (.ref u), l1, l2] st H Q ↔ Go 107 5 [some (.ref u), l1, l2] (.ref u :: st) H Q := G_aload_n fX8_entryOf_4 rfl
theorem fX8_entryOf_5 : ft 107 5 = some (.iconst 1, 0, 0, 0, .null) := by decide +kernel
theorem gX8_entryOf_5 {L : List (Option Value)} {st : List Value} {H : HP} {Q : Option Value → HP → Prop} : Go 107 5 L st H Q ↔ Go 107 6 L (vi 1 :: st) H Q := G_iconst fX8_entryOf_5
theorem fX8_entryOf_6 : ft 107 6 = some (.invokevirtual 120, 106, 0, 332, .null) := by decide +kernel
theorem gX8_entryOf_6 {L : List (Option Value)} {p : Nat} {a0 : Int32}  {H : HP} {Q : Option Value → HP → Prop} : Go 107 6 L (.int a0 :: .ref p :: []) H Q ↔ (iso 8 (hget H p) = true ∧ Go 106 0 [some (.ref p), some (.int a0)] [] H (Cont 107 9 L [] Q)) := G_cV (n := 1) (N := 2) (as := [.int a0]) (st := []) fX8_entryOf_6 (by decide +kernel) rfl (Nat.le_of_ble_eq_true rfl) (Nat.le_of_ble_eq_true rfl) rfl
theorem fX8_entryOf_9 : ft 107 9 = some (.lreturn, 0, 0, 0, .null) := by decide +kernel
theorem gX8_entryOf_9 {L : List (Option Value)} {u : Int64} {H : HP} {Q : Option Value → HP → Prop} : Go 107 9 L [.long u] H Q ↔ Q (some (.long u)) H := G_lret fX8_entryOf_9 (by decide +kernel)
theorem fX8_entryOf_10 : ft 107 10 = some (.aload_n 1, 0, 0, 0, .null) := by decide +kernel
theorem gX8_entryOf_10 {l0 l2 : Option Value} {u : Nat} {st : List Value} {H : HP} {Q : Option Value → HP → Prop} : Go 107 10 [l0, some (.ref u), l2] st H Q ↔ Go 107 11 [l0, some (.ref u), l2] (.ref u :: st) H Q := G_aload_n fX8_entryOf_10 rfl
theorem gX8_entryOf_10N {l0 l2 : Option Value} {st : List Value} {H : HP} {Q : Option Value → HP → Prop} : Go 107 10 [l0, some .null, l2] st H Q ↔ Go 107 11 [l0, some .null, l2] (.null :: st) H Q := G_aload_nN fX8_entryOf_10 rfl
theorem fX8_entryOf_11 : ft 107 11 = some (.iload_n 2, 0, 0, 0, .null) := by decide +kernel
theorem gX8_entryOf_11 {l0 l1 : Option Value} {u : Int32} {st : List Value} {H : HP} {Q : Option Value → HP → Prop} : Go 107 11 [l0, l1, some (.int u)] st H Q ↔ Go 107 12 [l0, l1, some (.int u)] (.int u :: st) H Q := G_iload_n fX8_entryOf_11 rfl
theorem fX8_entryOf_12 : ft 107 12 = some (.invokevirtual 106, 56, 0, 310, .null) := by decide +kernel
theorem gX8_entryOf_12 {L : List (Option Value)} {p : Nat} {a0 : Int32}  {H : HP} {Q : Option Value → HP → Prop} : Go 107 12 L (.int a0 :: .ref p :: []) H Q ↔ (iso 5 (hget H p) = true ∧ Go 56 0 [some (.ref p), some (.int a0)] [] H (Cont 107 15 L [] Q)) := G_cV (n := 1) (N := 2) (as := [.int a0]) (st := []) fX8_entryOf_12 (by decide +kernel) rfl (Nat.le_of_ble_eq_true rfl) (Nat.le_of_ble_eq_true rfl) rfl
theorem fX8_entryOf_15 : ft 107 15 = some (.ifCond .ne 9, 0, 0, 0, .null) := by decide +kernel
theorem gX8_entryOf_15T {L : List (Option Value)} {a : Int} (c : (-2147483648 ≤ a ∧ a ≤ 2147483647) ∧ ¬ a = 0) {st : List Value} {H : HP} {Q : Option Value → HP → Prop} : Go 107 15 L (vi a :: st) H Q ↔ Go 107 24 L st H Q := G_ifT fX8_entryOf_15 (by decide) c
theorem gX8_entryOf_15F {L : List (Option Value)} {a : Int} (c : (-2147483648 ≤ a ∧ a ≤ 2147483647) ∧ ¬ (¬ a = 0)) {st : List Value} {H : HP} {Q : Option Value → HP → Prop} : Go 107 15 L (vi a :: st) H Q ↔ Go 107 18 L st H Q := G_ifF (tg := 24) fX8_entryOf_15 (by decide) c
theorem fX8_entryOf_18 : ft 107 18 = some (.aload_n 0, 0, 0, 0, .null) := by decide +kernel
theorem gX8_entryOf_18 {l1 l2 : Option Value} {u : Nat} {st : List Value} {H : HP} {Q : Option Value → HP → Prop} : Go 107 18 [some (.ref u), l1, l2] st H Q ↔ Go 107 19 [some (.ref u), l1, l2] (.ref u :: st) H Q := G_aload_n fX8_entryOf_18 rfl
theorem fX8_entryOf_19 : ft 107 19 = some (.iconst 3, 0, 0, 0, .null) := by decide +kernel
theorem gX8_entryOf_19 {L : List (Option Value)} {st : List Value} {H : HP} {Q : Option Value → HP → Prop} : Go 107 19 L st H Q ↔ Go 107 20 L (vi 3 :: st) H Q := G_iconst fX8_entryOf_19
theorem fX8_entryOf_20 : ft 107 20 = some (.invokevirtual 120, 106, 0, 332, .null) := by decide +kernel
theorem gX8_entryOf_20 {L : List (Option Value)} {p : Nat} {a0 : Int32}  {H : HP} {Q : Option Value → HP → Prop} : Go 107 20 L (.int a0 :: .ref p :: []) H Q ↔ (iso 8 (hget H p) = true ∧ Go 106 0 [some (.ref p), some (.int a0)] [] H (Cont 107 23 L [] Q)) := G_cV (n := 1) (N := 2) (as := [.int a0]) (st := []) fX8_entryOf_20 (by decide +kernel) rfl (Nat.le_of_ble_eq_true rfl) (Nat.le_of_ble_eq_true rfl) rfl
theorem fX8_entryOf_23 : ft 107 23 = some (.lreturn, 0, 0, 0, .null) := by decide +kernel
theorem gX8_entryOf_23 {L : List (Option Value)} {u : Int64} {H : HP} {Q : Option Value → HP → Prop} : Go 107 23 L [.long u] H Q ↔ Q (some (.long u)) H := G_lret fX8_entryOf_23 (by decide +kernel)
theorem fX8_entryOf_24 : ft 107 24 = some (.aload_n 1, 0, 0, 0, .null) := by decide +kernel
theorem gX8_entryOf_24 {l0 l2 : Option Value} {u : Nat} {st : List Value} {H : HP} {Q : Option Value → HP → Prop} : Go 107 24 [l0, some (.ref u), l2] st H Q ↔ Go 107 25 [l0, some (.ref u), l2] (.ref u :: st) H Q := G_aload_n fX8_entryOf_24 rfl
theorem gX8_entryOf_24N {l0 l2 : Option Value} {st : List Value} {H : HP} {Q : Option Value → HP → Prop} : Go 107 24 [l0, some .null, l2] st H Q ↔ Go 107 25 [l0, some .null, l2] (.null :: st) H Q := G_aload_nN fX8_entryOf_24 rfl
theorem fX8_entryOf_25 : ft 107 25 = some (.getfield 109, 5, 1, 286, .null) := by decide +kernel
theorem gX8_entryOf_25 {L : List (Option Value)} {p : Nat} {st : List Value} {H : HP} {Q : Option Value → HP → Prop} : Go 107 25 L (.ref p :: st) H Q ↔ Rd (gF' 5 1 (hget H p)) 107 28 L st H Q := G_getf fX8_entryOf_25 ⟨rfl, rfl⟩
theorem fX8_entryOf_28 : ft 107 28 = some (.iload_n 2, 0, 0, 0, .null) := by decide +kernel
theorem gX8_entryOf_28 {l0 l1 : Option Value} {u : Int32} {st : List Value} {H : HP} {Q : Option Value → HP → Prop} : Go 107 28 [l0, l1, some (.int u)] st H Q ↔ Go 107 29 [l0, l1, some (.int u)] (.int u :: st) H Q := G_iload_n fX8_entryOf_28 rfl
theorem fX8_entryOf_29 : ft 107 29 = some (.laload, 0, 0, 0, .null) := by decide +kernel
theorem gX8_entryOf_29 {L : List (Option Value)} {p : Nat} {a : Int} {st : List Value} {H : HP} {Q : Option Value → HP → Prop} : Go 107 29 L (vi a :: .ref p :: st) H Q ↔ Rd (aL' (hget H p) a) 107 30 L st H Q := G_lald fX8_entryOf_29
theorem fX8_entryOf_30 : ft 107 30 = some (.lreturn, 0, 0, 0, .null) := by decide +kernel
theorem gX8_entryOf_30 {L : List (Option Value)} {u : Int64} {H : HP} {Q : Option Value → HP → Prop} : Go 107 30 L [.long u] H Q ↔ Q (some (.long u)) H := G_lret fX8_entryOf_30 (by decide +kernel)
theorem fX8_isPlace_0 : ft 108 0 = some (.iload_n 0, 0, 0, 0, .null) := by decide +kernel
theorem gX8_isPlace_0  {u : Int32} {st : List Value} {H : HP} {Q : Option Value → HP → Prop} : Go 108 0 [some (.int u)] st H Q ↔ Go 108 1 [some (.int u)] (.int u :: st) H Q := G_iload_n fX8_isPlace_0 rfl
theorem fX8_isPlace_1 : ft 108 1 = some (.ifCond .lt 13, 0, 0, 0, .null) := by decide +kernel
theorem gX8_isPlace_1T {L : List (Option Value)} {a : Int} (c : (-2147483648 ≤ a ∧ a ≤ 2147483647) ∧ a < 0) {st : List Value} {H : HP} {Q : Option Value → HP → Prop} : Go 108 1 L (vi a :: st) H Q ↔ Go 108 14 L st H Q := G_ifT fX8_isPlace_1 (by decide) c
theorem gX8_isPlace_1F {L : List (Option Value)} {a : Int} (c : (-2147483648 ≤ a ∧ a ≤ 2147483647) ∧ ¬ (a < 0)) {st : List Value} {H : HP} {Q : Option Value → HP → Prop} : Go 108 1 L (vi a :: st) H Q ↔ Go 108 4 L st H Q := G_ifF (tg := 14) fX8_isPlace_1 (by decide) c
theorem fX8_isPlace_4 : ft 108 4 = some (.iload_n 0, 0, 0, 0, .null) := by decide +kernel
theorem gX8_isPlace_4  {u : Int32} {st : List Value} {H : HP} {Q : Option Value → HP → Prop} : Go 108 4 [some (.int u)] st H Q ↔ Go 108 5 [some (.int u)] (.int u :: st) H Q := G_iload_n fX8_isPlace_4 rfl
theorem fX8_isPlace_5 : ft 108 5 = some (.bipush 12, 0, 0, 0, .null) := by decide +kernel
theorem gX8_isPlace_5 {L : List (Option Value)} {st : List Value} {H : HP} {Q : Option Value → HP → Prop} : Go 108 5 L st H Q ↔ Go 108 7 L (vi 12 :: st) H Q := G_bipush fX8_isPlace_5 (by decide)
theorem fX8_isPlace_7 : ft 108 7 = some (.if_icmp .ge 7, 0, 0, 0, .null) := by decide +kernel
theorem gX8_isPlace_7T {L : List (Option Value)} {a b : Int} (c : (-2147483648 ≤ a ∧ a ≤ 2147483647 ∧ -2147483648 ≤ b ∧ b ≤ 2147483647) ∧ b ≤ a) {st : List Value} {H : HP} {Q : Option Value → HP → Prop} : Go 108 7 L (vi b :: vi a :: st) H Q ↔ Go 108 14 L st H Q := G_icT fX8_isPlace_7 (by decide) c
theorem gX8_isPlace_7F {L : List (Option Value)} {a b : Int} (c : (-2147483648 ≤ a ∧ a ≤ 2147483647 ∧ -2147483648 ≤ b ∧ b ≤ 2147483647) ∧ ¬ (b ≤ a)) {st : List Value} {H : HP} {Q : Option Value → HP → Prop} : Go 108 7 L (vi b :: vi a :: st) H Q ↔ Go 108 10 L st H Q := G_icF (tg := 14) fX8_isPlace_7 (by decide) c
theorem fX8_isPlace_10 : ft 108 10 = some (.iconst 1, 0, 0, 0, .null) := by decide +kernel
theorem gX8_isPlace_10 {L : List (Option Value)} {st : List Value} {H : HP} {Q : Option Value → HP → Prop} : Go 108 10 L st H Q ↔ Go 108 11 L (vi 1 :: st) H Q := G_iconst fX8_isPlace_10
theorem fX8_isPlace_11 : ft 108 11 = some (.goto 4, 0, 0, 0, .null) := by decide +kernel
theorem gX8_isPlace_11 {L : List (Option Value)} {st : List Value} {H : HP} {Q : Option Value → HP → Prop} : Go 108 11 L st H Q ↔ Go 108 15 L st H Q := G_goto fX8_isPlace_11 (by decide)
theorem fX8_isPlace_14 : ft 108 14 = some (.iconst 0, 0, 0, 0, .null) := by decide +kernel
theorem gX8_isPlace_14 {L : List (Option Value)} {st : List Value} {H : HP} {Q : Option Value → HP → Prop} : Go 108 14 L st H Q ↔ Go 108 15 L (vi 0 :: st) H Q := G_iconst fX8_isPlace_14
theorem fX8_isPlace_15 : ft 108 15 = some (.ireturn, 0, 0, 0, .null) := by decide +kernel
theorem gX8_isPlace_15 {L : List (Option Value)} {a : Int} (c : a = 0 ∨ a = 1) {H : HP} {Q : Option Value → HP → Prop} : Go 108 15 L [vi a] H Q ↔ Q (some (vi a)) H := G_zret fX8_isPlace_15 (by decide +kernel) c
theorem fX8_isPrime_0 : ft 109 0 = some (.iload_n 0, 0, 0, 0, .null) := by decide +kernel
theorem gX8_isPrime_0  {u : Int32} {st : List Value} {H : HP} {Q : Option Value → HP → Prop} : Go 109 0 [some (.int u)] st H Q ↔ Go 109 1 [some (.int u)] (.int u :: st) H Q := G_iload_n fX8_isPrime_0 rfl
theorem fX8_isPrime_1 : ft 109 1 = some (.ifCond .lt 12, 0, 0, 0, .null) := by decide +kernel
theorem gX8_isPrime_1T {L : List (Option Value)} {a : Int} (c : (-2147483648 ≤ a ∧ a ≤ 2147483647) ∧ a < 0) {st : List Value} {H : HP} {Q : Option Value → HP → Prop} : Go 109 1 L (vi a :: st) H Q ↔ Go 109 13 L st H Q := G_ifT fX8_isPrime_1 (by decide) c
theorem gX8_isPrime_1F {L : List (Option Value)} {a : Int} (c : (-2147483648 ≤ a ∧ a ≤ 2147483647) ∧ ¬ (a < 0)) {st : List Value} {H : HP} {Q : Option Value → HP → Prop} : Go 109 1 L (vi a :: st) H Q ↔ Go 109 4 L st H Q := G_ifF (tg := 13) fX8_isPrime_1 (by decide) c
theorem fX8_isPrime_4 : ft 109 4 = some (.iload_n 0, 0, 0, 0, .null) := by decide +kernel
theorem gX8_isPrime_4  {u : Int32} {st : List Value} {H : HP} {Q : Option Value → HP → Prop} : Go 109 4 [some (.int u)] st H Q ↔ Go 109 5 [some (.int u)] (.int u :: st) H Q := G_iload_n fX8_isPrime_4 rfl
theorem fX8_isPrime_5 : ft 109 5 = some (.iconst 3, 0, 0, 0, .null) := by decide +kernel
theorem gX8_isPrime_5 {L : List (Option Value)} {st : List Value} {H : HP} {Q : Option Value → HP → Prop} : Go 109 5 L st H Q ↔ Go 109 6 L (vi 3 :: st) H Q := G_iconst fX8_isPrime_5
theorem fX8_isPrime_6 : ft 109 6 = some (.if_icmp .ge 7, 0, 0, 0, .null) := by decide +kernel
theorem gX8_isPrime_6T {L : List (Option Value)} {a b : Int} (c : (-2147483648 ≤ a ∧ a ≤ 2147483647 ∧ -2147483648 ≤ b ∧ b ≤ 2147483647) ∧ b ≤ a) {st : List Value} {H : HP} {Q : Option Value → HP → Prop} : Go 109 6 L (vi b :: vi a :: st) H Q ↔ Go 109 13 L st H Q := G_icT fX8_isPrime_6 (by decide) c
theorem gX8_isPrime_6F {L : List (Option Value)} {a b : Int} (c : (-2147483648 ≤ a ∧ a ≤ 2147483647 ∧ -2147483648 ≤ b ∧ b ≤ 2147483647) ∧ ¬ (b ≤ a)) {st : List Value} {H : HP} {Q : Option Value → HP → Prop} : Go 109 6 L (vi b :: vi a :: st) H Q ↔ Go 109 9 L st H Q := G_icF (tg := 13) fX8_isPrime_6 (by decide) c
theorem fX8_isPrime_9 : ft 109 9 = some (.iconst 1, 0, 0, 0, .null) := by decide +kernel
theorem gX8_isPrime_9 {L : List (Option Value)} {st : List Value} {H : HP} {Q : Option Value → HP → Prop} : Go 109 9 L st H Q ↔ Go 109 10 L (vi 1 :: st) H Q := G_iconst fX8_isPrime_9
theorem fX8_isPrime_10 : ft 109 10 = some (.goto 4, 0, 0, 0, .null) := by decide +kernel
theorem gX8_isPrime_10 {L : List (Option Value)} {st : List Value} {H : HP} {Q : Option Value → HP → Prop} : Go 109 10 L st H Q ↔ Go 109 14 L st H Q := G_goto fX8_isPrime_10 (by decide)
theorem fX8_isPrime_13 : ft 109 13 = some (.iconst 0, 0, 0, 0, .null) := by decide +kernel
theorem gX8_isPrime_13 {L : List (Option Value)} {st : List Value} {H : HP} {Q : Option Value → HP → Prop} : Go 109 13 L st H Q ↔ Go 109 14 L (vi 0 :: st) H Q := G_iconst fX8_isPrime_13
theorem fX8_isPrime_14 : ft 109 14 = some (.ireturn, 0, 0, 0, .null) := by decide +kernel
theorem gX8_isPrime_14 {L : List (Option Value)} {a : Int} (c : a = 0 ∨ a = 1) {H : HP} {Q : Option Value → HP → Prop} : Go 109 14 L [vi a] H Q ↔ Q (some (vi a)) H := G_zret fX8_isPrime_14 (by decide +kernel) c
theorem fX8_isLane_0 : ft 110 0 = some (.iload_n 0, 0, 0, 0, .null) := by decide +kernel
theorem gX8_isLane_0  {u : Int32} {st : List Value} {H : HP} {Q : Option Value → HP → Prop} : Go 110 0 [some (.int u)] st H Q ↔ Go 110 1 [some (.int u)] (.int u :: st) H Q := G_iload_n fX8_isLane_0 rfl
theorem fX8_isLane_1 : ft 110 1 = some (.ifCond .lt 12, 0, 0, 0, .null) := by decide +kernel
theorem gX8_isLane_1T {L : List (Option Value)} {a : Int} (c : (-2147483648 ≤ a ∧ a ≤ 2147483647) ∧ a < 0) {st : List Value} {H : HP} {Q : Option Value → HP → Prop} : Go 110 1 L (vi a :: st) H Q ↔ Go 110 13 L st H Q := G_ifT fX8_isLane_1 (by decide) c
theorem gX8_isLane_1F {L : List (Option Value)} {a : Int} (c : (-2147483648 ≤ a ∧ a ≤ 2147483647) ∧ ¬ (a < 0)) {st : List Value} {H : HP} {Q : Option Value → HP → Prop} : Go 110 1 L (vi a :: st) H Q ↔ Go 110 4 L st H Q := G_ifF (tg := 13) fX8_isLane_1 (by decide) c
theorem fX8_isLane_4 : ft 110 4 = some (.iload_n 0, 0, 0, 0, .null) := by decide +kernel
theorem gX8_isLane_4  {u : Int32} {st : List Value} {H : HP} {Q : Option Value → HP → Prop} : Go 110 4 [some (.int u)] st H Q ↔ Go 110 5 [some (.int u)] (.int u :: st) H Q := G_iload_n fX8_isLane_4 rfl
theorem fX8_isLane_5 : ft 110 5 = some (.iconst 4, 0, 0, 0, .null) := by decide +kernel
theorem gX8_isLane_5 {L : List (Option Value)} {st : List Value} {H : HP} {Q : Option Value → HP → Prop} : Go 110 5 L st H Q ↔ Go 110 6 L (vi 4 :: st) H Q := G_iconst fX8_isLane_5
theorem fX8_isLane_6 : ft 110 6 = some (.if_icmp .gt 7, 0, 0, 0, .null) := by decide +kernel
theorem gX8_isLane_6T {L : List (Option Value)} {a b : Int} (c : (-2147483648 ≤ a ∧ a ≤ 2147483647 ∧ -2147483648 ≤ b ∧ b ≤ 2147483647) ∧ b < a) {st : List Value} {H : HP} {Q : Option Value → HP → Prop} : Go 110 6 L (vi b :: vi a :: st) H Q ↔ Go 110 13 L st H Q := G_icT fX8_isLane_6 (by decide) c
theorem gX8_isLane_6F {L : List (Option Value)} {a b : Int} (c : (-2147483648 ≤ a ∧ a ≤ 2147483647 ∧ -2147483648 ≤ b ∧ b ≤ 2147483647) ∧ ¬ (b < a)) {st : List Value} {H : HP} {Q : Option Value → HP → Prop} : Go 110 6 L (vi b :: vi a :: st) H Q ↔ Go 110 9 L st H Q := G_icF (tg := 13) fX8_isLane_6 (by decide) c
theorem fX8_isLane_9 : ft 110 9 = some (.iconst 1, 0, 0, 0, .null) := by decide +kernel
theorem gX8_isLane_9 {L : List (Option Value)} {st : List Value} {H : HP} {Q : Option Value → HP → Prop} : Go 110 9 L st H Q ↔ Go 110 10 L (vi 1 :: st) H Q := G_iconst fX8_isLane_9
theorem fX8_isLane_10 : ft 110 10 = some (.goto 4, 0, 0, 0, .null) := by decide +kernel
theorem gX8_isLane_10 {L : List (Option Value)} {st : List Value} {H : HP} {Q : Option Value → HP → Prop} : Go 110 10 L st H Q ↔ Go 110 14 L st H Q := G_goto fX8_isLane_10 (by decide)
theorem fX8_isLane_13 : ft 110 13 = some (.iconst 0, 0, 0, 0, .null) := by decide +kernel
theorem gX8_isLane_13 {L : List (Option Value)} {st : List Value} {H : HP} {Q : Option Value → HP → Prop} : Go 110 13 L st H Q ↔ Go 110 14 L (vi 0 :: st) H Q := G_iconst fX8_isLane_13
theorem fX8_isLane_14 : ft 110 14 = some (.ireturn, 0, 0, 0, .null) := by decide +kernel
theorem gX8_isLane_14 {L : List (Option Value)} {a : Int} (c : a = 0 ∨ a = 1) {H : HP} {Q : Option Value → HP → Prop} : Go 110 14 L [vi a] H Q ↔ Q (some (vi a)) H := G_zret fX8_isLane_14 (by decide +kernel) c
theorem fX8_isWay_0 : ft 111 0 = some (.iload_n 0, 0, 0, 0, .null) := by decide +kernel
theorem gX8_isWay_0  {u : Int32} {st : List Value} {H : HP} {Q : Option Value → HP → Prop} : Go 111 0 [some (.int u)] st H Q ↔ Go 111 1 [some (.int u)] (.int u :: st) H Q := G_iload_n fX8_isWay_0 rfl
theorem fX8_isWay_1 : ft 111 1 = some (.ifCond .lt 12, 0, 0, 0, .null) := by decide +kernel
theorem gX8_isWay_1T {L : List (Option Value)} {a : Int} (c : (-2147483648 ≤ a ∧ a ≤ 2147483647) ∧ a < 0) {st : List Value} {H : HP} {Q : Option Value → HP → Prop} : Go 111 1 L (vi a :: st) H Q ↔ Go 111 13 L st H Q := G_ifT fX8_isWay_1 (by decide) c
theorem gX8_isWay_1F {L : List (Option Value)} {a : Int} (c : (-2147483648 ≤ a ∧ a ≤ 2147483647) ∧ ¬ (a < 0)) {st : List Value} {H : HP} {Q : Option Value → HP → Prop} : Go 111 1 L (vi a :: st) H Q ↔ Go 111 4 L st H Q := G_ifF (tg := 13) fX8_isWay_1 (by decide) c
theorem fX8_isWay_4 : ft 111 4 = some (.iload_n 0, 0, 0, 0, .null) := by decide +kernel
theorem gX8_isWay_4  {u : Int32} {st : List Value} {H : HP} {Q : Option Value → HP → Prop} : Go 111 4 [some (.int u)] st H Q ↔ Go 111 5 [some (.int u)] (.int u :: st) H Q := G_iload_n fX8_isWay_4 rfl
theorem fX8_isWay_5 : ft 111 5 = some (.iconst 2, 0, 0, 0, .null) := by decide +kernel
theorem gX8_isWay_5 {L : List (Option Value)} {st : List Value} {H : HP} {Q : Option Value → HP → Prop} : Go 111 5 L st H Q ↔ Go 111 6 L (vi 2 :: st) H Q := G_iconst fX8_isWay_5
theorem fX8_isWay_6 : ft 111 6 = some (.if_icmp .gt 7, 0, 0, 0, .null) := by decide +kernel
theorem gX8_isWay_6T {L : List (Option Value)} {a b : Int} (c : (-2147483648 ≤ a ∧ a ≤ 2147483647 ∧ -2147483648 ≤ b ∧ b ≤ 2147483647) ∧ b < a) {st : List Value} {H : HP} {Q : Option Value → HP → Prop} : Go 111 6 L (vi b :: vi a :: st) H Q ↔ Go 111 13 L st H Q := G_icT fX8_isWay_6 (by decide) c
theorem gX8_isWay_6F {L : List (Option Value)} {a b : Int} (c : (-2147483648 ≤ a ∧ a ≤ 2147483647 ∧ -2147483648 ≤ b ∧ b ≤ 2147483647) ∧ ¬ (b < a)) {st : List Value} {H : HP} {Q : Option Value → HP → Prop} : Go 111 6 L (vi b :: vi a :: st) H Q ↔ Go 111 9 L st H Q := G_icF (tg := 13) fX8_isWay_6 (by decide) c
theorem fX8_isWay_9 : ft 111 9 = some (.iconst 1, 0, 0, 0, .null) := by decide +kernel
theorem gX8_isWay_9 {L : List (Option Value)} {st : List Value} {H : HP} {Q : Option Value → HP → Prop} : Go 111 9 L st H Q ↔ Go 111 10 L (vi 1 :: st) H Q := G_iconst fX8_isWay_9
theorem fX8_isWay_10 : ft 111 10 = some (.goto 4, 0, 0, 0, .null) := by decide +kernel
theorem gX8_isWay_10 {L : List (Option Value)} {st : List Value} {H : HP} {Q : Option Value → HP → Prop} : Go 111 10 L st H Q ↔ Go 111 14 L st H Q := G_goto fX8_isWay_10 (by decide)
theorem fX8_isWay_13 : ft 111 13 = some (.iconst 0, 0, 0, 0, .null) := by decide +kernel
theorem gX8_isWay_13 {L : List (Option Value)} {st : List Value} {H : HP} {Q : Option Value → HP → Prop} : Go 111 13 L st H Q ↔ Go 111 14 L (vi 0 :: st) H Q := G_iconst fX8_isWay_13
theorem fX8_isWay_14 : ft 111 14 = some (.ireturn, 0, 0, 0, .null) := by decide +kernel
theorem gX8_isWay_14 {L : List (Option Value)} {a : Int} (c : a = 0 ∨ a = 1) {H : HP} {Q : Option Value → HP → Prop} : Go 111 14 L [vi a] H Q ↔ Q (some (vi a)) H := G_zret fX8_isWay_14 (by decide +kernel) c
theorem fX8_isCount_0 : ft 112 0 = some (.iload_n 0, 0, 0, 0, .null) := by decide +kernel
theorem gX8_isCount_0  {u : Int32} {st : List Value} {H : HP} {Q : Option Value → HP → Prop} : Go 112 0 [some (.int u)] st H Q ↔ Go 112 1 [some (.int u)] (.int u :: st) H Q := G_iload_n fX8_isCount_0 rfl
theorem fX8_isCount_1 : ft 112 1 = some (.iconst 1, 0, 0, 0, .null) := by decide +kernel
theorem gX8_isCount_1 {L : List (Option Value)} {st : List Value} {H : HP} {Q : Option Value → HP → Prop} : Go 112 1 L st H Q ↔ Go 112 2 L (vi 1 :: st) H Q := G_iconst fX8_isCount_1
theorem fX8_isCount_2 : ft 112 2 = some (.if_icmp .lt 13, 0, 0, 0, .null) := by decide +kernel
theorem gX8_isCount_2T {L : List (Option Value)} {a b : Int} (c : (-2147483648 ≤ a ∧ a ≤ 2147483647 ∧ -2147483648 ≤ b ∧ b ≤ 2147483647) ∧ a < b) {st : List Value} {H : HP} {Q : Option Value → HP → Prop} : Go 112 2 L (vi b :: vi a :: st) H Q ↔ Go 112 15 L st H Q := G_icT fX8_isCount_2 (by decide) c
theorem gX8_isCount_2F {L : List (Option Value)} {a b : Int} (c : (-2147483648 ≤ a ∧ a ≤ 2147483647 ∧ -2147483648 ≤ b ∧ b ≤ 2147483647) ∧ ¬ (a < b)) {st : List Value} {H : HP} {Q : Option Value → HP → Prop} : Go 112 2 L (vi b :: vi a :: st) H Q ↔ Go 112 5 L st H Q := G_icF (tg := 15) fX8_isCount_2 (by decide) c
theorem fX8_isCount_5 : ft 112 5 = some (.iload_n 0, 0, 0, 0, .null) := by decide +kernel
theorem gX8_isCount_5  {u : Int32} {st : List Value} {H : HP} {Q : Option Value → HP → Prop} : Go 112 5 [some (.int u)] st H Q ↔ Go 112 6 [some (.int u)] (.int u :: st) H Q := G_iload_n fX8_isCount_5 rfl
theorem fX8_isCount_6 : ft 112 6 = some (.bipush 64, 0, 0, 0, .null) := by decide +kernel
theorem gX8_isCount_6 {L : List (Option Value)} {st : List Value} {H : HP} {Q : Option Value → HP → Prop} : Go 112 6 L st H Q ↔ Go 112 8 L (vi 64 :: st) H Q := G_bipush fX8_isCount_6 (by decide)
theorem fX8_isCount_8 : ft 112 8 = some (.if_icmp .gt 7, 0, 0, 0, .null) := by decide +kernel
theorem gX8_isCount_8T {L : List (Option Value)} {a b : Int} (c : (-2147483648 ≤ a ∧ a ≤ 2147483647 ∧ -2147483648 ≤ b ∧ b ≤ 2147483647) ∧ b < a) {st : List Value} {H : HP} {Q : Option Value → HP → Prop} : Go 112 8 L (vi b :: vi a :: st) H Q ↔ Go 112 15 L st H Q := G_icT fX8_isCount_8 (by decide) c
theorem gX8_isCount_8F {L : List (Option Value)} {a b : Int} (c : (-2147483648 ≤ a ∧ a ≤ 2147483647 ∧ -2147483648 ≤ b ∧ b ≤ 2147483647) ∧ ¬ (b < a)) {st : List Value} {H : HP} {Q : Option Value → HP → Prop} : Go 112 8 L (vi b :: vi a :: st) H Q ↔ Go 112 11 L st H Q := G_icF (tg := 15) fX8_isCount_8 (by decide) c
theorem fX8_isCount_11 : ft 112 11 = some (.iconst 1, 0, 0, 0, .null) := by decide +kernel
theorem gX8_isCount_11 {L : List (Option Value)} {st : List Value} {H : HP} {Q : Option Value → HP → Prop} : Go 112 11 L st H Q ↔ Go 112 12 L (vi 1 :: st) H Q := G_iconst fX8_isCount_11
theorem fX8_isCount_12 : ft 112 12 = some (.goto 4, 0, 0, 0, .null) := by decide +kernel
theorem gX8_isCount_12 {L : List (Option Value)} {st : List Value} {H : HP} {Q : Option Value → HP → Prop} : Go 112 12 L st H Q ↔ Go 112 16 L st H Q := G_goto fX8_isCount_12 (by decide)
theorem fX8_isCount_15 : ft 112 15 = some (.iconst 0, 0, 0, 0, .null) := by decide +kernel
theorem gX8_isCount_15 {L : List (Option Value)} {st : List Value} {H : HP} {Q : Option Value → HP → Prop} : Go 112 15 L st H Q ↔ Go 112 16 L (vi 0 :: st) H Q := G_iconst fX8_isCount_15
theorem fX8_isCount_16 : ft 112 16 = some (.ireturn, 0, 0, 0, .null) := by decide +kernel
theorem gX8_isCount_16 {L : List (Option Value)} {a : Int} (c : a = 0 ∨ a = 1) {H : HP} {Q : Option Value → HP → Prop} : Go 112 16 L [vi a] H Q ↔ Q (some (vi a)) H := G_zret fX8_isCount_16 (by decide +kernel) c
theorem fX8_isFit_0 : ft 113 0 = some (.iconst 0, 0, 0, 0, .null) := by decide +kernel
theorem gX8_isFit_0 {L : List (Option Value)} {st : List Value} {H : HP} {Q : Option Value → HP → Prop} : Go 113 0 L st H Q ↔ Go 113 1 L (vi 0 :: st) H Q := G_iconst fX8_isFit_0
theorem fX8_isFit_1 : ft 113 1 = some (.istore 5, 0, 0, 0, .null) := by decide +kernel
theorem gX8_isFit_1 {l0 l1 l2 l3 l4 l5 l6 l7 l8 l9 : Option Value} {u : Int32} {st : List Value} {H : HP} {Q : Option Value → HP → Prop} : Go 113 1 [l0, l1, l2, l3, l4, l5, l6, l7, l8, l9] (.int u :: st) H Q ↔ Go 113 3 [l0, l1, l2, l3, l4, some (.int u), l6, l7, l8, l9] st H Q := G_istore fX8_isFit_1 rfl
theorem fX8_isFit_3 : ft 113 3 = some (.iload 5, 0, 0, 0, .null) := by decide +kernel
theorem gX8_isFit_3 {l0 l1 l2 l3 l4 l6 l7 l8 l9 : Option Value} {u : Int32} {st : List Value} {H : HP} {Q : Option Value → HP → Prop} : Go 113 3 [l0, l1, l2, l3, l4, some (.int u), l6, l7, l8, l9] st H Q ↔ Go 113 5 [l0, l1, l2, l3, l4, some (.int u), l6, l7, l8, l9] (.int u :: st) H Q := G_iload fX8_isFit_3 rfl
theorem fX8_isFit_5 : ft 113 5 = some (.aload_n 1, 0, 0, 0, .null) := by decide +kernel
theorem gX8_isFit_5 {l0 l2 l3 l4 l5 l6 l7 l8 l9 : Option Value} {u : Nat} {st : List Value} {H : HP} {Q : Option Value → HP → Prop} : Go 113 5 [l0, some (.ref u), l2, l3, l4, l5, l6, l7, l8, l9] st H Q ↔ Go 113 6 [l0, some (.ref u), l2, l3, l4, l5, l6, l7, l8, l9] (.ref u :: st) H Q := G_aload_n fX8_isFit_5 rfl
theorem fX8_isFit_6 : ft 113 6 = some (.invokevirtual 102, 55, 0, 302, .null) := by decide +kernel
theorem gX8_isFit_6 {L : List (Option Value)} {p : Nat}  {r0 : Int32} {H : HP} {Q : Option Value → HP → Prop} : Go 113 6 L (.ref p :: [.int r0]) H Q ↔ (iso 5 (hget H p) = true ∧ Go 55 0 [some (.ref p)] [] H (Cont 113 9 L [.int r0] Q)) := G_cV (n := 0) (N := 1) (as := []) (st := [.int r0]) fX8_isFit_6 (by decide +kernel) rfl (Nat.le_of_ble_eq_true rfl) (Nat.le_of_ble_eq_true rfl) rfl
theorem fX8_isFit_9 : ft 113 9 = some (.if_icmp .ge 64, 0, 0, 0, .null) := by decide +kernel
theorem gX8_isFit_9T {L : List (Option Value)} {a b : Int} (c : (-2147483648 ≤ a ∧ a ≤ 2147483647 ∧ -2147483648 ≤ b ∧ b ≤ 2147483647) ∧ b ≤ a) {st : List Value} {H : HP} {Q : Option Value → HP → Prop} : Go 113 9 L (vi b :: vi a :: st) H Q ↔ Go 113 73 L st H Q := G_icT fX8_isFit_9 (by decide) c
theorem gX8_isFit_9F {L : List (Option Value)} {a b : Int} (c : (-2147483648 ≤ a ∧ a ≤ 2147483647 ∧ -2147483648 ≤ b ∧ b ≤ 2147483647) ∧ ¬ (b ≤ a)) {st : List Value} {H : HP} {Q : Option Value → HP → Prop} : Go 113 9 L (vi b :: vi a :: st) H Q ↔ Go 113 12 L st H Q := G_icF (tg := 73) fX8_isFit_9 (by decide) c
theorem fX8_isFit_12 : ft 113 12 = some (.iload_n 2, 0, 0, 0, .null) := by decide +kernel
theorem gX8_isFit_12 {l0 l1 l3 l4 l5 l6 l7 l8 l9 : Option Value} {u : Int32} {st : List Value} {H : HP} {Q : Option Value → HP → Prop} : Go 113 12 [l0, l1, some (.int u), l3, l4, l5, l6, l7, l8, l9] st H Q ↔ Go 113 13 [l0, l1, some (.int u), l3, l4, l5, l6, l7, l8, l9] (.int u :: st) H Q := G_iload_n fX8_isFit_12 rfl
theorem fX8_isFit_13 : ft 113 13 = some (.iload 5, 0, 0, 0, .null) := by decide +kernel
theorem gX8_isFit_13 {l0 l1 l2 l3 l4 l6 l7 l8 l9 : Option Value} {u : Int32} {st : List Value} {H : HP} {Q : Option Value → HP → Prop} : Go 113 13 [l0, l1, l2, l3, l4, some (.int u), l6, l7, l8, l9] st H Q ↔ Go 113 15 [l0, l1, l2, l3, l4, some (.int u), l6, l7, l8, l9] (.int u :: st) H Q := G_iload fX8_isFit_13 rfl
theorem fX8_isFit_15 : ft 113 15 = some (.iadd, 0, 0, 0, .null) := by decide +kernel
theorem gX8_isFit_15 {L : List (Option Value)} {a b : Int} {st : List Value} {H : HP} {Q : Option Value → HP → Prop} : Go 113 15 L (vi b :: vi a :: st) H Q ↔ Go 113 16 L (vi (a + b) :: st) H Q := G_iadd fX8_isFit_15
theorem fX8_isFit_16 : ft 113 16 = some (.aload_n 0, 0, 0, 0, .null) := by decide +kernel
theorem gX8_isFit_16 {l1 l2 l3 l4 l5 l6 l7 l8 l9 : Option Value} {u : Nat} {st : List Value} {H : HP} {Q : Option Value → HP → Prop} : Go 113 16 [some (.ref u), l1, l2, l3, l4, l5, l6, l7, l8, l9] st H Q ↔ Go 113 17 [some (.ref u), l1, l2, l3, l4, l5, l6, l7, l8, l9] (.ref u :: st) H Q := G_aload_n fX8_isFit_16 rfl
theorem fX8_isFit_17 : ft 113 17 = some (.invokevirtual 102, 55, 0, 302, .null) := by decide +kernel
theorem gX8_isFit_17 {L : List (Option Value)} {p : Nat}  {r0 : Int32} {H : HP} {Q : Option Value → HP → Prop} : Go 113 17 L (.ref p :: [.int r0]) H Q ↔ (iso 5 (hget H p) = true ∧ Go 55 0 [some (.ref p)] [] H (Cont 113 20 L [.int r0] Q)) := G_cV (n := 0) (N := 1) (as := []) (st := [.int r0]) fX8_isFit_17 (by decide +kernel) rfl (Nat.le_of_ble_eq_true rfl) (Nat.le_of_ble_eq_true rfl) rfl
theorem fX8_isFit_20 : ft 113 20 = some (.if_icmp .ge 53, 0, 0, 0, .null) := by decide +kernel
theorem gX8_isFit_20T {L : List (Option Value)} {a b : Int} (c : (-2147483648 ≤ a ∧ a ≤ 2147483647 ∧ -2147483648 ≤ b ∧ b ≤ 2147483647) ∧ b ≤ a) {st : List Value} {H : HP} {Q : Option Value → HP → Prop} : Go 113 20 L (vi b :: vi a :: st) H Q ↔ Go 113 73 L st H Q := G_icT fX8_isFit_20 (by decide) c
theorem gX8_isFit_20F {L : List (Option Value)} {a b : Int} (c : (-2147483648 ≤ a ∧ a ≤ 2147483647 ∧ -2147483648 ≤ b ∧ b ≤ 2147483647) ∧ ¬ (b ≤ a)) {st : List Value} {H : HP} {Q : Option Value → HP → Prop} : Go 113 20 L (vi b :: vi a :: st) H Q ↔ Go 113 23 L st H Q := G_icF (tg := 73) fX8_isFit_20 (by decide) c
theorem fX8_isFit_23 : ft 113 23 = some (.aload_n 1, 0, 0, 0, .null) := by decide +kernel
theorem gX8_isFit_23 {l0 l2 l3 l4 l5 l6 l7 l8 l9 : Option Value} {u : Nat} {st : List Value} {H : HP} {Q : Option Value → HP → Prop} : Go 113 23 [l0, some (.ref u), l2, l3, l4, l5, l6, l7, l8, l9] st H Q ↔ Go 113 24 [l0, some (.ref u), l2, l3, l4, l5, l6, l7, l8, l9] (.ref u :: st) H Q := G_aload_n fX8_isFit_23 rfl
theorem fX8_isFit_24 : ft 113 24 = some (.getfield 109, 5, 1, 286, .null) := by decide +kernel
theorem gX8_isFit_24 {L : List (Option Value)} {p : Nat} {st : List Value} {H : HP} {Q : Option Value → HP → Prop} : Go 113 24 L (.ref p :: st) H Q ↔ Rd (gF' 5 1 (hget H p)) 113 27 L st H Q := G_getf fX8_isFit_24 ⟨rfl, rfl⟩
theorem fX8_isFit_27 : ft 113 27 = some (.iload 5, 0, 0, 0, .null) := by decide +kernel
theorem gX8_isFit_27 {l0 l1 l2 l3 l4 l6 l7 l8 l9 : Option Value} {u : Int32} {st : List Value} {H : HP} {Q : Option Value → HP → Prop} : Go 113 27 [l0, l1, l2, l3, l4, some (.int u), l6, l7, l8, l9] st H Q ↔ Go 113 29 [l0, l1, l2, l3, l4, some (.int u), l6, l7, l8, l9] (.int u :: st) H Q := G_iload fX8_isFit_27 rfl
theorem fX8_isFit_29 : ft 113 29 = some (.laload, 0, 0, 0, .null) := by decide +kernel
theorem gX8_isFit_29 {L : List (Option Value)} {p : Nat} {a : Int} {st : List Value} {H : HP} {Q : Option Value → HP → Prop} : Go 113 29 L (vi a :: .ref p :: st) H Q ↔ Rd (aL' (hget H p) a) 113 30 L st H Q := G_lald fX8_isFit_29
theorem fX8_isFit_30 : ft 113 30 = some (.lstore 6, 0, 0, 0, .null) := by decide +kernel
theorem gX8_isFit_30 {l0 l1 l2 l3 l4 l5 l6 l7 l8 l9 : Option Value} {u : Int64} {st : List Value} {H : HP} {Q : Option Value → HP → Prop} : Go 113 30 [l0, l1, l2, l3, l4, l5, l6, l7, l8, l9] (.long u :: st) H Q ↔ Go 113 32 [l0, l1, l2, l3, l4, l5, some (.long u), none, l8, l9] st H Q := G_lstore fX8_isFit_30 rfl
theorem fX8_isFit_32 : ft 113 32 = some (.aload_n 0, 0, 0, 0, .null) := by decide +kernel
theorem gX8_isFit_32 {l1 l2 l3 l4 l5 l6 l7 l8 l9 : Option Value} {u : Nat} {st : List Value} {H : HP} {Q : Option Value → HP → Prop} : Go 113 32 [some (.ref u), l1, l2, l3, l4, l5, l6, l7, l8, l9] st H Q ↔ Go 113 33 [some (.ref u), l1, l2, l3, l4, l5, l6, l7, l8, l9] (.ref u :: st) H Q := G_aload_n fX8_isFit_32 rfl
theorem fX8_isFit_33 : ft 113 33 = some (.getfield 109, 5, 1, 286, .null) := by decide +kernel
theorem gX8_isFit_33 {L : List (Option Value)} {p : Nat} {st : List Value} {H : HP} {Q : Option Value → HP → Prop} : Go 113 33 L (.ref p :: st) H Q ↔ Rd (gF' 5 1 (hget H p)) 113 36 L st H Q := G_getf fX8_isFit_33 ⟨rfl, rfl⟩
theorem fX8_isFit_36 : ft 113 36 = some (.iload_n 2, 0, 0, 0, .null) := by decide +kernel
theorem gX8_isFit_36 {l0 l1 l3 l4 l5 l6 l7 l8 l9 : Option Value} {u : Int32} {st : List Value} {H : HP} {Q : Option Value → HP → Prop} : Go 113 36 [l0, l1, some (.int u), l3, l4, l5, l6, l7, l8, l9] st H Q ↔ Go 113 37 [l0, l1, some (.int u), l3, l4, l5, l6, l7, l8, l9] (.int u :: st) H Q := G_iload_n fX8_isFit_36 rfl
theorem fX8_isFit_37 : ft 113 37 = some (.iload 5, 0, 0, 0, .null) := by decide +kernel
theorem gX8_isFit_37 {l0 l1 l2 l3 l4 l6 l7 l8 l9 : Option Value} {u : Int32} {st : List Value} {H : HP} {Q : Option Value → HP → Prop} : Go 113 37 [l0, l1, l2, l3, l4, some (.int u), l6, l7, l8, l9] st H Q ↔ Go 113 39 [l0, l1, l2, l3, l4, some (.int u), l6, l7, l8, l9] (.int u :: st) H Q := G_iload fX8_isFit_37 rfl
theorem fX8_isFit_39 : ft 113 39 = some (.iadd, 0, 0, 0, .null) := by decide +kernel
theorem gX8_isFit_39 {L : List (Option Value)} {a b : Int} {st : List Value} {H : HP} {Q : Option Value → HP → Prop} : Go 113 39 L (vi b :: vi a :: st) H Q ↔ Go 113 40 L (vi (a + b) :: st) H Q := G_iadd fX8_isFit_39
theorem fX8_isFit_40 : ft 113 40 = some (.laload, 0, 0, 0, .null) := by decide +kernel
theorem gX8_isFit_40 {L : List (Option Value)} {p : Nat} {a : Int} {st : List Value} {H : HP} {Q : Option Value → HP → Prop} : Go 113 40 L (vi a :: .ref p :: st) H Q ↔ Rd (aL' (hget H p) a) 113 41 L st H Q := G_lald fX8_isFit_40
theorem fX8_isFit_41 : ft 113 41 = some (.lstore 8, 0, 0, 0, .null) := by decide +kernel
theorem gX8_isFit_41 {l0 l1 l2 l3 l4 l5 l6 l7 l8 l9 : Option Value} {u : Int64} {st : List Value} {H : HP} {Q : Option Value → HP → Prop} : Go 113 41 [l0, l1, l2, l3, l4, l5, l6, l7, l8, l9] (.long u :: st) H Q ↔ Go 113 43 [l0, l1, l2, l3, l4, l5, l6, l7, some (.long u), none] st H Q := G_lstore fX8_isFit_41 rfl
theorem fX8_isFit_43 : ft 113 43 = some (.lload 6, 0, 0, 0, .null) := by decide +kernel
theorem gX8_isFit_43 {l0 l1 l2 l3 l4 l5 l8 l9 : Option Value} {u : Int64} {st : List Value} {H : HP} {Q : Option Value → HP → Prop} : Go 113 43 [l0, l1, l2, l3, l4, l5, some (.long u), none, l8, l9] st H Q ↔ Go 113 45 [l0, l1, l2, l3, l4, l5, some (.long u), none, l8, l9] (.long u :: st) H Q := G_lload fX8_isFit_43 rfl
theorem fX8_isFit_45 : ft 113 45 = some (.lload 8, 0, 0, 0, .null) := by decide +kernel
theorem gX8_isFit_45 {l0 l1 l2 l3 l4 l5 l6 l7 : Option Value} {u : Int64} {st : List Value} {H : HP} {Q : Option Value → HP → Prop} : Go 113 45 [l0, l1, l2, l3, l4, l5, l6, l7, some (.long u), none] st H Q ↔ Go 113 47 [l0, l1, l2, l3, l4, l5, l6, l7, some (.long u), none] (.long u :: st) H Q := G_lload fX8_isFit_45 rfl
theorem fX8_isFit_47 : ft 113 47 = some (.lcmp, 0, 0, 0, .null) := by decide +kernel
theorem fX8_isFit_47' : ft 113 48 = some (.ifCond .eq 19, 0, 0, 0, .null) := by decide +kernel
theorem gX8_isFit_47T {L : List (Option Value)} {a b : Int} (c : (-9223372036854775808 ≤ a ∧ a ≤ 9223372036854775807 ∧ -9223372036854775808 ≤ b ∧ b ≤ 9223372036854775807) ∧ a = b) {st : List Value} {H : HP} {Q : Option Value → HP → Prop} : Go 113 47 L (vl b :: vl a :: st) H Q ↔ Go 113 67 L st H Q := G_lcT fX8_isFit_47 fX8_isFit_47' (by decide) c
theorem gX8_isFit_47F {L : List (Option Value)} {a b : Int} (c : (-9223372036854775808 ≤ a ∧ a ≤ 9223372036854775807 ∧ -9223372036854775808 ≤ b ∧ b ≤ 9223372036854775807) ∧ ¬ (a = b)) {st : List Value} {H : HP} {Q : Option Value → HP → Prop} : Go 113 47 L (vl b :: vl a :: st) H Q ↔ Go 113 51 L st H Q := G_lcF (tg := 67) fX8_isFit_47 fX8_isFit_47' (by decide) c
theorem fX8_isFit_48 : ft 113 48 = some (.ifCond .eq 19, 0, 0, 0, .null) := by decide +kernel
theorem gX8_isFit_48T {L : List (Option Value)} {a : Int} (c : (-2147483648 ≤ a ∧ a ≤ 2147483647) ∧ a = 0) {st : List Value} {H : HP} {Q : Option Value → HP → Prop} : Go 113 48 L (vi a :: st) H Q ↔ Go 113 67 L st H Q := G_ifT fX8_isFit_48 (by decide) c
theorem gX8_isFit_48F {L : List (Option Value)} {a : Int} (c : (-2147483648 ≤ a ∧ a ≤ 2147483647) ∧ ¬ (a = 0)) {st : List Value} {H : HP} {Q : Option Value → HP → Prop} : Go 113 48 L (vi a :: st) H Q ↔ Go 113 51 L st H Q := G_ifF (tg := 67) fX8_isFit_48 (by decide) c
theorem fX8_isFit_51 : ft 113 51 = some (.lload 6, 0, 0, 0, .null) := by decide +kernel
theorem gX8_isFit_51 {l0 l1 l2 l3 l4 l5 l8 l9 : Option Value} {u : Int64} {st : List Value} {H : HP} {Q : Option Value → HP → Prop} : Go 113 51 [l0, l1, l2, l3, l4, l5, some (.long u), none, l8, l9] st H Q ↔ Go 113 53 [l0, l1, l2, l3, l4, l5, some (.long u), none, l8, l9] (.long u :: st) H Q := G_lload fX8_isFit_51 rfl
theorem fX8_isFit_53 : ft 113 53 = some (.lload_n 3, 0, 0, 0, .null) := by decide +kernel
theorem gX8_isFit_53 {l0 l1 l2 l5 l6 l7 l8 l9 : Option Value} {u : Int64} {st : List Value} {H : HP} {Q : Option Value → HP → Prop} : Go 113 53 [l0, l1, l2, some (.long u), none, l5, l6, l7, l8, l9] st H Q ↔ Go 113 54 [l0, l1, l2, some (.long u), none, l5, l6, l7, l8, l9] (.long u :: st) H Q := G_lload_n fX8_isFit_53 rfl
theorem fX8_isFit_54 : ft 113 54 = some (.lcmp, 0, 0, 0, .null) := by decide +kernel
theorem fX8_isFit_54' : ft 113 55 = some (.ifCond .eq 12, 0, 0, 0, .null) := by decide +kernel
theorem gX8_isFit_54T {L : List (Option Value)} {a b : Int} (c : (-9223372036854775808 ≤ a ∧ a ≤ 9223372036854775807 ∧ -9223372036854775808 ≤ b ∧ b ≤ 9223372036854775807) ∧ a = b) {st : List Value} {H : HP} {Q : Option Value → HP → Prop} : Go 113 54 L (vl b :: vl a :: st) H Q ↔ Go 113 67 L st H Q := G_lcT fX8_isFit_54 fX8_isFit_54' (by decide) c
theorem gX8_isFit_54F {L : List (Option Value)} {a b : Int} (c : (-9223372036854775808 ≤ a ∧ a ≤ 9223372036854775807 ∧ -9223372036854775808 ≤ b ∧ b ≤ 9223372036854775807) ∧ ¬ (a = b)) {st : List Value} {H : HP} {Q : Option Value → HP → Prop} : Go 113 54 L (vl b :: vl a :: st) H Q ↔ Go 113 58 L st H Q := G_lcF (tg := 67) fX8_isFit_54 fX8_isFit_54' (by decide) c
theorem fX8_isFit_55 : ft 113 55 = some (.ifCond .eq 12, 0, 0, 0, .null) := by decide +kernel
theorem gX8_isFit_55T {L : List (Option Value)} {a : Int} (c : (-2147483648 ≤ a ∧ a ≤ 2147483647) ∧ a = 0) {st : List Value} {H : HP} {Q : Option Value → HP → Prop} : Go 113 55 L (vi a :: st) H Q ↔ Go 113 67 L st H Q := G_ifT fX8_isFit_55 (by decide) c
theorem gX8_isFit_55F {L : List (Option Value)} {a : Int} (c : (-2147483648 ≤ a ∧ a ≤ 2147483647) ∧ ¬ (a = 0)) {st : List Value} {H : HP} {Q : Option Value → HP → Prop} : Go 113 55 L (vi a :: st) H Q ↔ Go 113 58 L st H Q := G_ifF (tg := 67) fX8_isFit_55 (by decide) c
theorem fX8_isFit_58 : ft 113 58 = some (.lload 8, 0, 0, 0, .null) := by decide +kernel
theorem gX8_isFit_58 {l0 l1 l2 l3 l4 l5 l6 l7 : Option Value} {u : Int64} {st : List Value} {H : HP} {Q : Option Value → HP → Prop} : Go 113 58 [l0, l1, l2, l3, l4, l5, l6, l7, some (.long u), none] st H Q ↔ Go 113 60 [l0, l1, l2, l3, l4, l5, l6, l7, some (.long u), none] (.long u :: st) H Q := G_lload fX8_isFit_58 rfl
theorem fX8_isFit_60 : ft 113 60 = some (.lload_n 3, 0, 0, 0, .null) := by decide +kernel
theorem gX8_isFit_60 {l0 l1 l2 l5 l6 l7 l8 l9 : Option Value} {u : Int64} {st : List Value} {H : HP} {Q : Option Value → HP → Prop} : Go 113 60 [l0, l1, l2, some (.long u), none, l5, l6, l7, l8, l9] st H Q ↔ Go 113 61 [l0, l1, l2, some (.long u), none, l5, l6, l7, l8, l9] (.long u :: st) H Q := G_lload_n fX8_isFit_60 rfl
theorem fX8_isFit_61 : ft 113 61 = some (.lcmp, 0, 0, 0, .null) := by decide +kernel
theorem fX8_isFit_61' : ft 113 62 = some (.ifCond .eq 5, 0, 0, 0, .null) := by decide +kernel
theorem gX8_isFit_61T {L : List (Option Value)} {a b : Int} (c : (-9223372036854775808 ≤ a ∧ a ≤ 9223372036854775807 ∧ -9223372036854775808 ≤ b ∧ b ≤ 9223372036854775807) ∧ a = b) {st : List Value} {H : HP} {Q : Option Value → HP → Prop} : Go 113 61 L (vl b :: vl a :: st) H Q ↔ Go 113 67 L st H Q := G_lcT fX8_isFit_61 fX8_isFit_61' (by decide) c
theorem gX8_isFit_61F {L : List (Option Value)} {a b : Int} (c : (-9223372036854775808 ≤ a ∧ a ≤ 9223372036854775807 ∧ -9223372036854775808 ≤ b ∧ b ≤ 9223372036854775807) ∧ ¬ (a = b)) {st : List Value} {H : HP} {Q : Option Value → HP → Prop} : Go 113 61 L (vl b :: vl a :: st) H Q ↔ Go 113 65 L st H Q := G_lcF (tg := 67) fX8_isFit_61 fX8_isFit_61' (by decide) c
theorem fX8_isFit_62 : ft 113 62 = some (.ifCond .eq 5, 0, 0, 0, .null) := by decide +kernel
theorem gX8_isFit_62T {L : List (Option Value)} {a : Int} (c : (-2147483648 ≤ a ∧ a ≤ 2147483647) ∧ a = 0) {st : List Value} {H : HP} {Q : Option Value → HP → Prop} : Go 113 62 L (vi a :: st) H Q ↔ Go 113 67 L st H Q := G_ifT fX8_isFit_62 (by decide) c
theorem gX8_isFit_62F {L : List (Option Value)} {a : Int} (c : (-2147483648 ≤ a ∧ a ≤ 2147483647) ∧ ¬ (a = 0)) {st : List Value} {H : HP} {Q : Option Value → HP → Prop} : Go 113 62 L (vi a :: st) H Q ↔ Go 113 65 L st H Q := G_ifF (tg := 67) fX8_isFit_62 (by decide) c
theorem fX8_isFit_65 : ft 113 65 = some (.iconst 0, 0, 0, 0, .null) := by decide +kernel
theorem gX8_isFit_65 {L : List (Option Value)} {st : List Value} {H : HP} {Q : Option Value → HP → Prop} : Go 113 65 L st H Q ↔ Go 113 66 L (vi 0 :: st) H Q := G_iconst fX8_isFit_65
theorem fX8_isFit_66 : ft 113 66 = some (.ireturn, 0, 0, 0, .null) := by decide +kernel
theorem gX8_isFit_66 {L : List (Option Value)} {a : Int} (c : a = 0 ∨ a = 1) {H : HP} {Q : Option Value → HP → Prop} : Go 113 66 L [vi a] H Q ↔ Q (some (vi a)) H := G_zret fX8_isFit_66 (by decide +kernel) c
theorem fX8_isFit_67 : ft 113 67 = some (.iinc 5 1, 0, 0, 0, .null) := by decide +kernel
theorem gX8_isFit_67 {l0 l1 l2 l3 l4 l6 l7 l8 l9 : Option Value} {a : Int} {st : List Value} {H : HP} {Q : Option Value → HP → Prop} : Go 113 67 [l0, l1, l2, l3, l4, some (vi a), l6, l7, l8, l9] st H Q ↔ Go 113 70 [l0, l1, l2, l3, l4, some (vi (a + 1)), l6, l7, l8, l9] st H Q := G_iinc fX8_isFit_67 rfl rfl
theorem fX8_isFit_70 : ft 113 70 = some (.goto (-67), 0, 0, 0, .null) := by decide +kernel
theorem gX8_isFit_70 {L : List (Option Value)} {st : List Value} {H : HP} {Q : Option Value → HP → Prop} : Go 113 70 L st H Q ↔ Go 113 3 L st H Q := G_goto fX8_isFit_70 (by decide)
theorem fX8_isFit_73 : ft 113 73 = some (.iconst 1, 0, 0, 0, .null) := by decide +kernel
theorem gX8_isFit_73 {L : List (Option Value)} {st : List Value} {H : HP} {Q : Option Value → HP → Prop} : Go 113 73 L st H Q ↔ Go 113 74 L (vi 1 :: st) H Q := G_iconst fX8_isFit_73
theorem fX8_isFit_74 : ft 113 74 = some (.ireturn, 0, 0, 0, .null) := by decide +kernel
theorem gX8_isFit_74 {L : List (Option Value)} {a : Int} (c : a = 0 ∨ a = 1) {H : HP} {Q : Option Value → HP → Prop} : Go 113 74 L [vi a] H Q ↔ Q (some (vi a)) H := G_zret fX8_isFit_74 (by decide +kernel) c
theorem fX8_costOf_0 : ft 114 0 = some (.iload_n 0, 0, 0, 0, .null) := by decide +kernel
theorem gX8_costOf_0 {l1 l2 l3 l4 l5 : Option Value} {u : Int32} {st : List Value} {H : HP} {Q : Option Value → HP → Prop} : Go 114 0 [some (.int u), l1, l2, l3, l4, l5] st H Q ↔ Go 114 1 [some (.int u), l1, l2, l3, l4, l5] (.int u :: st) H Q := G_iload_n fX8_costOf_0 rfl
theorem fX8_costOf_1 : ft 114 1 = some (.ifCond .ne 7, 0, 0, 0, .null) := by decide +kernel
theorem gX8_costOf_1T {L : List (Option Value)} {a : Int} (c : (-2147483648 ≤ a ∧ a ≤ 2147483647) ∧ ¬ a = 0) {st : List Value} {H : HP} {Q : Option Value → HP → Prop} : Go 114 1 L (vi a :: st) H Q ↔ Go 114 8 L st H Q := G_ifT fX8_costOf_1 (by decide) c
theorem gX8_costOf_1F {L : List (Option Value)} {a : Int} (c : (-2147483648 ≤ a ∧ a ≤ 2147483647) ∧ ¬ (¬ a = 0)) {st : List Value} {H : HP} {Q : Option Value → HP → Prop} : Go 114 1 L (vi a :: st) H Q ↔ Go 114 4 L st H Q := G_ifF (tg := 8) fX8_costOf_1 (by decide) c
theorem fX8_costOf_4 : ft 114 4 = some (.iload_n 1, 0, 0, 0, .null) := by decide +kernel
theorem gX8_costOf_4 {l0 l2 l3 l4 l5 : Option Value} {u : Int32} {st : List Value} {H : HP} {Q : Option Value → HP → Prop} : Go 114 4 [l0, some (.int u), l2, l3, l4, l5] st H Q ↔ Go 114 5 [l0, some (.int u), l2, l3, l4, l5] (.int u :: st) H Q := G_iload_n fX8_costOf_4 rfl
theorem fX8_costOf_5 : ft 114 5 = some (.iload_n 2, 0, 0, 0, .null) := by decide +kernel
theorem gX8_costOf_5 {l0 l1 l3 l4 l5 : Option Value} {u : Int32} {st : List Value} {H : HP} {Q : Option Value → HP → Prop} : Go 114 5 [l0, l1, some (.int u), l3, l4, l5] st H Q ↔ Go 114 6 [l0, l1, some (.int u), l3, l4, l5] (.int u :: st) H Q := G_iload_n fX8_costOf_5 rfl
theorem fX8_costOf_6 : ft 114 6 = some (.imul, 0, 0, 0, .null) := by decide +kernel
theorem gX8_costOf_6 {L : List (Option Value)} {a b : Int} {st : List Value} {H : HP} {Q : Option Value → HP → Prop} : Go 114 6 L (vi b :: vi a :: st) H Q ↔ Go 114 7 L (vi (a * b) :: st) H Q := G_imul fX8_costOf_6
theorem fX8_costOf_7 : ft 114 7 = some (.ireturn, 0, 0, 0, .null) := by decide +kernel
theorem gX8_costOf_7 {L : List (Option Value)} {u : Int32} {H : HP} {Q : Option Value → HP → Prop} : Go 114 7 L [.int u] H Q ↔ Q (some (.int u)) H := G_iret fX8_costOf_7 (by decide +kernel)
theorem fX8_costOf_8 : ft 114 8 = some (.iload_n 1, 0, 0, 0, .null) := by decide +kernel
theorem gX8_costOf_8 {l0 l2 l3 l4 l5 : Option Value} {u : Int32} {st : List Value} {H : HP} {Q : Option Value → HP → Prop} : Go 114 8 [l0, some (.int u), l2, l3, l4, l5] st H Q ↔ Go 114 9 [l0, some (.int u), l2, l3, l4, l5] (.int u :: st) H Q := G_iload_n fX8_costOf_8 rfl
theorem fX8_costOf_9 : ft 114 9 = some (.iload_n 2, 0, 0, 0, .null) := by decide +kernel
theorem gX8_costOf_9 {l0 l1 l3 l4 l5 : Option Value} {u : Int32} {st : List Value} {H : HP} {Q : Option Value → HP → Prop} : Go 114 9 [l0, l1, some (.int u), l3, l4, l5] st H Q ↔ Go 114 10 [l0, l1, some (.int u), l3, l4, l5] (.int u :: st) H Q := G_iload_n fX8_costOf_9 rfl
theorem fX8_costOf_10 : ft 114 10 = some (.iadd, 0, 0, 0, .null) := by decide +kernel
theorem gX8_costOf_10 {L : List (Option Value)} {a b : Int} {st : List Value} {H : HP} {Q : Option Value → HP → Prop} : Go 114 10 L (vi b :: vi a :: st) H Q ↔ Go 114 11 L (vi (a + b) :: st) H Q := G_iadd fX8_costOf_10
theorem fX8_costOf_11 : ft 114 11 = some (.iconst 1, 0, 0, 0, .null) := by decide +kernel
theorem gX8_costOf_11 {L : List (Option Value)} {st : List Value} {H : HP} {Q : Option Value → HP → Prop} : Go 114 11 L st H Q ↔ Go 114 12 L (vi 1 :: st) H Q := G_iconst fX8_costOf_11
theorem fX8_costOf_12 : ft 114 12 = some (.isub, 0, 0, 0, .null) := by decide +kernel
theorem gX8_costOf_12 {L : List (Option Value)} {a b : Int} {st : List Value} {H : HP} {Q : Option Value → HP → Prop} : Go 114 12 L (vi b :: vi a :: st) H Q ↔ Go 114 13 L (vi (a - b) :: st) H Q := G_isub fX8_costOf_12
theorem fX8_costOf_13 : ft 114 13 = some (.invokestatic 255, 115, 0, 590, .null) := by decide +kernel
theorem gX8_costOf_13 {L : List (Option Value)} {a0 : Int32}  {H : HP} {Q : Option Value → HP → Prop} : Go 114 13 L (.int a0 :: []) H Q ↔ Go 115 0 [some (.int a0), none] [] H (Cont 114 16 L [] Q) := G_cS (n := 1) (N := 2) (as := [.int a0]) (st := []) fX8_costOf_13 (by decide +kernel) rfl (Nat.le_of_ble_eq_true rfl) (Nat.le_of_ble_eq_true rfl) rfl
theorem fX8_costOf_16 : ft 114 16 = some (.istore_n 3, 0, 0, 0, .null) := by decide +kernel
theorem gX8_costOf_16 {l0 l1 l2 l3 l4 l5 : Option Value} {u : Int32} {st : List Value} {H : HP} {Q : Option Value → HP → Prop} : Go 114 16 [l0, l1, l2, l3, l4, l5] (.int u :: st) H Q ↔ Go 114 17 [l0, l1, l2, some (.int u), l4, l5] st H Q := G_istore_n fX8_costOf_16 rfl
theorem fX8_costOf_17 : ft 114 17 = some (.iconst 1, 0, 0, 0, .null) := by decide +kernel
theorem gX8_costOf_17 {L : List (Option Value)} {st : List Value} {H : HP} {Q : Option Value → HP → Prop} : Go 114 17 L st H Q ↔ Go 114 18 L (vi 1 :: st) H Q := G_iconst fX8_costOf_17
theorem fX8_costOf_18 : ft 114 18 = some (.iload_n 3, 0, 0, 0, .null) := by decide +kernel
theorem gX8_costOf_18 {l0 l1 l2 l4 l5 : Option Value} {u : Int32} {st : List Value} {H : HP} {Q : Option Value → HP → Prop} : Go 114 18 [l0, l1, l2, some (.int u), l4, l5] st H Q ↔ Go 114 19 [l0, l1, l2, some (.int u), l4, l5] (.int u :: st) H Q := G_iload_n fX8_costOf_18 rfl
theorem fX8_costOf_19 : ft 114 19 = some (.ishl, 0, 0, 0, .null) := by decide +kernel
theorem gX8_costOf_19 {L : List (Option Value)} {a b : Int} {st : List Value} {H : HP} {Q : Option Value → HP → Prop} : Go 114 19 L (vi b :: vi a :: st) H Q ↔ Go 114 20 L (vi (jShl a b) :: st) H Q := G_ishl fX8_costOf_19
theorem fX8_costOf_20 : ft 114 20 = some (.istore 4, 0, 0, 0, .null) := by decide +kernel
theorem gX8_costOf_20 {l0 l1 l2 l3 l4 l5 : Option Value} {u : Int32} {st : List Value} {H : HP} {Q : Option Value → HP → Prop} : Go 114 20 [l0, l1, l2, l3, l4, l5] (.int u :: st) H Q ↔ Go 114 22 [l0, l1, l2, l3, some (.int u), l5] st H Q := G_istore fX8_costOf_20 rfl
theorem fX8_costOf_22 : ft 114 22 = some (.iconst 3, 0, 0, 0, .null) := by decide +kernel
theorem gX8_costOf_22 {L : List (Option Value)} {st : List Value} {H : HP} {Q : Option Value → HP → Prop} : Go 114 22 L st H Q ↔ Go 114 23 L (vi 3 :: st) H Q := G_iconst fX8_costOf_22
theorem fX8_costOf_23 : ft 114 23 = some (.iload 4, 0, 0, 0, .null) := by decide +kernel
theorem gX8_costOf_23 {l0 l1 l2 l3 l5 : Option Value} {u : Int32} {st : List Value} {H : HP} {Q : Option Value → HP → Prop} : Go 114 23 [l0, l1, l2, l3, some (.int u), l5] st H Q ↔ Go 114 25 [l0, l1, l2, l3, some (.int u), l5] (.int u :: st) H Q := G_iload fX8_costOf_23 rfl
theorem fX8_costOf_25 : ft 114 25 = some (.imul, 0, 0, 0, .null) := by decide +kernel
theorem gX8_costOf_25 {L : List (Option Value)} {a b : Int} {st : List Value} {H : HP} {Q : Option Value → HP → Prop} : Go 114 25 L (vi b :: vi a :: st) H Q ↔ Go 114 26 L (vi (a * b) :: st) H Q := G_imul fX8_costOf_25
theorem fX8_costOf_26 : ft 114 26 = some (.iload_n 3, 0, 0, 0, .null) := by decide +kernel
theorem gX8_costOf_26 {l0 l1 l2 l4 l5 : Option Value} {u : Int32} {st : List Value} {H : HP} {Q : Option Value → HP → Prop} : Go 114 26 [l0, l1, l2, some (.int u), l4, l5] st H Q ↔ Go 114 27 [l0, l1, l2, some (.int u), l4, l5] (.int u :: st) H Q := G_iload_n fX8_costOf_26 rfl
theorem fX8_costOf_27 : ft 114 27 = some (.imul, 0, 0, 0, .null) := by decide +kernel
theorem gX8_costOf_27 {L : List (Option Value)} {a b : Int} {st : List Value} {H : HP} {Q : Option Value → HP → Prop} : Go 114 27 L (vi b :: vi a :: st) H Q ↔ Go 114 28 L (vi (a * b) :: st) H Q := G_imul fX8_costOf_27
theorem fX8_costOf_28 : ft 114 28 = some (.iconst 2, 0, 0, 0, .null) := by decide +kernel
theorem gX8_costOf_28 {L : List (Option Value)} {st : List Value} {H : HP} {Q : Option Value → HP → Prop} : Go 114 28 L st H Q ↔ Go 114 29 L (vi 2 :: st) H Q := G_iconst fX8_costOf_28
theorem fX8_costOf_29 : ft 114 29 = some (.idiv, 0, 0, 0, .null) := by decide +kernel
theorem gX8_costOf_29 {L : List (Option Value)} {a b : Int} (c : -2147483648 ≤ a ∧ a ≤ 2147483647 ∧ -2147483648 ≤ b ∧ b ≤ 2147483647 ∧ ¬ b = 0) {st : List Value} {H : HP} {Q : Option Value → HP → Prop} : Go 114 29 L (vi b :: vi a :: st) H Q ↔ Go 114 30 L (vi (a.tdiv b) :: st) H Q := G_idiv fX8_costOf_29 c
theorem fX8_costOf_30 : ft 114 30 = some (.iconst 2, 0, 0, 0, .null) := by decide +kernel
theorem gX8_costOf_30 {L : List (Option Value)} {st : List Value} {H : HP} {Q : Option Value → HP → Prop} : Go 114 30 L st H Q ↔ Go 114 31 L (vi 2 :: st) H Q := G_iconst fX8_costOf_30
theorem fX8_costOf_31 : ft 114 31 = some (.iload 4, 0, 0, 0, .null) := by decide +kernel
theorem gX8_costOf_31 {l0 l1 l2 l3 l5 : Option Value} {u : Int32} {st : List Value} {H : HP} {Q : Option Value → HP → Prop} : Go 114 31 [l0, l1, l2, l3, some (.int u), l5] st H Q ↔ Go 114 33 [l0, l1, l2, l3, some (.int u), l5] (.int u :: st) H Q := G_iload fX8_costOf_31 rfl
theorem fX8_costOf_33 : ft 114 33 = some (.imul, 0, 0, 0, .null) := by decide +kernel
theorem gX8_costOf_33 {L : List (Option Value)} {a b : Int} {st : List Value} {H : HP} {Q : Option Value → HP → Prop} : Go 114 33 L (vi b :: vi a :: st) H Q ↔ Go 114 34 L (vi (a * b) :: st) H Q := G_imul fX8_costOf_33
theorem fX8_costOf_34 : ft 114 34 = some (.iadd, 0, 0, 0, .null) := by decide +kernel
theorem gX8_costOf_34 {L : List (Option Value)} {a b : Int} {st : List Value} {H : HP} {Q : Option Value → HP → Prop} : Go 114 34 L (vi b :: vi a :: st) H Q ↔ Go 114 35 L (vi (a + b) :: st) H Q := G_iadd fX8_costOf_34
theorem fX8_costOf_35 : ft 114 35 = some (.istore 5, 0, 0, 0, .null) := by decide +kernel
theorem gX8_costOf_35 {l0 l1 l2 l3 l4 l5 : Option Value} {u : Int32} {st : List Value} {H : HP} {Q : Option Value → HP → Prop} : Go 114 35 [l0, l1, l2, l3, l4, l5] (.int u :: st) H Q ↔ Go 114 37 [l0, l1, l2, l3, l4, some (.int u)] st H Q := G_istore fX8_costOf_35 rfl
theorem fX8_costOf_37 : ft 114 37 = some (.iload_n 0, 0, 0, 0, .null) := by decide +kernel
theorem gX8_costOf_37 {l1 l2 l3 l4 l5 : Option Value} {u : Int32} {st : List Value} {H : HP} {Q : Option Value → HP → Prop} : Go 114 37 [some (.int u), l1, l2, l3, l4, l5] st H Q ↔ Go 114 38 [some (.int u), l1, l2, l3, l4, l5] (.int u :: st) H Q := G_iload_n fX8_costOf_37 rfl
theorem fX8_costOf_38 : ft 114 38 = some (.iconst 1, 0, 0, 0, .null) := by decide +kernel
theorem gX8_costOf_38 {L : List (Option Value)} {st : List Value} {H : HP} {Q : Option Value → HP → Prop} : Go 114 38 L st H Q ↔ Go 114 39 L (vi 1 :: st) H Q := G_iconst fX8_costOf_38
theorem fX8_costOf_39 : ft 114 39 = some (.if_icmp .ne 8, 0, 0, 0, .null) := by decide +kernel
theorem gX8_costOf_39T {L : List (Option Value)} {a b : Int} (c : (-2147483648 ≤ a ∧ a ≤ 2147483647 ∧ -2147483648 ≤ b ∧ b ≤ 2147483647) ∧ ¬ a = b) {st : List Value} {H : HP} {Q : Option Value → HP → Prop} : Go 114 39 L (vi b :: vi a :: st) H Q ↔ Go 114 47 L st H Q := G_icT fX8_costOf_39 (by decide) c
theorem gX8_costOf_39F {L : List (Option Value)} {a b : Int} (c : (-2147483648 ≤ a ∧ a ≤ 2147483647 ∧ -2147483648 ≤ b ∧ b ≤ 2147483647) ∧ ¬ (¬ a = b)) {st : List Value} {H : HP} {Q : Option Value → HP → Prop} : Go 114 39 L (vi b :: vi a :: st) H Q ↔ Go 114 42 L st H Q := G_icF (tg := 47) fX8_costOf_39 (by decide) c
theorem fX8_costOf_42 : ft 114 42 = some (.iload 5, 0, 0, 0, .null) := by decide +kernel
theorem gX8_costOf_42 {l0 l1 l2 l3 l4 : Option Value} {u : Int32} {st : List Value} {H : HP} {Q : Option Value → HP → Prop} : Go 114 42 [l0, l1, l2, l3, l4, some (.int u)] st H Q ↔ Go 114 44 [l0, l1, l2, l3, l4, some (.int u)] (.int u :: st) H Q := G_iload fX8_costOf_42 rfl
theorem fX8_costOf_44 : ft 114 44 = some (.goto 16, 0, 0, 0, .null) := by decide +kernel
theorem gX8_costOf_44 {L : List (Option Value)} {st : List Value} {H : HP} {Q : Option Value → HP → Prop} : Go 114 44 L st H Q ↔ Go 114 60 L st H Q := G_goto fX8_costOf_44 (by decide)
theorem fX8_costOf_47 : ft 114 47 = some (.iconst 3, 0, 0, 0, .null) := by decide +kernel
theorem gX8_costOf_47 {L : List (Option Value)} {st : List Value} {H : HP} {Q : Option Value → HP → Prop} : Go 114 47 L st H Q ↔ Go 114 48 L (vi 3 :: st) H Q := G_iconst fX8_costOf_47
theorem fX8_costOf_48 : ft 114 48 = some (.iload 5, 0, 0, 0, .null) := by decide +kernel
theorem gX8_costOf_48 {l0 l1 l2 l3 l4 : Option Value} {u : Int32} {st : List Value} {H : HP} {Q : Option Value → HP → Prop} : Go 114 48 [l0, l1, l2, l3, l4, some (.int u)] st H Q ↔ Go 114 50 [l0, l1, l2, l3, l4, some (.int u)] (.int u :: st) H Q := G_iload fX8_costOf_48 rfl
theorem fX8_costOf_50 : ft 114 50 = some (.imul, 0, 0, 0, .null) := by decide +kernel
theorem gX8_costOf_50 {L : List (Option Value)} {a b : Int} {st : List Value} {H : HP} {Q : Option Value → HP → Prop} : Go 114 50 L (vi b :: vi a :: st) H Q ↔ Go 114 51 L (vi (a * b) :: st) H Q := G_imul fX8_costOf_50
theorem fX8_costOf_51 : ft 114 51 = some (.bipush 6, 0, 0, 0, .null) := by decide +kernel
theorem gX8_costOf_51 {L : List (Option Value)} {st : List Value} {H : HP} {Q : Option Value → HP → Prop} : Go 114 51 L st H Q ↔ Go 114 53 L (vi 6 :: st) H Q := G_bipush fX8_costOf_51 (by decide)
theorem fX8_costOf_53 : ft 114 53 = some (.iload_n 1, 0, 0, 0, .null) := by decide +kernel
theorem gX8_costOf_53 {l0 l2 l3 l4 l5 : Option Value} {u : Int32} {st : List Value} {H : HP} {Q : Option Value → HP → Prop} : Go 114 53 [l0, some (.int u), l2, l3, l4, l5] st H Q ↔ Go 114 54 [l0, some (.int u), l2, l3, l4, l5] (.int u :: st) H Q := G_iload_n fX8_costOf_53 rfl
theorem fX8_costOf_54 : ft 114 54 = some (.iload_n 2, 0, 0, 0, .null) := by decide +kernel
theorem gX8_costOf_54 {l0 l1 l3 l4 l5 : Option Value} {u : Int32} {st : List Value} {H : HP} {Q : Option Value → HP → Prop} : Go 114 54 [l0, l1, some (.int u), l3, l4, l5] st H Q ↔ Go 114 55 [l0, l1, some (.int u), l3, l4, l5] (.int u :: st) H Q := G_iload_n fX8_costOf_54 rfl
theorem fX8_costOf_55 : ft 114 55 = some (.iadd, 0, 0, 0, .null) := by decide +kernel
theorem gX8_costOf_55 {L : List (Option Value)} {a b : Int} {st : List Value} {H : HP} {Q : Option Value → HP → Prop} : Go 114 55 L (vi b :: vi a :: st) H Q ↔ Go 114 56 L (vi (a + b) :: st) H Q := G_iadd fX8_costOf_55
theorem fX8_costOf_56 : ft 114 56 = some (.iconst 1, 0, 0, 0, .null) := by decide +kernel
theorem gX8_costOf_56 {L : List (Option Value)} {st : List Value} {H : HP} {Q : Option Value → HP → Prop} : Go 114 56 L st H Q ↔ Go 114 57 L (vi 1 :: st) H Q := G_iconst fX8_costOf_56
theorem fX8_costOf_57 : ft 114 57 = some (.isub, 0, 0, 0, .null) := by decide +kernel
theorem gX8_costOf_57 {L : List (Option Value)} {a b : Int} {st : List Value} {H : HP} {Q : Option Value → HP → Prop} : Go 114 57 L (vi b :: vi a :: st) H Q ↔ Go 114 58 L (vi (a - b) :: st) H Q := G_isub fX8_costOf_57
theorem fX8_costOf_58 : ft 114 58 = some (.imul, 0, 0, 0, .null) := by decide +kernel
theorem gX8_costOf_58 {L : List (Option Value)} {a b : Int} {st : List Value} {H : HP} {Q : Option Value → HP → Prop} : Go 114 58 L (vi b :: vi a :: st) H Q ↔ Go 114 59 L (vi (a * b) :: st) H Q := G_imul fX8_costOf_58
theorem fX8_costOf_59 : ft 114 59 = some (.iadd, 0, 0, 0, .null) := by decide +kernel
theorem gX8_costOf_59 {L : List (Option Value)} {a b : Int} {st : List Value} {H : HP} {Q : Option Value → HP → Prop} : Go 114 59 L (vi b :: vi a :: st) H Q ↔ Go 114 60 L (vi (a + b) :: st) H Q := G_iadd fX8_costOf_59
theorem fX8_costOf_60 : ft 114 60 = some (.ireturn, 0, 0, 0, .null) := by decide +kernel
theorem gX8_costOf_60 {L : List (Option Value)} {u : Int32} {H : HP} {Q : Option Value → HP → Prop} : Go 114 60 L [.int u] H Q ↔ Q (some (.int u)) H := G_iret fX8_costOf_60 (by decide +kernel)
theorem fX8_exponentFor_0 : ft 115 0 = some (.iconst 0, 0, 0, 0, .null) := by decide +kernel
theorem gX8_exponentFor_0 {L : List (Option Value)} {st : List Value} {H : HP} {Q : Option Value → HP → Prop} : Go 115 0 L st H Q ↔ Go 115 1 L (vi 0 :: st) H Q := G_iconst fX8_exponentFor_0
theorem fX8_exponentFor_1 : ft 115 1 = some (.istore_n 1, 0, 0, 0, .null) := by decide +kernel
theorem gX8_exponentFor_1 {l0 l1 : Option Value} {u : Int32} {st : List Value} {H : HP} {Q : Option Value → HP → Prop} : Go 115 1 [l0, l1] (.int u :: st) H Q ↔ Go 115 2 [l0, some (.int u)] st H Q := G_istore_n fX8_exponentFor_1 rfl
theorem fX8_exponentFor_2 : ft 115 2 = some (.iload_n 1, 0, 0, 0, .null) := by decide +kernel
theorem gX8_exponentFor_2 {l0 : Option Value} {u : Int32} {st : List Value} {H : HP} {Q : Option Value → HP → Prop} : Go 115 2 [l0, some (.int u)] st H Q ↔ Go 115 3 [l0, some (.int u)] (.int u :: st) H Q := G_iload_n fX8_exponentFor_2 rfl
theorem fX8_exponentFor_3 : ft 115 3 = some (.bipush 7, 0, 0, 0, .null) := by decide +kernel
theorem gX8_exponentFor_3 {L : List (Option Value)} {st : List Value} {H : HP} {Q : Option Value → HP → Prop} : Go 115 3 L st H Q ↔ Go 115 5 L (vi 7 :: st) H Q := G_bipush fX8_exponentFor_3 (by decide)
theorem fX8_exponentFor_5 : ft 115 5 = some (.if_icmp .ge 16, 0, 0, 0, .null) := by decide +kernel
theorem gX8_exponentFor_5T {L : List (Option Value)} {a b : Int} (c : (-2147483648 ≤ a ∧ a ≤ 2147483647 ∧ -2147483648 ≤ b ∧ b ≤ 2147483647) ∧ b ≤ a) {st : List Value} {H : HP} {Q : Option Value → HP → Prop} : Go 115 5 L (vi b :: vi a :: st) H Q ↔ Go 115 21 L st H Q := G_icT fX8_exponentFor_5 (by decide) c
theorem gX8_exponentFor_5F {L : List (Option Value)} {a b : Int} (c : (-2147483648 ≤ a ∧ a ≤ 2147483647 ∧ -2147483648 ≤ b ∧ b ≤ 2147483647) ∧ ¬ (b ≤ a)) {st : List Value} {H : HP} {Q : Option Value → HP → Prop} : Go 115 5 L (vi b :: vi a :: st) H Q ↔ Go 115 8 L st H Q := G_icF (tg := 21) fX8_exponentFor_5 (by decide) c
theorem fX8_exponentFor_8 : ft 115 8 = some (.iconst 1, 0, 0, 0, .null) := by decide +kernel
theorem gX8_exponentFor_8 {L : List (Option Value)} {st : List Value} {H : HP} {Q : Option Value → HP → Prop} : Go 115 8 L st H Q ↔ Go 115 9 L (vi 1 :: st) H Q := G_iconst fX8_exponentFor_8
theorem fX8_exponentFor_9 : ft 115 9 = some (.iload_n 1, 0, 0, 0, .null) := by decide +kernel
theorem gX8_exponentFor_9 {l0 : Option Value} {u : Int32} {st : List Value} {H : HP} {Q : Option Value → HP → Prop} : Go 115 9 [l0, some (.int u)] st H Q ↔ Go 115 10 [l0, some (.int u)] (.int u :: st) H Q := G_iload_n fX8_exponentFor_9 rfl
theorem fX8_exponentFor_10 : ft 115 10 = some (.ishl, 0, 0, 0, .null) := by decide +kernel
theorem gX8_exponentFor_10 {L : List (Option Value)} {a b : Int} {st : List Value} {H : HP} {Q : Option Value → HP → Prop} : Go 115 10 L (vi b :: vi a :: st) H Q ↔ Go 115 11 L (vi (jShl a b) :: st) H Q := G_ishl fX8_exponentFor_10
theorem fX8_exponentFor_11 : ft 115 11 = some (.iload_n 0, 0, 0, 0, .null) := by decide +kernel
theorem gX8_exponentFor_11 {l1 : Option Value} {u : Int32} {st : List Value} {H : HP} {Q : Option Value → HP → Prop} : Go 115 11 [some (.int u), l1] st H Q ↔ Go 115 12 [some (.int u), l1] (.int u :: st) H Q := G_iload_n fX8_exponentFor_11 rfl
theorem fX8_exponentFor_12 : ft 115 12 = some (.if_icmp .ge 9, 0, 0, 0, .null) := by decide +kernel
theorem gX8_exponentFor_12T {L : List (Option Value)} {a b : Int} (c : (-2147483648 ≤ a ∧ a ≤ 2147483647 ∧ -2147483648 ≤ b ∧ b ≤ 2147483647) ∧ b ≤ a) {st : List Value} {H : HP} {Q : Option Value → HP → Prop} : Go 115 12 L (vi b :: vi a :: st) H Q ↔ Go 115 21 L st H Q := G_icT fX8_exponentFor_12 (by decide) c
theorem gX8_exponentFor_12F {L : List (Option Value)} {a b : Int} (c : (-2147483648 ≤ a ∧ a ≤ 2147483647 ∧ -2147483648 ≤ b ∧ b ≤ 2147483647) ∧ ¬ (b ≤ a)) {st : List Value} {H : HP} {Q : Option Value → HP → Prop} : Go 115 12 L (vi b :: vi a :: st) H Q ↔ Go 115 15 L st H Q := G_icF (tg := 21) fX8_exponentFor_12 (by decide) c
theorem fX8_exponentFor_15 : ft 115 15 = some (.iinc 1 1, 0, 0, 0, .null) := by decide +kernel
theorem gX8_exponentFor_15 {l0 : Option Value} {a : Int} {st : List Value} {H : HP} {Q : Option Value → HP → Prop} : Go 115 15 [l0, some (vi a)] st H Q ↔ Go 115 18 [l0, some (vi (a + 1))] st H Q := G_iinc fX8_exponentFor_15 rfl rfl
theorem fX8_exponentFor_18 : ft 115 18 = some (.goto (-16), 0, 0, 0, .null) := by decide +kernel
theorem gX8_exponentFor_18 {L : List (Option Value)} {st : List Value} {H : HP} {Q : Option Value → HP → Prop} : Go 115 18 L st H Q ↔ Go 115 2 L st H Q := G_goto fX8_exponentFor_18 (by decide)
theorem fX8_exponentFor_21 : ft 115 21 = some (.iload_n 1, 0, 0, 0, .null) := by decide +kernel
theorem gX8_exponentFor_21 {l0 : Option Value} {u : Int32} {st : List Value} {H : HP} {Q : Option Value → HP → Prop} : Go 115 21 [l0, some (.int u)] st H Q ↔ Go 115 22 [l0, some (.int u)] (.int u :: st) H Q := G_iload_n fX8_exponentFor_21 rfl
theorem fX8_exponentFor_22 : ft 115 22 = some (.ireturn, 0, 0, 0, .null) := by decide +kernel
theorem gX8_exponentFor_22 {L : List (Option Value)} {u : Int32} {H : HP} {Q : Option Value → HP → Prop} : Go 115 22 L [.int u] H Q ↔ Q (some (.int u)) H := G_iret fX8_exponentFor_22 (by decide +kernel)

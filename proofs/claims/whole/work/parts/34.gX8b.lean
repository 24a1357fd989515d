theorem fX8_times_0 : ft 80 0 = some (.aload_n 0, 0, 0, 0, .null) := by decide +kernel
theorem gX8_times_0 {l1 l2 : Option Value} {u : Nat} {st : List Value} {H : HP} {Q : Option Value → HP → Prop} : Go 80 0 [some (.ref u), l1, l2] st H Q ↔ Go 80 1 [some (.ref u), l1, l2] (.ref u :: st) H Q := G_aload_n fX8_times_0 rfl
theorem fX8_times_1 : ft 80 1 = some (.iconst 0, 0, 0, 0, .null) := by decide +kernel
theorem gX8_times_1 {L : List (Option Value)} {st : List Value} {H : HP} {Q : Option Value → HP → Prop} : Go 80 1 L st H Q ↔ Go 80 2 L (vi 0 :: st) H Q := G_iconst fX8_times_1
theorem fX8_times_2 : ft 80 2 = some (.putfield 64, 8, 12, 233, .null) := by decide +kernel
theorem gX8_times_2 {L : List (Option Value)} {p : Nat} {u : Int32} (hp : p ≠ 0) {st : List Value} {H : HP} {Q : Option Value → HP → Prop} : Go 80 2 L (.int u :: .ref p :: st) H Q ↔ Wr (pF' 8 12 (hget H p) (.int u)) p 80 5 L st H Q := G_putf fX8_times_2 ⟨⟨rfl, rfl⟩, rfl, Or.inl rfl⟩ hp
theorem fX8_times_5 : ft 80 5 = some (.iload_n 1, 0, 0, 0, .null) := by decide +kernel
theorem gX8_times_5 {l0 l2 : Option Value} {u : Int32} {st : List Value} {H : HP} {Q : Option Value → HP → Prop} : Go 80 5 [l0, some (.int u), l2] st H Q ↔ Go 80 6 [l0, some (.int u), l2] (.int u :: st) H Q := G_iload_n fX8_times_5 rfl
theorem fX8_times_6 : ft 80 6 = some (.invokestatic 85, 108, 0, 265, .null) := by decide +kernel
theorem gX8_times_6 {L : List (Option Value)} {a0 : Int32}  {H : HP} {Q : Option Value → HP → Prop} : Go 80 6 L (.int a0 :: []) H Q ↔ Go 108 0 [some (.int a0)] [] H (Cont 80 9 L [] Q) := G_cS (n := 1) (N := 1) (as := [.int a0]) (st := []) fX8_times_6 (by decide +kernel) rfl (Nat.le_of_ble_eq_true rfl) (Nat.le_of_ble_eq_true rfl) rfl
theorem fX8_times_9 : ft 80 9 = some (.ifCond .ne 5, 0, 0, 0, .null) := by decide +kernel
theorem gX8_times_9T {L : List (Option Value)} {a : Int} (c : (-2147483648 ≤ a ∧ a ≤ 2147483647) ∧ ¬ a = 0) {st : List Value} {H : HP} {Q : Option Value → HP → Prop} : Go 80 9 L (vi a :: st) H Q ↔ Go 80 14 L st H Q := G_ifT fX8_times_9 (by decide) c
theorem gX8_times_9F {L : List (Option Value)} {a : Int} (c : (-2147483648 ≤ a ∧ a ≤ 2147483647) ∧ ¬ (¬ a = 0)) {st : List Value} {H : HP} {Q : Option Value → HP → Prop} : Go 80 9 L (vi a :: st) H Q ↔ Go 80 12 L st H Q := G_ifF (tg := 14) fX8_times_9 (by decide) c
theorem fX8_times_12 : ft 80 12 = some (.iconst (-1), 0, 0, 0, .null) := by decide +kernel
theorem gX8_times_12 {L : List (Option Value)} {st : List Value} {H : HP} {Q : Option Value → HP → Prop} : Go 80 12 L st H Q ↔ Go 80 13 L (vi (-1) :: st) H Q := G_iconst fX8_times_12
theorem fX8_times_13 : ft 80 13 = some (.ireturn, 0, 0, 0, .null) := by decide +kernel
theorem gX8_times_13 {L : List (Option Value)} {u : Int32} {H : HP} {Q : Option Value → HP → Prop} : Go 80 13 L [.int u] H Q ↔ Q (some (.int u)) H := G_iret fX8_times_13 (by decide +kernel)
theorem fX8_times_14 : ft 80 14 = some (.aload_n 0, 0, 0, 0, .null) := by decide +kernel
theorem gX8_times_14 {l1 l2 : Option Value} {u : Nat} {st : List Value} {H : HP} {Q : Option Value → HP → Prop} : Go 80 14 [some (.ref u), l1, l2] st H Q ↔ Go 80 15 [some (.ref u), l1, l2] (.ref u :: st) H Q := G_aload_n fX8_times_14 rfl
theorem fX8_times_15 : ft 80 15 = some (.getfield 11, 8, 0, 221, .null) := by decide +kernel
theorem gX8_times_15 {L : List (Option Value)} {p : Nat} {st : List Value} {H : HP} {Q : Option Value → HP → Prop} : Go 80 15 L (.ref p :: st) H Q ↔ Rd (gF' 8 0 (hget H p)) 80 18 L st H Q := G_getf fX8_times_15 ⟨rfl, rfl⟩
theorem fX8_times_18 : ft 80 18 = some (.iload_n 1, 0, 0, 0, .null) := by decide +kernel
theorem gX8_times_18 {l0 l2 : Option Value} {u : Int32} {st : List Value} {H : HP} {Q : Option Value → HP → Prop} : Go 80 18 [l0, some (.int u), l2] st H Q ↔ Go 80 19 [l0, some (.int u), l2] (.int u :: st) H Q := G_iload_n fX8_times_18 rfl
theorem fX8_times_19 : ft 80 19 = some (.aaload, 0, 0, 0, .null) := by decide +kernel
theorem gX8_times_19 {L : List (Option Value)} {p : Nat} {a : Int} {st : List Value} {H : HP} {Q : Option Value → HP → Prop} : Go 80 19 L (vi a :: .ref p :: st) H Q ↔ Rd (aR' (hget H p) a) 80 20 L st H Q := G_aald fX8_times_19
theorem fX8_times_20 : ft 80 20 = some (.astore_n 2, 0, 0, 0, .null) := by decide +kernel
theorem gX8_times_20 {l0 l1 l2 : Option Value} {u : Nat} {st : List Value} {H : HP} {Q : Option Value → HP → Prop} : Go 80 20 [l0, l1, l2] (.ref u :: st) H Q ↔ Go 80 21 [l0, l1, some (.ref u)] st H Q := G_astore_n fX8_times_20 rfl
theorem gX8_times_20N {l0 l1 l2 : Option Value} {st : List Value} {H : HP} {Q : Option Value → HP → Prop} : Go 80 20 [l0, l1, l2] (.null :: st) H Q ↔ Go 80 21 [l0, l1, some .null] st H Q := G_astore_nN fX8_times_20 rfl
theorem fX8_times_21 : ft 80 21 = some (.aload_n 2, 0, 0, 0, .null) := by decide +kernel
theorem gX8_times_21 {l0 l1 : Option Value} {u : Nat} {st : List Value} {H : HP} {Q : Option Value → HP → Prop} : Go 80 21 [l0, l1, some (.ref u)] st H Q ↔ Go 80 22 [l0, l1, some (.ref u)] (.ref u :: st) H Q := G_aload_n fX8_times_21 rfl
theorem gX8_times_21N {l0 l1 : Option Value} {st : List Value} {H : HP} {Q : Option Value → HP → Prop} : Go 80 21 [l0, l1, some .null] st H Q ↔ Go 80 22 [l0, l1, some .null] (.null :: st) H Q := G_aload_nN fX8_times_21 rfl
theorem fX8_times_22 : ft 80 22 = some (.ifnonnull 9, 0, 0, 0, .null) := by decide +kernel
theorem gX8_times_22T {L : List (Option Value)} {p : Nat} {st : List Value} {H : HP} {Q : Option Value → HP → Prop} : Go 80 22 L ((.ref p) :: st) H Q ↔ Go 80 31 L st H Q := G_nnT fX8_times_22 (by decide)
theorem gX8_times_22F {L : List (Option Value)} {st : List Value} {H : HP} {Q : Option Value → HP → Prop} : Go 80 22 L (.null :: st) H Q ↔ Go 80 25 L st H Q := G_nnF (tg := 31) fX8_times_22 (by decide)
theorem fX8_times_25 : ft 80 25 = some (.aload_n 0, 0, 0, 0, .null) := by decide +kernel
theorem gX8_times_25 {l1 l2 : Option Value} {u : Nat} {st : List Value} {H : HP} {Q : Option Value → HP → Prop} : Go 80 25 [some (.ref u), l1, l2] st H Q ↔ Go 80 26 [some (.ref u), l1, l2] (.ref u :: st) H Q := G_aload_n fX8_times_25 rfl
theorem fX8_times_26 : ft 80 26 = some (.iconst 1, 0, 0, 0, .null) := by decide +kernel
theorem gX8_times_26 {L : List (Option Value)} {st : List Value} {H : HP} {Q : Option Value → HP → Prop} : Go 80 26 L st H Q ↔ Go 80 27 L (vi 1 :: st) H Q := G_iconst fX8_times_26
theorem fX8_times_27 : ft 80 27 = some (.invokevirtual 92, 105, 0, 271, .null) := by decide +kernel
theorem gX8_times_27 {L : List (Option Value)} {p : Nat} {a0 : Int32}  {H : HP} {Q : Option Value → HP → Prop} : Go 80 27 L (.int a0 :: .ref p :: []) H Q ↔ (iso 8 (hget H p) = true ∧ Go 105 0 [some (.ref p), some (.int a0)] [] H (Cont 80 30 L [] Q)) := G_cV (n := 1) (N := 2) (as := [.int a0]) (st := []) fX8_times_27 (by decide +kernel) rfl (Nat.le_of_ble_eq_true rfl) (Nat.le_of_ble_eq_true rfl) rfl
theorem fX8_times_30 : ft 80 30 = some (.ireturn, 0, 0, 0, .null) := by decide +kernel
theorem gX8_times_30 {L : List (Option Value)} {u : Int32} {H : HP} {Q : Option Value → HP → Prop} : Go 80 30 L [.int u] H Q ↔ Q (some (.int u)) H := G_iret fX8_times_30 (by decide +kernel)
theorem fX8_times_31 : ft 80 31 = some (.aload_n 2, 0, 0, 0, .null) := by decide +kernel
theorem gX8_times_31 {l0 l1 : Option Value} {u : Nat} {st : List Value} {H : HP} {Q : Option Value → HP → Prop} : Go 80 31 [l0, l1, some (.ref u)] st H Q ↔ Go 80 32 [l0, l1, some (.ref u)] (.ref u :: st) H Q := G_aload_n fX8_times_31 rfl
theorem gX8_times_31N {l0 l1 : Option Value} {st : List Value} {H : HP} {Q : Option Value → HP → Prop} : Go 80 31 [l0, l1, some .null] st H Q ↔ Go 80 32 [l0, l1, some .null] (.null :: st) H Q := G_aload_nN fX8_times_31 rfl
theorem fX8_times_32 : ft 80 32 = some (.getfield 99, 5, 0, 282, .null) := by decide +kernel
theorem gX8_times_32 {L : List (Option Value)} {p : Nat} {st : List Value} {H : HP} {Q : Option Value → HP → Prop} : Go 80 32 L (.ref p :: st) H Q ↔ Rd (gF' 5 0 (hget H p)) 80 35 L st H Q := G_getf fX8_times_32 ⟨rfl, rfl⟩
theorem fX8_times_35 : ft 80 35 = some (.iconst 3, 0, 0, 0, .null) := by decide +kernel
theorem gX8_times_35 {L : List (Option Value)} {st : List Value} {H : HP} {Q : Option Value → HP → Prop} : Go 80 35 L st H Q ↔ Go 80 36 L (vi 3 :: st) H Q := G_iconst fX8_times_35
theorem fX8_times_36 : ft 80 36 = some (.if_icmp .le 9, 0, 0, 0, .null) := by decide +kernel
theorem gX8_times_36T {L : List (Option Value)} {a b : Int} (c : (-2147483648 ≤ a ∧ a ≤ 2147483647 ∧ -2147483648 ≤ b ∧ b ≤ 2147483647) ∧ a ≤ b) {st : List Value} {H : HP} {Q : Option Value → HP → Prop} : Go 80 36 L (vi b :: vi a :: st) H Q ↔ Go 80 45 L st H Q := G_icT fX8_times_36 (by decide) c
theorem gX8_times_36F {L : List (Option Value)} {a b : Int} (c : (-2147483648 ≤ a ∧ a ≤ 2147483647 ∧ -2147483648 ≤ b ∧ b ≤ 2147483647) ∧ ¬ (a ≤ b)) {st : List Value} {H : HP} {Q : Option Value → HP → Prop} : Go 80 36 L (vi b :: vi a :: st) H Q ↔ Go 80 39 L st H Q := G_icF (tg := 45) fX8_times_36 (by decide) c
theorem fX8_times_39 : ft 80 39 = some (.aload_n 0, 0, 0, 0, .null) := by decide +kernel
theorem gX8_times_39 {l1 l2 : Option Value} {u : Nat} {st : List Value} {H : HP} {Q : Option Value → HP → Prop} : Go 80 39 [some (.ref u), l1, l2] st H Q ↔ Go 80 40 [some (.ref u), l1, l2] (.ref u :: st) H Q := G_aload_n fX8_times_39 rfl
theorem fX8_times_40 : ft 80 40 = some (.iconst 2, 0, 0, 0, .null) := by decide +kernel
theorem gX8_times_40 {L : List (Option Value)} {st : List Value} {H : HP} {Q : Option Value → HP → Prop} : Go 80 40 L st H Q ↔ Go 80 41 L (vi 2 :: st) H Q := G_iconst fX8_times_40
theorem fX8_times_41 : ft 80 41 = some (.invokevirtual 92, 105, 0, 271, .null) := by decide +kernel
theorem gX8_times_41 {L : List (Option Value)} {p : Nat} {a0 : Int32}  {H : HP} {Q : Option Value → HP → Prop} : Go 80 41 L (.int a0 :: .ref p :: []) H Q ↔ (iso 8 (hget H p) = true ∧ Go 105 0 [some (.ref p), some (.int a0)] [] H (Cont 80 44 L [] Q)) := G_cV (n := 1) (N := 2) (as := [.int a0]) (st := []) fX8_times_41 (by decide +kernel) rfl (Nat.le_of_ble_eq_true rfl) (Nat.le_of_ble_eq_true rfl) rfl
theorem fX8_times_44 : ft 80 44 = some (.ireturn, 0, 0, 0, .null) := by decide +kernel
theorem gX8_times_44 {L : List (Option Value)} {u : Int32} {H : HP} {Q : Option Value → HP → Prop} : Go 80 44 L [.int u] H Q ↔ Q (some (.int u)) H := G_iret fX8_times_44 (by decide +kernel)
theorem fX8_times_45 : ft 80 45 = some (.aload_n 0, 0, 0, 0, .null) := by decide +kernel
theorem gX8_times_45 {l1 l2 : Option Value} {u : Nat} {st : List Value} {H : HP} {Q : Option Value → HP → Prop} : Go 80 45 [some (.ref u), l1, l2] st H Q ↔ Go 80 46 [some (.ref u), l1, l2] (.ref u :: st) H Q := G_aload_n fX8_times_45 rfl
theorem fX8_times_46 : ft 80 46 = some (.getfield 60, 8, 11, 232, .null) := by decide +kernel
theorem gX8_times_46 {L : List (Option Value)} {p : Nat} {st : List Value} {H : HP} {Q : Option Value → HP → Prop} : Go 80 46 L (.ref p :: st) H Q ↔ Rd (gF' 8 11 (hget H p)) 80 49 L st H Q := G_getf fX8_times_46 ⟨rfl, rfl⟩
theorem fX8_times_49 : ft 80 49 = some (.invokestatic 130, 109, 0, 370, .null) := by decide +kernel
theorem gX8_times_49 {L : List (Option Value)} {a0 : Int32}  {H : HP} {Q : Option Value → HP → Prop} : Go 80 49 L (.int a0 :: []) H Q ↔ Go 109 0 [some (.int a0)] [] H (Cont 80 52 L [] Q) := G_cS (n := 1) (N := 1) (as := [.int a0]) (st := []) fX8_times_49 (by decide +kernel) rfl (Nat.le_of_ble_eq_true rfl) (Nat.le_of_ble_eq_true rfl) rfl
theorem fX8_times_52 : ft 80 52 = some (.ifCond .eq 17, 0, 0, 0, .null) := by decide +kernel
theorem gX8_times_52T {L : List (Option Value)} {a : Int} (c : (-2147483648 ≤ a ∧ a ≤ 2147483647) ∧ a = 0) {st : List Value} {H : HP} {Q : Option Value → HP → Prop} : Go 80 52 L (vi a :: st) H Q ↔ Go 80 69 L st H Q := G_ifT fX8_times_52 (by decide) c
theorem gX8_times_52F {L : List (Option Value)} {a : Int} (c : (-2147483648 ≤ a ∧ a ≤ 2147483647) ∧ ¬ (a = 0)) {st : List Value} {H : HP} {Q : Option Value → HP → Prop} : Go 80 52 L (vi a :: st) H Q ↔ Go 80 55 L st H Q := G_ifF (tg := 69) fX8_times_52 (by decide) c
theorem fX8_times_55 : ft 80 55 = some (.aload_n 2, 0, 0, 0, .null) := by decide +kernel
theorem gX8_times_55 {l0 l1 : Option Value} {u : Nat} {st : List Value} {H : HP} {Q : Option Value → HP → Prop} : Go 80 55 [l0, l1, some (.ref u)] st H Q ↔ Go 80 56 [l0, l1, some (.ref u)] (.ref u :: st) H Q := G_aload_n fX8_times_55 rfl
theorem gX8_times_55N {l0 l1 : Option Value} {st : List Value} {H : HP} {Q : Option Value → HP → Prop} : Go 80 55 [l0, l1, some .null] st H Q ↔ Go 80 56 [l0, l1, some .null] (.null :: st) H Q := G_aload_nN fX8_times_55 rfl
theorem fX8_times_56 : ft 80 56 = some (.invokevirtual 102, 55, 0, 302, .null) := by decide +kernel
theorem gX8_times_56 {L : List (Option Value)} {p : Nat}   {H : HP} {Q : Option Value → HP → Prop} : Go 80 56 L (.ref p :: []) H Q ↔ (iso 5 (hget H p) = true ∧ Go 55 0 [some (.ref p)] [] H (Cont 80 59 L [] Q)) := G_cV (n := 0) (N := 1) (as := []) (st := []) fX8_times_56 (by decide +kernel) rfl (Nat.le_of_ble_eq_true rfl) (Nat.le_of_ble_eq_true rfl) rfl
theorem fX8_times_59 : ft 80 59 = some (.aload_n 0, 0, 0, 0, .null) := by decide +kernel
theorem gX8_times_59 {l1 l2 : Option Value} {u : Nat} {st : List Value} {H : HP} {Q : Option Value → HP → Prop} : Go 80 59 [some (.ref u), l1, l2] st H Q ↔ Go 80 60 [some (.ref u), l1, l2] (.ref u :: st) H Q := G_aload_n fX8_times_59 rfl
theorem fX8_times_60 : ft 80 60 = some (.getfield 40, 8, 5, 226, .null) := by decide +kernel
theorem gX8_times_60 {L : List (Option Value)} {p : Nat} {st : List Value} {H : HP} {Q : Option Value → HP → Prop} : Go 80 60 L (.ref p :: st) H Q ↔ Rd (gF' 8 5 (hget H p)) 80 63 L st H Q := G_getf fX8_times_60 ⟨rfl, rfl⟩
theorem fX8_times_63 : ft 80 63 = some (.getfield 143, 6, 1, 111, .null) := by decide +kernel
theorem gX8_times_63 {L : List (Option Value)} {p : Nat} {st : List Value} {H : HP} {Q : Option Value → HP → Prop} : Go 80 63 L (.ref p :: st) H Q ↔ Rd (gF' 6 1 (hget H p)) 80 66 L st H Q := G_getf fX8_times_63 ⟨rfl, rfl⟩
theorem fX8_times_66 : ft 80 66 = some (.if_icmp .eq 6, 0, 0, 0, .null) := by decide +kernel
theorem gX8_times_66T {L : List (Option Value)} {a b : Int} (c : (-2147483648 ≤ a ∧ a ≤ 2147483647 ∧ -2147483648 ≤ b ∧ b ≤ 2147483647) ∧ a = b) {st : List Value} {H : HP} {Q : Option Value → HP → Prop} : Go 80 66 L (vi b :: vi a :: st) H Q ↔ Go 80 72 L st H Q := G_icT fX8_times_66 (by decide) c
theorem gX8_times_66F {L : List (Option Value)} {a b : Int} (c : (-2147483648 ≤ a ∧ a ≤ 2147483647 ∧ -2147483648 ≤ b ∧ b ≤ 2147483647) ∧ ¬ (a = b)) {st : List Value} {H : HP} {Q : Option Value → HP → Prop} : Go 80 66 L (vi b :: vi a :: st) H Q ↔ Go 80 69 L st H Q := G_icF (tg := 72) fX8_times_66 (by decide) c
theorem fX8_times_69 : ft 80 69 = some (.bipush (-3), 0, 0, 0, .null) := by decide +kernel
theorem gX8_times_69 {L : List (Option Value)} {st : List Value} {H : HP} {Q : Option Value → HP → Prop} : Go 80 69 L st H Q ↔ Go 80 71 L (vi (-3) :: st) H Q := G_bipush fX8_times_69 (by decide)
theorem fX8_times_71 : ft 80 71 = some (.ireturn, 0, 0, 0, .null) := by decide +kernel
theorem gX8_times_71 {L : List (Option Value)} {u : Int32} {H : HP} {Q : Option Value → HP → Prop} : Go 80 71 L [.int u] H Q ↔ Q (some (.int u)) H := G_iret fX8_times_71 (by decide +kernel)
theorem fX8_times_72 : ft 80 72 = some (.aload_n 0, 0, 0, 0, .null) := by decide +kernel
theorem gX8_times_72 {l1 l2 : Option Value} {u : Nat} {st : List Value} {H : HP} {Q : Option Value → HP → Prop} : Go 80 72 [some (.ref u), l1, l2] st H Q ↔ Go 80 73 [some (.ref u), l1, l2] (.ref u :: st) H Q := G_aload_n fX8_times_72 rfl
theorem fX8_times_73 : ft 80 73 = some (.getfield 24, 8, 3, 224, .null) := by decide +kernel
theorem gX8_times_73 {L : List (Option Value)} {p : Nat} {st : List Value} {H : HP} {Q : Option Value → HP → Prop} : Go 80 73 L (.ref p :: st) H Q ↔ Rd (gF' 8 3 (hget H p)) 80 76 L st H Q := G_getf fX8_times_73 ⟨rfl, rfl⟩
theorem fX8_times_76 : ft 80 76 = some (.aload_n 2, 0, 0, 0, .null) := by decide +kernel
theorem gX8_times_76 {l0 l1 : Option Value} {u : Nat} {st : List Value} {H : HP} {Q : Option Value → HP → Prop} : Go 80 76 [l0, l1, some (.ref u)] st H Q ↔ Go 80 77 [l0, l1, some (.ref u)] (.ref u :: st) H Q := G_aload_n fX8_times_76 rfl
theorem gX8_times_76N {l0 l1 : Option Value} {st : List Value} {H : HP} {Q : Option Value → HP → Prop} : Go 80 76 [l0, l1, some .null] st H Q ↔ Go 80 77 [l0, l1, some .null] (.null :: st) H Q := G_aload_nN fX8_times_76 rfl
theorem fX8_times_77 : ft 80 77 = some (.aload_n 0, 0, 0, 0, .null) := by decide +kernel
theorem gX8_times_77 {l1 l2 : Option Value} {u : Nat} {st : List Value} {H : HP} {Q : Option Value → HP → Prop} : Go 80 77 [some (.ref u), l1, l2] st H Q ↔ Go 80 78 [some (.ref u), l1, l2] (.ref u :: st) H Q := G_aload_n fX8_times_77 rfl
theorem fX8_times_78 : ft 80 78 = some (.getfield 17, 8, 1, 222, .null) := by decide +kernel
theorem gX8_times_78 {L : List (Option Value)} {p : Nat} {st : List Value} {H : HP} {Q : Option Value → HP → Prop} : Go 80 78 L (.ref p :: st) H Q ↔ Rd (gF' 8 1 (hget H p)) 80 81 L st H Q := G_getf fX8_times_78 ⟨rfl, rfl⟩
theorem fX8_times_81 : ft 80 81 = some (.aload_n 0, 0, 0, 0, .null) := by decide +kernel
theorem gX8_times_81 {l1 l2 : Option Value} {u : Nat} {st : List Value} {H : HP} {Q : Option Value → HP → Prop} : Go 80 81 [some (.ref u), l1, l2] st H Q ↔ Go 80 82 [some (.ref u), l1, l2] (.ref u :: st) H Q := G_aload_n fX8_times_81 rfl
theorem fX8_times_82 : ft 80 82 = some (.getfield 60, 8, 11, 232, .null) := by decide +kernel
theorem gX8_times_82 {L : List (Option Value)} {p : Nat} {st : List Value} {H : HP} {Q : Option Value → HP → Prop} : Go 80 82 L (.ref p :: st) H Q ↔ Rd (gF' 8 11 (hget H p)) 80 85 L st H Q := G_getf fX8_times_82 ⟨rfl, rfl⟩
theorem fX8_times_85 : ft 80 85 = some (.aaload, 0, 0, 0, .null) := by decide +kernel
theorem gX8_times_85 {L : List (Option Value)} {p : Nat} {a : Int} {st : List Value} {H : HP} {Q : Option Value → HP → Prop} : Go 80 85 L (vi a :: .ref p :: st) H Q ↔ Rd (aR' (hget H p) a) 80 86 L st H Q := G_aald fX8_times_85
theorem fX8_times_86 : ft 80 86 = some (.aload_n 0, 0, 0, 0, .null) := by decide +kernel
theorem gX8_times_86 {l1 l2 : Option Value} {u : Nat} {st : List Value} {H : HP} {Q : Option Value → HP → Prop} : Go 80 86 [some (.ref u), l1, l2] st H Q ↔ Go 80 87 [some (.ref u), l1, l2] (.ref u :: st) H Q := G_aload_n fX8_times_86 rfl
theorem fX8_times_87 : ft 80 87 = some (.getfield 40, 8, 5, 226, .null) := by decide +kernel
theorem gX8_times_87 {L : List (Option Value)} {p : Nat} {st : List Value} {H : HP} {Q : Option Value → HP → Prop} : Go 80 87 L (.ref p :: st) H Q ↔ Rd (gF' 8 5 (hget H p)) 80 90 L st H Q := G_getf fX8_times_87 ⟨rfl, rfl⟩
theorem fX8_times_90 : ft 80 90 = some (.invokevirtual 146, 18, 0, 389, .null) := by decide +kernel
theorem gX8_times_90 {L : List (Option Value)} {p : Nat} {a0 : Nat} {a1 : Nat} {a2 : Nat}  {H : HP} {Q : Option Value → HP → Prop} : Go 80 90 L (.ref a2 :: .ref a1 :: .ref a0 :: .ref p :: []) H Q ↔ (iso 2 (hget H p) = true ∧ Go 18 0 [some (.ref p), some (.ref a0), some (.ref a1), some (.ref a2), none, none, none, none, none] [] H (Cont 80 93 L [] Q)) := G_cV (n := 3) (N := 9) (as := [.ref a2, .ref a1, .ref a0]) (st := []) fX8_times_90 (by decide +kernel) rfl (Nat.le_of_ble_eq_true rfl) (Nat.le_of_ble_eq_true rfl) rfl
theorem fX8_times_93 : ft 80 93 = some (.aload_n 0, 0, 0, 0, .null) := by decide +kernel
theorem gX8_times_93 {l1 l2 : Option Value} {u : Nat} {st : List Value} {H : HP} {Q : Option Value → HP → Prop} : Go 80 93 [some (.ref u), l1, l2] st H Q ↔ Go 80 94 [some (.ref u), l1, l2] (.ref u :: st) H Q := G_aload_n fX8_times_93 rfl
theorem fX8_times_94 : ft 80 94 = some (.getfield 40, 8, 5, 226, .null) := by decide +kernel
theorem gX8_times_94 {L : List (Option Value)} {p : Nat} {st : List Value} {H : HP} {Q : Option Value → HP → Prop} : Go 80 94 L (.ref p :: st) H Q ↔ Rd (gF' 8 5 (hget H p)) 80 97 L st H Q := G_getf fX8_times_94 ⟨rfl, rfl⟩
theorem fX8_times_97 : ft 80 97 = some (.getfield 143, 6, 1, 111, .null) := by decide +kernel
theorem gX8_times_97 {L : List (Option Value)} {p : Nat} {st : List Value} {H : HP} {Q : Option Value → HP → Prop} : Go 80 97 L (.ref p :: st) H Q ↔ Rd (gF' 6 1 (hget H p)) 80 100 L st H Q := G_getf fX8_times_97 ⟨rfl, rfl⟩
theorem fX8_times_100 : ft 80 100 = some (.ireturn, 0, 0, 0, .null) := by decide +kernel
theorem gX8_times_100 {L : List (Option Value)} {u : Int32} {H : HP} {Q : Option Value → HP → Prop} : Go 80 100 L [.int u] H Q ↔ Q (some (.int u)) H := G_iret fX8_times_100 (by decide +kernel)
theorem fX8_value_0 : ft 81 0 = some (.aload_n 0, 0, 0, 0, .null) := by decide +kernel
theorem gX8_value_0 {l1 : Option Value} {u : Nat} {st : List Value} {H : HP} {Q : Option Value → HP → Prop} : Go 81 0 [some (.ref u), l1] st H Q ↔ Go 81 1 [some (.ref u), l1] (.ref u :: st) H Q := G_aload_n fX8_value_0 rfl
theorem fX8_value_1 : ft 81 1 = some (.getfield 40, 8, 5, 226, .null) := by decide +kernel
theorem gX8_value_1 {L : List (Option Value)} {p : Nat} {st : List Value} {H : HP} {Q : Option Value → HP → Prop} : Go 81 1 L (.ref p :: st) H Q ↔ Rd (gF' 8 5 (hget H p)) 81 4 L st H Q := G_getf fX8_value_1 ⟨rfl, rfl⟩
theorem fX8_value_4 : ft 81 4 = some (.iload_n 1, 0, 0, 0, .null) := by decide +kernel
theorem gX8_value_4 {l0 : Option Value} {u : Int32} {st : List Value} {H : HP} {Q : Option Value → HP → Prop} : Go 81 4 [l0, some (.int u)] st H Q ↔ Go 81 5 [l0, some (.int u)] (.int u :: st) H Q := G_iload_n fX8_value_4 rfl
theorem fX8_value_5 : ft 81 5 = some (.ldc2_w 150, 0, 0, 419, .long (-1)) := by decide +kernel
theorem gX8_value_5 {L : List (Option Value)} {st : List Value} {H : HP} {Q : Option Value → HP → Prop} : Go 81 5 L st H Q ↔ Go 81 8 L (vl (-1) :: st) H Q := G_ldcl fX8_value_5 (by decide +kernel)
theorem fX8_value_8 : ft 81 8 = some (.invokevirtual 152, 62, 0, 420, .null) := by decide +kernel
theorem gX8_value_8 {L : List (Option Value)} {p : Nat} {a0 : Int32} {a1 : Int64}  {H : HP} {Q : Option Value → HP → Prop} : Go 81 8 L (.long a1 :: .int a0 :: .ref p :: []) H Q ↔ (iso 6 (hget H p) = true ∧ Go 62 0 [some (.ref p), some (.int a0), some (.long a1), none] [] H (Cont 81 11 L [] Q)) := G_cV (n := 2) (N := 4) (as := [.long a1, .int a0]) (st := []) fX8_value_8 (by decide +kernel) rfl (Nat.le_of_ble_eq_true rfl) (Nat.le_of_ble_eq_true rfl) rfl
theorem fX8_value_11 : ft 81 11 = some (.lreturn, 0, 0, 0, .null) := by decide +kernel
theorem gX8_value_11 {L : List (Option Value)} {u : Int64} {H : HP} {Q : Option Value → HP → Prop} : Go 81 11 L [.long u] H Q ↔ Q (some (.long u)) H := G_lret fX8_value_11 (by decide +kernel)
theorem fX8_inverse_0 : ft 82 0 = some (.iload_n 1, 0, 0, 0, .null) := by decide +kernel
theorem gX8_inverse_0 {l0 l2 : Option Value} {u : Int32} {st : List Value} {H : HP} {Q : Option Value → HP → Prop} : Go 82 0 [l0, some (.int u), l2] st H Q ↔ Go 82 1 [l0, some (.int u), l2] (.int u :: st) H Q := G_iload_n fX8_inverse_0 rfl
theorem fX8_inverse_1 : ft 82 1 = some (.invokestatic 85, 108, 0, 265, .null) := by decide +kernel
theorem gX8_inverse_1 {L : List (Option Value)} {a0 : Int32}  {H : HP} {Q : Option Value → HP → Prop} : Go 82 1 L (.int a0 :: []) H Q ↔ Go 108 0 [some (.int a0)] [] H (Cont 82 4 L [] Q) := G_cS (n := 1) (N := 1) (as := [.int a0]) (st := []) fX8_inverse_1 (by decide +kernel) rfl (Nat.le_of_ble_eq_true rfl) (Nat.le_of_ble_eq_true rfl) rfl
theorem fX8_inverse_4 : ft 82 4 = some (.ifCond .ne 5, 0, 0, 0, .null) := by decide +kernel
theorem gX8_inverse_4T {L : List (Option Value)} {a : Int} (c : (-2147483648 ≤ a ∧ a ≤ 2147483647) ∧ ¬ a = 0) {st : List Value} {H : HP} {Q : Option Value → HP → Prop} : Go 82 4 L (vi a :: st) H Q ↔ Go 82 9 L st H Q := G_ifT fX8_inverse_4 (by decide) c
theorem gX8_inverse_4F {L : List (Option Value)} {a : Int} (c : (-2147483648 ≤ a ∧ a ≤ 2147483647) ∧ ¬ (¬ a = 0)) {st : List Value} {H : HP} {Q : Option Value → HP → Prop} : Go 82 4 L (vi a :: st) H Q ↔ Go 82 7 L st H Q := G_ifF (tg := 9) fX8_inverse_4 (by decide) c
theorem fX8_inverse_7 : ft 82 7 = some (.iconst (-1), 0, 0, 0, .null) := by decide +kernel
theorem gX8_inverse_7 {L : List (Option Value)} {st : List Value} {H : HP} {Q : Option Value → HP → Prop} : Go 82 7 L st H Q ↔ Go 82 8 L (vi (-1) :: st) H Q := G_iconst fX8_inverse_7
theorem fX8_inverse_8 : ft 82 8 = some (.ireturn, 0, 0, 0, .null) := by decide +kernel
theorem gX8_inverse_8 {L : List (Option Value)} {u : Int32} {H : HP} {Q : Option Value → HP → Prop} : Go 82 8 L [.int u] H Q ↔ Q (some (.int u)) H := G_iret fX8_inverse_8 (by decide +kernel)
theorem fX8_inverse_9 : ft 82 9 = some (.aload_n 0, 0, 0, 0, .null) := by decide +kernel
theorem gX8_inverse_9 {l1 l2 : Option Value} {u : Nat} {st : List Value} {H : HP} {Q : Option Value → HP → Prop} : Go 82 9 [some (.ref u), l1, l2] st H Q ↔ Go 82 10 [some (.ref u), l1, l2] (.ref u :: st) H Q := G_aload_n fX8_inverse_9 rfl
theorem fX8_inverse_10 : ft 82 10 = some (.getfield 60, 8, 11, 232, .null) := by decide +kernel
theorem gX8_inverse_10 {L : List (Option Value)} {p : Nat} {st : List Value} {H : HP} {Q : Option Value → HP → Prop} : Go 82 10 L (.ref p :: st) H Q ↔ Rd (gF' 8 11 (hget H p)) 82 13 L st H Q := G_getf fX8_inverse_10 ⟨rfl, rfl⟩
theorem fX8_inverse_13 : ft 82 13 = some (.invokestatic 130, 109, 0, 370, .null) := by decide +kernel
theorem gX8_inverse_13 {L : List (Option Value)} {a0 : Int32}  {H : HP} {Q : Option Value → HP → Prop} : Go 82 13 L (.int a0 :: []) H Q ↔ Go 109 0 [some (.int a0)] [] H (Cont 82 16 L [] Q) := G_cS (n := 1) (N := 1) (as := [.int a0]) (st := []) fX8_inverse_13 (by decide +kernel) rfl (Nat.le_of_ble_eq_true rfl) (Nat.le_of_ble_eq_true rfl) rfl
theorem fX8_inverse_16 : ft 82 16 = some (.ifCond .eq 14, 0, 0, 0, .null) := by decide +kernel
theorem gX8_inverse_16T {L : List (Option Value)} {a : Int} (c : (-2147483648 ≤ a ∧ a ≤ 2147483647) ∧ a = 0) {st : List Value} {H : HP} {Q : Option Value → HP → Prop} : Go 82 16 L (vi a :: st) H Q ↔ Go 82 30 L st H Q := G_ifT fX8_inverse_16 (by decide) c
theorem gX8_inverse_16F {L : List (Option Value)} {a : Int} (c : (-2147483648 ≤ a ∧ a ≤ 2147483647) ∧ ¬ (a = 0)) {st : List Value} {H : HP} {Q : Option Value → HP → Prop} : Go 82 16 L (vi a :: st) H Q ↔ Go 82 19 L st H Q := G_ifF (tg := 30) fX8_inverse_16 (by decide) c
theorem fX8_inverse_19 : ft 82 19 = some (.aload_n 0, 0, 0, 0, .null) := by decide +kernel
theorem gX8_inverse_19 {l1 l2 : Option Value} {u : Nat} {st : List Value} {H : HP} {Q : Option Value → HP → Prop} : Go 82 19 [some (.ref u), l1, l2] st H Q ↔ Go 82 20 [some (.ref u), l1, l2] (.ref u :: st) H Q := G_aload_n fX8_inverse_19 rfl
theorem fX8_inverse_20 : ft 82 20 = some (.getfield 40, 8, 5, 226, .null) := by decide +kernel
theorem gX8_inverse_20 {L : List (Option Value)} {p : Nat} {st : List Value} {H : HP} {Q : Option Value → HP → Prop} : Go 82 20 L (.ref p :: st) H Q ↔ Rd (gF' 8 5 (hget H p)) 82 23 L st H Q := G_getf fX8_inverse_20 ⟨rfl, rfl⟩
theorem fX8_inverse_23 : ft 82 23 = some (.getfield 143, 6, 1, 111, .null) := by decide +kernel
theorem gX8_inverse_23 {L : List (Option Value)} {p : Nat} {st : List Value} {H : HP} {Q : Option Value → HP → Prop} : Go 82 23 L (.ref p :: st) H Q ↔ Rd (gF' 6 1 (hget H p)) 82 26 L st H Q := G_getf fX8_inverse_23 ⟨rfl, rfl⟩
theorem fX8_inverse_26 : ft 82 26 = some (.iconst 1, 0, 0, 0, .null) := by decide +kernel
theorem gX8_inverse_26 {L : List (Option Value)} {st : List Value} {H : HP} {Q : Option Value → HP → Prop} : Go 82 26 L st H Q ↔ Go 82 27 L (vi 1 :: st) H Q := G_iconst fX8_inverse_26
theorem fX8_inverse_27 : ft 82 27 = some (.if_icmp .ge 6, 0, 0, 0, .null) := by decide +kernel
theorem gX8_inverse_27T {L : List (Option Value)} {a b : Int} (c : (-2147483648 ≤ a ∧ a ≤ 2147483647 ∧ -2147483648 ≤ b ∧ b ≤ 2147483647) ∧ b ≤ a) {st : List Value} {H : HP} {Q : Option Value → HP → Prop} : Go 82 27 L (vi b :: vi a :: st) H Q ↔ Go 82 33 L st H Q := G_icT fX8_inverse_27 (by decide) c
theorem gX8_inverse_27F {L : List (Option Value)} {a b : Int} (c : (-2147483648 ≤ a ∧ a ≤ 2147483647 ∧ -2147483648 ≤ b ∧ b ≤ 2147483647) ∧ ¬ (b ≤ a)) {st : List Value} {H : HP} {Q : Option Value → HP → Prop} : Go 82 27 L (vi b :: vi a :: st) H Q ↔ Go 82 30 L st H Q := G_icF (tg := 33) fX8_inverse_27 (by decide) c
theorem fX8_inverse_30 : ft 82 30 = some (.bipush (-3), 0, 0, 0, .null) := by decide +kernel
theorem gX8_inverse_30 {L : List (Option Value)} {st : List Value} {H : HP} {Q : Option Value → HP → Prop} : Go 82 30 L st H Q ↔ Go 82 32 L (vi (-3) :: st) H Q := G_bipush fX8_inverse_30 (by decide)
theorem fX8_inverse_32 : ft 82 32 = some (.ireturn, 0, 0, 0, .null) := by decide +kernel
theorem gX8_inverse_32 {L : List (Option Value)} {u : Int32} {H : HP} {Q : Option Value → HP → Prop} : Go 82 32 L [.int u] H Q ↔ Q (some (.int u)) H := G_iret fX8_inverse_32 (by decide +kernel)
theorem fX8_inverse_33 : ft 82 33 = some (.new 9, 5, 0, 52, .null) := by decide +kernel
theorem gX8_inverse_33 {L : List (Option Value)} {st : List Value} {H : HP} {Q : Option Value → HP → Prop} : Go 82 33 L st H Q ↔ Go 82 36 L (.ref H.1 :: st) (hnew H (cO 5 [.int 0, .null]) 2) Q := G_new fX8_inverse_33 (by decide +kernel)
theorem fX8_inverse_36 : ft 82 36 = some (.dup, 0, 0, 0, .null) := by decide +kernel
theorem gX8_inverse_36 {L : List (Option Value)} {u : Nat} {st : List Value} {H : HP} {Q : Option Value → HP → Prop} : Go 82 36 L (.ref u :: st) H Q ↔ Go 82 37 L (.ref u :: .ref u :: st) H Q := G_dup fX8_inverse_36 rfl
theorem fX8_inverse_37 : ft 82 37 = some (.iconst 3, 0, 0, 0, .null) := by decide +kernel
theorem gX8_inverse_37 {L : List (Option Value)} {st : List Value} {H : HP} {Q : Option Value → HP → Prop} : Go 82 37 L st H Q ↔ Go 82 38 L (vi 3 :: st) H Q := G_iconst fX8_inverse_37
theorem fX8_inverse_38 : ft 82 38 = some (.aload_n 0, 0, 0, 0, .null) := by decide +kernel
theorem gX8_inverse_38 {l1 l2 : Option Value} {u : Nat} {st : List Value} {H : HP} {Q : Option Value → HP → Prop} : Go 82 38 [some (.ref u), l1, l2] st H Q ↔ Go 82 39 [some (.ref u), l1, l2] (.ref u :: st) H Q := G_aload_n fX8_inverse_38 rfl
theorem fX8_inverse_39 : ft 82 39 = some (.getfield 40, 8, 5, 226, .null) := by decide +kernel
theorem gX8_inverse_39 {L : List (Option Value)} {p : Nat} {st : List Value} {H : HP} {Q : Option Value → HP → Prop} : Go 82 39 L (.ref p :: st) H Q ↔ Rd (gF' 8 5 (hget H p)) 82 42 L st H Q := G_getf fX8_inverse_39 ⟨rfl, rfl⟩
theorem fX8_inverse_42 : ft 82 42 = some (.getfield 143, 6, 1, 111, .null) := by decide +kernel
theorem gX8_inverse_42 {L : List (Option Value)} {p : Nat} {st : List Value} {H : HP} {Q : Option Value → HP → Prop} : Go 82 42 L (.ref p :: st) H Q ↔ Rd (gF' 6 1 (hget H p)) 82 45 L st H Q := G_getf fX8_inverse_42 ⟨rfl, rfl⟩
theorem fX8_inverse_45 : ft 82 45 = some (.invokespecial 96, 54, 0, 276, .null) := by decide +kernel
theorem gX8_inverse_45 {L : List (Option Value)} {p : Nat} {a0 : Int32} {a1 : Int32} {r0 : Nat} {H : HP} {Q : Option Value → HP → Prop} : Go 82 45 L (.int a1 :: .int a0 :: .ref p :: [.ref r0]) H Q ↔ Go 54 0 [some (.ref p), some (.int a0), some (.int a1)] [] H (Cont 82 48 L [.ref r0] Q) := G_cI (n := 2) (N := 3) (as := [.int a1, .int a0]) (st := [.ref r0]) fX8_inverse_45 (by decide +kernel) rfl (Nat.le_of_ble_eq_true rfl) (Nat.le_of_ble_eq_true rfl) rfl
theorem fX8_inverse_48 : ft 82 48 = some (.astore_n 2, 0, 0, 0, .null) := by decide +kernel
theorem gX8_inverse_48 {l0 l1 l2 : Option Value} {u : Nat} {st : List Value} {H : HP} {Q : Option Value → HP → Prop} : Go 82 48 [l0, l1, l2] (.ref u :: st) H Q ↔ Go 82 49 [l0, l1, some (.ref u)] st H Q := G_astore_n fX8_inverse_48 rfl
theorem gX8_inverse_48N {l0 l1 l2 : Option Value} {st : List Value} {H : HP} {Q : Option Value → HP → Prop} : Go 82 48 [l0, l1, l2] (.null :: st) H Q ↔ Go 82 49 [l0, l1, some .null] st H Q := G_astore_nN fX8_inverse_48 rfl
theorem fX8_inverse_49 : ft 82 49 = some (.aload_n 0, 0, 0, 0, .null) := by decide +kernel
theorem gX8_inverse_49 {l1 l2 : Option Value} {u : Nat} {st : List Value} {H : HP} {Q : Option Value → HP → Prop} : Go 82 49 [some (.ref u), l1, l2] st H Q ↔ Go 82 50 [some (.ref u), l1, l2] (.ref u :: st) H Q := G_aload_n fX8_inverse_49 rfl
theorem fX8_inverse_50 : ft 82 50 = some (.getfield 24, 8, 3, 224, .null) := by decide +kernel
theorem gX8_inverse_50 {L : List (Option Value)} {p : Nat} {st : List Value} {H : HP} {Q : Option Value → HP → Prop} : Go 82 50 L (.ref p :: st) H Q ↔ Rd (gF' 8 3 (hget H p)) 82 53 L st H Q := G_getf fX8_inverse_50 ⟨rfl, rfl⟩
theorem fX8_inverse_53 : ft 82 53 = some (.aload_n 0, 0, 0, 0, .null) := by decide +kernel
theorem gX8_inverse_53 {l1 l2 : Option Value} {u : Nat} {st : List Value} {H : HP} {Q : Option Value → HP → Prop} : Go 82 53 [some (.ref u), l1, l2] st H Q ↔ Go 82 54 [some (.ref u), l1, l2] (.ref u :: st) H Q := G_aload_n fX8_inverse_53 rfl
theorem fX8_inverse_54 : ft 82 54 = some (.getfield 40, 8, 5, 226, .null) := by decide +kernel
theorem gX8_inverse_54 {L : List (Option Value)} {p : Nat} {st : List Value} {H : HP} {Q : Option Value → HP → Prop} : Go 82 54 L (.ref p :: st) H Q ↔ Rd (gF' 8 5 (hget H p)) 82 57 L st H Q := G_getf fX8_inverse_54 ⟨rfl, rfl⟩
theorem fX8_inverse_57 : ft 82 57 = some (.aload_n 0, 0, 0, 0, .null) := by decide +kernel
theorem gX8_inverse_57 {l1 l2 : Option Value} {u : Nat} {st : List Value} {H : HP} {Q : Option Value → HP → Prop} : Go 82 57 [some (.ref u), l1, l2] st H Q ↔ Go 82 58 [some (.ref u), l1, l2] (.ref u :: st) H Q := G_aload_n fX8_inverse_57 rfl
theorem fX8_inverse_58 : ft 82 58 = some (.getfield 17, 8, 1, 222, .null) := by decide +kernel
theorem gX8_inverse_58 {L : List (Option Value)} {p : Nat} {st : List Value} {H : HP} {Q : Option Value → HP → Prop} : Go 82 58 L (.ref p :: st) H Q ↔ Rd (gF' 8 1 (hget H p)) 82 61 L st H Q := G_getf fX8_inverse_58 ⟨rfl, rfl⟩
theorem fX8_inverse_61 : ft 82 61 = some (.aload_n 0, 0, 0, 0, .null) := by decide +kernel
theorem gX8_inverse_61 {l1 l2 : Option Value} {u : Nat} {st : List Value} {H : HP} {Q : Option Value → HP → Prop} : Go 82 61 [some (.ref u), l1, l2] st H Q ↔ Go 82 62 [some (.ref u), l1, l2] (.ref u :: st) H Q := G_aload_n fX8_inverse_61 rfl
theorem fX8_inverse_62 : ft 82 62 = some (.getfield 60, 8, 11, 232, .null) := by decide +kernel
theorem gX8_inverse_62 {L : List (Option Value)} {p : Nat} {st : List Value} {H : HP} {Q : Option Value → HP → Prop} : Go 82 62 L (.ref p :: st) H Q ↔ Rd (gF' 8 11 (hget H p)) 82 65 L st H Q := G_getf fX8_inverse_62 ⟨rfl, rfl⟩
theorem fX8_inverse_65 : ft 82 65 = some (.aaload, 0, 0, 0, .null) := by decide +kernel
theorem gX8_inverse_65 {L : List (Option Value)} {p : Nat} {a : Int} {st : List Value} {H : HP} {Q : Option Value → HP → Prop} : Go 82 65 L (vi a :: .ref p :: st) H Q ↔ Rd (aR' (hget H p) a) 82 66 L st H Q := G_aald fX8_inverse_65
theorem fX8_inverse_66 : ft 82 66 = some (.aload_n 2, 0, 0, 0, .null) := by decide +kernel
theorem gX8_inverse_66 {l0 l1 : Option Value} {u : Nat} {st : List Value} {H : HP} {Q : Option Value → HP → Prop} : Go 82 66 [l0, l1, some (.ref u)] st H Q ↔ Go 82 67 [l0, l1, some (.ref u)] (.ref u :: st) H Q := G_aload_n fX8_inverse_66 rfl
theorem gX8_inverse_66N {l0 l1 : Option Value} {st : List Value} {H : HP} {Q : Option Value → HP → Prop} : Go 82 66 [l0, l1, some .null] st H Q ↔ Go 82 67 [l0, l1, some .null] (.null :: st) H Q := G_aload_nN fX8_inverse_66 rfl
theorem fX8_inverse_67 : ft 82 67 = some (.invokevirtual 156, 19, 0, 428, .null) := by decide +kernel
theorem gX8_inverse_67 {L : List (Option Value)} {p : Nat} {a0 : Nat} {a1 : Nat} {a2 : Nat}  {H : HP} {Q : Option Value → HP → Prop} : Go 82 67 L (.ref a2 :: .ref a1 :: .ref a0 :: .ref p :: []) H Q ↔ (iso 2 (hget H p) = true ∧ Go 19 0 [some (.ref p), some (.ref a0), some (.ref a1), some (.ref a2), none, none, none, none, none, none, none] [] H (Cont 82 70 L [] Q)) := G_cV (n := 3) (N := 11) (as := [.ref a2, .ref a1, .ref a0]) (st := []) fX8_inverse_67 (by decide +kernel) rfl (Nat.le_of_ble_eq_true rfl) (Nat.le_of_ble_eq_true rfl) rfl
theorem fX8_inverse_70 : ft 82 70 = some (.aload_n 0, 0, 0, 0, .null) := by decide +kernel
theorem gX8_inverse_70 {l1 l2 : Option Value} {u : Nat} {st : List Value} {H : HP} {Q : Option Value → HP → Prop} : Go 82 70 [some (.ref u), l1, l2] st H Q ↔ Go 82 71 [some (.ref u), l1, l2] (.ref u :: st) H Q := G_aload_n fX8_inverse_70 rfl
theorem fX8_inverse_71 : ft 82 71 = some (.getfield 11, 8, 0, 221, .null) := by decide +kernel
theorem gX8_inverse_71 {L : List (Option Value)} {p : Nat} {st : List Value} {H : HP} {Q : Option Value → HP → Prop} : Go 82 71 L (.ref p :: st) H Q ↔ Rd (gF' 8 0 (hget H p)) 82 74 L st H Q := G_getf fX8_inverse_71 ⟨rfl, rfl⟩
theorem fX8_inverse_74 : ft 82 74 = some (.iload_n 1, 0, 0, 0, .null) := by decide +kernel
theorem gX8_inverse_74 {l0 l2 : Option Value} {u : Int32} {st : List Value} {H : HP} {Q : Option Value → HP → Prop} : Go 82 74 [l0, some (.int u), l2] st H Q ↔ Go 82 75 [l0, some (.int u), l2] (.int u :: st) H Q := G_iload_n fX8_inverse_74 rfl
theorem fX8_inverse_75 : ft 82 75 = some (.aload_n 2, 0, 0, 0, .null) := by decide +kernel
theorem gX8_inverse_75 {l0 l1 : Option Value} {u : Nat} {st : List Value} {H : HP} {Q : Option Value → HP → Prop} : Go 82 75 [l0, l1, some (.ref u)] st H Q ↔ Go 82 76 [l0, l1, some (.ref u)] (.ref u :: st) H Q := G_aload_n fX8_inverse_75 rfl
theorem gX8_inverse_75N {l0 l1 : Option Value} {st : List Value} {H : HP} {Q : Option Value → HP → Prop} : Go 82 75 [l0, l1, some .null] st H Q ↔ Go 82 76 [l0, l1, some .null] (.null :: st) H Q := G_aload_nN fX8_inverse_75 rfl
theorem fX8_inverse_76 : ft 82 76 = some (.aastore, 0, 0, 0, .null) := by decide +kernel
theorem gX8_inverse_76 {L : List (Option Value)} {p : Nat} {a : Int} {b : Nat} (hp : p ≠ 0) {st : List Value} {H : HP} {Q : Option Value → HP → Prop} : Go 82 76 L (.ref b :: vi a :: .ref p :: st) H Q ↔ Wr (sR' (hget H p) a b (hget H b)) p 82 77 L st H Q := G_aast fX8_inverse_76 hp
theorem fX8_inverse_77 : ft 82 77 = some (.aload_n 2, 0, 0, 0, .null) := by decide +kernel
theorem gX8_inverse_77 {l0 l1 : Option Value} {u : Nat} {st : List Value} {H : HP} {Q : Option Value → HP → Prop} : Go 82 77 [l0, l1, some (.ref u)] st H Q ↔ Go 82 78 [l0, l1, some (.ref u)] (.ref u :: st) H Q := G_aload_n fX8_inverse_77 rfl
theorem gX8_inverse_77N {l0 l1 : Option Value} {st : List Value} {H : HP} {Q : Option Value → HP → Prop} : Go 82 77 [l0, l1, some .null] st H Q ↔ Go 82 78 [l0, l1, some .null] (.null :: st) H Q := G_aload_nN fX8_inverse_77 rfl
theorem fX8_inverse_78 : ft 82 78 = some (.invokevirtual 102, 55, 0, 302, .null) := by decide +kernel
theorem gX8_inverse_78 {L : List (Option Value)} {p : Nat}   {H : HP} {Q : Option Value → HP → Prop} : Go 82 78 L (.ref p :: []) H Q ↔ (iso 5 (hget H p) = true ∧ Go 55 0 [some (.ref p)] [] H (Cont 82 81 L [] Q)) := G_cV (n := 0) (N := 1) (as := []) (st := []) fX8_inverse_78 (by decide +kernel) rfl (Nat.le_of_ble_eq_true rfl) (Nat.le_of_ble_eq_true rfl) rfl
theorem fX8_inverse_81 : ft 82 81 = some (.ireturn, 0, 0, 0, .null) := by decide +kernel
theorem gX8_inverse_81 {L : List (Option Value)} {u : Int32} {H : HP} {Q : Option Value → HP → Prop} : Go 82 81 L [.int u] H Q ↔ Q (some (.int u)) H := G_iret fX8_inverse_81 (by decide +kernel)
theorem fX8_multiply_0 : ft 83 0 = some (.aload_n 0, 0, 0, 0, .null) := by decide +kernel
theorem gX8_multiply_0 {l1 l2 l3 l4 l5 : Option Value} {u : Nat} {st : List Value} {H : HP} {Q : Option Value → HP → Prop} : Go 83 0 [some (.ref u), l1, l2, l3, l4, l5] st H Q ↔ Go 83 1 [some (.ref u), l1, l2, l3, l4, l5] (.ref u :: st) H Q := G_aload_n fX8_multiply_0 rfl
theorem fX8_multiply_1 : ft 83 1 = some (.iconst 0, 0, 0, 0, .null) := by decide +kernel
theorem gX8_multiply_1 {L : List (Option Value)} {st : List Value} {H : HP} {Q : Option Value → HP → Prop} : Go 83 1 L st H Q ↔ Go 83 2 L (vi 0 :: st) H Q := G_iconst fX8_multiply_1
theorem fX8_multiply_2 : ft 83 2 = some (.putfield 64, 8, 12, 233, .null) := by decide +kernel
theorem gX8_multiply_2 {L : List (Option Value)} {p : Nat} {u : Int32} (hp : p ≠ 0) {st : List Value} {H : HP} {Q : Option Value → HP → Prop} : Go 83 2 L (.int u :: .ref p :: st) H Q ↔ Wr (pF' 8 12 (hget H p) (.int u)) p 83 5 L st H Q := G_putf fX8_multiply_2 ⟨⟨rfl, rfl⟩, rfl, Or.inl rfl⟩ hp
theorem fX8_multiply_5 : ft 83 5 = some (.iload_n 1, 0, 0, 0, .null) := by decide +kernel
theorem gX8_multiply_5 {l0 l2 l3 l4 l5 : Option Value} {u : Int32} {st : List Value} {H : HP} {Q : Option Value → HP → Prop} : Go 83 5 [l0, some (.int u), l2, l3, l4, l5] st H Q ↔ Go 83 6 [l0, some (.int u), l2, l3, l4, l5] (.int u :: st) H Q := G_iload_n fX8_multiply_5 rfl
theorem fX8_multiply_6 : ft 83 6 = some (.invokestatic 85, 108, 0, 265, .null) := by decide +kernel
theorem gX8_multiply_6 {L : List (Option Value)} {a0 : Int32}  {H : HP} {Q : Option Value → HP → Prop} : Go 83 6 L (.int a0 :: []) H Q ↔ Go 108 0 [some (.int a0)] [] H (Cont 83 9 L [] Q) := G_cS (n := 1) (N := 1) (as := [.int a0]) (st := []) fX8_multiply_6 (by decide +kernel) rfl (Nat.le_of_ble_eq_true rfl) (Nat.le_of_ble_eq_true rfl) rfl
theorem fX8_multiply_9 : ft 83 9 = some (.ifCond .eq 10, 0, 0, 0, .null) := by decide +kernel
theorem gX8_multiply_9T {L : List (Option Value)} {a : Int} (c : (-2147483648 ≤ a ∧ a ≤ 2147483647) ∧ a = 0) {st : List Value} {H : HP} {Q : Option Value → HP → Prop} : Go 83 9 L (vi a :: st) H Q ↔ Go 83 19 L st H Q := G_ifT fX8_multiply_9 (by decide) c
theorem gX8_multiply_9F {L : List (Option Value)} {a : Int} (c : (-2147483648 ≤ a ∧ a ≤ 2147483647) ∧ ¬ (a = 0)) {st : List Value} {H : HP} {Q : Option Value → HP → Prop} : Go 83 9 L (vi a :: st) H Q ↔ Go 83 12 L st H Q := G_ifF (tg := 19) fX8_multiply_9 (by decide) c
theorem fX8_multiply_12 : ft 83 12 = some (.iload_n 2, 0, 0, 0, .null) := by decide +kernel
theorem gX8_multiply_12 {l0 l1 l3 l4 l5 : Option Value} {u : Int32} {st : List Value} {H : HP} {Q : Option Value → HP → Prop} : Go 83 12 [l0, l1, some (.int u), l3, l4, l5] st H Q ↔ Go 83 13 [l0, l1, some (.int u), l3, l4, l5] (.int u :: st) H Q := G_iload_n fX8_multiply_12 rfl
theorem fX8_multiply_13 : ft 83 13 = some (.invokestatic 85, 108, 0, 265, .null) := by decide +kernel
theorem gX8_multiply_13 {L : List (Option Value)} {a0 : Int32}  {H : HP} {Q : Option Value → HP → Prop} : Go 83 13 L (.int a0 :: []) H Q ↔ Go 108 0 [some (.int a0)] [] H (Cont 83 16 L [] Q) := G_cS (n := 1) (N := 1) (as := [.int a0]) (st := []) fX8_multiply_13 (by decide +kernel) rfl (Nat.le_of_ble_eq_true rfl) (Nat.le_of_ble_eq_true rfl) rfl
theorem fX8_multiply_16 : ft 83 16 = some (.ifCond .ne 5, 0, 0, 0, .null) := by decide +kernel
theorem gX8_multiply_16T {L : List (Option Value)} {a : Int} (c : (-2147483648 ≤ a ∧ a ≤ 2147483647) ∧ ¬ a = 0) {st : List Value} {H : HP} {Q : Option Value → HP → Prop} : Go 83 16 L (vi a :: st) H Q ↔ Go 83 21 L st H Q := G_ifT fX8_multiply_16 (by decide) c
theorem gX8_multiply_16F {L : List (Option Value)} {a : Int} (c : (-2147483648 ≤ a ∧ a ≤ 2147483647) ∧ ¬ (¬ a = 0)) {st : List Value} {H : HP} {Q : Option Value → HP → Prop} : Go 83 16 L (vi a :: st) H Q ↔ Go 83 19 L st H Q := G_ifF (tg := 21) fX8_multiply_16 (by decide) c
theorem fX8_multiply_19 : ft 83 19 = some (.iconst (-1), 0, 0, 0, .null) := by decide +kernel
theorem gX8_multiply_19 {L : List (Option Value)} {st : List Value} {H : HP} {Q : Option Value → HP → Prop} : Go 83 19 L st H Q ↔ Go 83 20 L (vi (-1) :: st) H Q := G_iconst fX8_multiply_19
theorem fX8_multiply_20 : ft 83 20 = some (.ireturn, 0, 0, 0, .null) := by decide +kernel
theorem gX8_multiply_20 {L : List (Option Value)} {u : Int32} {H : HP} {Q : Option Value → HP → Prop} : Go 83 20 L [.int u] H Q ↔ Q (some (.int u)) H := G_iret fX8_multiply_20 (by decide +kernel)
theorem fX8_multiply_21 : ft 83 21 = some (.iload_n 3, 0, 0, 0, .null) := by decide +kernel
theorem gX8_multiply_21 {l0 l1 l2 l4 l5 : Option Value} {u : Int32} {st : List Value} {H : HP} {Q : Option Value → HP → Prop} : Go 83 21 [l0, l1, l2, some (.int u), l4, l5] st H Q ↔ Go 83 22 [l0, l1, l2, some (.int u), l4, l5] (.int u :: st) H Q := G_iload_n fX8_multiply_21 rfl
theorem fX8_multiply_22 : ft 83 22 = some (.invokestatic 160, 111, 0, 437, .null) := by decide +kernel
theorem gX8_multiply_22 {L : List (Option Value)} {a0 : Int32}  {H : HP} {Q : Option Value → HP → Prop} : Go 83 22 L (.int a0 :: []) H Q ↔ Go 111 0 [some (.int a0)] [] H (Cont 83 25 L [] Q) := G_cS (n := 1) (N := 1) (as := [.int a0]) (st := []) fX8_multiply_22 (by decide +kernel) rfl (Nat.le_of_ble_eq_true rfl) (Nat.le_of_ble_eq_true rfl) rfl
theorem fX8_multiply_25 : ft 83 25 = some (.ifCond .ne 6, 0, 0, 0, .null) := by decide +kernel
theorem gX8_multiply_25T {L : List (Option Value)} {a : Int} (c : (-2147483648 ≤ a ∧ a ≤ 2147483647) ∧ ¬ a = 0) {st : List Value} {H : HP} {Q : Option Value → HP → Prop} : Go 83 25 L (vi a :: st) H Q ↔ Go 83 31 L st H Q := G_ifT fX8_multiply_25 (by decide) c
theorem gX8_multiply_25F {L : List (Option Value)} {a : Int} (c : (-2147483648 ≤ a ∧ a ≤ 2147483647) ∧ ¬ (¬ a = 0)) {st : List Value} {H : HP} {Q : Option Value → HP → Prop} : Go 83 25 L (vi a :: st) H Q ↔ Go 83 28 L st H Q := G_ifF (tg := 31) fX8_multiply_25 (by decide) c
theorem fX8_multiply_28 : ft 83 28 = some (.bipush (-2), 0, 0, 0, .null) := by decide +kernel
theorem gX8_multiply_28 {L : List (Option Value)} {st : List Value} {H : HP} {Q : Option Value → HP → Prop} : Go 83 28 L st H Q ↔ Go 83 30 L (vi (-2) :: st) H Q := G_bipush fX8_multiply_28 (by decide)
theorem fX8_multiply_30 : ft 83 30 = some (.ireturn, 0, 0, 0, .null) := by decide +kernel
theorem gX8_multiply_30 {L : List (Option Value)} {u : Int32} {H : HP} {Q : Option Value → HP → Prop} : Go 83 30 L [.int u] H Q ↔ Q (some (.int u)) H := G_iret fX8_multiply_30 (by decide +kernel)
theorem fX8_multiply_31 : ft 83 31 = some (.aload_n 0, 0, 0, 0, .null) := by decide +kernel
theorem gX8_multiply_31 {l1 l2 l3 l4 l5 : Option Value} {u : Nat} {st : List Value} {H : HP} {Q : Option Value → HP → Prop} : Go 83 31 [some (.ref u), l1, l2, l3, l4, l5] st H Q ↔ Go 83 32 [some (.ref u), l1, l2, l3, l4, l5] (.ref u :: st) H Q := G_aload_n fX8_multiply_31 rfl
theorem fX8_multiply_32 : ft 83 32 = some (.getfield 11, 8, 0, 221, .null) := by decide +kernel
theorem gX8_multiply_32 {L : List (Option Value)} {p : Nat} {st : List Value} {H : HP} {Q : Option Value → HP → Prop} : Go 83 32 L (.ref p :: st) H Q ↔ Rd (gF' 8 0 (hget H p)) 83 35 L st H Q := G_getf fX8_multiply_32 ⟨rfl, rfl⟩
theorem fX8_multiply_35 : ft 83 35 = some (.iload_n 1, 0, 0, 0, .null) := by decide +kernel
theorem gX8_multiply_35 {l0 l2 l3 l4 l5 : Option Value} {u : Int32} {st : List Value} {H : HP} {Q : Option Value → HP → Prop} : Go 83 35 [l0, some (.int u), l2, l3, l4, l5] st H Q ↔ Go 83 36 [l0, some (.int u), l2, l3, l4, l5] (.int u :: st) H Q := G_iload_n fX8_multiply_35 rfl
theorem fX8_multiply_36 : ft 83 36 = some (.aaload, 0, 0, 0, .null) := by decide +kernel
theorem gX8_multiply_36 {L : List (Option Value)} {p : Nat} {a : Int} {st : List Value} {H : HP} {Q : Option Value → HP → Prop} : Go 83 36 L (vi a :: .ref p :: st) H Q ↔ Rd (aR' (hget H p) a) 83 37 L st H Q := G_aald fX8_multiply_36
theorem fX8_multiply_37 : ft 83 37 = some (.astore 4, 0, 0, 0, .null) := by decide +kernel
theorem gX8_multiply_37 {l0 l1 l2 l3 l4 l5 : Option Value} {u : Nat} {st : List Value} {H : HP} {Q : Option Value → HP → Prop} : Go 83 37 [l0, l1, l2, l3, l4, l5] (.ref u :: st) H Q ↔ Go 83 39 [l0, l1, l2, l3, some (.ref u), l5] st H Q := G_astore fX8_multiply_37 rfl
theorem gX8_multiply_37N {l0 l1 l2 l3 l4 l5 : Option Value} {st : List Value} {H : HP} {Q : Option Value → HP → Prop} : Go 83 37 [l0, l1, l2, l3, l4, l5] (.null :: st) H Q ↔ Go 83 39 [l0, l1, l2, l3, some .null, l5] st H Q := G_astoreN fX8_multiply_37 rfl
theorem fX8_multiply_39 : ft 83 39 = some (.aload_n 0, 0, 0, 0, .null) := by decide +kernel
theorem gX8_multiply_39 {l1 l2 l3 l4 l5 : Option Value} {u : Nat} {st : List Value} {H : HP} {Q : Option Value → HP → Prop} : Go 83 39 [some (.ref u), l1, l2, l3, l4, l5] st H Q ↔ Go 83 40 [some (.ref u), l1, l2, l3, l4, l5] (.ref u :: st) H Q := G_aload_n fX8_multiply_39 rfl
theorem fX8_multiply_40 : ft 83 40 = some (.getfield 11, 8, 0, 221, .null) := by decide +kernel
theorem gX8_multiply_40 {L : List (Option Value)} {p : Nat} {st : List Value} {H : HP} {Q : Option Value → HP → Prop} : Go 83 40 L (.ref p :: st) H Q ↔ Rd (gF' 8 0 (hget H p)) 83 43 L st H Q := G_getf fX8_multiply_40 ⟨rfl, rfl⟩
theorem fX8_multiply_43 : ft 83 43 = some (.iload_n 2, 0, 0, 0, .null) := by decide +kernel
theorem gX8_multiply_43 {l0 l1 l3 l4 l5 : Option Value} {u : Int32} {st : List Value} {H : HP} {Q : Option Value → HP → Prop} : Go 83 43 [l0, l1, some (.int u), l3, l4, l5] st H Q ↔ Go 83 44 [l0, l1, some (.int u), l3, l4, l5] (.int u :: st) H Q := G_iload_n fX8_multiply_43 rfl
theorem fX8_multiply_44 : ft 83 44 = some (.aaload, 0, 0, 0, .null) := by decide +kernel
theorem gX8_multiply_44 {L : List (Option Value)} {p : Nat} {a : Int} {st : List Value} {H : HP} {Q : Option Value → HP → Prop} : Go 83 44 L (vi a :: .ref p :: st) H Q ↔ Rd (aR' (hget H p) a) 83 45 L st H Q := G_aald fX8_multiply_44
theorem fX8_multiply_45 : ft 83 45 = some (.astore 5, 0, 0, 0, .null) := by decide +kernel
theorem gX8_multiply_45 {l0 l1 l2 l3 l4 l5 : Option Value} {u : Nat} {st : List Value} {H : HP} {Q : Option Value → HP → Prop} : Go 83 45 [l0, l1, l2, l3, l4, l5] (.ref u :: st) H Q ↔ Go 83 47 [l0, l1, l2, l3, l4, some (.ref u)] st H Q := G_astore fX8_multiply_45 rfl
theorem gX8_multiply_45N {l0 l1 l2 l3 l4 l5 : Option Value} {st : List Value} {H : HP} {Q : Option Value → HP → Prop} : Go 83 45 [l0, l1, l2, l3, l4, l5] (.null :: st) H Q ↔ Go 83 47 [l0, l1, l2, l3, l4, some .null] st H Q := G_astoreN fX8_multiply_45 rfl
theorem fX8_multiply_47 : ft 83 47 = some (.aload 4, 0, 0, 0, .null) := by decide +kernel
theorem gX8_multiply_47 {l0 l1 l2 l3 l5 : Option Value} {u : Nat} {st : List Value} {H : HP} {Q : Option Value → HP → Prop} : Go 83 47 [l0, l1, l2, l3, some (.ref u), l5] st H Q ↔ Go 83 49 [l0, l1, l2, l3, some (.ref u), l5] (.ref u :: st) H Q := G_aload fX8_multiply_47 rfl
theorem gX8_multiply_47N {l0 l1 l2 l3 l5 : Option Value} {st : List Value} {H : HP} {Q : Option Value → HP → Prop} : Go 83 47 [l0, l1, l2, l3, some .null, l5] st H Q ↔ Go 83 49 [l0, l1, l2, l3, some .null, l5] (.null :: st) H Q := G_aloadN fX8_multiply_47 rfl
theorem fX8_multiply_49 : ft 83 49 = some (.ifnull 8, 0, 0, 0, .null) := by decide +kernel
theorem gX8_multiply_49T {L : List (Option Value)} {st : List Value} {H : HP} {Q : Option Value → HP → Prop} : Go 83 49 L (.null :: st) H Q ↔ Go 83 57 L st H Q := G_nullT fX8_multiply_49 (by decide)
theorem gX8_multiply_49F {L : List (Option Value)} {p : Nat} {st : List Value} {H : HP} {Q : Option Value → HP → Prop} : Go 83 49 L ((.ref p) :: st) H Q ↔ Go 83 52 L st H Q := G_nullF (tg := 57) fX8_multiply_49 (by decide)
theorem fX8_multiply_52 : ft 83 52 = some (.aload 5, 0, 0, 0, .null) := by decide +kernel
theorem gX8_multiply_52 {l0 l1 l2 l3 l4 : Option Value} {u : Nat} {st : List Value} {H : HP} {Q : Option Value → HP → Prop} : Go 83 52 [l0, l1, l2, l3, l4, some (.ref u)] st H Q ↔ Go 83 54 [l0, l1, l2, l3, l4, some (.ref u)] (.ref u :: st) H Q := G_aload fX8_multiply_52 rfl
theorem gX8_multiply_52N {l0 l1 l2 l3 l4 : Option Value} {st : List Value} {H : HP} {Q : Option Value → HP → Prop} : Go 83 52 [l0, l1, l2, l3, l4, some .null] st H Q ↔ Go 83 54 [l0, l1, l2, l3, l4, some .null] (.null :: st) H Q := G_aloadN fX8_multiply_52 rfl
theorem fX8_multiply_54 : ft 83 54 = some (.ifnonnull 9, 0, 0, 0, .null) := by decide +kernel
theorem gX8_multiply_54T {L : List (Option Value)} {p : Nat} {st : List Value} {H : HP} {Q : Option Value → HP → Prop} : Go 83 54 L ((.ref p) :: st) H Q ↔ Go 83 63 L st H Q := G_nnT fX8_multiply_54 (by decide)
theorem gX8_multiply_54F {L : List (Option Value)} {st : List Value} {H : HP} {Q : Option Value → HP → Prop} : Go 83 54 L (.null :: st) H Q ↔ Go 83 57 L st H Q := G_nnF (tg := 63) fX8_multiply_54 (by decide)
theorem fX8_multiply_57 : ft 83 57 = some (.aload_n 0, 0, 0, 0, .null) := by decide +kernel
theorem gX8_multiply_57 {l1 l2 l3 l4 l5 : Option Value} {u : Nat} {st : List Value} {H : HP} {Q : Option Value → HP → Prop} : Go 83 57 [some (.ref u), l1, l2, l3, l4, l5] st H Q ↔ Go 83 58 [some (.ref u), l1, l2, l3, l4, l5] (.ref u :: st) H Q := G_aload_n fX8_multiply_57 rfl
theorem fX8_multiply_58 : ft 83 58 = some (.iconst 1, 0, 0, 0, .null) := by decide +kernel
theorem gX8_multiply_58 {L : List (Option Value)} {st : List Value} {H : HP} {Q : Option Value → HP → Prop} : Go 83 58 L st H Q ↔ Go 83 59 L (vi 1 :: st) H Q := G_iconst fX8_multiply_58
theorem fX8_multiply_59 : ft 83 59 = some (.invokevirtual 92, 105, 0, 271, .null) := by decide +kernel
theorem gX8_multiply_59 {L : List (Option Value)} {p : Nat} {a0 : Int32}  {H : HP} {Q : Option Value → HP → Prop} : Go 83 59 L (.int a0 :: .ref p :: []) H Q ↔ (iso 8 (hget H p) = true ∧ Go 105 0 [some (.ref p), some (.int a0)] [] H (Cont 83 62 L [] Q)) := G_cV (n := 1) (N := 2) (as := [.int a0]) (st := []) fX8_multiply_59 (by decide +kernel) rfl (Nat.le_of_ble_eq_true rfl) (Nat.le_of_ble_eq_true rfl) rfl
theorem fX8_multiply_62 : ft 83 62 = some (.ireturn, 0, 0, 0, .null) := by decide +kernel
theorem gX8_multiply_62 {L : List (Option Value)} {u : Int32} {H : HP} {Q : Option Value → HP → Prop} : Go 83 62 L [.int u] H Q ↔ Q (some (.int u)) H := G_iret fX8_multiply_62 (by decide +kernel)
theorem fX8_multiply_63 : ft 83 63 = some (.aload 4, 0, 0, 0, .null) := by decide +kernel
theorem gX8_multiply_63 {l0 l1 l2 l3 l5 : Option Value} {u : Nat} {st : List Value} {H : HP} {Q : Option Value → HP → Prop} : Go 83 63 [l0, l1, l2, l3, some (.ref u), l5] st H Q ↔ Go 83 65 [l0, l1, l2, l3, some (.ref u), l5] (.ref u :: st) H Q := G_aload fX8_multiply_63 rfl
theorem gX8_multiply_63N {l0 l1 l2 l3 l5 : Option Value} {st : List Value} {H : HP} {Q : Option Value → HP → Prop} : Go 83 63 [l0, l1, l2, l3, some .null, l5] st H Q ↔ Go 83 65 [l0, l1, l2, l3, some .null, l5] (.null :: st) H Q := G_aloadN fX8_multiply_63 rfl
theorem fX8_multiply_65 : ft 83 65 = some (.getfield 99, 5, 0, 282, .null) := by decide +kernel
theorem gX8_multiply_65 {L : List (Option Value)} {p : Nat} {st : List Value} {H : HP} {Q : Option Value → HP → Prop} : Go 83 65 L (.ref p :: st) H Q ↔ Rd (gF' 5 0 (hget H p)) 83 68 L st H Q := G_getf fX8_multiply_65 ⟨rfl, rfl⟩
theorem fX8_multiply_68 : ft 83 68 = some (.iconst 2, 0, 0, 0, .null) := by decide +kernel
theorem gX8_multiply_68 {L : List (Option Value)} {st : List Value} {H : HP} {Q : Option Value → HP → Prop} : Go 83 68 L st H Q ↔ Go 83 69 L (vi 2 :: st) H Q := G_iconst fX8_multiply_68
theorem fX8_multiply_69 : ft 83 69 = some (.if_icmp .gt 12, 0, 0, 0, .null) := by decide +kernel
theorem gX8_multiply_69T {L : List (Option Value)} {a b : Int} (c : (-2147483648 ≤ a ∧ a ≤ 2147483647 ∧ -2147483648 ≤ b ∧ b ≤ 2147483647) ∧ b < a) {st : List Value} {H : HP} {Q : Option Value → HP → Prop} : Go 83 69 L (vi b :: vi a :: st) H Q ↔ Go 83 81 L st H Q := G_icT fX8_multiply_69 (by decide) c
theorem gX8_multiply_69F {L : List (Option Value)} {a b : Int} (c : (-2147483648 ≤ a ∧ a ≤ 2147483647 ∧ -2147483648 ≤ b ∧ b ≤ 2147483647) ∧ ¬ (b < a)) {st : List Value} {H : HP} {Q : Option Value → HP → Prop} : Go 83 69 L (vi b :: vi a :: st) H Q ↔ Go 83 72 L st H Q := G_icF (tg := 81) fX8_multiply_69 (by decide) c
theorem fX8_multiply_72 : ft 83 72 = some (.aload 5, 0, 0, 0, .null) := by decide +kernel
theorem gX8_multiply_72 {l0 l1 l2 l3 l4 : Option Value} {u : Nat} {st : List Value} {H : HP} {Q : Option Value → HP → Prop} : Go 83 72 [l0, l1, l2, l3, l4, some (.ref u)] st H Q ↔ Go 83 74 [l0, l1, l2, l3, l4, some (.ref u)] (.ref u :: st) H Q := G_aload fX8_multiply_72 rfl
theorem gX8_multiply_72N {l0 l1 l2 l3 l4 : Option Value} {st : List Value} {H : HP} {Q : Option Value → HP → Prop} : Go 83 72 [l0, l1, l2, l3, l4, some .null] st H Q ↔ Go 83 74 [l0, l1, l2, l3, l4, some .null] (.null :: st) H Q := G_aloadN fX8_multiply_72 rfl
theorem fX8_multiply_74 : ft 83 74 = some (.getfield 99, 5, 0, 282, .null) := by decide +kernel
theorem gX8_multiply_74 {L : List (Option Value)} {p : Nat} {st : List Value} {H : HP} {Q : Option Value → HP → Prop} : Go 83 74 L (.ref p :: st) H Q ↔ Rd (gF' 5 0 (hget H p)) 83 77 L st H Q := G_getf fX8_multiply_74 ⟨rfl, rfl⟩
theorem fX8_multiply_77 : ft 83 77 = some (.iconst 2, 0, 0, 0, .null) := by decide +kernel
theorem gX8_multiply_77 {L : List (Option Value)} {st : List Value} {H : HP} {Q : Option Value → HP → Prop} : Go 83 77 L st H Q ↔ Go 83 78 L (vi 2 :: st) H Q := G_iconst fX8_multiply_77
theorem fX8_multiply_78 : ft 83 78 = some (.if_icmp .le 9, 0, 0, 0, .null) := by decide +kernel
theorem gX8_multiply_78T {L : List (Option Value)} {a b : Int} (c : (-2147483648 ≤ a ∧ a ≤ 2147483647 ∧ -2147483648 ≤ b ∧ b ≤ 2147483647) ∧ a ≤ b) {st : List Value} {H : HP} {Q : Option Value → HP → Prop} : Go 83 78 L (vi b :: vi a :: st) H Q ↔ Go 83 87 L st H Q := G_icT fX8_multiply_78 (by decide) c
theorem gX8_multiply_78F {L : List (Option Value)} {a b : Int} (c : (-2147483648 ≤ a ∧ a ≤ 2147483647 ∧ -2147483648 ≤ b ∧ b ≤ 2147483647) ∧ ¬ (a ≤ b)) {st : List Value} {H : HP} {Q : Option Value → HP → Prop} : Go 83 78 L (vi b :: vi a :: st) H Q ↔ Go 83 81 L st H Q := G_icF (tg := 87) fX8_multiply_78 (by decide) c
theorem fX8_multiply_81 : ft 83 81 = some (.aload_n 0, 0, 0, 0, .null) := by decide +kernel
theorem gX8_multiply_81 {l1 l2 l3 l4 l5 : Option Value} {u : Nat} {st : List Value} {H : HP} {Q : Option Value → HP → Prop} : Go 83 81 [some (.ref u), l1, l2, l3, l4, l5] st H Q ↔ Go 83 82 [some (.ref u), l1, l2, l3, l4, l5] (.ref u :: st) H Q := G_aload_n fX8_multiply_81 rfl
theorem fX8_multiply_82 : ft 83 82 = some (.iconst 2, 0, 0, 0, .null) := by decide +kernel
theorem gX8_multiply_82 {L : List (Option Value)} {st : List Value} {H : HP} {Q : Option Value → HP → Prop} : Go 83 82 L st H Q ↔ Go 83 83 L (vi 2 :: st) H Q := G_iconst fX8_multiply_82
theorem fX8_multiply_83 : ft 83 83 = some (.invokevirtual 92, 105, 0, 271, .null) := by decide +kernel
theorem gX8_multiply_83 {L : List (Option Value)} {p : Nat} {a0 : Int32}  {H : HP} {Q : Option Value → HP → Prop} : Go 83 83 L (.int a0 :: .ref p :: []) H Q ↔ (iso 8 (hget H p) = true ∧ Go 105 0 [some (.ref p), some (.int a0)] [] H (Cont 83 86 L [] Q)) := G_cV (n := 1) (N := 2) (as := [.int a0]) (st := []) fX8_multiply_83 (by decide +kernel) rfl (Nat.le_of_ble_eq_true rfl) (Nat.le_of_ble_eq_true rfl) rfl
theorem fX8_multiply_86 : ft 83 86 = some (.ireturn, 0, 0, 0, .null) := by decide +kernel
theorem gX8_multiply_86 {L : List (Option Value)} {u : Int32} {H : HP} {Q : Option Value → HP → Prop} : Go 83 86 L [.int u] H Q ↔ Q (some (.int u)) H := G_iret fX8_multiply_86 (by decide +kernel)
theorem fX8_multiply_87 : ft 83 87 = some (.iload_n 3, 0, 0, 0, .null) := by decide +kernel
theorem gX8_multiply_87 {l0 l1 l2 l4 l5 : Option Value} {u : Int32} {st : List Value} {H : HP} {Q : Option Value → HP → Prop} : Go 83 87 [l0, l1, l2, some (.int u), l4, l5] st H Q ↔ Go 83 88 [l0, l1, l2, some (.int u), l4, l5] (.int u :: st) H Q := G_iload_n fX8_multiply_87 rfl
theorem fX8_multiply_88 : ft 83 88 = some (.iconst 1, 0, 0, 0, .null) := by decide +kernel
theorem gX8_multiply_88 {L : List (Option Value)} {st : List Value} {H : HP} {Q : Option Value → HP → Prop} : Go 83 88 L st H Q ↔ Go 83 89 L (vi 1 :: st) H Q := G_iconst fX8_multiply_88
theorem fX8_multiply_89 : ft 83 89 = some (.if_icmp .ne 16, 0, 0, 0, .null) := by decide +kernel
theorem gX8_multiply_89T {L : List (Option Value)} {a b : Int} (c : (-2147483648 ≤ a ∧ a ≤ 2147483647 ∧ -2147483648 ≤ b ∧ b ≤ 2147483647) ∧ ¬ a = b) {st : List Value} {H : HP} {Q : Option Value → HP → Prop} : Go 83 89 L (vi b :: vi a :: st) H Q ↔ Go 83 105 L st H Q := G_icT fX8_multiply_89 (by decide) c
theorem gX8_multiply_89F {L : List (Option Value)} {a b : Int} (c : (-2147483648 ≤ a ∧ a ≤ 2147483647 ∧ -2147483648 ≤ b ∧ b ≤ 2147483647) ∧ ¬ (¬ a = b)) {st : List Value} {H : HP} {Q : Option Value → HP → Prop} : Go 83 89 L (vi b :: vi a :: st) H Q ↔ Go 83 92 L st H Q := G_icF (tg := 105) fX8_multiply_89 (by decide) c
theorem fX8_multiply_92 : ft 83 92 = some (.aload 4, 0, 0, 0, .null) := by decide +kernel
theorem gX8_multiply_92 {l0 l1 l2 l3 l5 : Option Value} {u : Nat} {st : List Value} {H : HP} {Q : Option Value → HP → Prop} : Go 83 92 [l0, l1, l2, l3, some (.ref u), l5] st H Q ↔ Go 83 94 [l0, l1, l2, l3, some (.ref u), l5] (.ref u :: st) H Q := G_aload fX8_multiply_92 rfl
theorem gX8_multiply_92N {l0 l1 l2 l3 l5 : Option Value} {st : List Value} {H : HP} {Q : Option Value → HP → Prop} : Go 83 92 [l0, l1, l2, l3, some .null, l5] st H Q ↔ Go 83 94 [l0, l1, l2, l3, some .null, l5] (.null :: st) H Q := G_aloadN fX8_multiply_92 rfl
theorem fX8_multiply_94 : ft 83 94 = some (.aload 5, 0, 0, 0, .null) := by decide +kernel
theorem gX8_multiply_94 {l0 l1 l2 l3 l4 : Option Value} {u : Nat} {st : List Value} {H : HP} {Q : Option Value → HP → Prop} : Go 83 94 [l0, l1, l2, l3, l4, some (.ref u)] st H Q ↔ Go 83 96 [l0, l1, l2, l3, l4, some (.ref u)] (.ref u :: st) H Q := G_aload fX8_multiply_94 rfl
theorem gX8_multiply_94N {l0 l1 l2 l3 l4 : Option Value} {st : List Value} {H : HP} {Q : Option Value → HP → Prop} : Go 83 94 [l0, l1, l2, l3, l4, some .null] st H Q ↔ Go 83 96 [l0, l1, l2, l3, l4, some .null] (.null :: st) H Q := G_aloadN fX8_multiply_94 rfl
theorem fX8_multiply_96 : ft 83 96 = some (.invokestatic 163, 46, 0, 440, .null) := by decide +kernel
theorem gX8_multiply_96 {L : List (Option Value)} {a0 : Nat} {a1 : Nat}  {H : HP} {Q : Option Value → HP → Prop} : Go 83 96 L (.ref a1 :: .ref a0 :: []) H Q ↔ Go 46 0 [some (.ref a0), some (.ref a1), none, none] [] H (Cont 83 99 L [] Q) := G_cS (n := 2) (N := 4) (as := [.ref a1, .ref a0]) (st := []) fX8_multiply_96 (by decide +kernel) rfl (Nat.le_of_ble_eq_true rfl) (Nat.le_of_ble_eq_true rfl) rfl
theorem fX8_multiply_99 : ft 83 99 = some (.ifCond .ne 6, 0, 0, 0, .null) := by decide +kernel
theorem gX8_multiply_99T {L : List (Option Value)} {a : Int} (c : (-2147483648 ≤ a ∧ a ≤ 2147483647) ∧ ¬ a = 0) {st : List Value} {H : HP} {Q : Option Value → HP → Prop} : Go 83 99 L (vi a :: st) H Q ↔ Go 83 105 L st H Q := G_ifT fX8_multiply_99 (by decide) c
theorem gX8_multiply_99F {L : List (Option Value)} {a : Int} (c : (-2147483648 ≤ a ∧ a ≤ 2147483647) ∧ ¬ (¬ a = 0)) {st : List Value} {H : HP} {Q : Option Value → HP → Prop} : Go 83 99 L (vi a :: st) H Q ↔ Go 83 102 L st H Q := G_ifF (tg := 105) fX8_multiply_99 (by decide) c
theorem fX8_multiply_102 : ft 83 102 = some (.bipush (-3), 0, 0, 0, .null) := by decide +kernel
theorem gX8_multiply_102 {L : List (Option Value)} {st : List Value} {H : HP} {Q : Option Value → HP → Prop} : Go 83 102 L st H Q ↔ Go 83 104 L (vi (-3) :: st) H Q := G_bipush fX8_multiply_102 (by decide)
theorem fX8_multiply_104 : ft 83 104 = some (.ireturn, 0, 0, 0, .null) := by decide +kernel
theorem gX8_multiply_104 {L : List (Option Value)} {u : Int32} {H : HP} {Q : Option Value → HP → Prop} : Go 83 104 L [.int u] H Q ↔ Q (some (.int u)) H := G_iret fX8_multiply_104 (by decide +kernel)
theorem fX8_multiply_105 : ft 83 105 = some (.iload_n 3, 0, 0, 0, .null) := by decide +kernel
theorem gX8_multiply_105 {l0 l1 l2 l4 l5 : Option Value} {u : Int32} {st : List Value} {H : HP} {Q : Option Value → HP → Prop} : Go 83 105 [l0, l1, l2, some (.int u), l4, l5] st H Q ↔ Go 83 106 [l0, l1, l2, some (.int u), l4, l5] (.int u :: st) H Q := G_iload_n fX8_multiply_105 rfl
theorem fX8_multiply_106 : ft 83 106 = some (.ifCond .ne 14, 0, 0, 0, .null) := by decide +kernel
theorem gX8_multiply_106T {L : List (Option Value)} {a : Int} (c : (-2147483648 ≤ a ∧ a ≤ 2147483647) ∧ ¬ a = 0) {st : List Value} {H : HP} {Q : Option Value → HP → Prop} : Go 83 106 L (vi a :: st) H Q ↔ Go 83 120 L st H Q := G_ifT fX8_multiply_106 (by decide) c
theorem gX8_multiply_106F {L : List (Option Value)} {a : Int} (c : (-2147483648 ≤ a ∧ a ≤ 2147483647) ∧ ¬ (¬ a = 0)) {st : List Value} {H : HP} {Q : Option Value → HP → Prop} : Go 83 106 L (vi a :: st) H Q ↔ Go 83 109 L st H Q := G_ifF (tg := 120) fX8_multiply_106 (by decide) c
theorem fX8_multiply_109 : ft 83 109 = some (.aload_n 0, 0, 0, 0, .null) := by decide +kernel
theorem gX8_multiply_109 {l1 l2 l3 l4 l5 : Option Value} {u : Nat} {st : List Value} {H : HP} {Q : Option Value → HP → Prop} : Go 83 109 [some (.ref u), l1, l2, l3, l4, l5] st H Q ↔ Go 83 110 [some (.ref u), l1, l2, l3, l4, l5] (.ref u :: st) H Q := G_aload_n fX8_multiply_109 rfl
theorem fX8_multiply_110 : ft 83 110 = some (.getfield 81, 8, 2, 223, .null) := by decide +kernel
theorem gX8_multiply_110 {L : List (Option Value)} {p : Nat} {st : List Value} {H : HP} {Q : Option Value → HP → Prop} : Go 83 110 L (.ref p :: st) H Q ↔ Rd (gF' 8 2 (hget H p)) 83 113 L st H Q := G_getf fX8_multiply_110 ⟨rfl, rfl⟩
theorem fX8_multiply_113 : ft 83 113 = some (.aload 4, 0, 0, 0, .null) := by decide +kernel
theorem gX8_multiply_113 {l0 l1 l2 l3 l5 : Option Value} {u : Nat} {st : List Value} {H : HP} {Q : Option Value → HP → Prop} : Go 83 113 [l0, l1, l2, l3, some (.ref u), l5] st H Q ↔ Go 83 115 [l0, l1, l2, l3, some (.ref u), l5] (.ref u :: st) H Q := G_aload fX8_multiply_113 rfl
theorem gX8_multiply_113N {l0 l1 l2 l3 l5 : Option Value} {st : List Value} {H : HP} {Q : Option Value → HP → Prop} : Go 83 113 [l0, l1, l2, l3, some .null, l5] st H Q ↔ Go 83 115 [l0, l1, l2, l3, some .null, l5] (.null :: st) H Q := G_aloadN fX8_multiply_113 rfl
theorem fX8_multiply_115 : ft 83 115 = some (.aload 5, 0, 0, 0, .null) := by decide +kernel
theorem gX8_multiply_115 {l0 l1 l2 l3 l4 : Option Value} {u : Nat} {st : List Value} {H : HP} {Q : Option Value → HP → Prop} : Go 83 115 [l0, l1, l2, l3, l4, some (.ref u)] st H Q ↔ Go 83 117 [l0, l1, l2, l3, l4, some (.ref u)] (.ref u :: st) H Q := G_aload fX8_multiply_115 rfl
theorem gX8_multiply_115N {l0 l1 l2 l3 l4 : Option Value} {st : List Value} {H : HP} {Q : Option Value → HP → Prop} : Go 83 115 [l0, l1, l2, l3, l4, some .null] st H Q ↔ Go 83 117 [l0, l1, l2, l3, l4, some .null] (.null :: st) H Q := G_aloadN fX8_multiply_115 rfl
theorem fX8_multiply_117 : ft 83 117 = some (.invokevirtual 167, 45, 0, 456, .null) := by decide +kernel
theorem gX8_multiply_117 {L : List (Option Value)} {p : Nat} {a0 : Nat} {a1 : Nat}  {H : HP} {Q : Option Value → HP → Prop} : Go 83 117 L (.ref a1 :: .ref a0 :: .ref p :: []) H Q ↔ (iso 4 (hget H p) = true ∧ Go 45 0 [some (.ref p), some (.ref a0), some (.ref a1), none, none] [] H (Cont 83 120 L [] Q)) := G_cV (n := 2) (N := 5) (as := [.ref a1, .ref a0]) (st := []) fX8_multiply_117 (by decide +kernel) rfl (Nat.le_of_ble_eq_true rfl) (Nat.le_of_ble_eq_true rfl) rfl
theorem fX8_multiply_120 : ft 83 120 = some (.iload_n 3, 0, 0, 0, .null) := by decide +kernel
theorem gX8_multiply_120 {l0 l1 l2 l4 l5 : Option Value} {u : Int32} {st : List Value} {H : HP} {Q : Option Value → HP → Prop} : Go 83 120 [l0, l1, l2, some (.int u), l4, l5] st H Q ↔ Go 83 121 [l0, l1, l2, some (.int u), l4, l5] (.int u :: st) H Q := G_iload_n fX8_multiply_120 rfl
theorem fX8_multiply_121 : ft 83 121 = some (.iconst 1, 0, 0, 0, .null) := by decide +kernel
theorem gX8_multiply_121 {L : List (Option Value)} {st : List Value} {H : HP} {Q : Option Value → HP → Prop} : Go 83 121 L st H Q ↔ Go 83 122 L (vi 1 :: st) H Q := G_iconst fX8_multiply_121
theorem fX8_multiply_122 : ft 83 122 = some (.if_icmp .ne 14, 0, 0, 0, .null) := by decide +kernel
theorem gX8_multiply_122T {L : List (Option Value)} {a b : Int} (c : (-2147483648 ≤ a ∧ a ≤ 2147483647 ∧ -2147483648 ≤ b ∧ b ≤ 2147483647) ∧ ¬ a = b) {st : List Value} {H : HP} {Q : Option Value → HP → Prop} : Go 83 122 L (vi b :: vi a :: st) H Q ↔ Go 83 136 L st H Q := G_icT fX8_multiply_122 (by decide) c
theorem gX8_multiply_122F {L : List (Option Value)} {a b : Int} (c : (-2147483648 ≤ a ∧ a ≤ 2147483647 ∧ -2147483648 ≤ b ∧ b ≤ 2147483647) ∧ ¬ (¬ a = b)) {st : List Value} {H : HP} {Q : Option Value → HP → Prop} : Go 83 122 L (vi b :: vi a :: st) H Q ↔ Go 83 125 L st H Q := G_icF (tg := 136) fX8_multiply_122 (by decide) c
theorem fX8_multiply_125 : ft 83 125 = some (.aload_n 0, 0, 0, 0, .null) := by decide +kernel
theorem gX8_multiply_125 {l1 l2 l3 l4 l5 : Option Value} {u : Nat} {st : List Value} {H : HP} {Q : Option Value → HP → Prop} : Go 83 125 [some (.ref u), l1, l2, l3, l4, l5] st H Q ↔ Go 83 126 [some (.ref u), l1, l2, l3, l4, l5] (.ref u :: st) H Q := G_aload_n fX8_multiply_125 rfl
theorem fX8_multiply_126 : ft 83 126 = some (.getfield 81, 8, 2, 223, .null) := by decide +kernel
theorem gX8_multiply_126 {L : List (Option Value)} {p : Nat} {st : List Value} {H : HP} {Q : Option Value → HP → Prop} : Go 83 126 L (.ref p :: st) H Q ↔ Rd (gF' 8 2 (hget H p)) 83 129 L st H Q := G_getf fX8_multiply_126 ⟨rfl, rfl⟩
theorem fX8_multiply_129 : ft 83 129 = some (.aload 4, 0, 0, 0, .null) := by decide +kernel
theorem gX8_multiply_129 {l0 l1 l2 l3 l5 : Option Value} {u : Nat} {st : List Value} {H : HP} {Q : Option Value → HP → Prop} : Go 83 129 [l0, l1, l2, l3, some (.ref u), l5] st H Q ↔ Go 83 131 [l0, l1, l2, l3, some (.ref u), l5] (.ref u :: st) H Q := G_aload fX8_multiply_129 rfl
theorem gX8_multiply_129N {l0 l1 l2 l3 l5 : Option Value} {st : List Value} {H : HP} {Q : Option Value → HP → Prop} : Go 83 129 [l0, l1, l2, l3, some .null, l5] st H Q ↔ Go 83 131 [l0, l1, l2, l3, some .null, l5] (.null :: st) H Q := G_aloadN fX8_multiply_129 rfl
theorem fX8_multiply_131 : ft 83 131 = some (.aload 5, 0, 0, 0, .null) := by decide +kernel
theorem gX8_multiply_131 {l0 l1 l2 l3 l4 : Option Value} {u : Nat} {st : List Value} {H : HP} {Q : Option Value → HP → Prop} : Go 83 131 [l0, l1, l2, l3, l4, some (.ref u)] st H Q ↔ Go 83 133 [l0, l1, l2, l3, l4, some (.ref u)] (.ref u :: st) H Q := G_aload fX8_multiply_131 rfl
theorem gX8_multiply_131N {l0 l1 l2 l3 l4 : Option Value} {st : List Value} {H : HP} {Q : Option Value → HP → Prop} : Go 83 131 [l0, l1, l2, l3, l4, some .null] st H Q ↔ Go 83 133 [l0, l1, l2, l3, l4, some .null] (.null :: st) H Q := G_aloadN fX8_multiply_131 rfl
theorem fX8_multiply_133 : ft 83 133 = some (.invokevirtual 171, 47, 0, 478, .null) := by decide +kernel
theorem gX8_multiply_133 {L : List (Option Value)} {p : Nat} {a0 : Nat} {a1 : Nat}  {H : HP} {Q : Option Value → HP → Prop} : Go 83 133 L (.ref a1 :: .ref a0 :: .ref p :: []) H Q ↔ (iso 4 (hget H p) = true ∧ Go 47 0 [some (.ref p), some (.ref a0), some (.ref a1), none, none, none] [] H (Cont 83 136 L [] Q)) := G_cV (n := 2) (N := 6) (as := [.ref a1, .ref a0]) (st := []) fX8_multiply_133 (by decide +kernel) rfl (Nat.le_of_ble_eq_true rfl) (Nat.le_of_ble_eq_true rfl) rfl
theorem fX8_multiply_136 : ft 83 136 = some (.iload_n 3, 0, 0, 0, .null) := by decide +kernel
theorem gX8_multiply_136 {l0 l1 l2 l4 l5 : Option Value} {u : Int32} {st : List Value} {H : HP} {Q : Option Value → HP → Prop} : Go 83 136 [l0, l1, l2, some (.int u), l4, l5] st H Q ↔ Go 83 137 [l0, l1, l2, some (.int u), l4, l5] (.int u :: st) H Q := G_iload_n fX8_multiply_136 rfl
theorem fX8_multiply_137 : ft 83 137 = some (.iconst 2, 0, 0, 0, .null) := by decide +kernel
theorem gX8_multiply_137 {L : List (Option Value)} {st : List Value} {H : HP} {Q : Option Value → HP → Prop} : Go 83 137 L st H Q ↔ Go 83 138 L (vi 2 :: st) H Q := G_iconst fX8_multiply_137
theorem fX8_multiply_138 : ft 83 138 = some (.if_icmp .ne 14, 0, 0, 0, .null) := by decide +kernel
theorem gX8_multiply_138T {L : List (Option Value)} {a b : Int} (c : (-2147483648 ≤ a ∧ a ≤ 2147483647 ∧ -2147483648 ≤ b ∧ b ≤ 2147483647) ∧ ¬ a = b) {st : List Value} {H : HP} {Q : Option Value → HP → Prop} : Go 83 138 L (vi b :: vi a :: st) H Q ↔ Go 83 152 L st H Q := G_icT fX8_multiply_138 (by decide) c
theorem gX8_multiply_138F {L : List (Option Value)} {a b : Int} (c : (-2147483648 ≤ a ∧ a ≤ 2147483647 ∧ -2147483648 ≤ b ∧ b ≤ 2147483647) ∧ ¬ (¬ a = b)) {st : List Value} {H : HP} {Q : Option Value → HP → Prop} : Go 83 138 L (vi b :: vi a :: st) H Q ↔ Go 83 141 L st H Q := G_icF (tg := 152) fX8_multiply_138 (by decide) c
theorem fX8_multiply_141 : ft 83 141 = some (.aload_n 0, 0, 0, 0, .null) := by decide +kernel
theorem gX8_multiply_141 {l1 l2 l3 l4 l5 : Option Value} {u : Nat} {st : List Value} {H : HP} {Q : Option Value → HP → Prop} : Go 83 141 [some (.ref u), l1, l2, l3, l4, l5] st H Q ↔ Go 83 142 [some (.ref u), l1, l2, l3, l4, l5] (.ref u :: st) H Q := G_aload_n fX8_multiply_141 rfl
theorem fX8_multiply_142 : ft 83 142 = some (.getfield 81, 8, 2, 223, .null) := by decide +kernel
theorem gX8_multiply_142 {L : List (Option Value)} {p : Nat} {st : List Value} {H : HP} {Q : Option Value → HP → Prop} : Go 83 142 L (.ref p :: st) H Q ↔ Rd (gF' 8 2 (hget H p)) 83 145 L st H Q := G_getf fX8_multiply_142 ⟨rfl, rfl⟩
theorem fX8_multiply_145 : ft 83 145 = some (.aload 4, 0, 0, 0, .null) := by decide +kernel
theorem gX8_multiply_145 {l0 l1 l2 l3 l5 : Option Value} {u : Nat} {st : List Value} {H : HP} {Q : Option Value → HP → Prop} : Go 83 145 [l0, l1, l2, l3, some (.ref u), l5] st H Q ↔ Go 83 147 [l0, l1, l2, l3, some (.ref u), l5] (.ref u :: st) H Q := G_aload fX8_multiply_145 rfl
theorem gX8_multiply_145N {l0 l1 l2 l3 l5 : Option Value} {st : List Value} {H : HP} {Q : Option Value → HP → Prop} : Go 83 145 [l0, l1, l2, l3, some .null, l5] st H Q ↔ Go 83 147 [l0, l1, l2, l3, some .null, l5] (.null :: st) H Q := G_aloadN fX8_multiply_145 rfl
theorem fX8_multiply_147 : ft 83 147 = some (.aload 5, 0, 0, 0, .null) := by decide +kernel
theorem gX8_multiply_147 {l0 l1 l2 l3 l4 : Option Value} {u : Nat} {st : List Value} {H : HP} {Q : Option Value → HP → Prop} : Go 83 147 [l0, l1, l2, l3, l4, some (.ref u)] st H Q ↔ Go 83 149 [l0, l1, l2, l3, l4, some (.ref u)] (.ref u :: st) H Q := G_aload fX8_multiply_147 rfl
theorem gX8_multiply_147N {l0 l1 l2 l3 l4 : Option Value} {st : List Value} {H : HP} {Q : Option Value → HP → Prop} : Go 83 147 [l0, l1, l2, l3, l4, some .null] st H Q ↔ Go 83 149 [l0, l1, l2, l3, l4, some .null] (.null :: st) H Q := G_aloadN fX8_multiply_147 rfl
theorem fX8_multiply_149 : ft 83 149 = some (.invokevirtual 174, 48, 0, 512, .null) := by decide +kernel
theorem gX8_multiply_149 {L : List (Option Value)} {p : Nat} {a0 : Nat} {a1 : Nat}  {H : HP} {Q : Option Value → HP → Prop} : Go 83 149 L (.ref a1 :: .ref a0 :: .ref p :: []) H Q ↔ (iso 4 (hget H p) = true ∧ Go 48 0 [some (.ref p), some (.ref a0), some (.ref a1), none] [] H (Cont 83 152 L [] Q)) := G_cV (n := 2) (N := 4) (as := [.ref a1, .ref a0]) (st := []) fX8_multiply_149 (by decide +kernel) rfl (Nat.le_of_ble_eq_true rfl) (Nat.le_of_ble_eq_true rfl) rfl
theorem fX8_multiply_152 : ft 83 152 = some (.aload_n 0, 0, 0, 0, .null) := by decide +kernel
theorem gX8_multiply_152 {l1 l2 l3 l4 l5 : Option Value} {u : Nat} {st : List Value} {H : HP} {Q : Option Value → HP → Prop} : Go 83 152 [some (.ref u), l1, l2, l3, l4, l5] st H Q ↔ Go 83 153 [some (.ref u), l1, l2, l3, l4, l5] (.ref u :: st) H Q := G_aload_n fX8_multiply_152 rfl
theorem fX8_multiply_153 : ft 83 153 = some (.getfield 81, 8, 2, 223, .null) := by decide +kernel
theorem gX8_multiply_153 {L : List (Option Value)} {p : Nat} {st : List Value} {H : HP} {Q : Option Value → HP → Prop} : Go 83 153 L (.ref p :: st) H Q ↔ Rd (gF' 8 2 (hget H p)) 83 156 L st H Q := G_getf fX8_multiply_153 ⟨rfl, rfl⟩
theorem fX8_multiply_156 : ft 83 156 = some (.getfield 177, 4, 2, 195, .null) := by decide +kernel
theorem gX8_multiply_156 {L : List (Option Value)} {p : Nat} {st : List Value} {H : HP} {Q : Option Value → HP → Prop} : Go 83 156 L (.ref p :: st) H Q ↔ Rd (gF' 4 2 (hget H p)) 83 159 L st H Q := G_getf fX8_multiply_156 ⟨rfl, rfl⟩
theorem fX8_multiply_159 : ft 83 159 = some (.ireturn, 0, 0, 0, .null) := by decide +kernel
theorem gX8_multiply_159 {L : List (Option Value)} {u : Int32} {H : HP} {Q : Option Value → HP → Prop} : Go 83 159 L [.int u] H Q ↔ Q (some (.int u)) H := G_iret fX8_multiply_159 (by decide +kernel)
theorem fX8_circular_0 : ft 84 0 = some (.aload_n 0, 0, 0, 0, .null) := by decide +kernel
theorem gX8_circular_0 {l1 l2 l3 l4 l5 : Option Value} {u : Nat} {st : List Value} {H : HP} {Q : Option Value → HP → Prop} : Go 84 0 [some (.ref u), l1, l2, l3, l4, l5] st H Q ↔ Go 84 1 [some (.ref u), l1, l2, l3, l4, l5] (.ref u :: st) H Q := G_aload_n fX8_circular_0 rfl
theorem fX8_circular_1 : ft 84 1 = some (.iconst 0, 0, 0, 0, .null) := by decide +kernel
theorem gX8_circular_1 {L : List (Option Value)} {st : List Value} {H : HP} {Q : Option Value → HP → Prop} : Go 84 1 L st H Q ↔ Go 84 2 L (vi 0 :: st) H Q := G_iconst fX8_circular_1
theorem fX8_circular_2 : ft 84 2 = some (.putfield 64, 8, 12, 233, .null) := by decide +kernel
theorem gX8_circular_2 {L : List (Option Value)} {p : Nat} {u : Int32} (hp : p ≠ 0) {st : List Value} {H : HP} {Q : Option Value → HP → Prop} : Go 84 2 L (.int u :: .ref p :: st) H Q ↔ Wr (pF' 8 12 (hget H p) (.int u)) p 84 5 L st H Q := G_putf fX8_circular_2 ⟨⟨rfl, rfl⟩, rfl, Or.inl rfl⟩ hp
theorem fX8_circular_5 : ft 84 5 = some (.iload_n 1, 0, 0, 0, .null) := by decide +kernel
theorem gX8_circular_5 {l0 l2 l3 l4 l5 : Option Value} {u : Int32} {st : List Value} {H : HP} {Q : Option Value → HP → Prop} : Go 84 5 [l0, some (.int u), l2, l3, l4, l5] st H Q ↔ Go 84 6 [l0, some (.int u), l2, l3, l4, l5] (.int u :: st) H Q := G_iload_n fX8_circular_5 rfl
theorem fX8_circular_6 : ft 84 6 = some (.invokestatic 85, 108, 0, 265, .null) := by decide +kernel
theorem gX8_circular_6 {L : List (Option Value)} {a0 : Int32}  {H : HP} {Q : Option Value → HP → Prop} : Go 84 6 L (.int a0 :: []) H Q ↔ Go 108 0 [some (.int a0)] [] H (Cont 84 9 L [] Q) := G_cS (n := 1) (N := 1) (as := [.int a0]) (st := []) fX8_circular_6 (by decide +kernel) rfl (Nat.le_of_ble_eq_true rfl) (Nat.le_of_ble_eq_true rfl) rfl
theorem fX8_circular_9 : ft 84 9 = some (.ifCond .eq 10, 0, 0, 0, .null) := by decide +kernel
theorem gX8_circular_9T {L : List (Option Value)} {a : Int} (c : (-2147483648 ≤ a ∧ a ≤ 2147483647) ∧ a = 0) {st : List Value} {H : HP} {Q : Option Value → HP → Prop} : Go 84 9 L (vi a :: st) H Q ↔ Go 84 19 L st H Q := G_ifT fX8_circular_9 (by decide) c
theorem gX8_circular_9F {L : List (Option Value)} {a : Int} (c : (-2147483648 ≤ a ∧ a ≤ 2147483647) ∧ ¬ (a = 0)) {st : List Value} {H : HP} {Q : Option Value → HP → Prop} : Go 84 9 L (vi a :: st) H Q ↔ Go 84 12 L st H Q := G_ifF (tg := 19) fX8_circular_9 (by decide) c
theorem fX8_circular_12 : ft 84 12 = some (.iload_n 2, 0, 0, 0, .null) := by decide +kernel
theorem gX8_circular_12 {l0 l1 l3 l4 l5 : Option Value} {u : Int32} {st : List Value} {H : HP} {Q : Option Value → HP → Prop} : Go 84 12 [l0, l1, some (.int u), l3, l4, l5] st H Q ↔ Go 84 13 [l0, l1, some (.int u), l3, l4, l5] (.int u :: st) H Q := G_iload_n fX8_circular_12 rfl
theorem fX8_circular_13 : ft 84 13 = some (.invokestatic 85, 108, 0, 265, .null) := by decide +kernel
theorem gX8_circular_13 {L : List (Option Value)} {a0 : Int32}  {H : HP} {Q : Option Value → HP → Prop} : Go 84 13 L (.int a0 :: []) H Q ↔ Go 108 0 [some (.int a0)] [] H (Cont 84 16 L [] Q) := G_cS (n := 1) (N := 1) (as := [.int a0]) (st := []) fX8_circular_13 (by decide +kernel) rfl (Nat.le_of_ble_eq_true rfl) (Nat.le_of_ble_eq_true rfl) rfl
theorem fX8_circular_16 : ft 84 16 = some (.ifCond .ne 5, 0, 0, 0, .null) := by decide +kernel
theorem gX8_circular_16T {L : List (Option Value)} {a : Int} (c : (-2147483648 ≤ a ∧ a ≤ 2147483647) ∧ ¬ a = 0) {st : List Value} {H : HP} {Q : Option Value → HP → Prop} : Go 84 16 L (vi a :: st) H Q ↔ Go 84 21 L st H Q := G_ifT fX8_circular_16 (by decide) c
theorem gX8_circular_16F {L : List (Option Value)} {a : Int} (c : (-2147483648 ≤ a ∧ a ≤ 2147483647) ∧ ¬ (¬ a = 0)) {st : List Value} {H : HP} {Q : Option Value → HP → Prop} : Go 84 16 L (vi a :: st) H Q ↔ Go 84 19 L st H Q := G_ifF (tg := 21) fX8_circular_16 (by decide) c
theorem fX8_circular_19 : ft 84 19 = some (.iconst (-1), 0, 0, 0, .null) := by decide +kernel
theorem gX8_circular_19 {L : List (Option Value)} {st : List Value} {H : HP} {Q : Option Value → HP → Prop} : Go 84 19 L st H Q ↔ Go 84 20 L (vi (-1) :: st) H Q := G_iconst fX8_circular_19
theorem fX8_circular_20 : ft 84 20 = some (.ireturn, 0, 0, 0, .null) := by decide +kernel
theorem gX8_circular_20 {L : List (Option Value)} {u : Int32} {H : HP} {Q : Option Value → HP → Prop} : Go 84 20 L [.int u] H Q ↔ Q (some (.int u)) H := G_iret fX8_circular_20 (by decide +kernel)
theorem fX8_circular_21 : ft 84 21 = some (.iload_n 3, 0, 0, 0, .null) := by decide +kernel
theorem gX8_circular_21 {l0 l1 l2 l4 l5 : Option Value} {u : Int32} {st : List Value} {H : HP} {Q : Option Value → HP → Prop} : Go 84 21 [l0, l1, l2, some (.int u), l4, l5] st H Q ↔ Go 84 22 [l0, l1, l2, some (.int u), l4, l5] (.int u :: st) H Q := G_iload_n fX8_circular_21 rfl
theorem fX8_circular_22 : ft 84 22 = some (.invokestatic 133, 112, 0, 373, .null) := by decide +kernel
theorem gX8_circular_22 {L : List (Option Value)} {a0 : Int32}  {H : HP} {Q : Option Value → HP → Prop} : Go 84 22 L (.int a0 :: []) H Q ↔ Go 112 0 [some (.int a0)] [] H (Cont 84 25 L [] Q) := G_cS (n := 1) (N := 1) (as := [.int a0]) (st := []) fX8_circular_22 (by decide +kernel) rfl (Nat.le_of_ble_eq_true rfl) (Nat.le_of_ble_eq_true rfl) rfl
theorem fX8_circular_25 : ft 84 25 = some (.ifCond .ne 6, 0, 0, 0, .null) := by decide +kernel
theorem gX8_circular_25T {L : List (Option Value)} {a : Int} (c : (-2147483648 ≤ a ∧ a ≤ 2147483647) ∧ ¬ a = 0) {st : List Value} {H : HP} {Q : Option Value → HP → Prop} : Go 84 25 L (vi a :: st) H Q ↔ Go 84 31 L st H Q := G_ifT fX8_circular_25 (by decide) c
theorem gX8_circular_25F {L : List (Option Value)} {a : Int} (c : (-2147483648 ≤ a ∧ a ≤ 2147483647) ∧ ¬ (¬ a = 0)) {st : List Value} {H : HP} {Q : Option Value → HP → Prop} : Go 84 25 L (vi a :: st) H Q ↔ Go 84 28 L st H Q := G_ifF (tg := 31) fX8_circular_25 (by decide) c
theorem fX8_circular_28 : ft 84 28 = some (.bipush (-2), 0, 0, 0, .null) := by decide +kernel
theorem gX8_circular_28 {L : List (Option Value)} {st : List Value} {H : HP} {Q : Option Value → HP → Prop} : Go 84 28 L st H Q ↔ Go 84 30 L (vi (-2) :: st) H Q := G_bipush fX8_circular_28 (by decide)
theorem fX8_circular_30 : ft 84 30 = some (.ireturn, 0, 0, 0, .null) := by decide +kernel
theorem gX8_circular_30 {L : List (Option Value)} {u : Int32} {H : HP} {Q : Option Value → HP → Prop} : Go 84 30 L [.int u] H Q ↔ Q (some (.int u)) H := G_iret fX8_circular_30 (by decide +kernel)
theorem fX8_circular_31 : ft 84 31 = some (.aload_n 0, 0, 0, 0, .null) := by decide +kernel
theorem gX8_circular_31 {l1 l2 l3 l4 l5 : Option Value} {u : Nat} {st : List Value} {H : HP} {Q : Option Value → HP → Prop} : Go 84 31 [some (.ref u), l1, l2, l3, l4, l5] st H Q ↔ Go 84 32 [some (.ref u), l1, l2, l3, l4, l5] (.ref u :: st) H Q := G_aload_n fX8_circular_31 rfl
theorem fX8_circular_32 : ft 84 32 = some (.getfield 11, 8, 0, 221, .null) := by decide +kernel
theorem gX8_circular_32 {L : List (Option Value)} {p : Nat} {st : List Value} {H : HP} {Q : Option Value → HP → Prop} : Go 84 32 L (.ref p :: st) H Q ↔ Rd (gF' 8 0 (hget H p)) 84 35 L st H Q := G_getf fX8_circular_32 ⟨rfl, rfl⟩
theorem fX8_circular_35 : ft 84 35 = some (.iload_n 1, 0, 0, 0, .null) := by decide +kernel
theorem gX8_circular_35 {l0 l2 l3 l4 l5 : Option Value} {u : Int32} {st : List Value} {H : HP} {Q : Option Value → HP → Prop} : Go 84 35 [l0, some (.int u), l2, l3, l4, l5] st H Q ↔ Go 84 36 [l0, some (.int u), l2, l3, l4, l5] (.int u :: st) H Q := G_iload_n fX8_circular_35 rfl
theorem fX8_circular_36 : ft 84 36 = some (.aaload, 0, 0, 0, .null) := by decide +kernel
theorem gX8_circular_36 {L : List (Option Value)} {p : Nat} {a : Int} {st : List Value} {H : HP} {Q : Option Value → HP → Prop} : Go 84 36 L (vi a :: .ref p :: st) H Q ↔ Rd (aR' (hget H p) a) 84 37 L st H Q := G_aald fX8_circular_36
theorem fX8_circular_37 : ft 84 37 = some (.astore 4, 0, 0, 0, .null) := by decide +kernel
theorem gX8_circular_37 {l0 l1 l2 l3 l4 l5 : Option Value} {u : Nat} {st : List Value} {H : HP} {Q : Option Value → HP → Prop} : Go 84 37 [l0, l1, l2, l3, l4, l5] (.ref u :: st) H Q ↔ Go 84 39 [l0, l1, l2, l3, some (.ref u), l5] st H Q := G_astore fX8_circular_37 rfl
theorem gX8_circular_37N {l0 l1 l2 l3 l4 l5 : Option Value} {st : List Value} {H : HP} {Q : Option Value → HP → Prop} : Go 84 37 [l0, l1, l2, l3, l4, l5] (.null :: st) H Q ↔ Go 84 39 [l0, l1, l2, l3, some .null, l5] st H Q := G_astoreN fX8_circular_37 rfl
theorem fX8_circular_39 : ft 84 39 = some (.aload_n 0, 0, 0, 0, .null) := by decide +kernel
theorem gX8_circular_39 {l1 l2 l3 l4 l5 : Option Value} {u : Nat} {st : List Value} {H : HP} {Q : Option Value → HP → Prop} : Go 84 39 [some (.ref u), l1, l2, l3, l4, l5] st H Q ↔ Go 84 40 [some (.ref u), l1, l2, l3, l4, l5] (.ref u :: st) H Q := G_aload_n fX8_circular_39 rfl
theorem fX8_circular_40 : ft 84 40 = some (.getfield 11, 8, 0, 221, .null) := by decide +kernel
theorem gX8_circular_40 {L : List (Option Value)} {p : Nat} {st : List Value} {H : HP} {Q : Option Value → HP → Prop} : Go 84 40 L (.ref p :: st) H Q ↔ Rd (gF' 8 0 (hget H p)) 84 43 L st H Q := G_getf fX8_circular_40 ⟨rfl, rfl⟩
theorem fX8_circular_43 : ft 84 43 = some (.iload_n 2, 0, 0, 0, .null) := by decide +kernel
theorem gX8_circular_43 {l0 l1 l3 l4 l5 : Option Value} {u : Int32} {st : List Value} {H : HP} {Q : Option Value → HP → Prop} : Go 84 43 [l0, l1, some (.int u), l3, l4, l5] st H Q ↔ Go 84 44 [l0, l1, some (.int u), l3, l4, l5] (.int u :: st) H Q := G_iload_n fX8_circular_43 rfl
theorem fX8_circular_44 : ft 84 44 = some (.aaload, 0, 0, 0, .null) := by decide +kernel
theorem gX8_circular_44 {L : List (Option Value)} {p : Nat} {a : Int} {st : List Value} {H : HP} {Q : Option Value → HP → Prop} : Go 84 44 L (vi a :: .ref p :: st) H Q ↔ Rd (aR' (hget H p) a) 84 45 L st H Q := G_aald fX8_circular_44
theorem fX8_circular_45 : ft 84 45 = some (.astore 5, 0, 0, 0, .null) := by decide +kernel
theorem gX8_circular_45 {l0 l1 l2 l3 l4 l5 : Option Value} {u : Nat} {st : List Value} {H : HP} {Q : Option Value → HP → Prop} : Go 84 45 [l0, l1, l2, l3, l4, l5] (.ref u :: st) H Q ↔ Go 84 47 [l0, l1, l2, l3, l4, some (.ref u)] st H Q := G_astore fX8_circular_45 rfl
theorem gX8_circular_45N {l0 l1 l2 l3 l4 l5 : Option Value} {st : List Value} {H : HP} {Q : Option Value → HP → Prop} : Go 84 45 [l0, l1, l2, l3, l4, l5] (.null :: st) H Q ↔ Go 84 47 [l0, l1, l2, l3, l4, some .null] st H Q := G_astoreN fX8_circular_45 rfl
theorem fX8_circular_47 : ft 84 47 = some (.aload 4, 0, 0, 0, .null) := by decide +kernel
theorem gX8_circular_47 {l0 l1 l2 l3 l5 : Option Value} {u : Nat} {st : List Value} {H : HP} {Q : Option Value → HP → Prop} : Go 84 47 [l0, l1, l2, l3, some (.ref u), l5] st H Q ↔ Go 84 49 [l0, l1, l2, l3, some (.ref u), l5] (.ref u :: st) H Q := G_aload fX8_circular_47 rfl
theorem gX8_circular_47N {l0 l1 l2 l3 l5 : Option Value} {st : List Value} {H : HP} {Q : Option Value → HP → Prop} : Go 84 47 [l0, l1, l2, l3, some .null, l5] st H Q ↔ Go 84 49 [l0, l1, l2, l3, some .null, l5] (.null :: st) H Q := G_aloadN fX8_circular_47 rfl
theorem fX8_circular_49 : ft 84 49 = some (.ifnull 8, 0, 0, 0, .null) := by decide +kernel
theorem gX8_circular_49T {L : List (Option Value)} {st : List Value} {H : HP} {Q : Option Value → HP → Prop} : Go 84 49 L (.null :: st) H Q ↔ Go 84 57 L st H Q := G_nullT fX8_circular_49 (by decide)
theorem gX8_circular_49F {L : List (Option Value)} {p : Nat} {st : List Value} {H : HP} {Q : Option Value → HP → Prop} : Go 84 49 L ((.ref p) :: st) H Q ↔ Go 84 52 L st H Q := G_nullF (tg := 57) fX8_circular_49 (by decide)
theorem fX8_circular_52 : ft 84 52 = some (.aload 5, 0, 0, 0, .null) := by decide +kernel
theorem gX8_circular_52 {l0 l1 l2 l3 l4 : Option Value} {u : Nat} {st : List Value} {H : HP} {Q : Option Value → HP → Prop} : Go 84 52 [l0, l1, l2, l3, l4, some (.ref u)] st H Q ↔ Go 84 54 [l0, l1, l2, l3, l4, some (.ref u)] (.ref u :: st) H Q := G_aload fX8_circular_52 rfl
theorem gX8_circular_52N {l0 l1 l2 l3 l4 : Option Value} {st : List Value} {H : HP} {Q : Option Value → HP → Prop} : Go 84 52 [l0, l1, l2, l3, l4, some .null] st H Q ↔ Go 84 54 [l0, l1, l2, l3, l4, some .null] (.null :: st) H Q := G_aloadN fX8_circular_52 rfl
theorem fX8_circular_54 : ft 84 54 = some (.ifnonnull 9, 0, 0, 0, .null) := by decide +kernel
theorem gX8_circular_54T {L : List (Option Value)} {p : Nat} {st : List Value} {H : HP} {Q : Option Value → HP → Prop} : Go 84 54 L ((.ref p) :: st) H Q ↔ Go 84 63 L st H Q := G_nnT fX8_circular_54 (by decide)
theorem gX8_circular_54F {L : List (Option Value)} {st : List Value} {H : HP} {Q : Option Value → HP → Prop} : Go 84 54 L (.null :: st) H Q ↔ Go 84 57 L st H Q := G_nnF (tg := 63) fX8_circular_54 (by decide)
theorem fX8_circular_57 : ft 84 57 = some (.aload_n 0, 0, 0, 0, .null) := by decide +kernel
theorem gX8_circular_57 {l1 l2 l3 l4 l5 : Option Value} {u : Nat} {st : List Value} {H : HP} {Q : Option Value → HP → Prop} : Go 84 57 [some (.ref u), l1, l2, l3, l4, l5] st H Q ↔ Go 84 58 [some (.ref u), l1, l2, l3, l4, l5] (.ref u :: st) H Q := G_aload_n fX8_circular_57 rfl
theorem fX8_circular_58 : ft 84 58 = some (.iconst 1, 0, 0, 0, .null) := by decide +kernel
theorem gX8_circular_58 {L : List (Option Value)} {st : List Value} {H : HP} {Q : Option Value → HP → Prop} : Go 84 58 L st H Q ↔ Go 84 59 L (vi 1 :: st) H Q := G_iconst fX8_circular_58
theorem fX8_circular_59 : ft 84 59 = some (.invokevirtual 92, 105, 0, 271, .null) := by decide +kernel
theorem gX8_circular_59 {L : List (Option Value)} {p : Nat} {a0 : Int32}  {H : HP} {Q : Option Value → HP → Prop} : Go 84 59 L (.int a0 :: .ref p :: []) H Q ↔ (iso 8 (hget H p) = true ∧ Go 105 0 [some (.ref p), some (.int a0)] [] H (Cont 84 62 L [] Q)) := G_cV (n := 1) (N := 2) (as := [.int a0]) (st := []) fX8_circular_59 (by decide +kernel) rfl (Nat.le_of_ble_eq_true rfl) (Nat.le_of_ble_eq_true rfl) rfl
theorem fX8_circular_62 : ft 84 62 = some (.ireturn, 0, 0, 0, .null) := by decide +kernel
theorem gX8_circular_62 {L : List (Option Value)} {u : Int32} {H : HP} {Q : Option Value → HP → Prop} : Go 84 62 L [.int u] H Q ↔ Q (some (.int u)) H := G_iret fX8_circular_62 (by decide +kernel)
theorem fX8_circular_63 : ft 84 63 = some (.aload 4, 0, 0, 0, .null) := by decide +kernel
theorem gX8_circular_63 {l0 l1 l2 l3 l5 : Option Value} {u : Nat} {st : List Value} {H : HP} {Q : Option Value → HP → Prop} : Go 84 63 [l0, l1, l2, l3, some (.ref u), l5] st H Q ↔ Go 84 65 [l0, l1, l2, l3, some (.ref u), l5] (.ref u :: st) H Q := G_aload fX8_circular_63 rfl
theorem gX8_circular_63N {l0 l1 l2 l3 l5 : Option Value} {st : List Value} {H : HP} {Q : Option Value → HP → Prop} : Go 84 63 [l0, l1, l2, l3, some .null, l5] st H Q ↔ Go 84 65 [l0, l1, l2, l3, some .null, l5] (.null :: st) H Q := G_aloadN fX8_circular_63 rfl
theorem fX8_circular_65 : ft 84 65 = some (.getfield 99, 5, 0, 282, .null) := by decide +kernel
theorem gX8_circular_65 {L : List (Option Value)} {p : Nat} {st : List Value} {H : HP} {Q : Option Value → HP → Prop} : Go 84 65 L (.ref p :: st) H Q ↔ Rd (gF' 5 0 (hget H p)) 84 68 L st H Q := G_getf fX8_circular_65 ⟨rfl, rfl⟩
theorem fX8_circular_68 : ft 84 68 = some (.iconst 2, 0, 0, 0, .null) := by decide +kernel
theorem gX8_circular_68 {L : List (Option Value)} {st : List Value} {H : HP} {Q : Option Value → HP → Prop} : Go 84 68 L st H Q ↔ Go 84 69 L (vi 2 :: st) H Q := G_iconst fX8_circular_68
theorem fX8_circular_69 : ft 84 69 = some (.if_icmp .gt 12, 0, 0, 0, .null) := by decide +kernel
theorem gX8_circular_69T {L : List (Option Value)} {a b : Int} (c : (-2147483648 ≤ a ∧ a ≤ 2147483647 ∧ -2147483648 ≤ b ∧ b ≤ 2147483647) ∧ b < a) {st : List Value} {H : HP} {Q : Option Value → HP → Prop} : Go 84 69 L (vi b :: vi a :: st) H Q ↔ Go 84 81 L st H Q := G_icT fX8_circular_69 (by decide) c
theorem gX8_circular_69F {L : List (Option Value)} {a b : Int} (c : (-2147483648 ≤ a ∧ a ≤ 2147483647 ∧ -2147483648 ≤ b ∧ b ≤ 2147483647) ∧ ¬ (b < a)) {st : List Value} {H : HP} {Q : Option Value → HP → Prop} : Go 84 69 L (vi b :: vi a :: st) H Q ↔ Go 84 72 L st H Q := G_icF (tg := 81) fX8_circular_69 (by decide) c
theorem fX8_circular_72 : ft 84 72 = some (.aload 5, 0, 0, 0, .null) := by decide +kernel
theorem gX8_circular_72 {l0 l1 l2 l3 l4 : Option Value} {u : Nat} {st : List Value} {H : HP} {Q : Option Value → HP → Prop} : Go 84 72 [l0, l1, l2, l3, l4, some (.ref u)] st H Q ↔ Go 84 74 [l0, l1, l2, l3, l4, some (.ref u)] (.ref u :: st) H Q := G_aload fX8_circular_72 rfl
theorem gX8_circular_72N {l0 l1 l2 l3 l4 : Option Value} {st : List Value} {H : HP} {Q : Option Value → HP → Prop} : Go 84 72 [l0, l1, l2, l3, l4, some .null] st H Q ↔ Go 84 74 [l0, l1, l2, l3, l4, some .null] (.null :: st) H Q := G_aloadN fX8_circular_72 rfl
theorem fX8_circular_74 : ft 84 74 = some (.getfield 99, 5, 0, 282, .null) := by decide +kernel
theorem gX8_circular_74 {L : List (Option Value)} {p : Nat} {st : List Value} {H : HP} {Q : Option Value → HP → Prop} : Go 84 74 L (.ref p :: st) H Q ↔ Rd (gF' 5 0 (hget H p)) 84 77 L st H Q := G_getf fX8_circular_74 ⟨rfl, rfl⟩
theorem fX8_circular_77 : ft 84 77 = some (.iconst 2, 0, 0, 0, .null) := by decide +kernel
theorem gX8_circular_77 {L : List (Option Value)} {st : List Value} {H : HP} {Q : Option Value → HP → Prop} : Go 84 77 L st H Q ↔ Go 84 78 L (vi 2 :: st) H Q := G_iconst fX8_circular_77
theorem fX8_circular_78 : ft 84 78 = some (.if_icmp .le 9, 0, 0, 0, .null) := by decide +kernel
theorem gX8_circular_78T {L : List (Option Value)} {a b : Int} (c : (-2147483648 ≤ a ∧ a ≤ 2147483647 ∧ -2147483648 ≤ b ∧ b ≤ 2147483647) ∧ a ≤ b) {st : List Value} {H : HP} {Q : Option Value → HP → Prop} : Go 84 78 L (vi b :: vi a :: st) H Q ↔ Go 84 87 L st H Q := G_icT fX8_circular_78 (by decide) c
theorem gX8_circular_78F {L : List (Option Value)} {a b : Int} (c : (-2147483648 ≤ a ∧ a ≤ 2147483647 ∧ -2147483648 ≤ b ∧ b ≤ 2147483647) ∧ ¬ (a ≤ b)) {st : List Value} {H : HP} {Q : Option Value → HP → Prop} : Go 84 78 L (vi b :: vi a :: st) H Q ↔ Go 84 81 L st H Q := G_icF (tg := 87) fX8_circular_78 (by decide) c
theorem fX8_circular_81 : ft 84 81 = some (.aload_n 0, 0, 0, 0, .null) := by decide +kernel
theorem gX8_circular_81 {l1 l2 l3 l4 l5 : Option Value} {u : Nat} {st : List Value} {H : HP} {Q : Option Value → HP → Prop} : Go 84 81 [some (.ref u), l1, l2, l3, l4, l5] st H Q ↔ Go 84 82 [some (.ref u), l1, l2, l3, l4, l5] (.ref u :: st) H Q := G_aload_n fX8_circular_81 rfl
theorem fX8_circular_82 : ft 84 82 = some (.iconst 2, 0, 0, 0, .null) := by decide +kernel
theorem gX8_circular_82 {L : List (Option Value)} {st : List Value} {H : HP} {Q : Option Value → HP → Prop} : Go 84 82 L st H Q ↔ Go 84 83 L (vi 2 :: st) H Q := G_iconst fX8_circular_82
theorem fX8_circular_83 : ft 84 83 = some (.invokevirtual 92, 105, 0, 271, .null) := by decide +kernel
theorem gX8_circular_83 {L : List (Option Value)} {p : Nat} {a0 : Int32}  {H : HP} {Q : Option Value → HP → Prop} : Go 84 83 L (.int a0 :: .ref p :: []) H Q ↔ (iso 8 (hget H p) = true ∧ Go 105 0 [some (.ref p), some (.int a0)] [] H (Cont 84 86 L [] Q)) := G_cV (n := 1) (N := 2) (as := [.int a0]) (st := []) fX8_circular_83 (by decide +kernel) rfl (Nat.le_of_ble_eq_true rfl) (Nat.le_of_ble_eq_true rfl) rfl
theorem fX8_circular_86 : ft 84 86 = some (.ireturn, 0, 0, 0, .null) := by decide +kernel
theorem gX8_circular_86 {L : List (Option Value)} {u : Int32} {H : HP} {Q : Option Value → HP → Prop} : Go 84 86 L [.int u] H Q ↔ Q (some (.int u)) H := G_iret fX8_circular_86 (by decide +kernel)
theorem fX8_circular_87 : ft 84 87 = some (.aload_n 0, 0, 0, 0, .null) := by decide +kernel
theorem gX8_circular_87 {l1 l2 l3 l4 l5 : Option Value} {u : Nat} {st : List Value} {H : HP} {Q : Option Value → HP → Prop} : Go 84 87 [some (.ref u), l1, l2, l3, l4, l5] st H Q ↔ Go 84 88 [some (.ref u), l1, l2, l3, l4, l5] (.ref u :: st) H Q := G_aload_n fX8_circular_87 rfl
theorem fX8_circular_88 : ft 84 88 = some (.getfield 81, 8, 2, 223, .null) := by decide +kernel
theorem gX8_circular_88 {L : List (Option Value)} {p : Nat} {st : List Value} {H : HP} {Q : Option Value → HP → Prop} : Go 84 88 L (.ref p :: st) H Q ↔ Rd (gF' 8 2 (hget H p)) 84 91 L st H Q := G_getf fX8_circular_88 ⟨rfl, rfl⟩
theorem fX8_circular_91 : ft 84 91 = some (.aload 4, 0, 0, 0, .null) := by decide +kernel
theorem gX8_circular_91 {l0 l1 l2 l3 l5 : Option Value} {u : Nat} {st : List Value} {H : HP} {Q : Option Value → HP → Prop} : Go 84 91 [l0, l1, l2, l3, some (.ref u), l5] st H Q ↔ Go 84 93 [l0, l1, l2, l3, some (.ref u), l5] (.ref u :: st) H Q := G_aload fX8_circular_91 rfl
theorem gX8_circular_91N {l0 l1 l2 l3 l5 : Option Value} {st : List Value} {H : HP} {Q : Option Value → HP → Prop} : Go 84 91 [l0, l1, l2, l3, some .null, l5] st H Q ↔ Go 84 93 [l0, l1, l2, l3, some .null, l5] (.null :: st) H Q := G_aloadN fX8_circular_91 rfl
theorem fX8_circular_93 : ft 84 93 = some (.aload 5, 0, 0, 0, .null) := by decide +kernel
theorem gX8_circular_93 {l0 l1 l2 l3 l4 : Option Value} {u : Nat} {st : List Value} {H : HP} {Q : Option Value → HP → Prop} : Go 84 93 [l0, l1, l2, l3, l4, some (.ref u)] st H Q ↔ Go 84 95 [l0, l1, l2, l3, l4, some (.ref u)] (.ref u :: st) H Q := G_aload fX8_circular_93 rfl
theorem gX8_circular_93N {l0 l1 l2 l3 l4 : Option Value} {st : List Value} {H : HP} {Q : Option Value → HP → Prop} : Go 84 93 [l0, l1, l2, l3, l4, some .null] st H Q ↔ Go 84 95 [l0, l1, l2, l3, l4, some .null] (.null :: st) H Q := G_aloadN fX8_circular_93 rfl
theorem fX8_circular_95 : ft 84 95 = some (.iload_n 3, 0, 0, 0, .null) := by decide +kernel
theorem gX8_circular_95 {l0 l1 l2 l4 l5 : Option Value} {u : Int32} {st : List Value} {H : HP} {Q : Option Value → HP → Prop} : Go 84 95 [l0, l1, l2, some (.int u), l4, l5] st H Q ↔ Go 84 96 [l0, l1, l2, some (.int u), l4, l5] (.int u :: st) H Q := G_iload_n fX8_circular_95 rfl
theorem fX8_circular_96 : ft 84 96 = some (.invokevirtual 178, 50, 0, 533, .null) := by decide +kernel
theorem gX8_circular_96 {L : List (Option Value)} {p : Nat} {a0 : Nat} {a1 : Nat} {a2 : Int32}  {H : HP} {Q : Option Value → HP → Prop} : Go 84 96 L (.int a2 :: .ref a1 :: .ref a0 :: .ref p :: []) H Q ↔ (iso 4 (hget H p) = true ∧ Go 50 0 [some (.ref p), some (.ref a0), some (.ref a1), some (.int a2), none, none, none] [] H (Cont 84 99 L [] Q)) := G_cV (n := 3) (N := 7) (as := [.int a2, .ref a1, .ref a0]) (st := []) fX8_circular_96 (by decide +kernel) rfl (Nat.le_of_ble_eq_true rfl) (Nat.le_of_ble_eq_true rfl) rfl
theorem fX8_circular_99 : ft 84 99 = some (.aload_n 0, 0, 0, 0, .null) := by decide +kernel
theorem gX8_circular_99 {l1 l2 l3 l4 l5 : Option Value} {u : Nat} {st : List Value} {H : HP} {Q : Option Value → HP → Prop} : Go 84 99 [some (.ref u), l1, l2, l3, l4, l5] st H Q ↔ Go 84 100 [some (.ref u), l1, l2, l3, l4, l5] (.ref u :: st) H Q := G_aload_n fX8_circular_99 rfl
theorem fX8_circular_100 : ft 84 100 = some (.getfield 81, 8, 2, 223, .null) := by decide +kernel
theorem gX8_circular_100 {L : List (Option Value)} {p : Nat} {st : List Value} {H : HP} {Q : Option Value → HP → Prop} : Go 84 100 L (.ref p :: st) H Q ↔ Rd (gF' 8 2 (hget H p)) 84 103 L st H Q := G_getf fX8_circular_100 ⟨rfl, rfl⟩
theorem fX8_circular_103 : ft 84 103 = some (.getfield 177, 4, 2, 195, .null) := by decide +kernel
theorem gX8_circular_103 {L : List (Option Value)} {p : Nat} {st : List Value} {H : HP} {Q : Option Value → HP → Prop} : Go 84 103 L (.ref p :: st) H Q ↔ Rd (gF' 4 2 (hget H p)) 84 106 L st H Q := G_getf fX8_circular_103 ⟨rfl, rfl⟩
theorem fX8_circular_106 : ft 84 106 = some (.ireturn, 0, 0, 0, .null) := by decide +kernel
theorem gX8_circular_106 {L : List (Option Value)} {u : Int32} {H : HP} {Q : Option Value → HP → Prop} : Go 84 106 L [.int u] H Q ↔ Q (some (.int u)) H := G_iret fX8_circular_106 (by decide +kernel)
theorem fX8_correlate_0 : ft 85 0 = some (.aload_n 0, 0, 0, 0, .null) := by decide +kernel
theorem gX8_correlate_0 {l1 l2 l3 l4 : Option Value} {u : Nat} {st : List Value} {H : HP} {Q : Option Value → HP → Prop} : Go 85 0 [some (.ref u), l1, l2, l3, l4] st H Q ↔ Go 85 1 [some (.ref u), l1, l2, l3, l4] (.ref u :: st) H Q := G_aload_n fX8_correlate_0 rfl
theorem fX8_correlate_1 : ft 85 1 = some (.iconst 0, 0, 0, 0, .null) := by decide +kernel
theorem gX8_correlate_1 {L : List (Option Value)} {st : List Value} {H : HP} {Q : Option Value → HP → Prop} : Go 85 1 L st H Q ↔ Go 85 2 L (vi 0 :: st) H Q := G_iconst fX8_correlate_1
theorem fX8_correlate_2 : ft 85 2 = some (.putfield 64, 8, 12, 233, .null) := by decide +kernel
theorem gX8_correlate_2 {L : List (Option Value)} {p : Nat} {u : Int32} (hp : p ≠ 0) {st : List Value} {H : HP} {Q : Option Value → HP → Prop} : Go 85 2 L (.int u :: .ref p :: st) H Q ↔ Wr (pF' 8 12 (hget H p) (.int u)) p 85 5 L st H Q := G_putf fX8_correlate_2 ⟨⟨rfl, rfl⟩, rfl, Or.inl rfl⟩ hp
theorem fX8_correlate_5 : ft 85 5 = some (.iload_n 1, 0, 0, 0, .null) := by decide +kernel
theorem gX8_correlate_5 {l0 l2 l3 l4 : Option Value} {u : Int32} {st : List Value} {H : HP} {Q : Option Value → HP → Prop} : Go 85 5 [l0, some (.int u), l2, l3, l4] st H Q ↔ Go 85 6 [l0, some (.int u), l2, l3, l4] (.int u :: st) H Q := G_iload_n fX8_correlate_5 rfl
theorem fX8_correlate_6 : ft 85 6 = some (.invokestatic 85, 108, 0, 265, .null) := by decide +kernel
theorem gX8_correlate_6 {L : List (Option Value)} {a0 : Int32}  {H : HP} {Q : Option Value → HP → Prop} : Go 85 6 L (.int a0 :: []) H Q ↔ Go 108 0 [some (.int a0)] [] H (Cont 85 9 L [] Q) := G_cS (n := 1) (N := 1) (as := [.int a0]) (st := []) fX8_correlate_6 (by decide +kernel) rfl (Nat.le_of_ble_eq_true rfl) (Nat.le_of_ble_eq_true rfl) rfl
theorem fX8_correlate_9 : ft 85 9 = some (.ifCond .eq 10, 0, 0, 0, .null) := by decide +kernel
theorem gX8_correlate_9T {L : List (Option Value)} {a : Int} (c : (-2147483648 ≤ a ∧ a ≤ 2147483647) ∧ a = 0) {st : List Value} {H : HP} {Q : Option Value → HP → Prop} : Go 85 9 L (vi a :: st) H Q ↔ Go 85 19 L st H Q := G_ifT fX8_correlate_9 (by decide) c
theorem gX8_correlate_9F {L : List (Option Value)} {a : Int} (c : (-2147483648 ≤ a ∧ a ≤ 2147483647) ∧ ¬ (a = 0)) {st : List Value} {H : HP} {Q : Option Value → HP → Prop} : Go 85 9 L (vi a :: st) H Q ↔ Go 85 12 L st H Q := G_ifF (tg := 19) fX8_correlate_9 (by decide) c
theorem fX8_correlate_12 : ft 85 12 = some (.iload_n 2, 0, 0, 0, .null) := by decide +kernel
theorem gX8_correlate_12 {l0 l1 l3 l4 : Option Value} {u : Int32} {st : List Value} {H : HP} {Q : Option Value → HP → Prop} : Go 85 12 [l0, l1, some (.int u), l3, l4] st H Q ↔ Go 85 13 [l0, l1, some (.int u), l3, l4] (.int u :: st) H Q := G_iload_n fX8_correlate_12 rfl
theorem fX8_correlate_13 : ft 85 13 = some (.invokestatic 85, 108, 0, 265, .null) := by decide +kernel
theorem gX8_correlate_13 {L : List (Option Value)} {a0 : Int32}  {H : HP} {Q : Option Value → HP → Prop} : Go 85 13 L (.int a0 :: []) H Q ↔ Go 108 0 [some (.int a0)] [] H (Cont 85 16 L [] Q) := G_cS (n := 1) (N := 1) (as := [.int a0]) (st := []) fX8_correlate_13 (by decide +kernel) rfl (Nat.le_of_ble_eq_true rfl) (Nat.le_of_ble_eq_true rfl) rfl
theorem fX8_correlate_16 : ft 85 16 = some (.ifCond .ne 5, 0, 0, 0, .null) := by decide +kernel
theorem gX8_correlate_16T {L : List (Option Value)} {a : Int} (c : (-2147483648 ≤ a ∧ a ≤ 2147483647) ∧ ¬ a = 0) {st : List Value} {H : HP} {Q : Option Value → HP → Prop} : Go 85 16 L (vi a :: st) H Q ↔ Go 85 21 L st H Q := G_ifT fX8_correlate_16 (by decide) c
theorem gX8_correlate_16F {L : List (Option Value)} {a : Int} (c : (-2147483648 ≤ a ∧ a ≤ 2147483647) ∧ ¬ (¬ a = 0)) {st : List Value} {H : HP} {Q : Option Value → HP → Prop} : Go 85 16 L (vi a :: st) H Q ↔ Go 85 19 L st H Q := G_ifF (tg := 21) fX8_correlate_16 (by decide) c
theorem fX8_correlate_19 : ft 85 19 = some (.iconst (-1), 0, 0, 0, .null) := by decide +kernel
theorem gX8_correlate_19 {L : List (Option Value)} {st : List Value} {H : HP} {Q : Option Value → HP → Prop} : Go 85 19 L st H Q ↔ Go 85 20 L (vi (-1) :: st) H Q := G_iconst fX8_correlate_19
theorem fX8_correlate_20 : ft 85 20 = some (.ireturn, 0, 0, 0, .null) := by decide +kernel
theorem gX8_correlate_20 {L : List (Option Value)} {u : Int32} {H : HP} {Q : Option Value → HP → Prop} : Go 85 20 L [.int u] H Q ↔ Q (some (.int u)) H := G_iret fX8_correlate_20 (by decide +kernel)
theorem fX8_correlate_21 : ft 85 21 = some (.aload_n 0, 0, 0, 0, .null) := by decide +kernel
theorem gX8_correlate_21 {l1 l2 l3 l4 : Option Value} {u : Nat} {st : List Value} {H : HP} {Q : Option Value → HP → Prop} : Go 85 21 [some (.ref u), l1, l2, l3, l4] st H Q ↔ Go 85 22 [some (.ref u), l1, l2, l3, l4] (.ref u :: st) H Q := G_aload_n fX8_correlate_21 rfl
theorem fX8_correlate_22 : ft 85 22 = some (.getfield 11, 8, 0, 221, .null) := by decide +kernel
theorem gX8_correlate_22 {L : List (Option Value)} {p : Nat} {st : List Value} {H : HP} {Q : Option Value → HP → Prop} : Go 85 22 L (.ref p :: st) H Q ↔ Rd (gF' 8 0 (hget H p)) 85 25 L st H Q := G_getf fX8_correlate_22 ⟨rfl, rfl⟩
theorem fX8_correlate_25 : ft 85 25 = some (.iload_n 1, 0, 0, 0, .null) := by decide +kernel
theorem gX8_correlate_25 {l0 l2 l3 l4 : Option Value} {u : Int32} {st : List Value} {H : HP} {Q : Option Value → HP → Prop} : Go 85 25 [l0, some (.int u), l2, l3, l4] st H Q ↔ Go 85 26 [l0, some (.int u), l2, l3, l4] (.int u :: st) H Q := G_iload_n fX8_correlate_25 rfl
theorem fX8_correlate_26 : ft 85 26 = some (.aaload, 0, 0, 0, .null) := by decide +kernel
theorem gX8_correlate_26 {L : List (Option Value)} {p : Nat} {a : Int} {st : List Value} {H : HP} {Q : Option Value → HP → Prop} : Go 85 26 L (vi a :: .ref p :: st) H Q ↔ Rd (aR' (hget H p) a) 85 27 L st H Q := G_aald fX8_correlate_26
theorem fX8_correlate_27 : ft 85 27 = some (.astore_n 3, 0, 0, 0, .null) := by decide +kernel
theorem gX8_correlate_27 {l0 l1 l2 l3 l4 : Option Value} {u : Nat} {st : List Value} {H : HP} {Q : Option Value → HP → Prop} : Go 85 27 [l0, l1, l2, l3, l4] (.ref u :: st) H Q ↔ Go 85 28 [l0, l1, l2, some (.ref u), l4] st H Q := G_astore_n fX8_correlate_27 rfl
theorem gX8_correlate_27N {l0 l1 l2 l3 l4 : Option Value} {st : List Value} {H : HP} {Q : Option Value → HP → Prop} : Go 85 27 [l0, l1, l2, l3, l4] (.null :: st) H Q ↔ Go 85 28 [l0, l1, l2, some .null, l4] st H Q := G_astore_nN fX8_correlate_27 rfl
theorem fX8_correlate_28 : ft 85 28 = some (.aload_n 0, 0, 0, 0, .null) := by decide +kernel
theorem gX8_correlate_28 {l1 l2 l3 l4 : Option Value} {u : Nat} {st : List Value} {H : HP} {Q : Option Value → HP → Prop} : Go 85 28 [some (.ref u), l1, l2, l3, l4] st H Q ↔ Go 85 29 [some (.ref u), l1, l2, l3, l4] (.ref u :: st) H Q := G_aload_n fX8_correlate_28 rfl
theorem fX8_correlate_29 : ft 85 29 = some (.getfield 11, 8, 0, 221, .null) := by decide +kernel
theorem gX8_correlate_29 {L : List (Option Value)} {p : Nat} {st : List Value} {H : HP} {Q : Option Value → HP → Prop} : Go 85 29 L (.ref p :: st) H Q ↔ Rd (gF' 8 0 (hget H p)) 85 32 L st H Q := G_getf fX8_correlate_29 ⟨rfl, rfl⟩
theorem fX8_correlate_32 : ft 85 32 = some (.iload_n 2, 0, 0, 0, .null) := by decide +kernel
theorem gX8_correlate_32 {l0 l1 l3 l4 : Option Value} {u : Int32} {st : List Value} {H : HP} {Q : Option Value → HP → Prop} : Go 85 32 [l0, l1, some (.int u), l3, l4] st H Q ↔ Go 85 33 [l0, l1, some (.int u), l3, l4] (.int u :: st) H Q := G_iload_n fX8_correlate_32 rfl
theorem fX8_correlate_33 : ft 85 33 = some (.aaload, 0, 0, 0, .null) := by decide +kernel
theorem gX8_correlate_33 {L : List (Option Value)} {p : Nat} {a : Int} {st : List Value} {H : HP} {Q : Option Value → HP → Prop} : Go 85 33 L (vi a :: .ref p :: st) H Q ↔ Rd (aR' (hget H p) a) 85 34 L st H Q := G_aald fX8_correlate_33
theorem fX8_correlate_34 : ft 85 34 = some (.astore 4, 0, 0, 0, .null) := by decide +kernel
theorem gX8_correlate_34 {l0 l1 l2 l3 l4 : Option Value} {u : Nat} {st : List Value} {H : HP} {Q : Option Value → HP → Prop} : Go 85 34 [l0, l1, l2, l3, l4] (.ref u :: st) H Q ↔ Go 85 36 [l0, l1, l2, l3, some (.ref u)] st H Q := G_astore fX8_correlate_34 rfl
theorem gX8_correlate_34N {l0 l1 l2 l3 l4 : Option Value} {st : List Value} {H : HP} {Q : Option Value → HP → Prop} : Go 85 34 [l0, l1, l2, l3, l4] (.null :: st) H Q ↔ Go 85 36 [l0, l1, l2, l3, some .null] st H Q := G_astoreN fX8_correlate_34 rfl
theorem fX8_correlate_36 : ft 85 36 = some (.aload_n 3, 0, 0, 0, .null) := by decide +kernel
theorem gX8_correlate_36 {l0 l1 l2 l4 : Option Value} {u : Nat} {st : List Value} {H : HP} {Q : Option Value → HP → Prop} : Go 85 36 [l0, l1, l2, some (.ref u), l4] st H Q ↔ Go 85 37 [l0, l1, l2, some (.ref u), l4] (.ref u :: st) H Q := G_aload_n fX8_correlate_36 rfl
theorem gX8_correlate_36N {l0 l1 l2 l4 : Option Value} {st : List Value} {H : HP} {Q : Option Value → HP → Prop} : Go 85 36 [l0, l1, l2, some .null, l4] st H Q ↔ Go 85 37 [l0, l1, l2, some .null, l4] (.null :: st) H Q := G_aload_nN fX8_correlate_36 rfl
theorem fX8_correlate_37 : ft 85 37 = some (.ifnull 8, 0, 0, 0, .null) := by decide +kernel
theorem gX8_correlate_37T {L : List (Option Value)} {st : List Value} {H : HP} {Q : Option Value → HP → Prop} : Go 85 37 L (.null :: st) H Q ↔ Go 85 45 L st H Q := G_nullT fX8_correlate_37 (by decide)
theorem gX8_correlate_37F {L : List (Option Value)} {p : Nat} {st : List Value} {H : HP} {Q : Option Value → HP → Prop} : Go 85 37 L ((.ref p) :: st) H Q ↔ Go 85 40 L st H Q := G_nullF (tg := 45) fX8_correlate_37 (by decide)
theorem fX8_correlate_40 : ft 85 40 = some (.aload 4, 0, 0, 0, .null) := by decide +kernel
theorem gX8_correlate_40 {l0 l1 l2 l3 : Option Value} {u : Nat} {st : List Value} {H : HP} {Q : Option Value → HP → Prop} : Go 85 40 [l0, l1, l2, l3, some (.ref u)] st H Q ↔ Go 85 42 [l0, l1, l2, l3, some (.ref u)] (.ref u :: st) H Q := G_aload fX8_correlate_40 rfl
theorem gX8_correlate_40N {l0 l1 l2 l3 : Option Value} {st : List Value} {H : HP} {Q : Option Value → HP → Prop} : Go 85 40 [l0, l1, l2, l3, some .null] st H Q ↔ Go 85 42 [l0, l1, l2, l3, some .null] (.null :: st) H Q := G_aloadN fX8_correlate_40 rfl
theorem fX8_correlate_42 : ft 85 42 = some (.ifnonnull 9, 0, 0, 0, .null) := by decide +kernel
theorem gX8_correlate_42T {L : List (Option Value)} {p : Nat} {st : List Value} {H : HP} {Q : Option Value → HP → Prop} : Go 85 42 L ((.ref p) :: st) H Q ↔ Go 85 51 L st H Q := G_nnT fX8_correlate_42 (by decide)
theorem gX8_correlate_42F {L : List (Option Value)} {st : List Value} {H : HP} {Q : Option Value → HP → Prop} : Go 85 42 L (.null :: st) H Q ↔ Go 85 45 L st H Q := G_nnF (tg := 51) fX8_correlate_42 (by decide)
theorem fX8_correlate_45 : ft 85 45 = some (.aload_n 0, 0, 0, 0, .null) := by decide +kernel
theorem gX8_correlate_45 {l1 l2 l3 l4 : Option Value} {u : Nat} {st : List Value} {H : HP} {Q : Option Value → HP → Prop} : Go 85 45 [some (.ref u), l1, l2, l3, l4] st H Q ↔ Go 85 46 [some (.ref u), l1, l2, l3, l4] (.ref u :: st) H Q := G_aload_n fX8_correlate_45 rfl
theorem fX8_correlate_46 : ft 85 46 = some (.iconst 1, 0, 0, 0, .null) := by decide +kernel
theorem gX8_correlate_46 {L : List (Option Value)} {st : List Value} {H : HP} {Q : Option Value → HP → Prop} : Go 85 46 L st H Q ↔ Go 85 47 L (vi 1 :: st) H Q := G_iconst fX8_correlate_46
theorem fX8_correlate_47 : ft 85 47 = some (.invokevirtual 92, 105, 0, 271, .null) := by decide +kernel
theorem gX8_correlate_47 {L : List (Option Value)} {p : Nat} {a0 : Int32}  {H : HP} {Q : Option Value → HP → Prop} : Go 85 47 L (.int a0 :: .ref p :: []) H Q ↔ (iso 8 (hget H p) = true ∧ Go 105 0 [some (.ref p), some (.int a0)] [] H (Cont 85 50 L [] Q)) := G_cV (n := 1) (N := 2) (as := [.int a0]) (st := []) fX8_correlate_47 (by decide +kernel) rfl (Nat.le_of_ble_eq_true rfl) (Nat.le_of_ble_eq_true rfl) rfl
theorem fX8_correlate_50 : ft 85 50 = some (.ireturn, 0, 0, 0, .null) := by decide +kernel
theorem gX8_correlate_50 {L : List (Option Value)} {u : Int32} {H : HP} {Q : Option Value → HP → Prop} : Go 85 50 L [.int u] H Q ↔ Q (some (.int u)) H := G_iret fX8_correlate_50 (by decide +kernel)
theorem fX8_correlate_51 : ft 85 51 = some (.aload_n 3, 0, 0, 0, .null) := by decide +kernel
theorem gX8_correlate_51 {l0 l1 l2 l4 : Option Value} {u : Nat} {st : List Value} {H : HP} {Q : Option Value → HP → Prop} : Go 85 51 [l0, l1, l2, some (.ref u), l4] st H Q ↔ Go 85 52 [l0, l1, l2, some (.ref u), l4] (.ref u :: st) H Q := G_aload_n fX8_correlate_51 rfl
theorem gX8_correlate_51N {l0 l1 l2 l4 : Option Value} {st : List Value} {H : HP} {Q : Option Value → HP → Prop} : Go 85 51 [l0, l1, l2, some .null, l4] st H Q ↔ Go 85 52 [l0, l1, l2, some .null, l4] (.null :: st) H Q := G_aload_nN fX8_correlate_51 rfl
theorem fX8_correlate_52 : ft 85 52 = some (.getfield 99, 5, 0, 282, .null) := by decide +kernel
theorem gX8_correlate_52 {L : List (Option Value)} {p : Nat} {st : List Value} {H : HP} {Q : Option Value → HP → Prop} : Go 85 52 L (.ref p :: st) H Q ↔ Rd (gF' 5 0 (hget H p)) 85 55 L st H Q := G_getf fX8_correlate_52 ⟨rfl, rfl⟩
theorem fX8_correlate_55 : ft 85 55 = some (.iconst 2, 0, 0, 0, .null) := by decide +kernel
theorem gX8_correlate_55 {L : List (Option Value)} {st : List Value} {H : HP} {Q : Option Value → HP → Prop} : Go 85 55 L st H Q ↔ Go 85 56 L (vi 2 :: st) H Q := G_iconst fX8_correlate_55
theorem fX8_correlate_56 : ft 85 56 = some (.if_icmp .gt 12, 0, 0, 0, .null) := by decide +kernel
theorem gX8_correlate_56T {L : List (Option Value)} {a b : Int} (c : (-2147483648 ≤ a ∧ a ≤ 2147483647 ∧ -2147483648 ≤ b ∧ b ≤ 2147483647) ∧ b < a) {st : List Value} {H : HP} {Q : Option Value → HP → Prop} : Go 85 56 L (vi b :: vi a :: st) H Q ↔ Go 85 68 L st H Q := G_icT fX8_correlate_56 (by decide) c
theorem gX8_correlate_56F {L : List (Option Value)} {a b : Int} (c : (-2147483648 ≤ a ∧ a ≤ 2147483647 ∧ -2147483648 ≤ b ∧ b ≤ 2147483647) ∧ ¬ (b < a)) {st : List Value} {H : HP} {Q : Option Value → HP → Prop} : Go 85 56 L (vi b :: vi a :: st) H Q ↔ Go 85 59 L st H Q := G_icF (tg := 68) fX8_correlate_56 (by decide) c
theorem fX8_correlate_59 : ft 85 59 = some (.aload 4, 0, 0, 0, .null) := by decide +kernel
theorem gX8_correlate_59 {l0 l1 l2 l3 : Option Value} {u : Nat} {st : List Value} {H : HP} {Q : Option Value → HP → Prop} : Go 85 59 [l0, l1, l2, l3, some (.ref u)] st H Q ↔ Go 85 61 [l0, l1, l2, l3, some (.ref u)] (.ref u :: st) H Q := G_aload fX8_correlate_59 rfl
theorem gX8_correlate_59N {l0 l1 l2 l3 : Option Value} {st : List Value} {H : HP} {Q : Option Value → HP → Prop} : Go 85 59 [l0, l1, l2, l3, some .null] st H Q ↔ Go 85 61 [l0, l1, l2, l3, some .null] (.null :: st) H Q := G_aloadN fX8_correlate_59 rfl
theorem fX8_correlate_61 : ft 85 61 = some (.getfield 99, 5, 0, 282, .null) := by decide +kernel
theorem gX8_correlate_61 {L : List (Option Value)} {p : Nat} {st : List Value} {H : HP} {Q : Option Value → HP → Prop} : Go 85 61 L (.ref p :: st) H Q ↔ Rd (gF' 5 0 (hget H p)) 85 64 L st H Q := G_getf fX8_correlate_61 ⟨rfl, rfl⟩
theorem fX8_correlate_64 : ft 85 64 = some (.iconst 2, 0, 0, 0, .null) := by decide +kernel
theorem gX8_correlate_64 {L : List (Option Value)} {st : List Value} {H : HP} {Q : Option Value → HP → Prop} : Go 85 64 L st H Q ↔ Go 85 65 L (vi 2 :: st) H Q := G_iconst fX8_correlate_64
theorem fX8_correlate_65 : ft 85 65 = some (.if_icmp .le 9, 0, 0, 0, .null) := by decide +kernel
theorem gX8_correlate_65T {L : List (Option Value)} {a b : Int} (c : (-2147483648 ≤ a ∧ a ≤ 2147483647 ∧ -2147483648 ≤ b ∧ b ≤ 2147483647) ∧ a ≤ b) {st : List Value} {H : HP} {Q : Option Value → HP → Prop} : Go 85 65 L (vi b :: vi a :: st) H Q ↔ Go 85 74 L st H Q := G_icT fX8_correlate_65 (by decide) c
theorem gX8_correlate_65F {L : List (Option Value)} {a b : Int} (c : (-2147483648 ≤ a ∧ a ≤ 2147483647 ∧ -2147483648 ≤ b ∧ b ≤ 2147483647) ∧ ¬ (a ≤ b)) {st : List Value} {H : HP} {Q : Option Value → HP → Prop} : Go 85 65 L (vi b :: vi a :: st) H Q ↔ Go 85 68 L st H Q := G_icF (tg := 74) fX8_correlate_65 (by decide) c
theorem fX8_correlate_68 : ft 85 68 = some (.aload_n 0, 0, 0, 0, .null) := by decide +kernel
theorem gX8_correlate_68 {l1 l2 l3 l4 : Option Value} {u : Nat} {st : List Value} {H : HP} {Q : Option Value → HP → Prop} : Go 85 68 [some (.ref u), l1, l2, l3, l4] st H Q ↔ Go 85 69 [some (.ref u), l1, l2, l3, l4] (.ref u :: st) H Q := G_aload_n fX8_correlate_68 rfl
theorem fX8_correlate_69 : ft 85 69 = some (.iconst 2, 0, 0, 0, .null) := by decide +kernel
theorem gX8_correlate_69 {L : List (Option Value)} {st : List Value} {H : HP} {Q : Option Value → HP → Prop} : Go 85 69 L st H Q ↔ Go 85 70 L (vi 2 :: st) H Q := G_iconst fX8_correlate_69
theorem fX8_correlate_70 : ft 85 70 = some (.invokevirtual 92, 105, 0, 271, .null) := by decide +kernel
theorem gX8_correlate_70 {L : List (Option Value)} {p : Nat} {a0 : Int32}  {H : HP} {Q : Option Value → HP → Prop} : Go 85 70 L (.int a0 :: .ref p :: []) H Q ↔ (iso 8 (hget H p) = true ∧ Go 105 0 [some (.ref p), some (.int a0)] [] H (Cont 85 73 L [] Q)) := G_cV (n := 1) (N := 2) (as := [.int a0]) (st := []) fX8_correlate_70 (by decide +kernel) rfl (Nat.le_of_ble_eq_true rfl) (Nat.le_of_ble_eq_true rfl) rfl
theorem fX8_correlate_73 : ft 85 73 = some (.ireturn, 0, 0, 0, .null) := by decide +kernel
theorem gX8_correlate_73 {L : List (Option Value)} {u : Int32} {H : HP} {Q : Option Value → HP → Prop} : Go 85 73 L [.int u] H Q ↔ Q (some (.int u)) H := G_iret fX8_correlate_73 (by decide +kernel)
theorem fX8_correlate_74 : ft 85 74 = some (.aload_n 0, 0, 0, 0, .null) := by decide +kernel
theorem gX8_correlate_74 {l1 l2 l3 l4 : Option Value} {u : Nat} {st : List Value} {H : HP} {Q : Option Value → HP → Prop} : Go 85 74 [some (.ref u), l1, l2, l3, l4] st H Q ↔ Go 85 75 [some (.ref u), l1, l2, l3, l4] (.ref u :: st) H Q := G_aload_n fX8_correlate_74 rfl
theorem fX8_correlate_75 : ft 85 75 = some (.getfield 81, 8, 2, 223, .null) := by decide +kernel
theorem gX8_correlate_75 {L : List (Option Value)} {p : Nat} {st : List Value} {H : HP} {Q : Option Value → HP → Prop} : Go 85 75 L (.ref p :: st) H Q ↔ Rd (gF' 8 2 (hget H p)) 85 78 L st H Q := G_getf fX8_correlate_75 ⟨rfl, rfl⟩
theorem fX8_correlate_78 : ft 85 78 = some (.aload_n 3, 0, 0, 0, .null) := by decide +kernel
theorem gX8_correlate_78 {l0 l1 l2 l4 : Option Value} {u : Nat} {st : List Value} {H : HP} {Q : Option Value → HP → Prop} : Go 85 78 [l0, l1, l2, some (.ref u), l4] st H Q ↔ Go 85 79 [l0, l1, l2, some (.ref u), l4] (.ref u :: st) H Q := G_aload_n fX8_correlate_78 rfl
theorem gX8_correlate_78N {l0 l1 l2 l4 : Option Value} {st : List Value} {H : HP} {Q : Option Value → HP → Prop} : Go 85 78 [l0, l1, l2, some .null, l4] st H Q ↔ Go 85 79 [l0, l1, l2, some .null, l4] (.null :: st) H Q := G_aload_nN fX8_correlate_78 rfl
theorem fX8_correlate_79 : ft 85 79 = some (.aload 4, 0, 0, 0, .null) := by decide +kernel
theorem gX8_correlate_79 {l0 l1 l2 l3 : Option Value} {u : Nat} {st : List Value} {H : HP} {Q : Option Value → HP → Prop} : Go 85 79 [l0, l1, l2, l3, some (.ref u)] st H Q ↔ Go 85 81 [l0, l1, l2, l3, some (.ref u)] (.ref u :: st) H Q := G_aload fX8_correlate_79 rfl
theorem gX8_correlate_79N {l0 l1 l2 l3 : Option Value} {st : List Value} {H : HP} {Q : Option Value → HP → Prop} : Go 85 79 [l0, l1, l2, l3, some .null] st H Q ↔ Go 85 81 [l0, l1, l2, l3, some .null] (.null :: st) H Q := G_aloadN fX8_correlate_79 rfl
theorem fX8_correlate_81 : ft 85 81 = some (.invokevirtual 182, 51, 0, 542, .null) := by decide +kernel
theorem gX8_correlate_81 {L : List (Option Value)} {p : Nat} {a0 : Nat} {a1 : Nat}  {H : HP} {Q : Option Value → HP → Prop} : Go 85 81 L (.ref a1 :: .ref a0 :: .ref p :: []) H Q ↔ (iso 4 (hget H p) = true ∧ Go 51 0 [some (.ref p), some (.ref a0), some (.ref a1), none, none, none] [] H (Cont 85 84 L [] Q)) := G_cV (n := 2) (N := 6) (as := [.ref a1, .ref a0]) (st := []) fX8_correlate_81 (by decide +kernel) rfl (Nat.le_of_ble_eq_true rfl) (Nat.le_of_ble_eq_true rfl) rfl
theorem fX8_correlate_84 : ft 85 84 = some (.aload_n 0, 0, 0, 0, .null) := by decide +kernel
theorem gX8_correlate_84 {l1 l2 l3 l4 : Option Value} {u : Nat} {st : List Value} {H : HP} {Q : Option Value → HP → Prop} : Go 85 84 [some (.ref u), l1, l2, l3, l4] st H Q ↔ Go 85 85 [some (.ref u), l1, l2, l3, l4] (.ref u :: st) H Q := G_aload_n fX8_correlate_84 rfl
theorem fX8_correlate_85 : ft 85 85 = some (.getfield 81, 8, 2, 223, .null) := by decide +kernel
theorem gX8_correlate_85 {L : List (Option Value)} {p : Nat} {st : List Value} {H : HP} {Q : Option Value → HP → Prop} : Go 85 85 L (.ref p :: st) H Q ↔ Rd (gF' 8 2 (hget H p)) 85 88 L st H Q := G_getf fX8_correlate_85 ⟨rfl, rfl⟩
theorem fX8_correlate_88 : ft 85 88 = some (.getfield 177, 4, 2, 195, .null) := by decide +kernel
theorem gX8_correlate_88 {L : List (Option Value)} {p : Nat} {st : List Value} {H : HP} {Q : Option Value → HP → Prop} : Go 85 88 L (.ref p :: st) H Q ↔ Rd (gF' 4 2 (hget H p)) 85 91 L st H Q := G_getf fX8_correlate_88 ⟨rfl, rfl⟩
theorem fX8_correlate_91 : ft 85 91 = some (.ireturn, 0, 0, 0, .null) := by decide +kernel
theorem gX8_correlate_91 {L : List (Option Value)} {u : Int32} {H : HP} {Q : Option Value → HP → Prop} : Go 85 91 L [.int u] H Q ↔ Q (some (.int u)) H := G_iret fX8_correlate_91 (by decide +kernel)
theorem fX8_slide_0 : ft 86 0 = some (.aload_n 0, 0, 0, 0, .null) := by decide +kernel
theorem gX8_slide_0 {l1 l2 l3 : Option Value} {u : Nat} {st : List Value} {H : HP} {Q : Option Value → HP → Prop} : Go 86 0 [some (.ref u), l1, l2, l3] st H Q ↔ Go 86 1 [some (.ref u), l1, l2, l3] (.ref u :: st) H Q := G_aload_n fX8_slide_0 rfl
theorem fX8_slide_1 : ft 86 1 = some (.iconst 0, 0, 0, 0, .null) := by decide +kernel
theorem gX8_slide_1 {L : List (Option Value)} {st : List Value} {H : HP} {Q : Option Value → HP → Prop} : Go 86 1 L st H Q ↔ Go 86 2 L (vi 0 :: st) H Q := G_iconst fX8_slide_1
theorem fX8_slide_2 : ft 86 2 = some (.putfield 64, 8, 12, 233, .null) := by decide +kernel
theorem gX8_slide_2 {L : List (Option Value)} {p : Nat} {u : Int32} (hp : p ≠ 0) {st : List Value} {H : HP} {Q : Option Value → HP → Prop} : Go 86 2 L (.int u :: .ref p :: st) H Q ↔ Wr (pF' 8 12 (hget H p) (.int u)) p 86 5 L st H Q := G_putf fX8_slide_2 ⟨⟨rfl, rfl⟩, rfl, Or.inl rfl⟩ hp
theorem fX8_slide_5 : ft 86 5 = some (.iload_n 1, 0, 0, 0, .null) := by decide +kernel
theorem gX8_slide_5 {l0 l2 l3 : Option Value} {u : Int32} {st : List Value} {H : HP} {Q : Option Value → HP → Prop} : Go 86 5 [l0, some (.int u), l2, l3] st H Q ↔ Go 86 6 [l0, some (.int u), l2, l3] (.int u :: st) H Q := G_iload_n fX8_slide_5 rfl
theorem fX8_slide_6 : ft 86 6 = some (.invokestatic 85, 108, 0, 265, .null) := by decide +kernel
theorem gX8_slide_6 {L : List (Option Value)} {a0 : Int32}  {H : HP} {Q : Option Value → HP → Prop} : Go 86 6 L (.int a0 :: []) H Q ↔ Go 108 0 [some (.int a0)] [] H (Cont 86 9 L [] Q) := G_cS (n := 1) (N := 1) (as := [.int a0]) (st := []) fX8_slide_6 (by decide +kernel) rfl (Nat.le_of_ble_eq_true rfl) (Nat.le_of_ble_eq_true rfl) rfl
theorem fX8_slide_9 : ft 86 9 = some (.ifCond .ne 5, 0, 0, 0, .null) := by decide +kernel
theorem gX8_slide_9T {L : List (Option Value)} {a : Int} (c : (-2147483648 ≤ a ∧ a ≤ 2147483647) ∧ ¬ a = 0) {st : List Value} {H : HP} {Q : Option Value → HP → Prop} : Go 86 9 L (vi a :: st) H Q ↔ Go 86 14 L st H Q := G_ifT fX8_slide_9 (by decide) c
theorem gX8_slide_9F {L : List (Option Value)} {a : Int} (c : (-2147483648 ≤ a ∧ a ≤ 2147483647) ∧ ¬ (¬ a = 0)) {st : List Value} {H : HP} {Q : Option Value → HP → Prop} : Go 86 9 L (vi a :: st) H Q ↔ Go 86 12 L st H Q := G_ifF (tg := 14) fX8_slide_9 (by decide) c
theorem fX8_slide_12 : ft 86 12 = some (.iconst (-1), 0, 0, 0, .null) := by decide +kernel
theorem gX8_slide_12 {L : List (Option Value)} {st : List Value} {H : HP} {Q : Option Value → HP → Prop} : Go 86 12 L st H Q ↔ Go 86 13 L (vi (-1) :: st) H Q := G_iconst fX8_slide_12
theorem fX8_slide_13 : ft 86 13 = some (.ireturn, 0, 0, 0, .null) := by decide +kernel
theorem gX8_slide_13 {L : List (Option Value)} {u : Int32} {H : HP} {Q : Option Value → HP → Prop} : Go 86 13 L [.int u] H Q ↔ Q (some (.int u)) H := G_iret fX8_slide_13 (by decide +kernel)
theorem fX8_slide_14 : ft 86 14 = some (.iload_n 2, 0, 0, 0, .null) := by decide +kernel
theorem gX8_slide_14 {l0 l1 l3 : Option Value} {u : Int32} {st : List Value} {H : HP} {Q : Option Value → HP → Prop} : Go 86 14 [l0, l1, some (.int u), l3] st H Q ↔ Go 86 15 [l0, l1, some (.int u), l3] (.int u :: st) H Q := G_iload_n fX8_slide_14 rfl
theorem fX8_slide_15 : ft 86 15 = some (.invokestatic 133, 112, 0, 373, .null) := by decide +kernel
theorem gX8_slide_15 {L : List (Option Value)} {a0 : Int32}  {H : HP} {Q : Option Value → HP → Prop} : Go 86 15 L (.int a0 :: []) H Q ↔ Go 112 0 [some (.int a0)] [] H (Cont 86 18 L [] Q) := G_cS (n := 1) (N := 1) (as := [.int a0]) (st := []) fX8_slide_15 (by decide +kernel) rfl (Nat.le_of_ble_eq_true rfl) (Nat.le_of_ble_eq_true rfl) rfl
theorem fX8_slide_18 : ft 86 18 = some (.ifCond .ne 6, 0, 0, 0, .null) := by decide +kernel
theorem gX8_slide_18T {L : List (Option Value)} {a : Int} (c : (-2147483648 ≤ a ∧ a ≤ 2147483647) ∧ ¬ a = 0) {st : List Value} {H : HP} {Q : Option Value → HP → Prop} : Go 86 18 L (vi a :: st) H Q ↔ Go 86 24 L st H Q := G_ifT fX8_slide_18 (by decide) c
theorem gX8_slide_18F {L : List (Option Value)} {a : Int} (c : (-2147483648 ≤ a ∧ a ≤ 2147483647) ∧ ¬ (¬ a = 0)) {st : List Value} {H : HP} {Q : Option Value → HP → Prop} : Go 86 18 L (vi a :: st) H Q ↔ Go 86 21 L st H Q := G_ifF (tg := 24) fX8_slide_18 (by decide) c
theorem fX8_slide_21 : ft 86 21 = some (.bipush (-2), 0, 0, 0, .null) := by decide +kernel
theorem gX8_slide_21 {L : List (Option Value)} {st : List Value} {H : HP} {Q : Option Value → HP → Prop} : Go 86 21 L st H Q ↔ Go 86 23 L (vi (-2) :: st) H Q := G_bipush fX8_slide_21 (by decide)
theorem fX8_slide_23 : ft 86 23 = some (.ireturn, 0, 0, 0, .null) := by decide +kernel
theorem gX8_slide_23 {L : List (Option Value)} {u : Int32} {H : HP} {Q : Option Value → HP → Prop} : Go 86 23 L [.int u] H Q ↔ Q (some (.int u)) H := G_iret fX8_slide_23 (by decide +kernel)
theorem fX8_slide_24 : ft 86 24 = some (.aload_n 0, 0, 0, 0, .null) := by decide +kernel
theorem gX8_slide_24 {l1 l2 l3 : Option Value} {u : Nat} {st : List Value} {H : HP} {Q : Option Value → HP → Prop} : Go 86 24 [some (.ref u), l1, l2, l3] st H Q ↔ Go 86 25 [some (.ref u), l1, l2, l3] (.ref u :: st) H Q := G_aload_n fX8_slide_24 rfl
theorem fX8_slide_25 : ft 86 25 = some (.getfield 11, 8, 0, 221, .null) := by decide +kernel
theorem gX8_slide_25 {L : List (Option Value)} {p : Nat} {st : List Value} {H : HP} {Q : Option Value → HP → Prop} : Go 86 25 L (.ref p :: st) H Q ↔ Rd (gF' 8 0 (hget H p)) 86 28 L st H Q := G_getf fX8_slide_25 ⟨rfl, rfl⟩
theorem fX8_slide_28 : ft 86 28 = some (.iload_n 1, 0, 0, 0, .null) := by decide +kernel
theorem gX8_slide_28 {l0 l2 l3 : Option Value} {u : Int32} {st : List Value} {H : HP} {Q : Option Value → HP → Prop} : Go 86 28 [l0, some (.int u), l2, l3] st H Q ↔ Go 86 29 [l0, some (.int u), l2, l3] (.int u :: st) H Q := G_iload_n fX8_slide_28 rfl
theorem fX8_slide_29 : ft 86 29 = some (.aaload, 0, 0, 0, .null) := by decide +kernel
theorem gX8_slide_29 {L : List (Option Value)} {p : Nat} {a : Int} {st : List Value} {H : HP} {Q : Option Value → HP → Prop} : Go 86 29 L (vi a :: .ref p :: st) H Q ↔ Rd (aR' (hget H p) a) 86 30 L st H Q := G_aald fX8_slide_29
theorem fX8_slide_30 : ft 86 30 = some (.astore_n 3, 0, 0, 0, .null) := by decide +kernel
theorem gX8_slide_30 {l0 l1 l2 l3 : Option Value} {u : Nat} {st : List Value} {H : HP} {Q : Option Value → HP → Prop} : Go 86 30 [l0, l1, l2, l3] (.ref u :: st) H Q ↔ Go 86 31 [l0, l1, l2, some (.ref u)] st H Q := G_astore_n fX8_slide_30 rfl
theorem gX8_slide_30N {l0 l1 l2 l3 : Option Value} {st : List Value} {H : HP} {Q : Option Value → HP → Prop} : Go 86 30 [l0, l1, l2, l3] (.null :: st) H Q ↔ Go 86 31 [l0, l1, l2, some .null] st H Q := G_astore_nN fX8_slide_30 rfl
theorem fX8_slide_31 : ft 86 31 = some (.aload_n 3, 0, 0, 0, .null) := by decide +kernel
theorem gX8_slide_31 {l0 l1 l2 : Option Value} {u : Nat} {st : List Value} {H : HP} {Q : Option Value → HP → Prop} : Go 86 31 [l0, l1, l2, some (.ref u)] st H Q ↔ Go 86 32 [l0, l1, l2, some (.ref u)] (.ref u :: st) H Q := G_aload_n fX8_slide_31 rfl
theorem gX8_slide_31N {l0 l1 l2 : Option Value} {st : List Value} {H : HP} {Q : Option Value → HP → Prop} : Go 86 31 [l0, l1, l2, some .null] st H Q ↔ Go 86 32 [l0, l1, l2, some .null] (.null :: st) H Q := G_aload_nN fX8_slide_31 rfl
theorem fX8_slide_32 : ft 86 32 = some (.ifnonnull 9, 0, 0, 0, .null) := by decide +kernel
theorem gX8_slide_32T {L : List (Option Value)} {p : Nat} {st : List Value} {H : HP} {Q : Option Value → HP → Prop} : Go 86 32 L ((.ref p) :: st) H Q ↔ Go 86 41 L st H Q := G_nnT fX8_slide_32 (by decide)
theorem gX8_slide_32F {L : List (Option Value)} {st : List Value} {H : HP} {Q : Option Value → HP → Prop} : Go 86 32 L (.null :: st) H Q ↔ Go 86 35 L st H Q := G_nnF (tg := 41) fX8_slide_32 (by decide)
theorem fX8_slide_35 : ft 86 35 = some (.aload_n 0, 0, 0, 0, .null) := by decide +kernel
theorem gX8_slide_35 {l1 l2 l3 : Option Value} {u : Nat} {st : List Value} {H : HP} {Q : Option Value → HP → Prop} : Go 86 35 [some (.ref u), l1, l2, l3] st H Q ↔ Go 86 36 [some (.ref u), l1, l2, l3] (.ref u :: st) H Q := G_aload_n fX8_slide_35 rfl
theorem fX8_slide_36 : ft 86 36 = some (.iconst 1, 0, 0, 0, .null) := by decide +kernel
theorem gX8_slide_36 {L : List (Option Value)} {st : List Value} {H : HP} {Q : Option Value → HP → Prop} : Go 86 36 L st H Q ↔ Go 86 37 L (vi 1 :: st) H Q := G_iconst fX8_slide_36
theorem fX8_slide_37 : ft 86 37 = some (.invokevirtual 92, 105, 0, 271, .null) := by decide +kernel
theorem gX8_slide_37 {L : List (Option Value)} {p : Nat} {a0 : Int32}  {H : HP} {Q : Option Value → HP → Prop} : Go 86 37 L (.int a0 :: .ref p :: []) H Q ↔ (iso 8 (hget H p) = true ∧ Go 105 0 [some (.ref p), some (.int a0)] [] H (Cont 86 40 L [] Q)) := G_cV (n := 1) (N := 2) (as := [.int a0]) (st := []) fX8_slide_37 (by decide +kernel) rfl (Nat.le_of_ble_eq_true rfl) (Nat.le_of_ble_eq_true rfl) rfl
theorem fX8_slide_40 : ft 86 40 = some (.ireturn, 0, 0, 0, .null) := by decide +kernel
theorem gX8_slide_40 {L : List (Option Value)} {u : Int32} {H : HP} {Q : Option Value → HP → Prop} : Go 86 40 L [.int u] H Q ↔ Q (some (.int u)) H := G_iret fX8_slide_40 (by decide +kernel)
theorem fX8_slide_41 : ft 86 41 = some (.aload_n 3, 0, 0, 0, .null) := by decide +kernel
theorem gX8_slide_41 {l0 l1 l2 : Option Value} {u : Nat} {st : List Value} {H : HP} {Q : Option Value → HP → Prop} : Go 86 41 [l0, l1, l2, some (.ref u)] st H Q ↔ Go 86 42 [l0, l1, l2, some (.ref u)] (.ref u :: st) H Q := G_aload_n fX8_slide_41 rfl
theorem gX8_slide_41N {l0 l1 l2 : Option Value} {st : List Value} {H : HP} {Q : Option Value → HP → Prop} : Go 86 41 [l0, l1, l2, some .null] st H Q ↔ Go 86 42 [l0, l1, l2, some .null] (.null :: st) H Q := G_aload_nN fX8_slide_41 rfl
theorem fX8_slide_42 : ft 86 42 = some (.getfield 99, 5, 0, 282, .null) := by decide +kernel
theorem gX8_slide_42 {L : List (Option Value)} {p : Nat} {st : List Value} {H : HP} {Q : Option Value → HP → Prop} : Go 86 42 L (.ref p :: st) H Q ↔ Rd (gF' 5 0 (hget H p)) 86 45 L st H Q := G_getf fX8_slide_42 ⟨rfl, rfl⟩
theorem fX8_slide_45 : ft 86 45 = some (.iconst 3, 0, 0, 0, .null) := by decide +kernel
theorem gX8_slide_45 {L : List (Option Value)} {st : List Value} {H : HP} {Q : Option Value → HP → Prop} : Go 86 45 L st H Q ↔ Go 86 46 L (vi 3 :: st) H Q := G_iconst fX8_slide_45
theorem fX8_slide_46 : ft 86 46 = some (.if_icmp .le 9, 0, 0, 0, .null) := by decide +kernel
theorem gX8_slide_46T {L : List (Option Value)} {a b : Int} (c : (-2147483648 ≤ a ∧ a ≤ 2147483647 ∧ -2147483648 ≤ b ∧ b ≤ 2147483647) ∧ a ≤ b) {st : List Value} {H : HP} {Q : Option Value → HP → Prop} : Go 86 46 L (vi b :: vi a :: st) H Q ↔ Go 86 55 L st H Q := G_icT fX8_slide_46 (by decide) c
theorem gX8_slide_46F {L : List (Option Value)} {a b : Int} (c : (-2147483648 ≤ a ∧ a ≤ 2147483647 ∧ -2147483648 ≤ b ∧ b ≤ 2147483647) ∧ ¬ (a ≤ b)) {st : List Value} {H : HP} {Q : Option Value → HP → Prop} : Go 86 46 L (vi b :: vi a :: st) H Q ↔ Go 86 49 L st H Q := G_icF (tg := 55) fX8_slide_46 (by decide) c
theorem fX8_slide_49 : ft 86 49 = some (.aload_n 0, 0, 0, 0, .null) := by decide +kernel
theorem gX8_slide_49 {l1 l2 l3 : Option Value} {u : Nat} {st : List Value} {H : HP} {Q : Option Value → HP → Prop} : Go 86 49 [some (.ref u), l1, l2, l3] st H Q ↔ Go 86 50 [some (.ref u), l1, l2, l3] (.ref u :: st) H Q := G_aload_n fX8_slide_49 rfl
theorem fX8_slide_50 : ft 86 50 = some (.iconst 2, 0, 0, 0, .null) := by decide +kernel
theorem gX8_slide_50 {L : List (Option Value)} {st : List Value} {H : HP} {Q : Option Value → HP → Prop} : Go 86 50 L st H Q ↔ Go 86 51 L (vi 2 :: st) H Q := G_iconst fX8_slide_50
theorem fX8_slide_51 : ft 86 51 = some (.invokevirtual 92, 105, 0, 271, .null) := by decide +kernel
theorem gX8_slide_51 {L : List (Option Value)} {p : Nat} {a0 : Int32}  {H : HP} {Q : Option Value → HP → Prop} : Go 86 51 L (.int a0 :: .ref p :: []) H Q ↔ (iso 8 (hget H p) = true ∧ Go 105 0 [some (.ref p), some (.int a0)] [] H (Cont 86 54 L [] Q)) := G_cV (n := 1) (N := 2) (as := [.int a0]) (st := []) fX8_slide_51 (by decide +kernel) rfl (Nat.le_of_ble_eq_true rfl) (Nat.le_of_ble_eq_true rfl) rfl
theorem fX8_slide_54 : ft 86 54 = some (.ireturn, 0, 0, 0, .null) := by decide +kernel
theorem gX8_slide_54 {L : List (Option Value)} {u : Int32} {H : HP} {Q : Option Value → HP → Prop} : Go 86 54 L [.int u] H Q ↔ Q (some (.int u)) H := G_iret fX8_slide_54 (by decide +kernel)
theorem fX8_slide_55 : ft 86 55 = some (.aload_n 0, 0, 0, 0, .null) := by decide +kernel
theorem gX8_slide_55 {l1 l2 l3 : Option Value} {u : Nat} {st : List Value} {H : HP} {Q : Option Value → HP → Prop} : Go 86 55 [some (.ref u), l1, l2, l3] st H Q ↔ Go 86 56 [some (.ref u), l1, l2, l3] (.ref u :: st) H Q := G_aload_n fX8_slide_55 rfl
theorem fX8_slide_56 : ft 86 56 = some (.getfield 81, 8, 2, 223, .null) := by decide +kernel
theorem gX8_slide_56 {L : List (Option Value)} {p : Nat} {st : List Value} {H : HP} {Q : Option Value → HP → Prop} : Go 86 56 L (.ref p :: st) H Q ↔ Rd (gF' 8 2 (hget H p)) 86 59 L st H Q := G_getf fX8_slide_56 ⟨rfl, rfl⟩
theorem fX8_slide_59 : ft 86 59 = some (.aload_n 3, 0, 0, 0, .null) := by decide +kernel
theorem gX8_slide_59 {l0 l1 l2 : Option Value} {u : Nat} {st : List Value} {H : HP} {Q : Option Value → HP → Prop} : Go 86 59 [l0, l1, l2, some (.ref u)] st H Q ↔ Go 86 60 [l0, l1, l2, some (.ref u)] (.ref u :: st) H Q := G_aload_n fX8_slide_59 rfl
theorem gX8_slide_59N {l0 l1 l2 : Option Value} {st : List Value} {H : HP} {Q : Option Value → HP → Prop} : Go 86 59 [l0, l1, l2, some .null] st H Q ↔ Go 86 60 [l0, l1, l2, some .null] (.null :: st) H Q := G_aload_nN fX8_slide_59 rfl
theorem fX8_slide_60 : ft 86 60 = some (.iload_n 2, 0, 0, 0, .null) := by decide +kernel
theorem gX8_slide_60 {l0 l1 l3 : Option Value} {u : Int32} {st : List Value} {H : HP} {Q : Option Value → HP → Prop} : Go 86 60 [l0, l1, some (.int u), l3] st H Q ↔ Go 86 61 [l0, l1, some (.int u), l3] (.int u :: st) H Q := G_iload_n fX8_slide_60 rfl
theorem fX8_slide_61 : ft 86 61 = some (.invokevirtual 185, 52, 0, 550, .null) := by decide +kernel
theorem gX8_slide_61 {L : List (Option Value)} {p : Nat} {a0 : Nat} {a1 : Int32}  {H : HP} {Q : Option Value → HP → Prop} : Go 86 61 L (.int a1 :: .ref a0 :: .ref p :: []) H Q ↔ (iso 4 (hget H p) = true ∧ Go 52 0 [some (.ref p), some (.ref a0), some (.int a1), none, none] [] H (Cont 86 64 L [] Q)) := G_cV (n := 2) (N := 5) (as := [.int a1, .ref a0]) (st := []) fX8_slide_61 (by decide +kernel) rfl (Nat.le_of_ble_eq_true rfl) (Nat.le_of_ble_eq_true rfl) rfl
theorem fX8_slide_64 : ft 86 64 = some (.aload_n 0, 0, 0, 0, .null) := by decide +kernel
theorem gX8_slide_64 {l1 l2 l3 : Option Value} {u : Nat} {st : List Value} {H : HP} {Q : Option Value → HP → Prop} : Go 86 64 [some (.ref u), l1, l2, l3] st H Q ↔ Go 86 65 [some (.ref u), l1, l2, l3] (.ref u :: st) H Q := G_aload_n fX8_slide_64 rfl
theorem fX8_slide_65 : ft 86 65 = some (.getfield 81, 8, 2, 223, .null) := by decide +kernel
theorem gX8_slide_65 {L : List (Option Value)} {p : Nat} {st : List Value} {H : HP} {Q : Option Value → HP → Prop} : Go 86 65 L (.ref p :: st) H Q ↔ Rd (gF' 8 2 (hget H p)) 86 68 L st H Q := G_getf fX8_slide_65 ⟨rfl, rfl⟩
theorem fX8_slide_68 : ft 86 68 = some (.getfield 177, 4, 2, 195, .null) := by decide +kernel
theorem gX8_slide_68 {L : List (Option Value)} {p : Nat} {st : List Value} {H : HP} {Q : Option Value → HP → Prop} : Go 86 68 L (.ref p :: st) H Q ↔ Rd (gF' 4 2 (hget H p)) 86 71 L st H Q := G_getf fX8_slide_68 ⟨rfl, rfl⟩
theorem fX8_slide_71 : ft 86 71 = some (.ireturn, 0, 0, 0, .null) := by decide +kernel
theorem gX8_slide_71 {L : List (Option Value)} {u : Int32} {H : HP} {Q : Option Value → HP → Prop} : Go 86 71 L [.int u] H Q ↔ Q (some (.int u)) H := G_iret fX8_slide_71 (by decide +kernel)
theorem fX8_high_0 : ft 87 0 = some (.aload_n 0, 0, 0, 0, .null) := by decide +kernel
theorem gX8_high_0 {l1 : Option Value} {u : Nat} {st : List Value} {H : HP} {Q : Option Value → HP → Prop} : Go 87 0 [some (.ref u), l1] st H Q ↔ Go 87 1 [some (.ref u), l1] (.ref u :: st) H Q := G_aload_n fX8_high_0 rfl
theorem fX8_high_1 : ft 87 1 = some (.getfield 81, 8, 2, 223, .null) := by decide +kernel
theorem gX8_high_1 {L : List (Option Value)} {p : Nat} {st : List Value} {H : HP} {Q : Option Value → HP → Prop} : Go 87 1 L (.ref p :: st) H Q ↔ Rd (gF' 8 2 (hget H p)) 87 4 L st H Q := G_getf fX8_high_1 ⟨rfl, rfl⟩
theorem fX8_high_4 : ft 87 4 = some (.iload_n 1, 0, 0, 0, .null) := by decide +kernel
theorem gX8_high_4 {l0 : Option Value} {u : Int32} {st : List Value} {H : HP} {Q : Option Value → HP → Prop} : Go 87 4 [l0, some (.int u)] st H Q ↔ Go 87 5 [l0, some (.int u)] (.int u :: st) H Q := G_iload_n fX8_high_4 rfl
theorem fX8_high_5 : ft 87 5 = some (.invokevirtual 189, 42, 0, 558, .null) := by decide +kernel
theorem gX8_high_5 {L : List (Option Value)} {p : Nat} {a0 : Int32}  {H : HP} {Q : Option Value → HP → Prop} : Go 87 5 L (.int a0 :: .ref p :: []) H Q ↔ (iso 4 (hget H p) = true ∧ Go 42 0 [some (.ref p), some (.int a0)] [] H (Cont 87 8 L [] Q)) := G_cV (n := 1) (N := 2) (as := [.int a0]) (st := []) fX8_high_5 (by decide +kernel) rfl (Nat.le_of_ble_eq_true rfl) (Nat.le_of_ble_eq_true rfl) rfl
theorem fX8_high_8 : ft 87 8 = some (.ifCond .eq 15, 0, 0, 0, .null) := by decide +kernel
theorem gX8_high_8T {L : List (Option Value)} {a : Int} (c : (-2147483648 ≤ a ∧ a ≤ 2147483647) ∧ a = 0) {st : List Value} {H : HP} {Q : Option Value → HP → Prop} : Go 87 8 L (vi a :: st) H Q ↔ Go 87 23 L st H Q := G_ifT fX8_high_8 (by decide) c
theorem gX8_high_8F {L : List (Option Value)} {a : Int} (c : (-2147483648 ≤ a ∧ a ≤ 2147483647) ∧ ¬ (a = 0)) {st : List Value} {H : HP} {Q : Option Value → HP → Prop} : Go 87 8 L (vi a :: st) H Q ↔ Go 87 11 L st H Q := G_ifF (tg := 23) fX8_high_8 (by decide) c
theorem fX8_high_11 : ft 87 11 = some (.aload_n 0, 0, 0, 0, .null) := by decide +kernel
theorem gX8_high_11 {l1 : Option Value} {u : Nat} {st : List Value} {H : HP} {Q : Option Value → HP → Prop} : Go 87 11 [some (.ref u), l1] st H Q ↔ Go 87 12 [some (.ref u), l1] (.ref u :: st) H Q := G_aload_n fX8_high_11 rfl
theorem fX8_high_12 : ft 87 12 = some (.getfield 81, 8, 2, 223, .null) := by decide +kernel
theorem gX8_high_12 {L : List (Option Value)} {p : Nat} {st : List Value} {H : HP} {Q : Option Value → HP → Prop} : Go 87 12 L (.ref p :: st) H Q ↔ Rd (gF' 8 2 (hget H p)) 87 15 L st H Q := G_getf fX8_high_12 ⟨rfl, rfl⟩
theorem fX8_high_15 : ft 87 15 = some (.getfield 190, 4, 0, 191, .null) := by decide +kernel
theorem gX8_high_15 {L : List (Option Value)} {p : Nat} {st : List Value} {H : HP} {Q : Option Value → HP → Prop} : Go 87 15 L (.ref p :: st) H Q ↔ Rd (gF' 4 0 (hget H p)) 87 18 L st H Q := G_getf fX8_high_15 ⟨rfl, rfl⟩
theorem fX8_high_18 : ft 87 18 = some (.iload_n 1, 0, 0, 0, .null) := by decide +kernel
theorem gX8_high_18 {l0 : Option Value} {u : Int32} {st : List Value} {H : HP} {Q : Option Value → HP → Prop} : Go 87 18 [l0, some (.int u)] st H Q ↔ Go 87 19 [l0, some (.int u)] (.int u :: st) H Q := G_iload_n fX8_high_18 rfl
theorem fX8_high_19 : ft 87 19 = some (.laload, 0, 0, 0, .null) := by decide +kernel
theorem gX8_high_19 {L : List (Option Value)} {p : Nat} {a : Int} {st : List Value} {H : HP} {Q : Option Value → HP → Prop} : Go 87 19 L (vi a :: .ref p :: st) H Q ↔ Rd (aL' (hget H p) a) 87 20 L st H Q := G_lald fX8_high_19
theorem fX8_high_20 : ft 87 20 = some (.goto 4, 0, 0, 0, .null) := by decide +kernel
theorem gX8_high_20 {L : List (Option Value)} {st : List Value} {H : HP} {Q : Option Value → HP → Prop} : Go 87 20 L st H Q ↔ Go 87 24 L st H Q := G_goto fX8_high_20 (by decide)
theorem fX8_high_23 : ft 87 23 = some (.lconst 0, 0, 0, 0, .null) := by decide +kernel
theorem gX8_high_23 {L : List (Option Value)} {st : List Value} {H : HP} {Q : Option Value → HP → Prop} : Go 87 23 L st H Q ↔ Go 87 24 L (vl 0 :: st) H Q := G_lconst fX8_high_23 (by decide)
theorem fX8_high_24 : ft 87 24 = some (.lreturn, 0, 0, 0, .null) := by decide +kernel
theorem gX8_high_24 {L : List (Option Value)} {u : Int64} {H : HP} {Q : Option Value → HP → Prop} : Go 87 24 L [.long u] H Q ↔ Q (some (.long u)) H := G_lret fX8_high_24 (by decide +kernel)
theorem fX8_low_0 : ft 88 0 = some (.aload_n 0, 0, 0, 0, .null) := by decide +kernel
theorem gX8_low_0 {l1 : Option Value} {u : Nat} {st : List Value} {H : HP} {Q : Option Value → HP → Prop} : Go 88 0 [some (.ref u), l1] st H Q ↔ Go 88 1 [some (.ref u), l1] (.ref u :: st) H Q := G_aload_n fX8_low_0 rfl
theorem fX8_low_1 : ft 88 1 = some (.getfield 81, 8, 2, 223, .null) := by decide +kernel
theorem gX8_low_1 {L : List (Option Value)} {p : Nat} {st : List Value} {H : HP} {Q : Option Value → HP → Prop} : Go 88 1 L (.ref p :: st) H Q ↔ Rd (gF' 8 2 (hget H p)) 88 4 L st H Q := G_getf fX8_low_1 ⟨rfl, rfl⟩
theorem fX8_low_4 : ft 88 4 = some (.iload_n 1, 0, 0, 0, .null) := by decide +kernel
theorem gX8_low_4 {l0 : Option Value} {u : Int32} {st : List Value} {H : HP} {Q : Option Value → HP → Prop} : Go 88 4 [l0, some (.int u)] st H Q ↔ Go 88 5 [l0, some (.int u)] (.int u :: st) H Q := G_iload_n fX8_low_4 rfl
theorem fX8_low_5 : ft 88 5 = some (.invokevirtual 189, 42, 0, 558, .null) := by decide +kernel
theorem gX8_low_5 {L : List (Option Value)} {p : Nat} {a0 : Int32}  {H : HP} {Q : Option Value → HP → Prop} : Go 88 5 L (.int a0 :: .ref p :: []) H Q ↔ (iso 4 (hget H p) = true ∧ Go 42 0 [some (.ref p), some (.int a0)] [] H (Cont 88 8 L [] Q)) := G_cV (n := 1) (N := 2) (as := [.int a0]) (st := []) fX8_low_5 (by decide +kernel) rfl (Nat.le_of_ble_eq_true rfl) (Nat.le_of_ble_eq_true rfl) rfl
theorem fX8_low_8 : ft 88 8 = some (.ifCond .eq 15, 0, 0, 0, .null) := by decide +kernel
theorem gX8_low_8T {L : List (Option Value)} {a : Int} (c : (-2147483648 ≤ a ∧ a ≤ 2147483647) ∧ a = 0) {st : List Value} {H : HP} {Q : Option Value → HP → Prop} : Go 88 8 L (vi a :: st) H Q ↔ Go 88 23 L st H Q := G_ifT fX8_low_8 (by decide) c
theorem gX8_low_8F {L : List (Option Value)} {a : Int} (c : (-2147483648 ≤ a ∧ a ≤ 2147483647) ∧ ¬ (a = 0)) {st : List Value} {H : HP} {Q : Option Value → HP → Prop} : Go 88 8 L (vi a :: st) H Q ↔ Go 88 11 L st H Q := G_ifF (tg := 23) fX8_low_8 (by decide) c
theorem fX8_low_11 : ft 88 11 = some (.aload_n 0, 0, 0, 0, .null) := by decide +kernel
theorem gX8_low_11 {l1 : Option Value} {u : Nat} {st : List Value} {H : HP} {Q : Option Value → HP → Prop} : Go 88 11 [some (.ref u), l1] st H Q ↔ Go 88 12 [some (.ref u), l1] (.ref u :: st) H Q := G_aload_n fX8_low_11 rfl
theorem fX8_low_12 : ft 88 12 = some (.getfield 81, 8, 2, 223, .null) := by decide +kernel
theorem gX8_low_12 {L : List (Option Value)} {p : Nat} {st : List Value} {H : HP} {Q : Option Value → HP → Prop} : Go 88 12 L (.ref p :: st) H Q ↔ Rd (gF' 8 2 (hget H p)) 88 15 L st H Q := G_getf fX8_low_12 ⟨rfl, rfl⟩
theorem fX8_low_15 : ft 88 15 = some (.getfield 193, 4, 1, 193, .null) := by decide +kernel
theorem gX8_low_15 {L : List (Option Value)} {p : Nat} {st : List Value} {H : HP} {Q : Option Value → HP → Prop} : Go 88 15 L (.ref p :: st) H Q ↔ Rd (gF' 4 1 (hget H p)) 88 18 L st H Q := G_getf fX8_low_15 ⟨rfl, rfl⟩
theorem fX8_low_18 : ft 88 18 = some (.iload_n 1, 0, 0, 0, .null) := by decide +kernel
theorem gX8_low_18 {l0 : Option Value} {u : Int32} {st : List Value} {H : HP} {Q : Option Value → HP → Prop} : Go 88 18 [l0, some (.int u)] st H Q ↔ Go 88 19 [l0, some (.int u)] (.int u :: st) H Q := G_iload_n fX8_low_18 rfl
theorem fX8_low_19 : ft 88 19 = some (.laload, 0, 0, 0, .null) := by decide +kernel
theorem gX8_low_19 {L : List (Option Value)} {p : Nat} {a : Int} {st : List Value} {H : HP} {Q : Option Value → HP → Prop} : Go 88 19 L (vi a :: .ref p :: st) H Q ↔ Rd (aL' (hget H p) a) 88 20 L st H Q := G_lald fX8_low_19
theorem fX8_low_20 : ft 88 20 = some (.goto 4, 0, 0, 0, .null) := by decide +kernel
theorem gX8_low_20 {L : List (Option Value)} {st : List Value} {H : HP} {Q : Option Value → HP → Prop} : Go 88 20 L st H Q ↔ Go 88 24 L st H Q := G_goto fX8_low_20 (by decide)
theorem fX8_low_23 : ft 88 23 = some (.lconst 0, 0, 0, 0, .null) := by decide +kernel
theorem gX8_low_23 {L : List (Option Value)} {st : List Value} {H : HP} {Q : Option Value → HP → Prop} : Go 88 23 L st H Q ↔ Go 88 24 L (vl 0 :: st) H Q := G_lconst fX8_low_23 (by decide)
theorem fX8_low_24 : ft 88 24 = some (.lreturn, 0, 0, 0, .null) := by decide +kernel
theorem gX8_low_24 {L : List (Option Value)} {u : Int64} {H : HP} {Q : Option Value → HP → Prop} : Go 88 24 L [.long u] H Q ↔ Q (some (.long u)) H := G_lret fX8_low_24 (by decide +kernel)
theorem fX8_carry_0 : ft 89 0 = some (.iload_n 1, 0, 0, 0, .null) := by decide +kernel
theorem gX8_carry_0 {l0 l2 l3 l4 l5 : Option Value} {u : Int32} {st : List Value} {H : HP} {Q : Option Value → HP → Prop} : Go 89 0 [l0, some (.int u), l2, l3, l4, l5] st H Q ↔ Go 89 1 [l0, some (.int u), l2, l3, l4, l5] (.int u :: st) H Q := G_iload_n fX8_carry_0 rfl
theorem fX8_carry_1 : ft 89 1 = some (.invokestatic 85, 108, 0, 265, .null) := by decide +kernel
theorem gX8_carry_1 {L : List (Option Value)} {a0 : Int32}  {H : HP} {Q : Option Value → HP → Prop} : Go 89 1 L (.int a0 :: []) H Q ↔ Go 108 0 [some (.int a0)] [] H (Cont 89 4 L [] Q) := G_cS (n := 1) (N := 1) (as := [.int a0]) (st := []) fX8_carry_1 (by decide +kernel) rfl (Nat.le_of_ble_eq_true rfl) (Nat.le_of_ble_eq_true rfl) rfl
theorem fX8_carry_4 : ft 89 4 = some (.ifCond .ne 5, 0, 0, 0, .null) := by decide +kernel
theorem gX8_carry_4T {L : List (Option Value)} {a : Int} (c : (-2147483648 ≤ a ∧ a ≤ 2147483647) ∧ ¬ a = 0) {st : List Value} {H : HP} {Q : Option Value → HP → Prop} : Go 89 4 L (vi a :: st) H Q ↔ Go 89 9 L st H Q := G_ifT fX8_carry_4 (by decide) c
theorem gX8_carry_4F {L : List (Option Value)} {a : Int} (c : (-2147483648 ≤ a ∧ a ≤ 2147483647) ∧ ¬ (¬ a = 0)) {st : List Value} {H : HP} {Q : Option Value → HP → Prop} : Go 89 4 L (vi a :: st) H Q ↔ Go 89 7 L st H Q := G_ifF (tg := 9) fX8_carry_4 (by decide) c
theorem fX8_carry_7 : ft 89 7 = some (.iconst (-1), 0, 0, 0, .null) := by decide +kernel
theorem gX8_carry_7 {L : List (Option Value)} {st : List Value} {H : HP} {Q : Option Value → HP → Prop} : Go 89 7 L st H Q ↔ Go 89 8 L (vi (-1) :: st) H Q := G_iconst fX8_carry_7
theorem fX8_carry_8 : ft 89 8 = some (.ireturn, 0, 0, 0, .null) := by decide +kernel
theorem gX8_carry_8 {L : List (Option Value)} {u : Int32} {H : HP} {Q : Option Value → HP → Prop} : Go 89 8 L [.int u] H Q ↔ Q (some (.int u)) H := G_iret fX8_carry_8 (by decide +kernel)
theorem fX8_carry_9 : ft 89 9 = some (.iload_n 2, 0, 0, 0, .null) := by decide +kernel
theorem gX8_carry_9 {l0 l1 l3 l4 l5 : Option Value} {u : Int32} {st : List Value} {H : HP} {Q : Option Value → HP → Prop} : Go 89 9 [l0, l1, some (.int u), l3, l4, l5] st H Q ↔ Go 89 10 [l0, l1, some (.int u), l3, l4, l5] (.int u :: st) H Q := G_iload_n fX8_carry_9 rfl
theorem fX8_carry_10 : ft 89 10 = some (.iconst 2, 0, 0, 0, .null) := by decide +kernel
theorem gX8_carry_10 {L : List (Option Value)} {st : List Value} {H : HP} {Q : Option Value → HP → Prop} : Go 89 10 L st H Q ↔ Go 89 11 L (vi 2 :: st) H Q := G_iconst fX8_carry_10
theorem fX8_carry_11 : ft 89 11 = some (.if_icmp .lt 10, 0, 0, 0, .null) := by decide +kernel
theorem gX8_carry_11T {L : List (Option Value)} {a b : Int} (c : (-2147483648 ≤ a ∧ a ≤ 2147483647 ∧ -2147483648 ≤ b ∧ b ≤ 2147483647) ∧ a < b) {st : List Value} {H : HP} {Q : Option Value → HP → Prop} : Go 89 11 L (vi b :: vi a :: st) H Q ↔ Go 89 21 L st H Q := G_icT fX8_carry_11 (by decide) c
theorem gX8_carry_11F {L : List (Option Value)} {a b : Int} (c : (-2147483648 ≤ a ∧ a ≤ 2147483647 ∧ -2147483648 ≤ b ∧ b ≤ 2147483647) ∧ ¬ (a < b)) {st : List Value} {H : HP} {Q : Option Value → HP → Prop} : Go 89 11 L (vi b :: vi a :: st) H Q ↔ Go 89 14 L st H Q := G_icF (tg := 21) fX8_carry_11 (by decide) c
theorem fX8_carry_14 : ft 89 14 = some (.iload_n 2, 0, 0, 0, .null) := by decide +kernel
theorem gX8_carry_14 {l0 l1 l3 l4 l5 : Option Value} {u : Int32} {st : List Value} {H : HP} {Q : Option Value → HP → Prop} : Go 89 14 [l0, l1, some (.int u), l3, l4, l5] st H Q ↔ Go 89 15 [l0, l1, some (.int u), l3, l4, l5] (.int u :: st) H Q := G_iload_n fX8_carry_14 rfl
theorem fX8_carry_15 : ft 89 15 = some (.sipush 10000, 0, 0, 0, .null) := by decide +kernel
theorem gX8_carry_15 {L : List (Option Value)} {st : List Value} {H : HP} {Q : Option Value → HP → Prop} : Go 89 15 L st H Q ↔ Go 89 18 L (vi 10000 :: st) H Q := G_sipush fX8_carry_15 (by decide)
theorem fX8_carry_18 : ft 89 18 = some (.if_icmp .le 6, 0, 0, 0, .null) := by decide +kernel
theorem gX8_carry_18T {L : List (Option Value)} {a b : Int} (c : (-2147483648 ≤ a ∧ a ≤ 2147483647 ∧ -2147483648 ≤ b ∧ b ≤ 2147483647) ∧ a ≤ b) {st : List Value} {H : HP} {Q : Option Value → HP → Prop} : Go 89 18 L (vi b :: vi a :: st) H Q ↔ Go 89 24 L st H Q := G_icT fX8_carry_18 (by decide) c
theorem gX8_carry_18F {L : List (Option Value)} {a b : Int} (c : (-2147483648 ≤ a ∧ a ≤ 2147483647 ∧ -2147483648 ≤ b ∧ b ≤ 2147483647) ∧ ¬ (a ≤ b)) {st : List Value} {H : HP} {Q : Option Value → HP → Prop} : Go 89 18 L (vi b :: vi a :: st) H Q ↔ Go 89 21 L st H Q := G_icF (tg := 24) fX8_carry_18 (by decide) c
theorem fX8_carry_21 : ft 89 21 = some (.bipush (-2), 0, 0, 0, .null) := by decide +kernel
theorem gX8_carry_21 {L : List (Option Value)} {st : List Value} {H : HP} {Q : Option Value → HP → Prop} : Go 89 21 L st H Q ↔ Go 89 23 L (vi (-2) :: st) H Q := G_bipush fX8_carry_21 (by decide)
theorem fX8_carry_23 : ft 89 23 = some (.ireturn, 0, 0, 0, .null) := by decide +kernel
theorem gX8_carry_23 {L : List (Option Value)} {u : Int32} {H : HP} {Q : Option Value → HP → Prop} : Go 89 23 L [.int u] H Q ↔ Q (some (.int u)) H := G_iret fX8_carry_23 (by decide +kernel)
theorem fX8_carry_24 : ft 89 24 = some (.aload_n 0, 0, 0, 0, .null) := by decide +kernel
theorem gX8_carry_24 {l1 l2 l3 l4 l5 : Option Value} {u : Nat} {st : List Value} {H : HP} {Q : Option Value → HP → Prop} : Go 89 24 [some (.ref u), l1, l2, l3, l4, l5] st H Q ↔ Go 89 25 [some (.ref u), l1, l2, l3, l4, l5] (.ref u :: st) H Q := G_aload_n fX8_carry_24 rfl
theorem fX8_carry_25 : ft 89 25 = some (.getfield 81, 8, 2, 223, .null) := by decide +kernel
theorem gX8_carry_25 {L : List (Option Value)} {p : Nat} {st : List Value} {H : HP} {Q : Option Value → HP → Prop} : Go 89 25 L (.ref p :: st) H Q ↔ Rd (gF' 8 2 (hget H p)) 89 28 L st H Q := G_getf fX8_carry_25 ⟨rfl, rfl⟩
theorem fX8_carry_28 : ft 89 28 = some (.getfield 177, 4, 2, 195, .null) := by decide +kernel
theorem gX8_carry_28 {L : List (Option Value)} {p : Nat} {st : List Value} {H : HP} {Q : Option Value → HP → Prop} : Go 89 28 L (.ref p :: st) H Q ↔ Rd (gF' 4 2 (hget H p)) 89 31 L st H Q := G_getf fX8_carry_28 ⟨rfl, rfl⟩
theorem fX8_carry_31 : ft 89 31 = some (.ifCond .eq 13, 0, 0, 0, .null) := by decide +kernel
theorem gX8_carry_31T {L : List (Option Value)} {a : Int} (c : (-2147483648 ≤ a ∧ a ≤ 2147483647) ∧ a = 0) {st : List Value} {H : HP} {Q : Option Value → HP → Prop} : Go 89 31 L (vi a :: st) H Q ↔ Go 89 44 L st H Q := G_ifT fX8_carry_31 (by decide) c
theorem gX8_carry_31F {L : List (Option Value)} {a : Int} (c : (-2147483648 ≤ a ∧ a ≤ 2147483647) ∧ ¬ (a = 0)) {st : List Value} {H : HP} {Q : Option Value → HP → Prop} : Go 89 31 L (vi a :: st) H Q ↔ Go 89 34 L st H Q := G_ifF (tg := 44) fX8_carry_31 (by decide) c
theorem fX8_carry_34 : ft 89 34 = some (.aload_n 0, 0, 0, 0, .null) := by decide +kernel
theorem gX8_carry_34 {l1 l2 l3 l4 l5 : Option Value} {u : Nat} {st : List Value} {H : HP} {Q : Option Value → HP → Prop} : Go 89 34 [some (.ref u), l1, l2, l3, l4, l5] st H Q ↔ Go 89 35 [some (.ref u), l1, l2, l3, l4, l5] (.ref u :: st) H Q := G_aload_n fX8_carry_34 rfl
theorem fX8_carry_35 : ft 89 35 = some (.getfield 81, 8, 2, 223, .null) := by decide +kernel
theorem gX8_carry_35 {L : List (Option Value)} {p : Nat} {st : List Value} {H : HP} {Q : Option Value → HP → Prop} : Go 89 35 L (.ref p :: st) H Q ↔ Rd (gF' 8 2 (hget H p)) 89 38 L st H Q := G_getf fX8_carry_35 ⟨rfl, rfl⟩
theorem fX8_carry_38 : ft 89 38 = some (.invokevirtual 196, 43, 0, 570, .null) := by decide +kernel
theorem gX8_carry_38 {L : List (Option Value)} {p : Nat}   {H : HP} {Q : Option Value → HP → Prop} : Go 89 38 L (.ref p :: []) H Q ↔ (iso 4 (hget H p) = true ∧ Go 43 0 [some (.ref p), none] [] H (Cont 89 41 L [] Q)) := G_cV (n := 0) (N := 2) (as := []) (st := []) fX8_carry_38 (by decide +kernel) rfl (Nat.le_of_ble_eq_true rfl) (Nat.le_of_ble_eq_true rfl) rfl
theorem fX8_carry_41 : ft 89 41 = some (.ifCond .eq 6, 0, 0, 0, .null) := by decide +kernel
theorem gX8_carry_41T {L : List (Option Value)} {a : Int} (c : (-2147483648 ≤ a ∧ a ≤ 2147483647) ∧ a = 0) {st : List Value} {H : HP} {Q : Option Value → HP → Prop} : Go 89 41 L (vi a :: st) H Q ↔ Go 89 47 L st H Q := G_ifT fX8_carry_41 (by decide) c
theorem gX8_carry_41F {L : List (Option Value)} {a : Int} (c : (-2147483648 ≤ a ∧ a ≤ 2147483647) ∧ ¬ (a = 0)) {st : List Value} {H : HP} {Q : Option Value → HP → Prop} : Go 89 41 L (vi a :: st) H Q ↔ Go 89 44 L st H Q := G_ifF (tg := 47) fX8_carry_41 (by decide) c
theorem fX8_carry_44 : ft 89 44 = some (.bipush (-3), 0, 0, 0, .null) := by decide +kernel
theorem gX8_carry_44 {L : List (Option Value)} {st : List Value} {H : HP} {Q : Option Value → HP → Prop} : Go 89 44 L st H Q ↔ Go 89 46 L (vi (-3) :: st) H Q := G_bipush fX8_carry_44 (by decide)
theorem fX8_carry_46 : ft 89 46 = some (.ireturn, 0, 0, 0, .null) := by decide +kernel
theorem gX8_carry_46 {L : List (Option Value)} {u : Int32} {H : HP} {Q : Option Value → HP → Prop} : Go 89 46 L [.int u] H Q ↔ Q (some (.int u)) H := G_iret fX8_carry_46 (by decide +kernel)
theorem fX8_carry_47 : ft 89 47 = some (.aload_n 0, 0, 0, 0, .null) := by decide +kernel
theorem gX8_carry_47 {l1 l2 l3 l4 l5 : Option Value} {u : Nat} {st : List Value} {H : HP} {Q : Option Value → HP → Prop} : Go 89 47 [some (.ref u), l1, l2, l3, l4, l5] st H Q ↔ Go 89 48 [some (.ref u), l1, l2, l3, l4, l5] (.ref u :: st) H Q := G_aload_n fX8_carry_47 rfl
theorem fX8_carry_48 : ft 89 48 = some (.getfield 81, 8, 2, 223, .null) := by decide +kernel
theorem gX8_carry_48 {L : List (Option Value)} {p : Nat} {st : List Value} {H : HP} {Q : Option Value → HP → Prop} : Go 89 48 L (.ref p :: st) H Q ↔ Rd (gF' 8 2 (hget H p)) 89 51 L st H Q := G_getf fX8_carry_48 ⟨rfl, rfl⟩
theorem fX8_carry_51 : ft 89 51 = some (.aload_n 0, 0, 0, 0, .null) := by decide +kernel
theorem gX8_carry_51 {l1 l2 l3 l4 l5 : Option Value} {u : Nat} {st : List Value} {H : HP} {Q : Option Value → HP → Prop} : Go 89 51 [some (.ref u), l1, l2, l3, l4, l5] st H Q ↔ Go 89 52 [some (.ref u), l1, l2, l3, l4, l5] (.ref u :: st) H Q := G_aload_n fX8_carry_51 rfl
theorem fX8_carry_52 : ft 89 52 = some (.getfield 56, 8, 10, 231, .null) := by decide +kernel
theorem gX8_carry_52 {L : List (Option Value)} {p : Nat} {st : List Value} {H : HP} {Q : Option Value → HP → Prop} : Go 89 52 L (.ref p :: st) H Q ↔ Rd (gF' 8 10 (hget H p)) 89 55 L st H Q := G_getf fX8_carry_52 ⟨rfl, rfl⟩
theorem fX8_carry_55 : ft 89 55 = some (.iload_n 2, 0, 0, 0, .null) := by decide +kernel
theorem gX8_carry_55 {l0 l1 l3 l4 l5 : Option Value} {u : Int32} {st : List Value} {H : HP} {Q : Option Value → HP → Prop} : Go 89 55 [l0, l1, some (.int u), l3, l4, l5] st H Q ↔ Go 89 56 [l0, l1, some (.int u), l3, l4, l5] (.int u :: st) H Q := G_iload_n fX8_carry_55 rfl
theorem fX8_carry_56 : ft 89 56 = some (.invokevirtual 200, 53, 0, 574, .null) := by decide +kernel
theorem gX8_carry_56 {L : List (Option Value)} {p : Nat} {a0 : Nat} {a1 : Int32}  {H : HP} {Q : Option Value → HP → Prop} : Go 89 56 L (.int a1 :: .ref a0 :: .ref p :: []) H Q ↔ (iso 4 (hget H p) = true ∧ Go 53 0 [some (.ref p), some (.ref a0), some (.int a1), none, none, none, none] [] H (Cont 89 59 L [] Q)) := G_cV (n := 2) (N := 7) (as := [.int a1, .ref a0]) (st := []) fX8_carry_56 (by decide +kernel) rfl (Nat.le_of_ble_eq_true rfl) (Nat.le_of_ble_eq_true rfl) rfl
theorem fX8_carry_59 : ft 89 59 = some (.istore_n 3, 0, 0, 0, .null) := by decide +kernel
theorem gX8_carry_59 {l0 l1 l2 l3 l4 l5 : Option Value} {u : Int32} {st : List Value} {H : HP} {Q : Option Value → HP → Prop} : Go 89 59 [l0, l1, l2, l3, l4, l5] (.int u :: st) H Q ↔ Go 89 60 [l0, l1, l2, some (.int u), l4, l5] st H Q := G_istore_n fX8_carry_59 rfl
theorem fX8_carry_60 : ft 89 60 = some (.iload_n 3, 0, 0, 0, .null) := by decide +kernel
theorem gX8_carry_60 {l0 l1 l2 l4 l5 : Option Value} {u : Int32} {st : List Value} {H : HP} {Q : Option Value → HP → Prop} : Go 89 60 [l0, l1, l2, some (.int u), l4, l5] st H Q ↔ Go 89 61 [l0, l1, l2, some (.int u), l4, l5] (.int u :: st) H Q := G_iload_n fX8_carry_60 rfl
theorem fX8_carry_61 : ft 89 61 = some (.invokestatic 133, 112, 0, 373, .null) := by decide +kernel
theorem gX8_carry_61 {L : List (Option Value)} {a0 : Int32}  {H : HP} {Q : Option Value → HP → Prop} : Go 89 61 L (.int a0 :: []) H Q ↔ Go 112 0 [some (.int a0)] [] H (Cont 89 64 L [] Q) := G_cS (n := 1) (N := 1) (as := [.int a0]) (st := []) fX8_carry_61 (by decide +kernel) rfl (Nat.le_of_ble_eq_true rfl) (Nat.le_of_ble_eq_true rfl) rfl
theorem fX8_carry_64 : ft 89 64 = some (.ifCond .ne 6, 0, 0, 0, .null) := by decide +kernel
theorem gX8_carry_64T {L : List (Option Value)} {a : Int} (c : (-2147483648 ≤ a ∧ a ≤ 2147483647) ∧ ¬ a = 0) {st : List Value} {H : HP} {Q : Option Value → HP → Prop} : Go 89 64 L (vi a :: st) H Q ↔ Go 89 70 L st H Q := G_ifT fX8_carry_64 (by decide) c
theorem gX8_carry_64F {L : List (Option Value)} {a : Int} (c : (-2147483648 ≤ a ∧ a ≤ 2147483647) ∧ ¬ (¬ a = 0)) {st : List Value} {H : HP} {Q : Option Value → HP → Prop} : Go 89 64 L (vi a :: st) H Q ↔ Go 89 67 L st H Q := G_ifF (tg := 70) fX8_carry_64 (by decide) c
theorem fX8_carry_67 : ft 89 67 = some (.bipush (-4), 0, 0, 0, .null) := by decide +kernel
theorem gX8_carry_67 {L : List (Option Value)} {st : List Value} {H : HP} {Q : Option Value → HP → Prop} : Go 89 67 L st H Q ↔ Go 89 69 L (vi (-4) :: st) H Q := G_bipush fX8_carry_67 (by decide)
theorem fX8_carry_69 : ft 89 69 = some (.ireturn, 0, 0, 0, .null) := by decide +kernel
theorem gX8_carry_69 {L : List (Option Value)} {u : Int32} {H : HP} {Q : Option Value → HP → Prop} : Go 89 69 L [.int u] H Q ↔ Q (some (.int u)) H := G_iret fX8_carry_69 (by decide +kernel)
theorem fX8_carry_70 : ft 89 70 = some (.new 9, 5, 0, 52, .null) := by decide +kernel
theorem gX8_carry_70 {L : List (Option Value)} {st : List Value} {H : HP} {Q : Option Value → HP → Prop} : Go 89 70 L st H Q ↔ Go 89 73 L (.ref H.1 :: st) (hnew H (cO 5 [.int 0, .null]) 2) Q := G_new fX8_carry_70 (by decide +kernel)
theorem fX8_carry_73 : ft 89 73 = some (.dup, 0, 0, 0, .null) := by decide +kernel
theorem gX8_carry_73 {L : List (Option Value)} {u : Nat} {st : List Value} {H : HP} {Q : Option Value → HP → Prop} : Go 89 73 L (.ref u :: st) H Q ↔ Go 89 74 L (.ref u :: .ref u :: st) H Q := G_dup fX8_carry_73 rfl
theorem fX8_carry_74 : ft 89 74 = some (.iconst 2, 0, 0, 0, .null) := by decide +kernel
theorem gX8_carry_74 {L : List (Option Value)} {st : List Value} {H : HP} {Q : Option Value → HP → Prop} : Go 89 74 L st H Q ↔ Go 89 75 L (vi 2 :: st) H Q := G_iconst fX8_carry_74
theorem fX8_carry_75 : ft 89 75 = some (.iload_n 3, 0, 0, 0, .null) := by decide +kernel
theorem gX8_carry_75 {l0 l1 l2 l4 l5 : Option Value} {u : Int32} {st : List Value} {H : HP} {Q : Option Value → HP → Prop} : Go 89 75 [l0, l1, l2, some (.int u), l4, l5] st H Q ↔ Go 89 76 [l0, l1, l2, some (.int u), l4, l5] (.int u :: st) H Q := G_iload_n fX8_carry_75 rfl
theorem fX8_carry_76 : ft 89 76 = some (.invokespecial 96, 54, 0, 276, .null) := by decide +kernel
theorem gX8_carry_76 {L : List (Option Value)} {p : Nat} {a0 : Int32} {a1 : Int32} {r0 : Nat} {H : HP} {Q : Option Value → HP → Prop} : Go 89 76 L (.int a1 :: .int a0 :: .ref p :: [.ref r0]) H Q ↔ Go 54 0 [some (.ref p), some (.int a0), some (.int a1)] [] H (Cont 89 79 L [.ref r0] Q) := G_cI (n := 2) (N := 3) (as := [.int a1, .int a0]) (st := [.ref r0]) fX8_carry_76 (by decide +kernel) rfl (Nat.le_of_ble_eq_true rfl) (Nat.le_of_ble_eq_true rfl) rfl
theorem fX8_carry_79 : ft 89 79 = some (.astore 4, 0, 0, 0, .null) := by decide +kernel
theorem gX8_carry_79 {l0 l1 l2 l3 l4 l5 : Option Value} {u : Nat} {st : List Value} {H : HP} {Q : Option Value → HP → Prop} : Go 89 79 [l0, l1, l2, l3, l4, l5] (.ref u :: st) H Q ↔ Go 89 81 [l0, l1, l2, l3, some (.ref u), l5] st H Q := G_astore fX8_carry_79 rfl
theorem gX8_carry_79N {l0 l1 l2 l3 l4 l5 : Option Value} {st : List Value} {H : HP} {Q : Option Value → HP → Prop} : Go 89 79 [l0, l1, l2, l3, l4, l5] (.null :: st) H Q ↔ Go 89 81 [l0, l1, l2, l3, some .null, l5] st H Q := G_astoreN fX8_carry_79 rfl
theorem fX8_carry_81 : ft 89 81 = some (.iconst 0, 0, 0, 0, .null) := by decide +kernel
theorem gX8_carry_81 {L : List (Option Value)} {st : List Value} {H : HP} {Q : Option Value → HP → Prop} : Go 89 81 L st H Q ↔ Go 89 82 L (vi 0 :: st) H Q := G_iconst fX8_carry_81
theorem fX8_carry_82 : ft 89 82 = some (.istore 5, 0, 0, 0, .null) := by decide +kernel
theorem gX8_carry_82 {l0 l1 l2 l3 l4 l5 : Option Value} {u : Int32} {st : List Value} {H : HP} {Q : Option Value → HP → Prop} : Go 89 82 [l0, l1, l2, l3, l4, l5] (.int u :: st) H Q ↔ Go 89 84 [l0, l1, l2, l3, l4, some (.int u)] st H Q := G_istore fX8_carry_82 rfl
theorem fX8_carry_84 : ft 89 84 = some (.iload 5, 0, 0, 0, .null) := by decide +kernel
theorem gX8_carry_84 {l0 l1 l2 l3 l4 : Option Value} {u : Int32} {st : List Value} {H : HP} {Q : Option Value → HP → Prop} : Go 89 84 [l0, l1, l2, l3, l4, some (.int u)] st H Q ↔ Go 89 86 [l0, l1, l2, l3, l4, some (.int u)] (.int u :: st) H Q := G_iload fX8_carry_84 rfl
theorem fX8_carry_86 : ft 89 86 = some (.iload_n 3, 0, 0, 0, .null) := by decide +kernel
theorem gX8_carry_86 {l0 l1 l2 l4 l5 : Option Value} {u : Int32} {st : List Value} {H : HP} {Q : Option Value → HP → Prop} : Go 89 86 [l0, l1, l2, some (.int u), l4, l5] st H Q ↔ Go 89 87 [l0, l1, l2, some (.int u), l4, l5] (.int u :: st) H Q := G_iload_n fX8_carry_86 rfl
theorem fX8_carry_87 : ft 89 87 = some (.if_icmp .ge 24, 0, 0, 0, .null) := by decide +kernel
theorem gX8_carry_87T {L : List (Option Value)} {a b : Int} (c : (-2147483648 ≤ a ∧ a ≤ 2147483647 ∧ -2147483648 ≤ b ∧ b ≤ 2147483647) ∧ b ≤ a) {st : List Value} {H : HP} {Q : Option Value → HP → Prop} : Go 89 87 L (vi b :: vi a :: st) H Q ↔ Go 89 111 L st H Q := G_icT fX8_carry_87 (by decide) c
theorem gX8_carry_87F {L : List (Option Value)} {a b : Int} (c : (-2147483648 ≤ a ∧ a ≤ 2147483647 ∧ -2147483648 ≤ b ∧ b ≤ 2147483647) ∧ ¬ (b ≤ a)) {st : List Value} {H : HP} {Q : Option Value → HP → Prop} : Go 89 87 L (vi b :: vi a :: st) H Q ↔ Go 89 90 L st H Q := G_icF (tg := 111) fX8_carry_87 (by decide) c
theorem fX8_carry_90 : ft 89 90 = some (.aload 4, 0, 0, 0, .null) := by decide +kernel
theorem gX8_carry_90 {l0 l1 l2 l3 l5 : Option Value} {u : Nat} {st : List Value} {H : HP} {Q : Option Value → HP → Prop} : Go 89 90 [l0, l1, l2, l3, some (.ref u), l5] st H Q ↔ Go 89 92 [l0, l1, l2, l3, some (.ref u), l5] (.ref u :: st) H Q := G_aload fX8_carry_90 rfl
theorem gX8_carry_90N {l0 l1 l2 l3 l5 : Option Value} {st : List Value} {H : HP} {Q : Option Value → HP → Prop} : Go 89 90 [l0, l1, l2, l3, some .null, l5] st H Q ↔ Go 89 92 [l0, l1, l2, l3, some .null, l5] (.null :: st) H Q := G_aloadN fX8_carry_90 rfl
theorem fX8_carry_92 : ft 89 92 = some (.getfield 109, 5, 1, 286, .null) := by decide +kernel
theorem gX8_carry_92 {L : List (Option Value)} {p : Nat} {st : List Value} {H : HP} {Q : Option Value → HP → Prop} : Go 89 92 L (.ref p :: st) H Q ↔ Rd (gF' 5 1 (hget H p)) 89 95 L st H Q := G_getf fX8_carry_92 ⟨rfl, rfl⟩
theorem fX8_carry_95 : ft 89 95 = some (.iload 5, 0, 0, 0, .null) := by decide +kernel
theorem gX8_carry_95 {l0 l1 l2 l3 l4 : Option Value} {u : Int32} {st : List Value} {H : HP} {Q : Option Value → HP → Prop} : Go 89 95 [l0, l1, l2, l3, l4, some (.int u)] st H Q ↔ Go 89 97 [l0, l1, l2, l3, l4, some (.int u)] (.int u :: st) H Q := G_iload fX8_carry_95 rfl
theorem fX8_carry_97 : ft 89 97 = some (.aload_n 0, 0, 0, 0, .null) := by decide +kernel
theorem gX8_carry_97 {l1 l2 l3 l4 l5 : Option Value} {u : Nat} {st : List Value} {H : HP} {Q : Option Value → HP → Prop} : Go 89 97 [some (.ref u), l1, l2, l3, l4, l5] st H Q ↔ Go 89 98 [some (.ref u), l1, l2, l3, l4, l5] (.ref u :: st) H Q := G_aload_n fX8_carry_97 rfl
theorem fX8_carry_98 : ft 89 98 = some (.getfield 56, 8, 10, 231, .null) := by decide +kernel
theorem gX8_carry_98 {L : List (Option Value)} {p : Nat} {st : List Value} {H : HP} {Q : Option Value → HP → Prop} : Go 89 98 L (.ref p :: st) H Q ↔ Rd (gF' 8 10 (hget H p)) 89 101 L st H Q := G_getf fX8_carry_98 ⟨rfl, rfl⟩
theorem fX8_carry_101 : ft 89 101 = some (.iload 5, 0, 0, 0, .null) := by decide +kernel
theorem gX8_carry_101 {l0 l1 l2 l3 l4 : Option Value} {u : Int32} {st : List Value} {H : HP} {Q : Option Value → HP → Prop} : Go 89 101 [l0, l1, l2, l3, l4, some (.int u)] st H Q ↔ Go 89 103 [l0, l1, l2, l3, l4, some (.int u)] (.int u :: st) H Q := G_iload fX8_carry_101 rfl
theorem fX8_carry_103 : ft 89 103 = some (.laload, 0, 0, 0, .null) := by decide +kernel
theorem gX8_carry_103 {L : List (Option Value)} {p : Nat} {a : Int} {st : List Value} {H : HP} {Q : Option Value → HP → Prop} : Go 89 103 L (vi a :: .ref p :: st) H Q ↔ Rd (aL' (hget H p) a) 89 104 L st H Q := G_lald fX8_carry_103
theorem fX8_carry_104 : ft 89 104 = some (.lastore, 0, 0, 0, .null) := by decide +kernel
theorem gX8_carry_104 {L : List (Option Value)} {p : Nat} {a : Int} {b : Int} (hp : p ≠ 0) {st : List Value} {H : HP} {Q : Option Value → HP → Prop} : Go 89 104 L (vl b :: vi a :: .ref p :: st) H Q ↔ Wr (sL' (hget H p) a b) p 89 105 L st H Q := G_last fX8_carry_104 hp
theorem fX8_carry_105 : ft 89 105 = some (.iinc 5 1, 0, 0, 0, .null) := by decide +kernel
theorem gX8_carry_105 {l0 l1 l2 l3 l4 : Option Value} {a : Int} {st : List Value} {H : HP} {Q : Option Value → HP → Prop} : Go 89 105 [l0, l1, l2, l3, l4, some (vi a)] st H Q ↔ Go 89 108 [l0, l1, l2, l3, l4, some (vi (a + 1))] st H Q := G_iinc fX8_carry_105 rfl rfl
theorem fX8_carry_108 : ft 89 108 = some (.goto (-24), 0, 0, 0, .null) := by decide +kernel
theorem gX8_carry_108 {L : List (Option Value)} {st : List Value} {H : HP} {Q : Option Value → HP → Prop} : Go 89 108 L st H Q ↔ Go 89 84 L st H Q := G_goto fX8_carry_108 (by decide)
theorem fX8_carry_111 : ft 89 111 = some (.aload_n 0, 0, 0, 0, .null) := by decide +kernel
theorem gX8_carry_111 {l1 l2 l3 l4 l5 : Option Value} {u : Nat} {st : List Value} {H : HP} {Q : Option Value → HP → Prop} : Go 89 111 [some (.ref u), l1, l2, l3, l4, l5] st H Q ↔ Go 89 112 [some (.ref u), l1, l2, l3, l4, l5] (.ref u :: st) H Q := G_aload_n fX8_carry_111 rfl
theorem fX8_carry_112 : ft 89 112 = some (.getfield 11, 8, 0, 221, .null) := by decide +kernel
theorem gX8_carry_112 {L : List (Option Value)} {p : Nat} {st : List Value} {H : HP} {Q : Option Value → HP → Prop} : Go 89 112 L (.ref p :: st) H Q ↔ Rd (gF' 8 0 (hget H p)) 89 115 L st H Q := G_getf fX8_carry_112 ⟨rfl, rfl⟩
theorem fX8_carry_115 : ft 89 115 = some (.iload_n 1, 0, 0, 0, .null) := by decide +kernel
theorem gX8_carry_115 {l0 l2 l3 l4 l5 : Option Value} {u : Int32} {st : List Value} {H : HP} {Q : Option Value → HP → Prop} : Go 89 115 [l0, some (.int u), l2, l3, l4, l5] st H Q ↔ Go 89 116 [l0, some (.int u), l2, l3, l4, l5] (.int u :: st) H Q := G_iload_n fX8_carry_115 rfl
theorem fX8_carry_116 : ft 89 116 = some (.aload 4, 0, 0, 0, .null) := by decide +kernel
theorem gX8_carry_116 {l0 l1 l2 l3 l5 : Option Value} {u : Nat} {st : List Value} {H : HP} {Q : Option Value → HP → Prop} : Go 89 116 [l0, l1, l2, l3, some (.ref u), l5] st H Q ↔ Go 89 118 [l0, l1, l2, l3, some (.ref u), l5] (.ref u :: st) H Q := G_aload fX8_carry_116 rfl
theorem gX8_carry_116N {l0 l1 l2 l3 l5 : Option Value} {st : List Value} {H : HP} {Q : Option Value → HP → Prop} : Go 89 116 [l0, l1, l2, l3, some .null, l5] st H Q ↔ Go 89 118 [l0, l1, l2, l3, some .null, l5] (.null :: st) H Q := G_aloadN fX8_carry_116 rfl
theorem fX8_carry_118 : ft 89 118 = some (.aastore, 0, 0, 0, .null) := by decide +kernel
theorem gX8_carry_118 {L : List (Option Value)} {p : Nat} {a : Int} {b : Nat} (hp : p ≠ 0) {st : List Value} {H : HP} {Q : Option Value → HP → Prop} : Go 89 118 L (.ref b :: vi a :: .ref p :: st) H Q ↔ Wr (sR' (hget H p) a b (hget H b)) p 89 119 L st H Q := G_aast fX8_carry_118 hp
theorem fX8_carry_119 : ft 89 119 = some (.iload_n 3, 0, 0, 0, .null) := by decide +kernel
theorem gX8_carry_119 {l0 l1 l2 l4 l5 : Option Value} {u : Int32} {st : List Value} {H : HP} {Q : Option Value → HP → Prop} : Go 89 119 [l0, l1, l2, some (.int u), l4, l5] st H Q ↔ Go 89 120 [l0, l1, l2, some (.int u), l4, l5] (.int u :: st) H Q := G_iload_n fX8_carry_119 rfl
theorem fX8_carry_120 : ft 89 120 = some (.ireturn, 0, 0, 0, .null) := by decide +kernel
theorem gX8_carry_120 {L : List (Option Value)} {u : Int32} {H : HP} {Q : Option Value → HP → Prop} : Go 89 120 L [.int u] H Q ↔ Q (some (.int u)) H := G_iret fX8_carry_120 (by decide +kernel)

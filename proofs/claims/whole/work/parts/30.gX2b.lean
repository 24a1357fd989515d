theorem fX2_fillWhole_0 : ft 26 0 = some (.aload_n 0, 0, 0, 0, .null) := by decide +kernel
theorem gX2_fillWhole_0 {l1 l2 l3 l4 : Option Value} {u : Nat} {st : List Value} {H : HP} {Q : Option Value → HP → Prop} : Go 26 0 [some (.ref u), l1, l2, l3, l4] st H Q ↔ Go 26 1 [some (.ref u), l1, l2, l3, l4] (.ref u :: st) H Q := G_aload_n fX2_fillWhole_0 rfl
theorem fX2_fillWhole_1 : ft 26 1 = some (.getfield 18, 2, 2, 64, .null) := by decide +kernel
theorem gX2_fillWhole_1 {L : List (Option Value)} {p : Nat} {st : List Value} {H : HP} {Q : Option Value → HP → Prop} : Go 26 1 L (.ref p :: st) H Q ↔ Rd (gF' 2 2 (hget H p)) 26 4 L st H Q := G_getf fX2_fillWhole_1 ⟨rfl, rfl⟩
theorem fX2_fillWhole_4 : ft 26 4 = some (.iconst 0, 0, 0, 0, .null) := by decide +kernel
theorem gX2_fillWhole_4 {L : List (Option Value)} {st : List Value} {H : HP} {Q : Option Value → HP → Prop} : Go 26 4 L st H Q ↔ Go 26 5 L (vi 0 :: st) H Q := G_iconst fX2_fillWhole_4
theorem fX2_fillWhole_5 : ft 26 5 = some (.lconst 1, 0, 0, 0, .null) := by decide +kernel
theorem gX2_fillWhole_5 {L : List (Option Value)} {st : List Value} {H : HP} {Q : Option Value → HP → Prop} : Go 26 5 L st H Q ↔ Go 26 6 L (vl 1 :: st) H Q := G_lconst fX2_fillWhole_5 (by decide)
theorem fX2_fillWhole_6 : ft 26 6 = some (.lastore, 0, 0, 0, .null) := by decide +kernel
theorem gX2_fillWhole_6 {L : List (Option Value)} {p : Nat} {a : Int} {b : Int} (hp : p ≠ 0) {st : List Value} {H : HP} {Q : Option Value → HP → Prop} : Go 26 6 L (vl b :: vi a :: .ref p :: st) H Q ↔ Wr (sL' (hget H p) a b) p 26 7 L st H Q := G_last fX2_fillWhole_6 hp
theorem fX2_fillWhole_7 : ft 26 7 = some (.iconst 0, 0, 0, 0, .null) := by decide +kernel
theorem gX2_fillWhole_7 {L : List (Option Value)} {st : List Value} {H : HP} {Q : Option Value → HP → Prop} : Go 26 7 L st H Q ↔ Go 26 8 L (vi 0 :: st) H Q := G_iconst fX2_fillWhole_7
theorem fX2_fillWhole_8 : ft 26 8 = some (.istore_n 3, 0, 0, 0, .null) := by decide +kernel
theorem gX2_fillWhole_8 {l0 l1 l2 l3 l4 : Option Value} {u : Int32} {st : List Value} {H : HP} {Q : Option Value → HP → Prop} : Go 26 8 [l0, l1, l2, l3, l4] (.int u :: st) H Q ↔ Go 26 9 [l0, l1, l2, some (.int u), l4] st H Q := G_istore_n fX2_fillWhole_8 rfl
theorem fX2_fillWhole_9 : ft 26 9 = some (.iload_n 3, 0, 0, 0, .null) := by decide +kernel
theorem gX2_fillWhole_9 {l0 l1 l2 l4 : Option Value} {u : Int32} {st : List Value} {H : HP} {Q : Option Value → HP → Prop} : Go 26 9 [l0, l1, l2, some (.int u), l4] st H Q ↔ Go 26 10 [l0, l1, l2, some (.int u), l4] (.int u :: st) H Q := G_iload_n fX2_fillWhole_9 rfl
theorem fX2_fillWhole_10 : ft 26 10 = some (.iload_n 1, 0, 0, 0, .null) := by decide +kernel
theorem gX2_fillWhole_10 {l0 l2 l3 l4 : Option Value} {u : Int32} {st : List Value} {H : HP} {Q : Option Value → HP → Prop} : Go 26 10 [l0, some (.int u), l2, l3, l4] st H Q ↔ Go 26 11 [l0, some (.int u), l2, l3, l4] (.int u :: st) H Q := G_iload_n fX2_fillWhole_10 rfl
theorem fX2_fillWhole_11 : ft 26 11 = some (.if_icmp .ge 101, 0, 0, 0, .null) := by decide +kernel
theorem gX2_fillWhole_11T {L : List (Option Value)} {a b : Int} (c : (-2147483648 ≤ a ∧ a ≤ 2147483647 ∧ -2147483648 ≤ b ∧ b ≤ 2147483647) ∧ b ≤ a) {st : List Value} {H : HP} {Q : Option Value → HP → Prop} : Go 26 11 L (vi b :: vi a :: st) H Q ↔ Go 26 112 L st H Q := G_icT fX2_fillWhole_11 (by decide) c
theorem gX2_fillWhole_11F {L : List (Option Value)} {a b : Int} (c : (-2147483648 ≤ a ∧ a ≤ 2147483647 ∧ -2147483648 ≤ b ∧ b ≤ 2147483647) ∧ ¬ (b ≤ a)) {st : List Value} {H : HP} {Q : Option Value → HP → Prop} : Go 26 11 L (vi b :: vi a :: st) H Q ↔ Go 26 14 L st H Q := G_icF (tg := 112) fX2_fillWhole_11 (by decide) c
theorem fX2_fillWhole_14 : ft 26 14 = some (.aload_n 0, 0, 0, 0, .null) := by decide +kernel
theorem gX2_fillWhole_14 {l1 l2 l3 l4 : Option Value} {u : Nat} {st : List Value} {H : HP} {Q : Option Value → HP → Prop} : Go 26 14 [some (.ref u), l1, l2, l3, l4] st H Q ↔ Go 26 15 [some (.ref u), l1, l2, l3, l4] (.ref u :: st) H Q := G_aload_n fX2_fillWhole_14 rfl
theorem fX2_fillWhole_15 : ft 26 15 = some (.getfield 18, 2, 2, 64, .null) := by decide +kernel
theorem gX2_fillWhole_15 {L : List (Option Value)} {p : Nat} {st : List Value} {H : HP} {Q : Option Value → HP → Prop} : Go 26 15 L (.ref p :: st) H Q ↔ Rd (gF' 2 2 (hget H p)) 26 18 L st H Q := G_getf fX2_fillWhole_15 ⟨rfl, rfl⟩
theorem fX2_fillWhole_18 : ft 26 18 = some (.iload_n 3, 0, 0, 0, .null) := by decide +kernel
theorem gX2_fillWhole_18 {l0 l1 l2 l4 : Option Value} {u : Int32} {st : List Value} {H : HP} {Q : Option Value → HP → Prop} : Go 26 18 [l0, l1, l2, some (.int u), l4] st H Q ↔ Go 26 19 [l0, l1, l2, some (.int u), l4] (.int u :: st) H Q := G_iload_n fX2_fillWhole_18 rfl
theorem fX2_fillWhole_19 : ft 26 19 = some (.iconst 1, 0, 0, 0, .null) := by decide +kernel
theorem gX2_fillWhole_19 {L : List (Option Value)} {st : List Value} {H : HP} {Q : Option Value → HP → Prop} : Go 26 19 L st H Q ↔ Go 26 20 L (vi 1 :: st) H Q := G_iconst fX2_fillWhole_19
theorem fX2_fillWhole_20 : ft 26 20 = some (.iadd, 0, 0, 0, .null) := by decide +kernel
theorem gX2_fillWhole_20 {L : List (Option Value)} {a b : Int} {st : List Value} {H : HP} {Q : Option Value → HP → Prop} : Go 26 20 L (vi b :: vi a :: st) H Q ↔ Go 26 21 L (vi (a + b) :: st) H Q := G_iadd fX2_fillWhole_20
theorem fX2_fillWhole_21 : ft 26 21 = some (.aload_n 0, 0, 0, 0, .null) := by decide +kernel
theorem gX2_fillWhole_21 {l1 l2 l3 l4 : Option Value} {u : Nat} {st : List Value} {H : HP} {Q : Option Value → HP → Prop} : Go 26 21 [some (.ref u), l1, l2, l3, l4] st H Q ↔ Go 26 22 [some (.ref u), l1, l2, l3, l4] (.ref u :: st) H Q := G_aload_n fX2_fillWhole_21 rfl
theorem fX2_fillWhole_22 : ft 26 22 = some (.getfield 18, 2, 2, 64, .null) := by decide +kernel
theorem gX2_fillWhole_22 {L : List (Option Value)} {p : Nat} {st : List Value} {H : HP} {Q : Option Value → HP → Prop} : Go 26 22 L (.ref p :: st) H Q ↔ Rd (gF' 2 2 (hget H p)) 26 25 L st H Q := G_getf fX2_fillWhole_22 ⟨rfl, rfl⟩
theorem fX2_fillWhole_25 : ft 26 25 = some (.iload_n 3, 0, 0, 0, .null) := by decide +kernel
theorem gX2_fillWhole_25 {l0 l1 l2 l4 : Option Value} {u : Int32} {st : List Value} {H : HP} {Q : Option Value → HP → Prop} : Go 26 25 [l0, l1, l2, some (.int u), l4] st H Q ↔ Go 26 26 [l0, l1, l2, some (.int u), l4] (.int u :: st) H Q := G_iload_n fX2_fillWhole_25 rfl
theorem fX2_fillWhole_26 : ft 26 26 = some (.laload, 0, 0, 0, .null) := by decide +kernel
theorem gX2_fillWhole_26 {L : List (Option Value)} {p : Nat} {a : Int} {st : List Value} {H : HP} {Q : Option Value → HP → Prop} : Go 26 26 L (vi a :: .ref p :: st) H Q ↔ Rd (aL' (hget H p) a) 26 27 L st H Q := G_lald fX2_fillWhole_26
theorem fX2_fillWhole_27 : ft 26 27 = some (.lastore, 0, 0, 0, .null) := by decide +kernel
theorem gX2_fillWhole_27 {L : List (Option Value)} {p : Nat} {a : Int} {b : Int} (hp : p ≠ 0) {st : List Value} {H : HP} {Q : Option Value → HP → Prop} : Go 26 27 L (vl b :: vi a :: .ref p :: st) H Q ↔ Wr (sL' (hget H p) a b) p 26 28 L st H Q := G_last fX2_fillWhole_27 hp
theorem fX2_fillWhole_28 : ft 26 28 = some (.iload_n 3, 0, 0, 0, .null) := by decide +kernel
theorem gX2_fillWhole_28 {l0 l1 l2 l4 : Option Value} {u : Int32} {st : List Value} {H : HP} {Q : Option Value → HP → Prop} : Go 26 28 [l0, l1, l2, some (.int u), l4] st H Q ↔ Go 26 29 [l0, l1, l2, some (.int u), l4] (.int u :: st) H Q := G_iload_n fX2_fillWhole_28 rfl
theorem fX2_fillWhole_29 : ft 26 29 = some (.istore 4, 0, 0, 0, .null) := by decide +kernel
theorem gX2_fillWhole_29 {l0 l1 l2 l3 l4 : Option Value} {u : Int32} {st : List Value} {H : HP} {Q : Option Value → HP → Prop} : Go 26 29 [l0, l1, l2, l3, l4] (.int u :: st) H Q ↔ Go 26 31 [l0, l1, l2, l3, some (.int u)] st H Q := G_istore fX2_fillWhole_29 rfl
theorem fX2_fillWhole_31 : ft 26 31 = some (.iload 4, 0, 0, 0, .null) := by decide +kernel
theorem gX2_fillWhole_31 {l0 l1 l2 l3 : Option Value} {u : Int32} {st : List Value} {H : HP} {Q : Option Value → HP → Prop} : Go 26 31 [l0, l1, l2, l3, some (.int u)] st H Q ↔ Go 26 33 [l0, l1, l2, l3, some (.int u)] (.int u :: st) H Q := G_iload fX2_fillWhole_31 rfl
theorem fX2_fillWhole_33 : ft 26 33 = some (.ifCond .le 46, 0, 0, 0, .null) := by decide +kernel
theorem gX2_fillWhole_33T {L : List (Option Value)} {a : Int} (c : (-2147483648 ≤ a ∧ a ≤ 2147483647) ∧ a ≤ 0) {st : List Value} {H : HP} {Q : Option Value → HP → Prop} : Go 26 33 L (vi a :: st) H Q ↔ Go 26 79 L st H Q := G_ifT fX2_fillWhole_33 (by decide) c
theorem gX2_fillWhole_33F {L : List (Option Value)} {a : Int} (c : (-2147483648 ≤ a ∧ a ≤ 2147483647) ∧ ¬ (a ≤ 0)) {st : List Value} {H : HP} {Q : Option Value → HP → Prop} : Go 26 33 L (vi a :: st) H Q ↔ Go 26 36 L st H Q := G_ifF (tg := 79) fX2_fillWhole_33 (by decide) c
theorem fX2_fillWhole_36 : ft 26 36 = some (.aload_n 0, 0, 0, 0, .null) := by decide +kernel
theorem gX2_fillWhole_36 {l1 l2 l3 l4 : Option Value} {u : Nat} {st : List Value} {H : HP} {Q : Option Value → HP → Prop} : Go 26 36 [some (.ref u), l1, l2, l3, l4] st H Q ↔ Go 26 37 [some (.ref u), l1, l2, l3, l4] (.ref u :: st) H Q := G_aload_n fX2_fillWhole_36 rfl
theorem fX2_fillWhole_37 : ft 26 37 = some (.getfield 18, 2, 2, 64, .null) := by decide +kernel
theorem gX2_fillWhole_37 {L : List (Option Value)} {p : Nat} {st : List Value} {H : HP} {Q : Option Value → HP → Prop} : Go 26 37 L (.ref p :: st) H Q ↔ Rd (gF' 2 2 (hget H p)) 26 40 L st H Q := G_getf fX2_fillWhole_37 ⟨rfl, rfl⟩
theorem fX2_fillWhole_40 : ft 26 40 = some (.iload 4, 0, 0, 0, .null) := by decide +kernel
theorem gX2_fillWhole_40 {l0 l1 l2 l3 : Option Value} {u : Int32} {st : List Value} {H : HP} {Q : Option Value → HP → Prop} : Go 26 40 [l0, l1, l2, l3, some (.int u)] st H Q ↔ Go 26 42 [l0, l1, l2, l3, some (.int u)] (.int u :: st) H Q := G_iload fX2_fillWhole_40 rfl
theorem fX2_fillWhole_42 : ft 26 42 = some (.aload_n 2, 0, 0, 0, .null) := by decide +kernel
theorem gX2_fillWhole_42 {l0 l1 l3 l4 : Option Value} {u : Nat} {st : List Value} {H : HP} {Q : Option Value → HP → Prop} : Go 26 42 [l0, l1, some (.ref u), l3, l4] st H Q ↔ Go 26 43 [l0, l1, some (.ref u), l3, l4] (.ref u :: st) H Q := G_aload_n fX2_fillWhole_42 rfl
theorem fX2_fillWhole_43 : ft 26 43 = some (.aload_n 0, 0, 0, 0, .null) := by decide +kernel
theorem gX2_fillWhole_43 {l1 l2 l3 l4 : Option Value} {u : Nat} {st : List Value} {H : HP} {Q : Option Value → HP → Prop} : Go 26 43 [some (.ref u), l1, l2, l3, l4] st H Q ↔ Go 26 44 [some (.ref u), l1, l2, l3, l4] (.ref u :: st) H Q := G_aload_n fX2_fillWhole_43 rfl
theorem fX2_fillWhole_44 : ft 26 44 = some (.getfield 18, 2, 2, 64, .null) := by decide +kernel
theorem gX2_fillWhole_44 {L : List (Option Value)} {p : Nat} {st : List Value} {H : HP} {Q : Option Value → HP → Prop} : Go 26 44 L (.ref p :: st) H Q ↔ Rd (gF' 2 2 (hget H p)) 26 47 L st H Q := G_getf fX2_fillWhole_44 ⟨rfl, rfl⟩
theorem fX2_fillWhole_47 : ft 26 47 = some (.iload 4, 0, 0, 0, .null) := by decide +kernel
theorem gX2_fillWhole_47 {l0 l1 l2 l3 : Option Value} {u : Int32} {st : List Value} {H : HP} {Q : Option Value → HP → Prop} : Go 26 47 [l0, l1, l2, l3, some (.int u)] st H Q ↔ Go 26 49 [l0, l1, l2, l3, some (.int u)] (.int u :: st) H Q := G_iload fX2_fillWhole_47 rfl
theorem fX2_fillWhole_49 : ft 26 49 = some (.iconst 1, 0, 0, 0, .null) := by decide +kernel
theorem gX2_fillWhole_49 {L : List (Option Value)} {st : List Value} {H : HP} {Q : Option Value → HP → Prop} : Go 26 49 L st H Q ↔ Go 26 50 L (vi 1 :: st) H Q := G_iconst fX2_fillWhole_49
theorem fX2_fillWhole_50 : ft 26 50 = some (.isub, 0, 0, 0, .null) := by decide +kernel
theorem gX2_fillWhole_50 {L : List (Option Value)} {a b : Int} {st : List Value} {H : HP} {Q : Option Value → HP → Prop} : Go 26 50 L (vi b :: vi a :: st) H Q ↔ Go 26 51 L (vi (a - b) :: st) H Q := G_isub fX2_fillWhole_50
theorem fX2_fillWhole_51 : ft 26 51 = some (.laload, 0, 0, 0, .null) := by decide +kernel
theorem gX2_fillWhole_51 {L : List (Option Value)} {p : Nat} {a : Int} {st : List Value} {H : HP} {Q : Option Value → HP → Prop} : Go 26 51 L (vi a :: .ref p :: st) H Q ↔ Rd (aL' (hget H p) a) 26 52 L st H Q := G_lald fX2_fillWhole_51
theorem fX2_fillWhole_52 : ft 26 52 = some (.aload_n 2, 0, 0, 0, .null) := by decide +kernel
theorem gX2_fillWhole_52 {l0 l1 l3 l4 : Option Value} {u : Nat} {st : List Value} {H : HP} {Q : Option Value → HP → Prop} : Go 26 52 [l0, l1, some (.ref u), l3, l4] st H Q ↔ Go 26 53 [l0, l1, some (.ref u), l3, l4] (.ref u :: st) H Q := G_aload_n fX2_fillWhole_52 rfl
theorem fX2_fillWhole_53 : ft 26 53 = some (.aload_n 0, 0, 0, 0, .null) := by decide +kernel
theorem gX2_fillWhole_53 {l1 l2 l3 l4 : Option Value} {u : Nat} {st : List Value} {H : HP} {Q : Option Value → HP → Prop} : Go 26 53 [some (.ref u), l1, l2, l3, l4] st H Q ↔ Go 26 54 [some (.ref u), l1, l2, l3, l4] (.ref u :: st) H Q := G_aload_n fX2_fillWhole_53 rfl
theorem fX2_fillWhole_54 : ft 26 54 = some (.getfield 9, 2, 0, 62, .null) := by decide +kernel
theorem gX2_fillWhole_54 {L : List (Option Value)} {p : Nat} {st : List Value} {H : HP} {Q : Option Value → HP → Prop} : Go 26 54 L (.ref p :: st) H Q ↔ Rd (gF' 2 0 (hget H p)) 26 57 L st H Q := G_getf fX2_fillWhole_54 ⟨rfl, rfl⟩
theorem fX2_fillWhole_57 : ft 26 57 = some (.iload_n 3, 0, 0, 0, .null) := by decide +kernel
theorem gX2_fillWhole_57 {l0 l1 l2 l4 : Option Value} {u : Int32} {st : List Value} {H : HP} {Q : Option Value → HP → Prop} : Go 26 57 [l0, l1, l2, some (.int u), l4] st H Q ↔ Go 26 58 [l0, l1, l2, some (.int u), l4] (.int u :: st) H Q := G_iload_n fX2_fillWhole_57 rfl
theorem fX2_fillWhole_58 : ft 26 58 = some (.laload, 0, 0, 0, .null) := by decide +kernel
theorem gX2_fillWhole_58 {L : List (Option Value)} {p : Nat} {a : Int} {st : List Value} {H : HP} {Q : Option Value → HP → Prop} : Go 26 58 L (vi a :: .ref p :: st) H Q ↔ Rd (aL' (hget H p) a) 26 59 L st H Q := G_lald fX2_fillWhole_58
theorem fX2_fillWhole_59 : ft 26 59 = some (.aload_n 0, 0, 0, 0, .null) := by decide +kernel
theorem gX2_fillWhole_59 {l1 l2 l3 l4 : Option Value} {u : Nat} {st : List Value} {H : HP} {Q : Option Value → HP → Prop} : Go 26 59 [some (.ref u), l1, l2, l3, l4] st H Q ↔ Go 26 60 [some (.ref u), l1, l2, l3, l4] (.ref u :: st) H Q := G_aload_n fX2_fillWhole_59 rfl
theorem fX2_fillWhole_60 : ft 26 60 = some (.getfield 18, 2, 2, 64, .null) := by decide +kernel
theorem gX2_fillWhole_60 {L : List (Option Value)} {p : Nat} {st : List Value} {H : HP} {Q : Option Value → HP → Prop} : Go 26 60 L (.ref p :: st) H Q ↔ Rd (gF' 2 2 (hget H p)) 26 63 L st H Q := G_getf fX2_fillWhole_60 ⟨rfl, rfl⟩
theorem fX2_fillWhole_63 : ft 26 63 = some (.iload 4, 0, 0, 0, .null) := by decide +kernel
theorem gX2_fillWhole_63 {l0 l1 l2 l3 : Option Value} {u : Int32} {st : List Value} {H : HP} {Q : Option Value → HP → Prop} : Go 26 63 [l0, l1, l2, l3, some (.int u)] st H Q ↔ Go 26 65 [l0, l1, l2, l3, some (.int u)] (.int u :: st) H Q := G_iload fX2_fillWhole_63 rfl
theorem fX2_fillWhole_65 : ft 26 65 = some (.laload, 0, 0, 0, .null) := by decide +kernel
theorem gX2_fillWhole_65 {L : List (Option Value)} {p : Nat} {a : Int} {st : List Value} {H : HP} {Q : Option Value → HP → Prop} : Go 26 65 L (vi a :: .ref p :: st) H Q ↔ Rd (aL' (hget H p) a) 26 66 L st H Q := G_lald fX2_fillWhole_65
theorem fX2_fillWhole_66 : ft 26 66 = some (.invokevirtual 50, 30, 0, 410, .null) := by decide +kernel
theorem gX2_fillWhole_66 {L : List (Option Value)} {p : Nat} {a0 : Int64} {a1 : Int64} {r0 : Int64} {r1 : Nat} {r2 : Int32} {r3 : Nat} {H : HP} {Q : Option Value → HP → Prop} : Go 26 66 L (.long a1 :: .long a0 :: .ref p :: [.long r0, .ref r1, .int r2, .ref r3]) H Q ↔ (iso 3 (hget H p) = true ∧ Go 30 0 [some (.ref p), some (.long a0), none, some (.long a1), none] [] H (Cont 26 69 L [.long r0, .ref r1, .int r2, .ref r3] Q)) := G_cV (n := 2) (N := 5) (as := [.long a1, .long a0]) (st := [.long r0, .ref r1, .int r2, .ref r3]) fX2_fillWhole_66 (by decide +kernel) rfl (Nat.le_of_ble_eq_true rfl) (Nat.le_of_ble_eq_true rfl) rfl
theorem fX2_fillWhole_69 : ft 26 69 = some (.invokevirtual 69, 32, 0, 617, .null) := by decide +kernel
theorem gX2_fillWhole_69 {L : List (Option Value)} {p : Nat} {a0 : Int64} {a1 : Int64} {r0 : Int32} {r1 : Nat} {H : HP} {Q : Option Value → HP → Prop} : Go 26 69 L (.long a1 :: .long a0 :: .ref p :: [.int r0, .ref r1]) H Q ↔ (iso 3 (hget H p) = true ∧ Go 32 0 [some (.ref p), some (.long a0), none, some (.long a1), none] [] H (Cont 26 72 L [.int r0, .ref r1] Q)) := G_cV (n := 2) (N := 5) (as := [.long a1, .long a0]) (st := [.int r0, .ref r1]) fX2_fillWhole_69 (by decide +kernel) rfl (Nat.le_of_ble_eq_true rfl) (Nat.le_of_ble_eq_true rfl) rfl
theorem fX2_fillWhole_72 : ft 26 72 = some (.lastore, 0, 0, 0, .null) := by decide +kernel
theorem gX2_fillWhole_72 {L : List (Option Value)} {p : Nat} {a : Int} {b : Int} (hp : p ≠ 0) {st : List Value} {H : HP} {Q : Option Value → HP → Prop} : Go 26 72 L (vl b :: vi a :: .ref p :: st) H Q ↔ Wr (sL' (hget H p) a b) p 26 73 L st H Q := G_last fX2_fillWhole_72 hp
theorem fX2_fillWhole_73 : ft 26 73 = some (.iinc 4 (-1), 0, 0, 0, .null) := by decide +kernel
theorem gX2_fillWhole_73 {l0 l1 l2 l3 : Option Value} {a : Int} {st : List Value} {H : HP} {Q : Option Value → HP → Prop} : Go 26 73 [l0, l1, l2, l3, some (vi a)] st H Q ↔ Go 26 76 [l0, l1, l2, l3, some (vi (a + (-1)))] st H Q := G_iinc fX2_fillWhole_73 rfl rfl
theorem fX2_fillWhole_76 : ft 26 76 = some (.goto (-45), 0, 0, 0, .null) := by decide +kernel
theorem gX2_fillWhole_76 {L : List (Option Value)} {st : List Value} {H : HP} {Q : Option Value → HP → Prop} : Go 26 76 L st H Q ↔ Go 26 31 L st H Q := G_goto fX2_fillWhole_76 (by decide)
theorem fX2_fillWhole_79 : ft 26 79 = some (.aload_n 0, 0, 0, 0, .null) := by decide +kernel
theorem gX2_fillWhole_79 {l1 l2 l3 l4 : Option Value} {u : Nat} {st : List Value} {H : HP} {Q : Option Value → HP → Prop} : Go 26 79 [some (.ref u), l1, l2, l3, l4] st H Q ↔ Go 26 80 [some (.ref u), l1, l2, l3, l4] (.ref u :: st) H Q := G_aload_n fX2_fillWhole_79 rfl
theorem fX2_fillWhole_80 : ft 26 80 = some (.getfield 18, 2, 2, 64, .null) := by decide +kernel
theorem gX2_fillWhole_80 {L : List (Option Value)} {p : Nat} {st : List Value} {H : HP} {Q : Option Value → HP → Prop} : Go 26 80 L (.ref p :: st) H Q ↔ Rd (gF' 2 2 (hget H p)) 26 83 L st H Q := G_getf fX2_fillWhole_80 ⟨rfl, rfl⟩
theorem fX2_fillWhole_83 : ft 26 83 = some (.iconst 0, 0, 0, 0, .null) := by decide +kernel
theorem gX2_fillWhole_83 {L : List (Option Value)} {st : List Value} {H : HP} {Q : Option Value → HP → Prop} : Go 26 83 L st H Q ↔ Go 26 84 L (vi 0 :: st) H Q := G_iconst fX2_fillWhole_83
theorem fX2_fillWhole_84 : ft 26 84 = some (.aload_n 2, 0, 0, 0, .null) := by decide +kernel
theorem gX2_fillWhole_84 {l0 l1 l3 l4 : Option Value} {u : Nat} {st : List Value} {H : HP} {Q : Option Value → HP → Prop} : Go 26 84 [l0, l1, some (.ref u), l3, l4] st H Q ↔ Go 26 85 [l0, l1, some (.ref u), l3, l4] (.ref u :: st) H Q := G_aload_n fX2_fillWhole_84 rfl
theorem fX2_fillWhole_85 : ft 26 85 = some (.lconst 0, 0, 0, 0, .null) := by decide +kernel
theorem gX2_fillWhole_85 {L : List (Option Value)} {st : List Value} {H : HP} {Q : Option Value → HP → Prop} : Go 26 85 L st H Q ↔ Go 26 86 L (vl 0 :: st) H Q := G_lconst fX2_fillWhole_85 (by decide)
theorem fX2_fillWhole_86 : ft 26 86 = some (.aload_n 2, 0, 0, 0, .null) := by decide +kernel
theorem gX2_fillWhole_86 {l0 l1 l3 l4 : Option Value} {u : Nat} {st : List Value} {H : HP} {Q : Option Value → HP → Prop} : Go 26 86 [l0, l1, some (.ref u), l3, l4] st H Q ↔ Go 26 87 [l0, l1, some (.ref u), l3, l4] (.ref u :: st) H Q := G_aload_n fX2_fillWhole_86 rfl
theorem fX2_fillWhole_87 : ft 26 87 = some (.aload_n 0, 0, 0, 0, .null) := by decide +kernel
theorem gX2_fillWhole_87 {l1 l2 l3 l4 : Option Value} {u : Nat} {st : List Value} {H : HP} {Q : Option Value → HP → Prop} : Go 26 87 [some (.ref u), l1, l2, l3, l4] st H Q ↔ Go 26 88 [some (.ref u), l1, l2, l3, l4] (.ref u :: st) H Q := G_aload_n fX2_fillWhole_87 rfl
theorem fX2_fillWhole_88 : ft 26 88 = some (.getfield 9, 2, 0, 62, .null) := by decide +kernel
theorem gX2_fillWhole_88 {L : List (Option Value)} {p : Nat} {st : List Value} {H : HP} {Q : Option Value → HP → Prop} : Go 26 88 L (.ref p :: st) H Q ↔ Rd (gF' 2 0 (hget H p)) 26 91 L st H Q := G_getf fX2_fillWhole_88 ⟨rfl, rfl⟩
theorem fX2_fillWhole_91 : ft 26 91 = some (.iload_n 3, 0, 0, 0, .null) := by decide +kernel
theorem gX2_fillWhole_91 {l0 l1 l2 l4 : Option Value} {u : Int32} {st : List Value} {H : HP} {Q : Option Value → HP → Prop} : Go 26 91 [l0, l1, l2, some (.int u), l4] st H Q ↔ Go 26 92 [l0, l1, l2, some (.int u), l4] (.int u :: st) H Q := G_iload_n fX2_fillWhole_91 rfl
theorem fX2_fillWhole_92 : ft 26 92 = some (.laload, 0, 0, 0, .null) := by decide +kernel
theorem gX2_fillWhole_92 {L : List (Option Value)} {p : Nat} {a : Int} {st : List Value} {H : HP} {Q : Option Value → HP → Prop} : Go 26 92 L (vi a :: .ref p :: st) H Q ↔ Rd (aL' (hget H p) a) 26 93 L st H Q := G_lald fX2_fillWhole_92
theorem fX2_fillWhole_93 : ft 26 93 = some (.aload_n 0, 0, 0, 0, .null) := by decide +kernel
theorem gX2_fillWhole_93 {l1 l2 l3 l4 : Option Value} {u : Nat} {st : List Value} {H : HP} {Q : Option Value → HP → Prop} : Go 26 93 [some (.ref u), l1, l2, l3, l4] st H Q ↔ Go 26 94 [some (.ref u), l1, l2, l3, l4] (.ref u :: st) H Q := G_aload_n fX2_fillWhole_93 rfl
theorem fX2_fillWhole_94 : ft 26 94 = some (.getfield 18, 2, 2, 64, .null) := by decide +kernel
theorem gX2_fillWhole_94 {L : List (Option Value)} {p : Nat} {st : List Value} {H : HP} {Q : Option Value → HP → Prop} : Go 26 94 L (.ref p :: st) H Q ↔ Rd (gF' 2 2 (hget H p)) 26 97 L st H Q := G_getf fX2_fillWhole_94 ⟨rfl, rfl⟩
theorem fX2_fillWhole_97 : ft 26 97 = some (.iconst 0, 0, 0, 0, .null) := by decide +kernel
theorem gX2_fillWhole_97 {L : List (Option Value)} {st : List Value} {H : HP} {Q : Option Value → HP → Prop} : Go 26 97 L st H Q ↔ Go 26 98 L (vi 0 :: st) H Q := G_iconst fX2_fillWhole_97
theorem fX2_fillWhole_98 : ft 26 98 = some (.laload, 0, 0, 0, .null) := by decide +kernel
theorem gX2_fillWhole_98 {L : List (Option Value)} {p : Nat} {a : Int} {st : List Value} {H : HP} {Q : Option Value → HP → Prop} : Go 26 98 L (vi a :: .ref p :: st) H Q ↔ Rd (aL' (hget H p) a) 26 99 L st H Q := G_lald fX2_fillWhole_98
theorem fX2_fillWhole_99 : ft 26 99 = some (.invokevirtual 50, 30, 0, 410, .null) := by decide +kernel
theorem gX2_fillWhole_99 {L : List (Option Value)} {p : Nat} {a0 : Int64} {a1 : Int64} {r0 : Int64} {r1 : Nat} {r2 : Int32} {r3 : Nat} {H : HP} {Q : Option Value → HP → Prop} : Go 26 99 L (.long a1 :: .long a0 :: .ref p :: [.long r0, .ref r1, .int r2, .ref r3]) H Q ↔ (iso 3 (hget H p) = true ∧ Go 30 0 [some (.ref p), some (.long a0), none, some (.long a1), none] [] H (Cont 26 102 L [.long r0, .ref r1, .int r2, .ref r3] Q)) := G_cV (n := 2) (N := 5) (as := [.long a1, .long a0]) (st := [.long r0, .ref r1, .int r2, .ref r3]) fX2_fillWhole_99 (by decide +kernel) rfl (Nat.le_of_ble_eq_true rfl) (Nat.le_of_ble_eq_true rfl) rfl
theorem fX2_fillWhole_102 : ft 26 102 = some (.invokevirtual 69, 32, 0, 617, .null) := by decide +kernel
theorem gX2_fillWhole_102 {L : List (Option Value)} {p : Nat} {a0 : Int64} {a1 : Int64} {r0 : Int32} {r1 : Nat} {H : HP} {Q : Option Value → HP → Prop} : Go 26 102 L (.long a1 :: .long a0 :: .ref p :: [.int r0, .ref r1]) H Q ↔ (iso 3 (hget H p) = true ∧ Go 32 0 [some (.ref p), some (.long a0), none, some (.long a1), none] [] H (Cont 26 105 L [.int r0, .ref r1] Q)) := G_cV (n := 2) (N := 5) (as := [.long a1, .long a0]) (st := [.int r0, .ref r1]) fX2_fillWhole_102 (by decide +kernel) rfl (Nat.le_of_ble_eq_true rfl) (Nat.le_of_ble_eq_true rfl) rfl
theorem fX2_fillWhole_105 : ft 26 105 = some (.lastore, 0, 0, 0, .null) := by decide +kernel
theorem gX2_fillWhole_105 {L : List (Option Value)} {p : Nat} {a : Int} {b : Int} (hp : p ≠ 0) {st : List Value} {H : HP} {Q : Option Value → HP → Prop} : Go 26 105 L (vl b :: vi a :: .ref p :: st) H Q ↔ Wr (sL' (hget H p) a b) p 26 106 L st H Q := G_last fX2_fillWhole_105 hp
theorem fX2_fillWhole_106 : ft 26 106 = some (.iinc 3 1, 0, 0, 0, .null) := by decide +kernel
theorem gX2_fillWhole_106 {l0 l1 l2 l4 : Option Value} {a : Int} {st : List Value} {H : HP} {Q : Option Value → HP → Prop} : Go 26 106 [l0, l1, l2, some (vi a), l4] st H Q ↔ Go 26 109 [l0, l1, l2, some (vi (a + 1)), l4] st H Q := G_iinc fX2_fillWhole_106 rfl rfl
theorem fX2_fillWhole_109 : ft 26 109 = some (.goto (-100), 0, 0, 0, .null) := by decide +kernel
theorem gX2_fillWhole_109 {L : List (Option Value)} {st : List Value} {H : HP} {Q : Option Value → HP → Prop} : Go 26 109 L st H Q ↔ Go 26 9 L st H Q := G_goto fX2_fillWhole_109 (by decide)
theorem fX2_fillWhole_112 : ft 26 112 = some (.return_, 0, 0, 0, .null) := by decide +kernel
theorem gX2_fillWhole_112 {L : List (Option Value)} {H : HP} {Q : Option Value → HP → Prop} : Go 26 112 L [] H Q ↔ Q none H := G_vret fX2_fillWhole_112 (by decide +kernel)
theorem fX2_leaveOut_0 : ft 27 0 = some (.lconst 0, 0, 0, 0, .null) := by decide +kernel
theorem gX2_leaveOut_0 {L : List (Option Value)} {st : List Value} {H : HP} {Q : Option Value → HP → Prop} : Go 27 0 L st H Q ↔ Go 27 1 L (vl 0 :: st) H Q := G_lconst fX2_leaveOut_0 (by decide)
theorem fX2_leaveOut_1 : ft 27 1 = some (.lstore 5, 0, 0, 0, .null) := by decide +kernel
theorem gX2_leaveOut_1 {l0 l1 l2 l3 l4 l5 l6 l7 : Option Value} {u : Int64} {st : List Value} {H : HP} {Q : Option Value → HP → Prop} : Go 27 1 [l0, l1, l2, l3, l4, l5, l6, l7] (.long u :: st) H Q ↔ Go 27 3 [l0, l1, l2, l3, l4, some (.long u), none, l7] st H Q := G_lstore fX2_leaveOut_1 rfl
theorem fX2_leaveOut_3 : ft 27 3 = some (.iload_n 3, 0, 0, 0, .null) := by decide +kernel
theorem gX2_leaveOut_3 {l0 l1 l2 l4 l5 l6 l7 : Option Value} {u : Int32} {st : List Value} {H : HP} {Q : Option Value → HP → Prop} : Go 27 3 [l0, l1, l2, some (.int u), l4, l5, l6, l7] st H Q ↔ Go 27 4 [l0, l1, l2, some (.int u), l4, l5, l6, l7] (.int u :: st) H Q := G_iload_n fX2_leaveOut_3 rfl
theorem fX2_leaveOut_4 : ft 27 4 = some (.istore 7, 0, 0, 0, .null) := by decide +kernel
theorem gX2_leaveOut_4 {l0 l1 l2 l3 l4 l5 l6 l7 : Option Value} {u : Int32} {st : List Value} {H : HP} {Q : Option Value → HP → Prop} : Go 27 4 [l0, l1, l2, l3, l4, l5, l6, l7] (.int u :: st) H Q ↔ Go 27 6 [l0, l1, l2, l3, l4, l5, l6, some (.int u)] st H Q := G_istore fX2_leaveOut_4 rfl
theorem fX2_leaveOut_6 : ft 27 6 = some (.iload 7, 0, 0, 0, .null) := by decide +kernel
theorem gX2_leaveOut_6 {l0 l1 l2 l3 l4 l5 l6 : Option Value} {u : Int32} {st : List Value} {H : HP} {Q : Option Value → HP → Prop} : Go 27 6 [l0, l1, l2, l3, l4, l5, l6, some (.int u)] st H Q ↔ Go 27 8 [l0, l1, l2, l3, l4, l5, l6, some (.int u)] (.int u :: st) H Q := G_iload fX2_leaveOut_6 rfl
theorem fX2_leaveOut_8 : ft 27 8 = some (.ifCond .le 42, 0, 0, 0, .null) := by decide +kernel
theorem gX2_leaveOut_8T {L : List (Option Value)} {a : Int} (c : (-2147483648 ≤ a ∧ a ≤ 2147483647) ∧ a ≤ 0) {st : List Value} {H : HP} {Q : Option Value → HP → Prop} : Go 27 8 L (vi a :: st) H Q ↔ Go 27 50 L st H Q := G_ifT fX2_leaveOut_8 (by decide) c
theorem gX2_leaveOut_8F {L : List (Option Value)} {a : Int} (c : (-2147483648 ≤ a ∧ a ≤ 2147483647) ∧ ¬ (a ≤ 0)) {st : List Value} {H : HP} {Q : Option Value → HP → Prop} : Go 27 8 L (vi a :: st) H Q ↔ Go 27 11 L st H Q := G_ifF (tg := 50) fX2_leaveOut_8 (by decide) c
theorem fX2_leaveOut_11 : ft 27 11 = some (.aload 4, 0, 0, 0, .null) := by decide +kernel
theorem gX2_leaveOut_11 {l0 l1 l2 l3 l5 l6 l7 : Option Value} {u : Nat} {st : List Value} {H : HP} {Q : Option Value → HP → Prop} : Go 27 11 [l0, l1, l2, l3, some (.ref u), l5, l6, l7] st H Q ↔ Go 27 13 [l0, l1, l2, l3, some (.ref u), l5, l6, l7] (.ref u :: st) H Q := G_aload fX2_leaveOut_11 rfl
theorem fX2_leaveOut_13 : ft 27 13 = some (.aload_n 0, 0, 0, 0, .null) := by decide +kernel
theorem gX2_leaveOut_13 {l1 l2 l3 l4 l5 l6 l7 : Option Value} {u : Nat} {st : List Value} {H : HP} {Q : Option Value → HP → Prop} : Go 27 13 [some (.ref u), l1, l2, l3, l4, l5, l6, l7] st H Q ↔ Go 27 14 [some (.ref u), l1, l2, l3, l4, l5, l6, l7] (.ref u :: st) H Q := G_aload_n fX2_leaveOut_13 rfl
theorem fX2_leaveOut_14 : ft 27 14 = some (.getfield 18, 2, 2, 64, .null) := by decide +kernel
theorem gX2_leaveOut_14 {L : List (Option Value)} {p : Nat} {st : List Value} {H : HP} {Q : Option Value → HP → Prop} : Go 27 14 L (.ref p :: st) H Q ↔ Rd (gF' 2 2 (hget H p)) 27 17 L st H Q := G_getf fX2_leaveOut_14 ⟨rfl, rfl⟩
theorem fX2_leaveOut_17 : ft 27 17 = some (.iload 7, 0, 0, 0, .null) := by decide +kernel
theorem gX2_leaveOut_17 {l0 l1 l2 l3 l4 l5 l6 : Option Value} {u : Int32} {st : List Value} {H : HP} {Q : Option Value → HP → Prop} : Go 27 17 [l0, l1, l2, l3, l4, l5, l6, some (.int u)] st H Q ↔ Go 27 19 [l0, l1, l2, l3, l4, l5, l6, some (.int u)] (.int u :: st) H Q := G_iload fX2_leaveOut_17 rfl
theorem fX2_leaveOut_19 : ft 27 19 = some (.laload, 0, 0, 0, .null) := by decide +kernel
theorem gX2_leaveOut_19 {L : List (Option Value)} {p : Nat} {a : Int} {st : List Value} {H : HP} {Q : Option Value → HP → Prop} : Go 27 19 L (vi a :: .ref p :: st) H Q ↔ Rd (aL' (hget H p) a) 27 20 L st H Q := G_lald fX2_leaveOut_19
theorem fX2_leaveOut_20 : ft 27 20 = some (.aload 4, 0, 0, 0, .null) := by decide +kernel
theorem gX2_leaveOut_20 {l0 l1 l2 l3 l5 l6 l7 : Option Value} {u : Nat} {st : List Value} {H : HP} {Q : Option Value → HP → Prop} : Go 27 20 [l0, l1, l2, l3, some (.ref u), l5, l6, l7] st H Q ↔ Go 27 22 [l0, l1, l2, l3, some (.ref u), l5, l6, l7] (.ref u :: st) H Q := G_aload fX2_leaveOut_20 rfl
theorem fX2_leaveOut_22 : ft 27 22 = some (.lload 5, 0, 0, 0, .null) := by decide +kernel
theorem gX2_leaveOut_22 {l0 l1 l2 l3 l4 l7 : Option Value} {u : Int64} {st : List Value} {H : HP} {Q : Option Value → HP → Prop} : Go 27 22 [l0, l1, l2, l3, l4, some (.long u), none, l7] st H Q ↔ Go 27 24 [l0, l1, l2, l3, l4, some (.long u), none, l7] (.long u :: st) H Q := G_lload fX2_leaveOut_22 rfl
theorem fX2_leaveOut_24 : ft 27 24 = some (.lload_n 1, 0, 0, 0, .null) := by decide +kernel
theorem gX2_leaveOut_24 {l0 l3 l4 l5 l6 l7 : Option Value} {u : Int64} {st : List Value} {H : HP} {Q : Option Value → HP → Prop} : Go 27 24 [l0, some (.long u), none, l3, l4, l5, l6, l7] st H Q ↔ Go 27 25 [l0, some (.long u), none, l3, l4, l5, l6, l7] (.long u :: st) H Q := G_lload_n fX2_leaveOut_24 rfl
theorem fX2_leaveOut_25 : ft 27 25 = some (.invokevirtual 50, 30, 0, 410, .null) := by decide +kernel
theorem gX2_leaveOut_25 {L : List (Option Value)} {p : Nat} {a0 : Int64} {a1 : Int64} {r0 : Int64} {r1 : Nat} {H : HP} {Q : Option Value → HP → Prop} : Go 27 25 L (.long a1 :: .long a0 :: .ref p :: [.long r0, .ref r1]) H Q ↔ (iso 3 (hget H p) = true ∧ Go 30 0 [some (.ref p), some (.long a0), none, some (.long a1), none] [] H (Cont 27 28 L [.long r0, .ref r1] Q)) := G_cV (n := 2) (N := 5) (as := [.long a1, .long a0]) (st := [.long r0, .ref r1]) fX2_leaveOut_25 (by decide +kernel) rfl (Nat.le_of_ble_eq_true rfl) (Nat.le_of_ble_eq_true rfl) rfl
theorem fX2_leaveOut_28 : ft 27 28 = some (.invokevirtual 66, 31, 0, 607, .null) := by decide +kernel
theorem gX2_leaveOut_28 {L : List (Option Value)} {p : Nat} {a0 : Int64} {a1 : Int64}  {H : HP} {Q : Option Value → HP → Prop} : Go 27 28 L (.long a1 :: .long a0 :: .ref p :: []) H Q ↔ (iso 3 (hget H p) = true ∧ Go 31 0 [some (.ref p), some (.long a0), none, some (.long a1), none, none, none] [] H (Cont 27 31 L [] Q)) := G_cV (n := 2) (N := 7) (as := [.long a1, .long a0]) (st := []) fX2_leaveOut_28 (by decide +kernel) rfl (Nat.le_of_ble_eq_true rfl) (Nat.le_of_ble_eq_true rfl) rfl
theorem fX2_leaveOut_31 : ft 27 31 = some (.lstore 5, 0, 0, 0, .null) := by decide +kernel
theorem gX2_leaveOut_31 {l0 l1 l2 l3 l4 l5 l6 l7 : Option Value} {u : Int64} {st : List Value} {H : HP} {Q : Option Value → HP → Prop} : Go 27 31 [l0, l1, l2, l3, l4, l5, l6, l7] (.long u :: st) H Q ↔ Go 27 33 [l0, l1, l2, l3, l4, some (.long u), none, l7] st H Q := G_lstore fX2_leaveOut_31 rfl
theorem fX2_leaveOut_33 : ft 27 33 = some (.aload_n 0, 0, 0, 0, .null) := by decide +kernel
theorem gX2_leaveOut_33 {l1 l2 l3 l4 l5 l6 l7 : Option Value} {u : Nat} {st : List Value} {H : HP} {Q : Option Value → HP → Prop} : Go 27 33 [some (.ref u), l1, l2, l3, l4, l5, l6, l7] st H Q ↔ Go 27 34 [some (.ref u), l1, l2, l3, l4, l5, l6, l7] (.ref u :: st) H Q := G_aload_n fX2_leaveOut_33 rfl
theorem fX2_leaveOut_34 : ft 27 34 = some (.getfield 15, 2, 1, 63, .null) := by decide +kernel
theorem gX2_leaveOut_34 {L : List (Option Value)} {p : Nat} {st : List Value} {H : HP} {Q : Option Value → HP → Prop} : Go 27 34 L (.ref p :: st) H Q ↔ Rd (gF' 2 1 (hget H p)) 27 37 L st H Q := G_getf fX2_leaveOut_34 ⟨rfl, rfl⟩
theorem fX2_leaveOut_37 : ft 27 37 = some (.iload 7, 0, 0, 0, .null) := by decide +kernel
theorem gX2_leaveOut_37 {l0 l1 l2 l3 l4 l5 l6 : Option Value} {u : Int32} {st : List Value} {H : HP} {Q : Option Value → HP → Prop} : Go 27 37 [l0, l1, l2, l3, l4, l5, l6, some (.int u)] st H Q ↔ Go 27 39 [l0, l1, l2, l3, l4, l5, l6, some (.int u)] (.int u :: st) H Q := G_iload fX2_leaveOut_37 rfl
theorem fX2_leaveOut_39 : ft 27 39 = some (.iconst 1, 0, 0, 0, .null) := by decide +kernel
theorem gX2_leaveOut_39 {L : List (Option Value)} {st : List Value} {H : HP} {Q : Option Value → HP → Prop} : Go 27 39 L st H Q ↔ Go 27 40 L (vi 1 :: st) H Q := G_iconst fX2_leaveOut_39
theorem fX2_leaveOut_40 : ft 27 40 = some (.isub, 0, 0, 0, .null) := by decide +kernel
theorem gX2_leaveOut_40 {L : List (Option Value)} {a b : Int} {st : List Value} {H : HP} {Q : Option Value → HP → Prop} : Go 27 40 L (vi b :: vi a :: st) H Q ↔ Go 27 41 L (vi (a - b) :: st) H Q := G_isub fX2_leaveOut_40
theorem fX2_leaveOut_41 : ft 27 41 = some (.lload 5, 0, 0, 0, .null) := by decide +kernel
theorem gX2_leaveOut_41 {l0 l1 l2 l3 l4 l7 : Option Value} {u : Int64} {st : List Value} {H : HP} {Q : Option Value → HP → Prop} : Go 27 41 [l0, l1, l2, l3, l4, some (.long u), none, l7] st H Q ↔ Go 27 43 [l0, l1, l2, l3, l4, some (.long u), none, l7] (.long u :: st) H Q := G_lload fX2_leaveOut_41 rfl
theorem fX2_leaveOut_43 : ft 27 43 = some (.lastore, 0, 0, 0, .null) := by decide +kernel
theorem gX2_leaveOut_43 {L : List (Option Value)} {p : Nat} {a : Int} {b : Int} (hp : p ≠ 0) {st : List Value} {H : HP} {Q : Option Value → HP → Prop} : Go 27 43 L (vl b :: vi a :: .ref p :: st) H Q ↔ Wr (sL' (hget H p) a b) p 27 44 L st H Q := G_last fX2_leaveOut_43 hp
theorem fX2_leaveOut_44 : ft 27 44 = some (.iinc 7 (-1), 0, 0, 0, .null) := by decide +kernel
theorem gX2_leaveOut_44 {l0 l1 l2 l3 l4 l5 l6 : Option Value} {a : Int} {st : List Value} {H : HP} {Q : Option Value → HP → Prop} : Go 27 44 [l0, l1, l2, l3, l4, l5, l6, some (vi a)] st H Q ↔ Go 27 47 [l0, l1, l2, l3, l4, l5, l6, some (vi (a + (-1)))] st H Q := G_iinc fX2_leaveOut_44 rfl rfl
theorem fX2_leaveOut_47 : ft 27 47 = some (.goto (-41), 0, 0, 0, .null) := by decide +kernel
theorem gX2_leaveOut_47 {L : List (Option Value)} {st : List Value} {H : HP} {Q : Option Value → HP → Prop} : Go 27 47 L st H Q ↔ Go 27 6 L st H Q := G_goto fX2_leaveOut_47 (by decide)
theorem fX2_leaveOut_50 : ft 27 50 = some (.return_, 0, 0, 0, .null) := by decide +kernel
theorem gX2_leaveOut_50 {L : List (Option Value)} {H : HP} {Q : Option Value → HP → Prop} : Go 27 50 L [] H Q ↔ Q none H := G_vret fX2_leaveOut_50 (by decide +kernel)

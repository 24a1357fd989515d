theorem fX1_init_0 : ft 12 0 = some (.aload_n 0, 0, 0, 0, .null) := by decide +kernel
theorem gX1_init_0 {l1 : Option Value} {u : Nat} {st : List Value} {H : HP} {Q : Option Value → HP → Prop} : Go 12 0 [some (.ref u), l1] st H Q ↔ Go 12 1 [some (.ref u), l1] (.ref u :: st) H Q := G_aload_n fX1_init_0 rfl
theorem fX1_init_1 : ft 12 1 = some (.invokespecial 3, 1000, 0, 155, .null) := by decide +kernel
theorem gX1_init_1 {L : List (Option Value)} {p : Nat}  {H : HP} {Q : Option Value → HP → Prop} : Go 12 1 L (.ref p :: []) H Q ↔ Go 12 4 L [] H Q := G_obj fX1_init_1 rfl ⟨by decide +kernel, Nat.le_trans (m := 20) (Nat.le_of_ble_eq_true rfl) (by decide +kernel)⟩
theorem fX1_init_4 : ft 12 4 = some (.aload_n 0, 0, 0, 0, .null) := by decide +kernel
theorem gX1_init_4 {l1 : Option Value} {u : Nat} {st : List Value} {H : HP} {Q : Option Value → HP → Prop} : Go 12 4 [some (.ref u), l1] st H Q ↔ Go 12 5 [some (.ref u), l1] (.ref u :: st) H Q := G_aload_n fX1_init_4 rfl
theorem fX1_init_5 : ft 12 5 = some (.sipush 128, 0, 0, 0, .null) := by decide +kernel
theorem gX1_init_5 {L : List (Option Value)} {st : List Value} {H : HP} {Q : Option Value → HP → Prop} : Go 12 5 L st H Q ↔ Go 12 8 L (vi 128 :: st) H Q := G_sipush fX1_init_5 (by decide)
theorem fX1_init_8 : ft 12 8 = some (.newarray .long, 0, 0, 0, .null) := by decide +kernel
theorem gX1_init_8 {L : List (Option Value)} {a : Int} (c : 0 ≤ a ∧ a ≤ 1000000) {st : List Value} {H : HP} {Q : Option Value → HP → Prop} : Go 12 8 L (vi a :: st) H Q ↔ Go 12 10 L (.ref H.1 :: st) (hnew H (cL a fun _ => 0) a.toNat) Q := G_newL fX1_init_8 c
theorem fX1_init_10 : ft 12 10 = some (.putfield 9, 1, 1, 158, .null) := by decide +kernel
theorem gX1_init_10 {L : List (Option Value)} {p : Nat} {u : Nat} (hp : p ≠ 0) {st : List Value} {H : HP} {Q : Option Value → HP → Prop} : Go 12 10 L (.ref u :: .ref p :: st) H Q ↔ Wr (pF' 1 1 (hget H p) (.ref u)) p 12 13 L st H Q := G_putf fX1_init_10 ⟨⟨rfl, rfl⟩, rfl, Or.inr (by decide +kernel)⟩ hp
theorem fX1_init_13 : ft 12 13 = some (.aload_n 0, 0, 0, 0, .null) := by decide +kernel
theorem gX1_init_13 {l1 : Option Value} {u : Nat} {st : List Value} {H : HP} {Q : Option Value → HP → Prop} : Go 12 13 [some (.ref u), l1] st H Q ↔ Go 12 14 [some (.ref u), l1] (.ref u :: st) H Q := G_aload_n fX1_init_13 rfl
theorem fX1_init_14 : ft 12 14 = some (.sipush 128, 0, 0, 0, .null) := by decide +kernel
theorem gX1_init_14 {L : List (Option Value)} {st : List Value} {H : HP} {Q : Option Value → HP → Prop} : Go 12 14 L st H Q ↔ Go 12 17 L (vi 128 :: st) H Q := G_sipush fX1_init_14 (by decide)
theorem fX1_init_17 : ft 12 17 = some (.newarray .long, 0, 0, 0, .null) := by decide +kernel
theorem gX1_init_17 {L : List (Option Value)} {a : Int} (c : 0 ≤ a ∧ a ≤ 1000000) {st : List Value} {H : HP} {Q : Option Value → HP → Prop} : Go 12 17 L (vi a :: st) H Q ↔ Go 12 19 L (.ref H.1 :: st) (hnew H (cL a fun _ => 0) a.toNat) Q := G_newL fX1_init_17 c
theorem fX1_init_19 : ft 12 19 = some (.putfield 15, 1, 2, 160, .null) := by decide +kernel
theorem gX1_init_19 {L : List (Option Value)} {p : Nat} {u : Nat} (hp : p ≠ 0) {st : List Value} {H : HP} {Q : Option Value → HP → Prop} : Go 12 19 L (.ref u :: .ref p :: st) H Q ↔ Wr (pF' 1 2 (hget H p) (.ref u)) p 12 22 L st H Q := G_putf fX1_init_19 ⟨⟨rfl, rfl⟩, rfl, Or.inr (by decide +kernel)⟩ hp
theorem fX1_init_22 : ft 12 22 = some (.aload_n 0, 0, 0, 0, .null) := by decide +kernel
theorem gX1_init_22 {l1 : Option Value} {u : Nat} {st : List Value} {H : HP} {Q : Option Value → HP → Prop} : Go 12 22 [some (.ref u), l1] st H Q ↔ Go 12 23 [some (.ref u), l1] (.ref u :: st) H Q := G_aload_n fX1_init_22 rfl
theorem fX1_init_23 : ft 12 23 = some (.aload_n 1, 0, 0, 0, .null) := by decide +kernel
theorem gX1_init_23 {l0 : Option Value} {u : Nat} {st : List Value} {H : HP} {Q : Option Value → HP → Prop} : Go 12 23 [l0, some (.ref u)] st H Q ↔ Go 12 24 [l0, some (.ref u)] (.ref u :: st) H Q := G_aload_n fX1_init_23 rfl
theorem fX1_init_24 : ft 12 24 = some (.putfield 18, 1, 0, 156, .null) := by decide +kernel
theorem gX1_init_24 {L : List (Option Value)} {p : Nat} {u : Nat} (hp : p ≠ 0) {st : List Value} {H : HP} {Q : Option Value → HP → Prop} : Go 12 24 L (.ref u :: .ref p :: st) H Q ↔ Wr (pF' 1 0 (hget H p) (.ref u)) p 12 27 L st H Q := G_putf fX1_init_24 ⟨⟨rfl, rfl⟩, rfl, Or.inr (by decide +kernel)⟩ hp
theorem fX1_init_27 : ft 12 27 = some (.return_, 0, 0, 0, .null) := by decide +kernel
theorem gX1_init_27 {L : List (Option Value)} {H : HP} {Q : Option Value → HP → Prop} : Go 12 27 L [] H Q ↔ Q none H := G_vret fX1_init_27 (by decide +kernel)
theorem fX1_run_0 : ft 13 0 = some (.iconst 1, 0, 0, 0, .null) := by decide +kernel
theorem gX1_run_0 {L : List (Option Value)} {st : List Value} {H : HP} {Q : Option Value → HP → Prop} : Go 13 0 L st H Q ↔ Go 13 1 L (vi 1 :: st) H Q := G_iconst fX1_run_0
theorem fX1_run_1 : ft 13 1 = some (.aload_n 1, 0, 0, 0, .null) := by decide +kernel
theorem gX1_run_1 {l0 l2 l3 l4 l5 l6 l7 l8 : Option Value} {u : Nat} {st : List Value} {H : HP} {Q : Option Value → HP → Prop} : Go 13 1 [l0, some (.ref u), l2, l3, l4, l5, l6, l7, l8] st H Q ↔ Go 13 2 [l0, some (.ref u), l2, l3, l4, l5, l6, l7, l8] (.ref u :: st) H Q := G_aload_n fX1_run_1 rfl
theorem fX1_run_2 : ft 13 2 = some (.invokevirtual 22, 55, 0, 486, .null) := by decide +kernel
theorem gX1_run_2 {L : List (Option Value)} {p : Nat}  {r0 : Int32} {H : HP} {Q : Option Value → HP → Prop} : Go 13 2 L (.ref p :: [.int r0]) H Q ↔ (iso 5 (hget H p) = true ∧ Go 55 0 [some (.ref p)] [] H (Cont 13 5 L [.int r0] Q)) := G_cV (n := 0) (N := 1) (as := []) (st := [.int r0]) fX1_run_2 (by decide +kernel) rfl (Nat.le_of_ble_eq_true rfl) (Nat.le_of_ble_eq_true rfl) rfl
theorem fX1_run_5 : ft 13 5 = some (.aload_n 2, 0, 0, 0, .null) := by decide +kernel
theorem gX1_run_5 {l0 l1 l3 l4 l5 l6 l7 l8 : Option Value} {u : Nat} {st : List Value} {H : HP} {Q : Option Value → HP → Prop} : Go 13 5 [l0, l1, some (.ref u), l3, l4, l5, l6, l7, l8] st H Q ↔ Go 13 6 [l0, l1, some (.ref u), l3, l4, l5, l6, l7, l8] (.ref u :: st) H Q := G_aload_n fX1_run_5 rfl
theorem fX1_run_6 : ft 13 6 = some (.invokevirtual 22, 55, 0, 486, .null) := by decide +kernel
theorem gX1_run_6 {L : List (Option Value)} {p : Nat}  {r0 : Int32} {r1 : Int32} {H : HP} {Q : Option Value → HP → Prop} : Go 13 6 L (.ref p :: [.int r0, .int r1]) H Q ↔ (iso 5 (hget H p) = true ∧ Go 55 0 [some (.ref p)] [] H (Cont 13 9 L [.int r0, .int r1] Q)) := G_cV (n := 0) (N := 1) (as := []) (st := [.int r0, .int r1]) fX1_run_6 (by decide +kernel) rfl (Nat.le_of_ble_eq_true rfl) (Nat.le_of_ble_eq_true rfl) rfl
theorem fX1_run_9 : ft 13 9 = some (.iadd, 0, 0, 0, .null) := by decide +kernel
theorem gX1_run_9 {L : List (Option Value)} {a b : Int} {st : List Value} {H : HP} {Q : Option Value → HP → Prop} : Go 13 9 L (vi b :: vi a :: st) H Q ↔ Go 13 10 L (vi (a + b) :: st) H Q := G_iadd fX1_run_9
theorem fX1_run_10 : ft 13 10 = some (.iconst 1, 0, 0, 0, .null) := by decide +kernel
theorem gX1_run_10 {L : List (Option Value)} {st : List Value} {H : HP} {Q : Option Value → HP → Prop} : Go 13 10 L st H Q ↔ Go 13 11 L (vi 1 :: st) H Q := G_iconst fX1_run_10
theorem fX1_run_11 : ft 13 11 = some (.isub, 0, 0, 0, .null) := by decide +kernel
theorem gX1_run_11 {L : List (Option Value)} {a b : Int} {st : List Value} {H : HP} {Q : Option Value → HP → Prop} : Go 13 11 L (vi b :: vi a :: st) H Q ↔ Go 13 12 L (vi (a - b) :: st) H Q := G_isub fX1_run_11
theorem fX1_run_12 : ft 13 12 = some (.invokestatic 28, 115, 1, 487, .null) := by decide +kernel
theorem gX1_run_12 {L : List (Option Value)} {a0 : Int32} {r0 : Int32} {H : HP} {Q : Option Value → HP → Prop} : Go 13 12 L (.int a0 :: [.int r0]) H Q ↔ Go 115 0 [some (.int a0), none] [] H (Cont 13 15 L [.int r0] Q) := G_cS (n := 1) (N := 2) (as := [.int a0]) (st := [.int r0]) fX1_run_12 (by decide +kernel) rfl (Nat.le_of_ble_eq_true rfl) (Nat.le_of_ble_eq_true rfl) rfl
theorem fX1_run_15 : ft 13 15 = some (.ishl, 0, 0, 0, .null) := by decide +kernel
theorem gX1_run_15 {L : List (Option Value)} {a b : Int} {st : List Value} {H : HP} {Q : Option Value → HP → Prop} : Go 13 15 L (vi b :: vi a :: st) H Q ↔ Go 13 16 L (vi (jShl a b) :: st) H Q := G_ishl fX1_run_15
theorem fX1_run_16 : ft 13 16 = some (.istore_n 3, 0, 0, 0, .null) := by decide +kernel
theorem gX1_run_16 {l0 l1 l2 l3 l4 l5 l6 l7 l8 : Option Value} {u : Int32} {st : List Value} {H : HP} {Q : Option Value → HP → Prop} : Go 13 16 [l0, l1, l2, l3, l4, l5, l6, l7, l8] (.int u :: st) H Q ↔ Go 13 17 [l0, l1, l2, some (.int u), l4, l5, l6, l7, l8] st H Q := G_istore_n fX1_run_16 rfl
theorem fX1_run_17 : ft 13 17 = some (.aload_n 0, 0, 0, 0, .null) := by decide +kernel
theorem gX1_run_17 {l1 l2 l3 l4 l5 l6 l7 l8 : Option Value} {u : Nat} {st : List Value} {H : HP} {Q : Option Value → HP → Prop} : Go 13 17 [some (.ref u), l1, l2, l3, l4, l5, l6, l7, l8] st H Q ↔ Go 13 18 [some (.ref u), l1, l2, l3, l4, l5, l6, l7, l8] (.ref u :: st) H Q := G_aload_n fX1_run_17 rfl
theorem fX1_run_18 : ft 13 18 = some (.getfield 18, 1, 0, 156, .null) := by decide +kernel
theorem gX1_run_18 {L : List (Option Value)} {p : Nat} {st : List Value} {H : HP} {Q : Option Value → HP → Prop} : Go 13 18 L (.ref p :: st) H Q ↔ Rd (gF' 1 0 (hget H p)) 13 21 L st H Q := G_getf fX1_run_18 ⟨rfl, rfl⟩
theorem fX1_run_21 : ft 13 21 = some (.iload_n 3, 0, 0, 0, .null) := by decide +kernel
theorem gX1_run_21 {l0 l1 l2 l4 l5 l6 l7 l8 : Option Value} {u : Int32} {st : List Value} {H : HP} {Q : Option Value → HP → Prop} : Go 13 21 [l0, l1, l2, some (.int u), l4, l5, l6, l7, l8] st H Q ↔ Go 13 22 [l0, l1, l2, some (.int u), l4, l5, l6, l7, l8] (.int u :: st) H Q := G_iload_n fX1_run_21 rfl
theorem fX1_run_22 : ft 13 22 = some (.invokevirtual 32, 36, 0, 490, .null) := by decide +kernel
theorem gX1_run_22 {L : List (Option Value)} {p : Nat} {a0 : Int32}  {H : HP} {Q : Option Value → HP → Prop} : Go 13 22 L (.int a0 :: .ref p :: []) H Q ↔ (iso 3 (hget H p) = true ∧ Go 36 0 [some (.ref p), some (.int a0)] [] H (Cont 13 25 L [] Q)) := G_cV (n := 1) (N := 2) (as := [.int a0]) (st := []) fX1_run_22 (by decide +kernel) rfl (Nat.le_of_ble_eq_true rfl) (Nat.le_of_ble_eq_true rfl) rfl
theorem fX1_run_25 : ft 13 25 = some (.lstore 4, 0, 0, 0, .null) := by decide +kernel
theorem gX1_run_25 {l0 l1 l2 l3 l4 l5 l6 l7 l8 : Option Value} {u : Int64} {st : List Value} {H : HP} {Q : Option Value → HP → Prop} : Go 13 25 [l0, l1, l2, l3, l4, l5, l6, l7, l8] (.long u :: st) H Q ↔ Go 13 27 [l0, l1, l2, l3, some (.long u), none, l6, l7, l8] st H Q := G_lstore fX1_run_25 rfl
theorem fX1_run_27 : ft 13 27 = some (.iconst 0, 0, 0, 0, .null) := by decide +kernel
theorem gX1_run_27 {L : List (Option Value)} {st : List Value} {H : HP} {Q : Option Value → HP → Prop} : Go 13 27 L st H Q ↔ Go 13 28 L (vi 0 :: st) H Q := G_iconst fX1_run_27
theorem fX1_run_28 : ft 13 28 = some (.istore 6, 0, 0, 0, .null) := by decide +kernel
theorem gX1_run_28 {l0 l1 l2 l3 l4 l5 l6 l7 l8 : Option Value} {u : Int32} {st : List Value} {H : HP} {Q : Option Value → HP → Prop} : Go 13 28 [l0, l1, l2, l3, l4, l5, l6, l7, l8] (.int u :: st) H Q ↔ Go 13 30 [l0, l1, l2, l3, l4, l5, some (.int u), l7, l8] st H Q := G_istore fX1_run_28 rfl
theorem fX1_run_30 : ft 13 30 = some (.iload 6, 0, 0, 0, .null) := by decide +kernel
theorem gX1_run_30 {l0 l1 l2 l3 l4 l5 l7 l8 : Option Value} {u : Int32} {st : List Value} {H : HP} {Q : Option Value → HP → Prop} : Go 13 30 [l0, l1, l2, l3, l4, l5, some (.int u), l7, l8] st H Q ↔ Go 13 32 [l0, l1, l2, l3, l4, l5, some (.int u), l7, l8] (.int u :: st) H Q := G_iload fX1_run_30 rfl
theorem fX1_run_32 : ft 13 32 = some (.iload_n 3, 0, 0, 0, .null) := by decide +kernel
theorem gX1_run_32 {l0 l1 l2 l4 l5 l6 l7 l8 : Option Value} {u : Int32} {st : List Value} {H : HP} {Q : Option Value → HP → Prop} : Go 13 32 [l0, l1, l2, some (.int u), l4, l5, l6, l7, l8] st H Q ↔ Go 13 33 [l0, l1, l2, some (.int u), l4, l5, l6, l7, l8] (.int u :: st) H Q := G_iload_n fX1_run_32 rfl
theorem fX1_run_33 : ft 13 33 = some (.if_icmp .ge 25, 0, 0, 0, .null) := by decide +kernel
theorem gX1_run_33T {L : List (Option Value)} {a b : Int} (c : (-2147483648 ≤ a ∧ a ≤ 2147483647 ∧ -2147483648 ≤ b ∧ b ≤ 2147483647) ∧ b ≤ a) {st : List Value} {H : HP} {Q : Option Value → HP → Prop} : Go 13 33 L (vi b :: vi a :: st) H Q ↔ Go 13 58 L st H Q := G_icT fX1_run_33 (by decide) c
theorem gX1_run_33F {L : List (Option Value)} {a b : Int} (c : (-2147483648 ≤ a ∧ a ≤ 2147483647 ∧ -2147483648 ≤ b ∧ b ≤ 2147483647) ∧ ¬ (b ≤ a)) {st : List Value} {H : HP} {Q : Option Value → HP → Prop} : Go 13 33 L (vi b :: vi a :: st) H Q ↔ Go 13 36 L st H Q := G_icF (tg := 58) fX1_run_33 (by decide) c
theorem fX1_run_36 : ft 13 36 = some (.aload_n 0, 0, 0, 0, .null) := by decide +kernel
theorem gX1_run_36 {l1 l2 l3 l4 l5 l6 l7 l8 : Option Value} {u : Nat} {st : List Value} {H : HP} {Q : Option Value → HP → Prop} : Go 13 36 [some (.ref u), l1, l2, l3, l4, l5, l6, l7, l8] st H Q ↔ Go 13 37 [some (.ref u), l1, l2, l3, l4, l5, l6, l7, l8] (.ref u :: st) H Q := G_aload_n fX1_run_36 rfl
theorem fX1_run_37 : ft 13 37 = some (.getfield 9, 1, 1, 158, .null) := by decide +kernel
theorem gX1_run_37 {L : List (Option Value)} {p : Nat} {st : List Value} {H : HP} {Q : Option Value → HP → Prop} : Go 13 37 L (.ref p :: st) H Q ↔ Rd (gF' 1 1 (hget H p)) 13 40 L st H Q := G_getf fX1_run_37 ⟨rfl, rfl⟩
theorem fX1_run_40 : ft 13 40 = some (.iload 6, 0, 0, 0, .null) := by decide +kernel
theorem gX1_run_40 {l0 l1 l2 l3 l4 l5 l7 l8 : Option Value} {u : Int32} {st : List Value} {H : HP} {Q : Option Value → HP → Prop} : Go 13 40 [l0, l1, l2, l3, l4, l5, some (.int u), l7, l8] st H Q ↔ Go 13 42 [l0, l1, l2, l3, l4, l5, some (.int u), l7, l8] (.int u :: st) H Q := G_iload fX1_run_40 rfl
theorem fX1_run_42 : ft 13 42 = some (.lconst 0, 0, 0, 0, .null) := by decide +kernel
theorem gX1_run_42 {L : List (Option Value)} {st : List Value} {H : HP} {Q : Option Value → HP → Prop} : Go 13 42 L st H Q ↔ Go 13 43 L (vl 0 :: st) H Q := G_lconst fX1_run_42 (by decide)
theorem fX1_run_43 : ft 13 43 = some (.lastore, 0, 0, 0, .null) := by decide +kernel
theorem gX1_run_43 {L : List (Option Value)} {p : Nat} {a : Int} {b : Int} (hp : p ≠ 0) {st : List Value} {H : HP} {Q : Option Value → HP → Prop} : Go 13 43 L (vl b :: vi a :: .ref p :: st) H Q ↔ Wr (sL' (hget H p) a b) p 13 44 L st H Q := G_last fX1_run_43 hp
theorem fX1_run_44 : ft 13 44 = some (.aload_n 0, 0, 0, 0, .null) := by decide +kernel
theorem gX1_run_44 {l1 l2 l3 l4 l5 l6 l7 l8 : Option Value} {u : Nat} {st : List Value} {H : HP} {Q : Option Value → HP → Prop} : Go 13 44 [some (.ref u), l1, l2, l3, l4, l5, l6, l7, l8] st H Q ↔ Go 13 45 [some (.ref u), l1, l2, l3, l4, l5, l6, l7, l8] (.ref u :: st) H Q := G_aload_n fX1_run_44 rfl
theorem fX1_run_45 : ft 13 45 = some (.getfield 15, 1, 2, 160, .null) := by decide +kernel
theorem gX1_run_45 {L : List (Option Value)} {p : Nat} {st : List Value} {H : HP} {Q : Option Value → HP → Prop} : Go 13 45 L (.ref p :: st) H Q ↔ Rd (gF' 1 2 (hget H p)) 13 48 L st H Q := G_getf fX1_run_45 ⟨rfl, rfl⟩
theorem fX1_run_48 : ft 13 48 = some (.iload 6, 0, 0, 0, .null) := by decide +kernel
theorem gX1_run_48 {l0 l1 l2 l3 l4 l5 l7 l8 : Option Value} {u : Int32} {st : List Value} {H : HP} {Q : Option Value → HP → Prop} : Go 13 48 [l0, l1, l2, l3, l4, l5, some (.int u), l7, l8] st H Q ↔ Go 13 50 [l0, l1, l2, l3, l4, l5, some (.int u), l7, l8] (.int u :: st) H Q := G_iload fX1_run_48 rfl
theorem fX1_run_50 : ft 13 50 = some (.lconst 0, 0, 0, 0, .null) := by decide +kernel
theorem gX1_run_50 {L : List (Option Value)} {st : List Value} {H : HP} {Q : Option Value → HP → Prop} : Go 13 50 L st H Q ↔ Go 13 51 L (vl 0 :: st) H Q := G_lconst fX1_run_50 (by decide)
theorem fX1_run_51 : ft 13 51 = some (.lastore, 0, 0, 0, .null) := by decide +kernel
theorem gX1_run_51 {L : List (Option Value)} {p : Nat} {a : Int} {b : Int} (hp : p ≠ 0) {st : List Value} {H : HP} {Q : Option Value → HP → Prop} : Go 13 51 L (vl b :: vi a :: .ref p :: st) H Q ↔ Wr (sL' (hget H p) a b) p 13 52 L st H Q := G_last fX1_run_51 hp
theorem fX1_run_52 : ft 13 52 = some (.iinc 6 1, 0, 0, 0, .null) := by decide +kernel
theorem gX1_run_52 {l0 l1 l2 l3 l4 l5 l7 l8 : Option Value} {a : Int} {st : List Value} {H : HP} {Q : Option Value → HP → Prop} : Go 13 52 [l0, l1, l2, l3, l4, l5, some (vi a), l7, l8] st H Q ↔ Go 13 55 [l0, l1, l2, l3, l4, l5, some (vi (a + 1)), l7, l8] st H Q := G_iinc fX1_run_52 rfl rfl
theorem fX1_run_55 : ft 13 55 = some (.goto (-25), 0, 0, 0, .null) := by decide +kernel
theorem gX1_run_55 {L : List (Option Value)} {st : List Value} {H : HP} {Q : Option Value → HP → Prop} : Go 13 55 L st H Q ↔ Go 13 30 L st H Q := G_goto fX1_run_55 (by decide)
theorem fX1_run_58 : ft 13 58 = some (.aload_n 0, 0, 0, 0, .null) := by decide +kernel
theorem gX1_run_58 {l1 l2 l3 l4 l5 l6 l7 l8 : Option Value} {u : Nat} {st : List Value} {H : HP} {Q : Option Value → HP → Prop} : Go 13 58 [some (.ref u), l1, l2, l3, l4, l5, l6, l7, l8] st H Q ↔ Go 13 59 [some (.ref u), l1, l2, l3, l4, l5, l6, l7, l8] (.ref u :: st) H Q := G_aload_n fX1_run_58 rfl
theorem fX1_run_59 : ft 13 59 = some (.getfield 18, 1, 0, 156, .null) := by decide +kernel
theorem gX1_run_59 {L : List (Option Value)} {p : Nat} {st : List Value} {H : HP} {Q : Option Value → HP → Prop} : Go 13 59 L (.ref p :: st) H Q ↔ Rd (gF' 1 0 (hget H p)) 13 62 L st H Q := G_getf fX1_run_59 ⟨rfl, rfl⟩
theorem fX1_run_62 : ft 13 62 = some (.aload_n 1, 0, 0, 0, .null) := by decide +kernel
theorem gX1_run_62 {l0 l2 l3 l4 l5 l6 l7 l8 : Option Value} {u : Nat} {st : List Value} {H : HP} {Q : Option Value → HP → Prop} : Go 13 62 [l0, some (.ref u), l2, l3, l4, l5, l6, l7, l8] st H Q ↔ Go 13 63 [l0, some (.ref u), l2, l3, l4, l5, l6, l7, l8] (.ref u :: st) H Q := G_aload_n fX1_run_62 rfl
theorem fX1_run_63 : ft 13 63 = some (.aload_n 0, 0, 0, 0, .null) := by decide +kernel
theorem gX1_run_63 {l1 l2 l3 l4 l5 l6 l7 l8 : Option Value} {u : Nat} {st : List Value} {H : HP} {Q : Option Value → HP → Prop} : Go 13 63 [some (.ref u), l1, l2, l3, l4, l5, l6, l7, l8] st H Q ↔ Go 13 64 [some (.ref u), l1, l2, l3, l4, l5, l6, l7, l8] (.ref u :: st) H Q := G_aload_n fX1_run_63 rfl
theorem fX1_run_64 : ft 13 64 = some (.getfield 9, 1, 1, 158, .null) := by decide +kernel
theorem gX1_run_64 {L : List (Option Value)} {p : Nat} {st : List Value} {H : HP} {Q : Option Value → HP → Prop} : Go 13 64 L (.ref p :: st) H Q ↔ Rd (gF' 1 1 (hget H p)) 13 67 L st H Q := G_getf fX1_run_64 ⟨rfl, rfl⟩
theorem fX1_run_67 : ft 13 67 = some (.invokevirtual 38, 37, 0, 491, .null) := by decide +kernel
theorem gX1_run_67 {L : List (Option Value)} {p : Nat} {a0 : Nat} {a1 : Nat}  {H : HP} {Q : Option Value → HP → Prop} : Go 13 67 L (.ref a1 :: .ref a0 :: .ref p :: []) H Q ↔ (iso 3 (hget H p) = true ∧ Go 37 0 [some (.ref p), some (.ref a0), some (.ref a1), none] [] H (Cont 13 70 L [] Q)) := G_cV (n := 2) (N := 4) (as := [.ref a1, .ref a0]) (st := []) fX1_run_67 (by decide +kernel) rfl (Nat.le_of_ble_eq_true rfl) (Nat.le_of_ble_eq_true rfl) rfl
theorem fX1_run_70 : ft 13 70 = some (.aload_n 0, 0, 0, 0, .null) := by decide +kernel
theorem gX1_run_70 {l1 l2 l3 l4 l5 l6 l7 l8 : Option Value} {u : Nat} {st : List Value} {H : HP} {Q : Option Value → HP → Prop} : Go 13 70 [some (.ref u), l1, l2, l3, l4, l5, l6, l7, l8] st H Q ↔ Go 13 71 [some (.ref u), l1, l2, l3, l4, l5, l6, l7, l8] (.ref u :: st) H Q := G_aload_n fX1_run_70 rfl
theorem fX1_run_71 : ft 13 71 = some (.getfield 18, 1, 0, 156, .null) := by decide +kernel
theorem gX1_run_71 {L : List (Option Value)} {p : Nat} {st : List Value} {H : HP} {Q : Option Value → HP → Prop} : Go 13 71 L (.ref p :: st) H Q ↔ Rd (gF' 1 0 (hget H p)) 13 74 L st H Q := G_getf fX1_run_71 ⟨rfl, rfl⟩
theorem fX1_run_74 : ft 13 74 = some (.aload_n 2, 0, 0, 0, .null) := by decide +kernel
theorem gX1_run_74 {l0 l1 l3 l4 l5 l6 l7 l8 : Option Value} {u : Nat} {st : List Value} {H : HP} {Q : Option Value → HP → Prop} : Go 13 74 [l0, l1, some (.ref u), l3, l4, l5, l6, l7, l8] st H Q ↔ Go 13 75 [l0, l1, some (.ref u), l3, l4, l5, l6, l7, l8] (.ref u :: st) H Q := G_aload_n fX1_run_74 rfl
theorem fX1_run_75 : ft 13 75 = some (.aload_n 0, 0, 0, 0, .null) := by decide +kernel
theorem gX1_run_75 {l1 l2 l3 l4 l5 l6 l7 l8 : Option Value} {u : Nat} {st : List Value} {H : HP} {Q : Option Value → HP → Prop} : Go 13 75 [some (.ref u), l1, l2, l3, l4, l5, l6, l7, l8] st H Q ↔ Go 13 76 [some (.ref u), l1, l2, l3, l4, l5, l6, l7, l8] (.ref u :: st) H Q := G_aload_n fX1_run_75 rfl
theorem fX1_run_76 : ft 13 76 = some (.getfield 15, 1, 2, 160, .null) := by decide +kernel
theorem gX1_run_76 {L : List (Option Value)} {p : Nat} {st : List Value} {H : HP} {Q : Option Value → HP → Prop} : Go 13 76 L (.ref p :: st) H Q ↔ Rd (gF' 1 2 (hget H p)) 13 79 L st H Q := G_getf fX1_run_76 ⟨rfl, rfl⟩
theorem fX1_run_79 : ft 13 79 = some (.invokevirtual 38, 37, 0, 491, .null) := by decide +kernel
theorem gX1_run_79 {L : List (Option Value)} {p : Nat} {a0 : Nat} {a1 : Nat}  {H : HP} {Q : Option Value → HP → Prop} : Go 13 79 L (.ref a1 :: .ref a0 :: .ref p :: []) H Q ↔ (iso 3 (hget H p) = true ∧ Go 37 0 [some (.ref p), some (.ref a0), some (.ref a1), none] [] H (Cont 13 82 L [] Q)) := G_cV (n := 2) (N := 4) (as := [.ref a1, .ref a0]) (st := []) fX1_run_79 (by decide +kernel) rfl (Nat.le_of_ble_eq_true rfl) (Nat.le_of_ble_eq_true rfl) rfl
theorem fX1_run_82 : ft 13 82 = some (.aload_n 0, 0, 0, 0, .null) := by decide +kernel
theorem gX1_run_82 {l1 l2 l3 l4 l5 l6 l7 l8 : Option Value} {u : Nat} {st : List Value} {H : HP} {Q : Option Value → HP → Prop} : Go 13 82 [some (.ref u), l1, l2, l3, l4, l5, l6, l7, l8] st H Q ↔ Go 13 83 [some (.ref u), l1, l2, l3, l4, l5, l6, l7, l8] (.ref u :: st) H Q := G_aload_n fX1_run_82 rfl
theorem fX1_run_83 : ft 13 83 = some (.aload_n 0, 0, 0, 0, .null) := by decide +kernel
theorem gX1_run_83 {l1 l2 l3 l4 l5 l6 l7 l8 : Option Value} {u : Nat} {st : List Value} {H : HP} {Q : Option Value → HP → Prop} : Go 13 83 [some (.ref u), l1, l2, l3, l4, l5, l6, l7, l8] st H Q ↔ Go 13 84 [some (.ref u), l1, l2, l3, l4, l5, l6, l7, l8] (.ref u :: st) H Q := G_aload_n fX1_run_83 rfl
theorem fX1_run_84 : ft 13 84 = some (.getfield 9, 1, 1, 158, .null) := by decide +kernel
theorem gX1_run_84 {L : List (Option Value)} {p : Nat} {st : List Value} {H : HP} {Q : Option Value → HP → Prop} : Go 13 84 L (.ref p :: st) H Q ↔ Rd (gF' 1 1 (hget H p)) 13 87 L st H Q := G_getf fX1_run_84 ⟨rfl, rfl⟩
theorem fX1_run_87 : ft 13 87 = some (.iload_n 3, 0, 0, 0, .null) := by decide +kernel
theorem gX1_run_87 {l0 l1 l2 l4 l5 l6 l7 l8 : Option Value} {u : Int32} {st : List Value} {H : HP} {Q : Option Value → HP → Prop} : Go 13 87 [l0, l1, l2, some (.int u), l4, l5, l6, l7, l8] st H Q ↔ Go 13 88 [l0, l1, l2, some (.int u), l4, l5, l6, l7, l8] (.int u :: st) H Q := G_iload_n fX1_run_87 rfl
theorem fX1_run_88 : ft 13 88 = some (.lload 4, 0, 0, 0, .null) := by decide +kernel
theorem gX1_run_88 {l0 l1 l2 l3 l6 l7 l8 : Option Value} {u : Int64} {st : List Value} {H : HP} {Q : Option Value → HP → Prop} : Go 13 88 [l0, l1, l2, l3, some (.long u), none, l6, l7, l8] st H Q ↔ Go 13 90 [l0, l1, l2, l3, some (.long u), none, l6, l7, l8] (.long u :: st) H Q := G_lload fX1_run_88 rfl
theorem fX1_run_90 : ft 13 90 = some (.invokevirtual 42, 14, 0, 492, .null) := by decide +kernel
theorem gX1_run_90 {L : List (Option Value)} {p : Nat} {a0 : Nat} {a1 : Int32} {a2 : Int64}  {H : HP} {Q : Option Value → HP → Prop} : Go 13 90 L (.long a2 :: .int a1 :: .ref a0 :: .ref p :: []) H Q ↔ (iso 1 (hget H p) = true ∧ Go 14 0 [some (.ref p), some (.ref a0), some (.int a1), some (.long a2), none, none, none, none, none] [] H (Cont 13 93 L [] Q)) := G_cV (n := 3) (N := 9) (as := [.long a2, .int a1, .ref a0]) (st := []) fX1_run_90 (by decide +kernel) rfl (Nat.le_of_ble_eq_true rfl) (Nat.le_of_ble_eq_true rfl) rfl
theorem fX1_run_93 : ft 13 93 = some (.aload_n 0, 0, 0, 0, .null) := by decide +kernel
theorem gX1_run_93 {l1 l2 l3 l4 l5 l6 l7 l8 : Option Value} {u : Nat} {st : List Value} {H : HP} {Q : Option Value → HP → Prop} : Go 13 93 [some (.ref u), l1, l2, l3, l4, l5, l6, l7, l8] st H Q ↔ Go 13 94 [some (.ref u), l1, l2, l3, l4, l5, l6, l7, l8] (.ref u :: st) H Q := G_aload_n fX1_run_93 rfl
theorem fX1_run_94 : ft 13 94 = some (.aload_n 0, 0, 0, 0, .null) := by decide +kernel
theorem gX1_run_94 {l1 l2 l3 l4 l5 l6 l7 l8 : Option Value} {u : Nat} {st : List Value} {H : HP} {Q : Option Value → HP → Prop} : Go 13 94 [some (.ref u), l1, l2, l3, l4, l5, l6, l7, l8] st H Q ↔ Go 13 95 [some (.ref u), l1, l2, l3, l4, l5, l6, l7, l8] (.ref u :: st) H Q := G_aload_n fX1_run_94 rfl
theorem fX1_run_95 : ft 13 95 = some (.getfield 15, 1, 2, 160, .null) := by decide +kernel
theorem gX1_run_95 {L : List (Option Value)} {p : Nat} {st : List Value} {H : HP} {Q : Option Value → HP → Prop} : Go 13 95 L (.ref p :: st) H Q ↔ Rd (gF' 1 2 (hget H p)) 13 98 L st H Q := G_getf fX1_run_95 ⟨rfl, rfl⟩
theorem fX1_run_98 : ft 13 98 = some (.iload_n 3, 0, 0, 0, .null) := by decide +kernel
theorem gX1_run_98 {l0 l1 l2 l4 l5 l6 l7 l8 : Option Value} {u : Int32} {st : List Value} {H : HP} {Q : Option Value → HP → Prop} : Go 13 98 [l0, l1, l2, some (.int u), l4, l5, l6, l7, l8] st H Q ↔ Go 13 99 [l0, l1, l2, some (.int u), l4, l5, l6, l7, l8] (.int u :: st) H Q := G_iload_n fX1_run_98 rfl
theorem fX1_run_99 : ft 13 99 = some (.lload 4, 0, 0, 0, .null) := by decide +kernel
theorem gX1_run_99 {l0 l1 l2 l3 l6 l7 l8 : Option Value} {u : Int64} {st : List Value} {H : HP} {Q : Option Value → HP → Prop} : Go 13 99 [l0, l1, l2, l3, some (.long u), none, l6, l7, l8] st H Q ↔ Go 13 101 [l0, l1, l2, l3, some (.long u), none, l6, l7, l8] (.long u :: st) H Q := G_lload fX1_run_99 rfl
theorem fX1_run_101 : ft 13 101 = some (.invokevirtual 42, 14, 0, 492, .null) := by decide +kernel
theorem gX1_run_101 {L : List (Option Value)} {p : Nat} {a0 : Nat} {a1 : Int32} {a2 : Int64}  {H : HP} {Q : Option Value → HP → Prop} : Go 13 101 L (.long a2 :: .int a1 :: .ref a0 :: .ref p :: []) H Q ↔ (iso 1 (hget H p) = true ∧ Go 14 0 [some (.ref p), some (.ref a0), some (.int a1), some (.long a2), none, none, none, none, none] [] H (Cont 13 104 L [] Q)) := G_cV (n := 3) (N := 9) (as := [.long a2, .int a1, .ref a0]) (st := []) fX1_run_101 (by decide +kernel) rfl (Nat.le_of_ble_eq_true rfl) (Nat.le_of_ble_eq_true rfl) rfl
theorem fX1_run_104 : ft 13 104 = some (.iconst 0, 0, 0, 0, .null) := by decide +kernel
theorem gX1_run_104 {L : List (Option Value)} {st : List Value} {H : HP} {Q : Option Value → HP → Prop} : Go 13 104 L st H Q ↔ Go 13 105 L (vi 0 :: st) H Q := G_iconst fX1_run_104
theorem fX1_run_105 : ft 13 105 = some (.istore 6, 0, 0, 0, .null) := by decide +kernel
theorem gX1_run_105 {l0 l1 l2 l3 l4 l5 l6 l7 l8 : Option Value} {u : Int32} {st : List Value} {H : HP} {Q : Option Value → HP → Prop} : Go 13 105 [l0, l1, l2, l3, l4, l5, l6, l7, l8] (.int u :: st) H Q ↔ Go 13 107 [l0, l1, l2, l3, l4, l5, some (.int u), l7, l8] st H Q := G_istore fX1_run_105 rfl
theorem fX1_run_107 : ft 13 107 = some (.iload 6, 0, 0, 0, .null) := by decide +kernel
theorem gX1_run_107 {l0 l1 l2 l3 l4 l5 l7 l8 : Option Value} {u : Int32} {st : List Value} {H : HP} {Q : Option Value → HP → Prop} : Go 13 107 [l0, l1, l2, l3, l4, l5, some (.int u), l7, l8] st H Q ↔ Go 13 109 [l0, l1, l2, l3, l4, l5, some (.int u), l7, l8] (.int u :: st) H Q := G_iload fX1_run_107 rfl
theorem fX1_run_109 : ft 13 109 = some (.iload_n 3, 0, 0, 0, .null) := by decide +kernel
theorem gX1_run_109 {l0 l1 l2 l4 l5 l6 l7 l8 : Option Value} {u : Int32} {st : List Value} {H : HP} {Q : Option Value → HP → Prop} : Go 13 109 [l0, l1, l2, some (.int u), l4, l5, l6, l7, l8] st H Q ↔ Go 13 110 [l0, l1, l2, some (.int u), l4, l5, l6, l7, l8] (.int u :: st) H Q := G_iload_n fX1_run_109 rfl
theorem fX1_run_110 : ft 13 110 = some (.if_icmp .ge 37, 0, 0, 0, .null) := by decide +kernel
theorem gX1_run_110T {L : List (Option Value)} {a b : Int} (c : (-2147483648 ≤ a ∧ a ≤ 2147483647 ∧ -2147483648 ≤ b ∧ b ≤ 2147483647) ∧ b ≤ a) {st : List Value} {H : HP} {Q : Option Value → HP → Prop} : Go 13 110 L (vi b :: vi a :: st) H Q ↔ Go 13 147 L st H Q := G_icT fX1_run_110 (by decide) c
theorem gX1_run_110F {L : List (Option Value)} {a b : Int} (c : (-2147483648 ≤ a ∧ a ≤ 2147483647 ∧ -2147483648 ≤ b ∧ b ≤ 2147483647) ∧ ¬ (b ≤ a)) {st : List Value} {H : HP} {Q : Option Value → HP → Prop} : Go 13 110 L (vi b :: vi a :: st) H Q ↔ Go 13 113 L st H Q := G_icF (tg := 147) fX1_run_110 (by decide) c
theorem fX1_run_113 : ft 13 113 = some (.aload_n 0, 0, 0, 0, .null) := by decide +kernel
theorem gX1_run_113 {l1 l2 l3 l4 l5 l6 l7 l8 : Option Value} {u : Nat} {st : List Value} {H : HP} {Q : Option Value → HP → Prop} : Go 13 113 [some (.ref u), l1, l2, l3, l4, l5, l6, l7, l8] st H Q ↔ Go 13 114 [some (.ref u), l1, l2, l3, l4, l5, l6, l7, l8] (.ref u :: st) H Q := G_aload_n fX1_run_113 rfl
theorem fX1_run_114 : ft 13 114 = some (.getfield 9, 1, 1, 158, .null) := by decide +kernel
theorem gX1_run_114 {L : List (Option Value)} {p : Nat} {st : List Value} {H : HP} {Q : Option Value → HP → Prop} : Go 13 114 L (.ref p :: st) H Q ↔ Rd (gF' 1 1 (hget H p)) 13 117 L st H Q := G_getf fX1_run_114 ⟨rfl, rfl⟩
theorem fX1_run_117 : ft 13 117 = some (.iload 6, 0, 0, 0, .null) := by decide +kernel
theorem gX1_run_117 {l0 l1 l2 l3 l4 l5 l7 l8 : Option Value} {u : Int32} {st : List Value} {H : HP} {Q : Option Value → HP → Prop} : Go 13 117 [l0, l1, l2, l3, l4, l5, some (.int u), l7, l8] st H Q ↔ Go 13 119 [l0, l1, l2, l3, l4, l5, some (.int u), l7, l8] (.int u :: st) H Q := G_iload fX1_run_117 rfl
theorem fX1_run_119 : ft 13 119 = some (.aload_n 0, 0, 0, 0, .null) := by decide +kernel
theorem gX1_run_119 {l1 l2 l3 l4 l5 l6 l7 l8 : Option Value} {u : Nat} {st : List Value} {H : HP} {Q : Option Value → HP → Prop} : Go 13 119 [some (.ref u), l1, l2, l3, l4, l5, l6, l7, l8] st H Q ↔ Go 13 120 [some (.ref u), l1, l2, l3, l4, l5, l6, l7, l8] (.ref u :: st) H Q := G_aload_n fX1_run_119 rfl
theorem fX1_run_120 : ft 13 120 = some (.getfield 18, 1, 0, 156, .null) := by decide +kernel
theorem gX1_run_120 {L : List (Option Value)} {p : Nat} {st : List Value} {H : HP} {Q : Option Value → HP → Prop} : Go 13 120 L (.ref p :: st) H Q ↔ Rd (gF' 1 0 (hget H p)) 13 123 L st H Q := G_getf fX1_run_120 ⟨rfl, rfl⟩
theorem fX1_run_123 : ft 13 123 = some (.aload_n 0, 0, 0, 0, .null) := by decide +kernel
theorem gX1_run_123 {l1 l2 l3 l4 l5 l6 l7 l8 : Option Value} {u : Nat} {st : List Value} {H : HP} {Q : Option Value → HP → Prop} : Go 13 123 [some (.ref u), l1, l2, l3, l4, l5, l6, l7, l8] st H Q ↔ Go 13 124 [some (.ref u), l1, l2, l3, l4, l5, l6, l7, l8] (.ref u :: st) H Q := G_aload_n fX1_run_123 rfl
theorem fX1_run_124 : ft 13 124 = some (.getfield 9, 1, 1, 158, .null) := by decide +kernel
theorem gX1_run_124 {L : List (Option Value)} {p : Nat} {st : List Value} {H : HP} {Q : Option Value → HP → Prop} : Go 13 124 L (.ref p :: st) H Q ↔ Rd (gF' 1 1 (hget H p)) 13 127 L st H Q := G_getf fX1_run_124 ⟨rfl, rfl⟩
theorem fX1_run_127 : ft 13 127 = some (.iload 6, 0, 0, 0, .null) := by decide +kernel
theorem gX1_run_127 {l0 l1 l2 l3 l4 l5 l7 l8 : Option Value} {u : Int32} {st : List Value} {H : HP} {Q : Option Value → HP → Prop} : Go 13 127 [l0, l1, l2, l3, l4, l5, some (.int u), l7, l8] st H Q ↔ Go 13 129 [l0, l1, l2, l3, l4, l5, some (.int u), l7, l8] (.int u :: st) H Q := G_iload fX1_run_127 rfl
theorem fX1_run_129 : ft 13 129 = some (.laload, 0, 0, 0, .null) := by decide +kernel
theorem gX1_run_129 {L : List (Option Value)} {p : Nat} {a : Int} {st : List Value} {H : HP} {Q : Option Value → HP → Prop} : Go 13 129 L (vi a :: .ref p :: st) H Q ↔ Rd (aL' (hget H p) a) 13 130 L st H Q := G_lald fX1_run_129
theorem fX1_run_130 : ft 13 130 = some (.aload_n 0, 0, 0, 0, .null) := by decide +kernel
theorem gX1_run_130 {l1 l2 l3 l4 l5 l6 l7 l8 : Option Value} {u : Nat} {st : List Value} {H : HP} {Q : Option Value → HP → Prop} : Go 13 130 [some (.ref u), l1, l2, l3, l4, l5, l6, l7, l8] st H Q ↔ Go 13 131 [some (.ref u), l1, l2, l3, l4, l5, l6, l7, l8] (.ref u :: st) H Q := G_aload_n fX1_run_130 rfl
theorem fX1_run_131 : ft 13 131 = some (.getfield 15, 1, 2, 160, .null) := by decide +kernel
theorem gX1_run_131 {L : List (Option Value)} {p : Nat} {st : List Value} {H : HP} {Q : Option Value → HP → Prop} : Go 13 131 L (.ref p :: st) H Q ↔ Rd (gF' 1 2 (hget H p)) 13 134 L st H Q := G_getf fX1_run_131 ⟨rfl, rfl⟩
theorem fX1_run_134 : ft 13 134 = some (.iload 6, 0, 0, 0, .null) := by decide +kernel
theorem gX1_run_134 {l0 l1 l2 l3 l4 l5 l7 l8 : Option Value} {u : Int32} {st : List Value} {H : HP} {Q : Option Value → HP → Prop} : Go 13 134 [l0, l1, l2, l3, l4, l5, some (.int u), l7, l8] st H Q ↔ Go 13 136 [l0, l1, l2, l3, l4, l5, some (.int u), l7, l8] (.int u :: st) H Q := G_iload fX1_run_134 rfl
theorem fX1_run_136 : ft 13 136 = some (.laload, 0, 0, 0, .null) := by decide +kernel
theorem gX1_run_136 {L : List (Option Value)} {p : Nat} {a : Int} {st : List Value} {H : HP} {Q : Option Value → HP → Prop} : Go 13 136 L (vi a :: .ref p :: st) H Q ↔ Rd (aL' (hget H p) a) 13 137 L st H Q := G_lald fX1_run_136
theorem fX1_run_137 : ft 13 137 = some (.invokevirtual 46, 30, 0, 504, .null) := by decide +kernel
theorem gX1_run_137 {L : List (Option Value)} {p : Nat} {a0 : Int64} {a1 : Int64} {r0 : Int32} {r1 : Nat} {H : HP} {Q : Option Value → HP → Prop} : Go 13 137 L (.long a1 :: .long a0 :: .ref p :: [.int r0, .ref r1]) H Q ↔ (iso 3 (hget H p) = true ∧ Go 30 0 [some (.ref p), some (.long a0), none, some (.long a1), none] [] H (Cont 13 140 L [.int r0, .ref r1] Q)) := G_cV (n := 2) (N := 5) (as := [.long a1, .long a0]) (st := [.int r0, .ref r1]) fX1_run_137 (by decide +kernel) rfl (Nat.le_of_ble_eq_true rfl) (Nat.le_of_ble_eq_true rfl) rfl
theorem fX1_run_140 : ft 13 140 = some (.lastore, 0, 0, 0, .null) := by decide +kernel
theorem gX1_run_140 {L : List (Option Value)} {p : Nat} {a : Int} {b : Int} (hp : p ≠ 0) {st : List Value} {H : HP} {Q : Option Value → HP → Prop} : Go 13 140 L (vl b :: vi a :: .ref p :: st) H Q ↔ Wr (sL' (hget H p) a b) p 13 141 L st H Q := G_last fX1_run_140 hp
theorem fX1_run_141 : ft 13 141 = some (.iinc 6 1, 0, 0, 0, .null) := by decide +kernel
theorem gX1_run_141 {l0 l1 l2 l3 l4 l5 l7 l8 : Option Value} {a : Int} {st : List Value} {H : HP} {Q : Option Value → HP → Prop} : Go 13 141 [l0, l1, l2, l3, l4, l5, some (vi a), l7, l8] st H Q ↔ Go 13 144 [l0, l1, l2, l3, l4, l5, some (vi (a + 1)), l7, l8] st H Q := G_iinc fX1_run_141 rfl rfl
theorem fX1_run_144 : ft 13 144 = some (.goto (-37), 0, 0, 0, .null) := by decide +kernel
theorem gX1_run_144 {L : List (Option Value)} {st : List Value} {H : HP} {Q : Option Value → HP → Prop} : Go 13 144 L st H Q ↔ Go 13 107 L st H Q := G_goto fX1_run_144 (by decide)
theorem fX1_run_147 : ft 13 147 = some (.aload_n 0, 0, 0, 0, .null) := by decide +kernel
theorem gX1_run_147 {l1 l2 l3 l4 l5 l6 l7 l8 : Option Value} {u : Nat} {st : List Value} {H : HP} {Q : Option Value → HP → Prop} : Go 13 147 [some (.ref u), l1, l2, l3, l4, l5, l6, l7, l8] st H Q ↔ Go 13 148 [some (.ref u), l1, l2, l3, l4, l5, l6, l7, l8] (.ref u :: st) H Q := G_aload_n fX1_run_147 rfl
theorem fX1_run_148 : ft 13 148 = some (.aload_n 0, 0, 0, 0, .null) := by decide +kernel
theorem gX1_run_148 {l1 l2 l3 l4 l5 l6 l7 l8 : Option Value} {u : Nat} {st : List Value} {H : HP} {Q : Option Value → HP → Prop} : Go 13 148 [some (.ref u), l1, l2, l3, l4, l5, l6, l7, l8] st H Q ↔ Go 13 149 [some (.ref u), l1, l2, l3, l4, l5, l6, l7, l8] (.ref u :: st) H Q := G_aload_n fX1_run_148 rfl
theorem fX1_run_149 : ft 13 149 = some (.getfield 9, 1, 1, 158, .null) := by decide +kernel
theorem gX1_run_149 {L : List (Option Value)} {p : Nat} {st : List Value} {H : HP} {Q : Option Value → HP → Prop} : Go 13 149 L (.ref p :: st) H Q ↔ Rd (gF' 1 1 (hget H p)) 13 152 L st H Q := G_getf fX1_run_149 ⟨rfl, rfl⟩
theorem fX1_run_152 : ft 13 152 = some (.iload_n 3, 0, 0, 0, .null) := by decide +kernel
theorem gX1_run_152 {l0 l1 l2 l4 l5 l6 l7 l8 : Option Value} {u : Int32} {st : List Value} {H : HP} {Q : Option Value → HP → Prop} : Go 13 152 [l0, l1, l2, some (.int u), l4, l5, l6, l7, l8] st H Q ↔ Go 13 153 [l0, l1, l2, some (.int u), l4, l5, l6, l7, l8] (.int u :: st) H Q := G_iload_n fX1_run_152 rfl
theorem fX1_run_153 : ft 13 153 = some (.aload_n 0, 0, 0, 0, .null) := by decide +kernel
theorem gX1_run_153 {l1 l2 l3 l4 l5 l6 l7 l8 : Option Value} {u : Nat} {st : List Value} {H : HP} {Q : Option Value → HP → Prop} : Go 13 153 [some (.ref u), l1, l2, l3, l4, l5, l6, l7, l8] st H Q ↔ Go 13 154 [some (.ref u), l1, l2, l3, l4, l5, l6, l7, l8] (.ref u :: st) H Q := G_aload_n fX1_run_153 rfl
theorem fX1_run_154 : ft 13 154 = some (.getfield 18, 1, 0, 156, .null) := by decide +kernel
theorem gX1_run_154 {L : List (Option Value)} {p : Nat} {st : List Value} {H : HP} {Q : Option Value → HP → Prop} : Go 13 154 L (.ref p :: st) H Q ↔ Rd (gF' 1 0 (hget H p)) 13 157 L st H Q := G_getf fX1_run_154 ⟨rfl, rfl⟩
theorem fX1_run_157 : ft 13 157 = some (.lload 4, 0, 0, 0, .null) := by decide +kernel
theorem gX1_run_157 {l0 l1 l2 l3 l6 l7 l8 : Option Value} {u : Int64} {st : List Value} {H : HP} {Q : Option Value → HP → Prop} : Go 13 157 [l0, l1, l2, l3, some (.long u), none, l6, l7, l8] st H Q ↔ Go 13 159 [l0, l1, l2, l3, some (.long u), none, l6, l7, l8] (.long u :: st) H Q := G_lload fX1_run_157 rfl
theorem fX1_run_159 : ft 13 159 = some (.invokevirtual 50, 34, 0, 510, .null) := by decide +kernel
theorem gX1_run_159 {L : List (Option Value)} {p : Nat} {a0 : Int64} {r0 : Int32} {r1 : Nat} {r2 : Nat} {H : HP} {Q : Option Value → HP → Prop} : Go 13 159 L (.long a0 :: .ref p :: [.int r0, .ref r1, .ref r2]) H Q ↔ (iso 3 (hget H p) = true ∧ Go 34 0 [some (.ref p), some (.long a0), none] [] H (Cont 13 162 L [.int r0, .ref r1, .ref r2] Q)) := G_cV (n := 1) (N := 3) (as := [.long a0]) (st := [.int r0, .ref r1, .ref r2]) fX1_run_159 (by decide +kernel) rfl (Nat.le_of_ble_eq_true rfl) (Nat.le_of_ble_eq_true rfl) rfl
theorem fX1_run_162 : ft 13 162 = some (.invokevirtual 42, 14, 0, 492, .null) := by decide +kernel
theorem gX1_run_162 {L : List (Option Value)} {p : Nat} {a0 : Nat} {a1 : Int32} {a2 : Int64}  {H : HP} {Q : Option Value → HP → Prop} : Go 13 162 L (.long a2 :: .int a1 :: .ref a0 :: .ref p :: []) H Q ↔ (iso 1 (hget H p) = true ∧ Go 14 0 [some (.ref p), some (.ref a0), some (.int a1), some (.long a2), none, none, none, none, none] [] H (Cont 13 165 L [] Q)) := G_cV (n := 3) (N := 9) (as := [.long a2, .int a1, .ref a0]) (st := []) fX1_run_162 (by decide +kernel) rfl (Nat.le_of_ble_eq_true rfl) (Nat.le_of_ble_eq_true rfl) rfl
theorem fX1_run_165 : ft 13 165 = some (.aload_n 0, 0, 0, 0, .null) := by decide +kernel
theorem gX1_run_165 {l1 l2 l3 l4 l5 l6 l7 l8 : Option Value} {u : Nat} {st : List Value} {H : HP} {Q : Option Value → HP → Prop} : Go 13 165 [some (.ref u), l1, l2, l3, l4, l5, l6, l7, l8] st H Q ↔ Go 13 166 [some (.ref u), l1, l2, l3, l4, l5, l6, l7, l8] (.ref u :: st) H Q := G_aload_n fX1_run_165 rfl
theorem fX1_run_166 : ft 13 166 = some (.getfield 18, 1, 0, 156, .null) := by decide +kernel
theorem gX1_run_166 {L : List (Option Value)} {p : Nat} {st : List Value} {H : HP} {Q : Option Value → HP → Prop} : Go 13 166 L (.ref p :: st) H Q ↔ Rd (gF' 1 0 (hget H p)) 13 169 L st H Q := G_getf fX1_run_166 ⟨rfl, rfl⟩
theorem fX1_run_169 : ft 13 169 = some (.iload_n 3, 0, 0, 0, .null) := by decide +kernel
theorem gX1_run_169 {l0 l1 l2 l4 l5 l6 l7 l8 : Option Value} {u : Int32} {st : List Value} {H : HP} {Q : Option Value → HP → Prop} : Go 13 169 [l0, l1, l2, some (.int u), l4, l5, l6, l7, l8] st H Q ↔ Go 13 170 [l0, l1, l2, some (.int u), l4, l5, l6, l7, l8] (.int u :: st) H Q := G_iload_n fX1_run_169 rfl
theorem fX1_run_170 : ft 13 170 = some (.i2l, 0, 0, 0, .null) := by decide +kernel
theorem gX1_run_170 {L : List (Option Value)} {a : Int} (c : -2147483648 ≤ a ∧ a ≤ 2147483647) {st : List Value} {H : HP} {Q : Option Value → HP → Prop} : Go 13 170 L (vi a :: st) H Q ↔ Go 13 171 L (vl a :: st) H Q := G_i2l fX1_run_170 c
theorem fX1_run_171 : ft 13 171 = some (.invokevirtual 50, 34, 0, 510, .null) := by decide +kernel
theorem gX1_run_171 {L : List (Option Value)} {p : Nat} {a0 : Int64}  {H : HP} {Q : Option Value → HP → Prop} : Go 13 171 L (.long a0 :: .ref p :: []) H Q ↔ (iso 3 (hget H p) = true ∧ Go 34 0 [some (.ref p), some (.long a0), none] [] H (Cont 13 174 L [] Q)) := G_cV (n := 1) (N := 3) (as := [.long a0]) (st := []) fX1_run_171 (by decide +kernel) rfl (Nat.le_of_ble_eq_true rfl) (Nat.le_of_ble_eq_true rfl) rfl
theorem fX1_run_174 : ft 13 174 = some (.lstore 6, 0, 0, 0, .null) := by decide +kernel
theorem gX1_run_174 {l0 l1 l2 l3 l4 l5 l6 l7 l8 : Option Value} {u : Int64} {st : List Value} {H : HP} {Q : Option Value → HP → Prop} : Go 13 174 [l0, l1, l2, l3, l4, l5, l6, l7, l8] (.long u :: st) H Q ↔ Go 13 176 [l0, l1, l2, l3, l4, l5, some (.long u), none, l8] st H Q := G_lstore fX1_run_174 rfl
theorem fX1_run_176 : ft 13 176 = some (.iconst 0, 0, 0, 0, .null) := by decide +kernel
theorem gX1_run_176 {L : List (Option Value)} {st : List Value} {H : HP} {Q : Option Value → HP → Prop} : Go 13 176 L st H Q ↔ Go 13 177 L (vi 0 :: st) H Q := G_iconst fX1_run_176
theorem fX1_run_177 : ft 13 177 = some (.istore 8, 0, 0, 0, .null) := by decide +kernel
theorem gX1_run_177 {l0 l1 l2 l3 l4 l5 l6 l7 l8 : Option Value} {u : Int32} {st : List Value} {H : HP} {Q : Option Value → HP → Prop} : Go 13 177 [l0, l1, l2, l3, l4, l5, l6, l7, l8] (.int u :: st) H Q ↔ Go 13 179 [l0, l1, l2, l3, l4, l5, l6, l7, some (.int u)] st H Q := G_istore fX1_run_177 rfl
theorem fX1_run_179 : ft 13 179 = some (.iload 8, 0, 0, 0, .null) := by decide +kernel
theorem gX1_run_179 {l0 l1 l2 l3 l4 l5 l6 l7 : Option Value} {u : Int32} {st : List Value} {H : HP} {Q : Option Value → HP → Prop} : Go 13 179 [l0, l1, l2, l3, l4, l5, l6, l7, some (.int u)] st H Q ↔ Go 13 181 [l0, l1, l2, l3, l4, l5, l6, l7, some (.int u)] (.int u :: st) H Q := G_iload fX1_run_179 rfl
theorem fX1_run_181 : ft 13 181 = some (.iload_n 3, 0, 0, 0, .null) := by decide +kernel
theorem gX1_run_181 {l0 l1 l2 l4 l5 l6 l7 l8 : Option Value} {u : Int32} {st : List Value} {H : HP} {Q : Option Value → HP → Prop} : Go 13 181 [l0, l1, l2, some (.int u), l4, l5, l6, l7, l8] st H Q ↔ Go 13 182 [l0, l1, l2, some (.int u), l4, l5, l6, l7, l8] (.int u :: st) H Q := G_iload_n fX1_run_181 rfl
theorem fX1_run_182 : ft 13 182 = some (.if_icmp .ge 32, 0, 0, 0, .null) := by decide +kernel
theorem gX1_run_182T {L : List (Option Value)} {a b : Int} (c : (-2147483648 ≤ a ∧ a ≤ 2147483647 ∧ -2147483648 ≤ b ∧ b ≤ 2147483647) ∧ b ≤ a) {st : List Value} {H : HP} {Q : Option Value → HP → Prop} : Go 13 182 L (vi b :: vi a :: st) H Q ↔ Go 13 214 L st H Q := G_icT fX1_run_182 (by decide) c
theorem gX1_run_182F {L : List (Option Value)} {a b : Int} (c : (-2147483648 ≤ a ∧ a ≤ 2147483647 ∧ -2147483648 ≤ b ∧ b ≤ 2147483647) ∧ ¬ (b ≤ a)) {st : List Value} {H : HP} {Q : Option Value → HP → Prop} : Go 13 182 L (vi b :: vi a :: st) H Q ↔ Go 13 185 L st H Q := G_icF (tg := 214) fX1_run_182 (by decide) c
theorem fX1_run_185 : ft 13 185 = some (.aload_n 0, 0, 0, 0, .null) := by decide +kernel
theorem gX1_run_185 {l1 l2 l3 l4 l5 l6 l7 l8 : Option Value} {u : Nat} {st : List Value} {H : HP} {Q : Option Value → HP → Prop} : Go 13 185 [some (.ref u), l1, l2, l3, l4, l5, l6, l7, l8] st H Q ↔ Go 13 186 [some (.ref u), l1, l2, l3, l4, l5, l6, l7, l8] (.ref u :: st) H Q := G_aload_n fX1_run_185 rfl
theorem fX1_run_186 : ft 13 186 = some (.getfield 9, 1, 1, 158, .null) := by decide +kernel
theorem gX1_run_186 {L : List (Option Value)} {p : Nat} {st : List Value} {H : HP} {Q : Option Value → HP → Prop} : Go 13 186 L (.ref p :: st) H Q ↔ Rd (gF' 1 1 (hget H p)) 13 189 L st H Q := G_getf fX1_run_186 ⟨rfl, rfl⟩
theorem fX1_run_189 : ft 13 189 = some (.iload 8, 0, 0, 0, .null) := by decide +kernel
theorem gX1_run_189 {l0 l1 l2 l3 l4 l5 l6 l7 : Option Value} {u : Int32} {st : List Value} {H : HP} {Q : Option Value → HP → Prop} : Go 13 189 [l0, l1, l2, l3, l4, l5, l6, l7, some (.int u)] st H Q ↔ Go 13 191 [l0, l1, l2, l3, l4, l5, l6, l7, some (.int u)] (.int u :: st) H Q := G_iload fX1_run_189 rfl
theorem fX1_run_191 : ft 13 191 = some (.aload_n 0, 0, 0, 0, .null) := by decide +kernel
theorem gX1_run_191 {l1 l2 l3 l4 l5 l6 l7 l8 : Option Value} {u : Nat} {st : List Value} {H : HP} {Q : Option Value → HP → Prop} : Go 13 191 [some (.ref u), l1, l2, l3, l4, l5, l6, l7, l8] st H Q ↔ Go 13 192 [some (.ref u), l1, l2, l3, l4, l5, l6, l7, l8] (.ref u :: st) H Q := G_aload_n fX1_run_191 rfl
theorem fX1_run_192 : ft 13 192 = some (.getfield 18, 1, 0, 156, .null) := by decide +kernel
theorem gX1_run_192 {L : List (Option Value)} {p : Nat} {st : List Value} {H : HP} {Q : Option Value → HP → Prop} : Go 13 192 L (.ref p :: st) H Q ↔ Rd (gF' 1 0 (hget H p)) 13 195 L st H Q := G_getf fX1_run_192 ⟨rfl, rfl⟩
theorem fX1_run_195 : ft 13 195 = some (.aload_n 0, 0, 0, 0, .null) := by decide +kernel
theorem gX1_run_195 {l1 l2 l3 l4 l5 l6 l7 l8 : Option Value} {u : Nat} {st : List Value} {H : HP} {Q : Option Value → HP → Prop} : Go 13 195 [some (.ref u), l1, l2, l3, l4, l5, l6, l7, l8] st H Q ↔ Go 13 196 [some (.ref u), l1, l2, l3, l4, l5, l6, l7, l8] (.ref u :: st) H Q := G_aload_n fX1_run_195 rfl
theorem fX1_run_196 : ft 13 196 = some (.getfield 9, 1, 1, 158, .null) := by decide +kernel
theorem gX1_run_196 {L : List (Option Value)} {p : Nat} {st : List Value} {H : HP} {Q : Option Value → HP → Prop} : Go 13 196 L (.ref p :: st) H Q ↔ Rd (gF' 1 1 (hget H p)) 13 199 L st H Q := G_getf fX1_run_196 ⟨rfl, rfl⟩
theorem fX1_run_199 : ft 13 199 = some (.iload 8, 0, 0, 0, .null) := by decide +kernel
theorem gX1_run_199 {l0 l1 l2 l3 l4 l5 l6 l7 : Option Value} {u : Int32} {st : List Value} {H : HP} {Q : Option Value → HP → Prop} : Go 13 199 [l0, l1, l2, l3, l4, l5, l6, l7, some (.int u)] st H Q ↔ Go 13 201 [l0, l1, l2, l3, l4, l5, l6, l7, some (.int u)] (.int u :: st) H Q := G_iload fX1_run_199 rfl
theorem fX1_run_201 : ft 13 201 = some (.laload, 0, 0, 0, .null) := by decide +kernel
theorem gX1_run_201 {L : List (Option Value)} {p : Nat} {a : Int} {st : List Value} {H : HP} {Q : Option Value → HP → Prop} : Go 13 201 L (vi a :: .ref p :: st) H Q ↔ Rd (aL' (hget H p) a) 13 202 L st H Q := G_lald fX1_run_201
theorem fX1_run_202 : ft 13 202 = some (.lload 6, 0, 0, 0, .null) := by decide +kernel
theorem gX1_run_202 {l0 l1 l2 l3 l4 l5 l8 : Option Value} {u : Int64} {st : List Value} {H : HP} {Q : Option Value → HP → Prop} : Go 13 202 [l0, l1, l2, l3, l4, l5, some (.long u), none, l8] st H Q ↔ Go 13 204 [l0, l1, l2, l3, l4, l5, some (.long u), none, l8] (.long u :: st) H Q := G_lload fX1_run_202 rfl
theorem fX1_run_204 : ft 13 204 = some (.invokevirtual 46, 30, 0, 504, .null) := by decide +kernel
theorem gX1_run_204 {L : List (Option Value)} {p : Nat} {a0 : Int64} {a1 : Int64} {r0 : Int32} {r1 : Nat} {H : HP} {Q : Option Value → HP → Prop} : Go 13 204 L (.long a1 :: .long a0 :: .ref p :: [.int r0, .ref r1]) H Q ↔ (iso 3 (hget H p) = true ∧ Go 30 0 [some (.ref p), some (.long a0), none, some (.long a1), none] [] H (Cont 13 207 L [.int r0, .ref r1] Q)) := G_cV (n := 2) (N := 5) (as := [.long a1, .long a0]) (st := [.int r0, .ref r1]) fX1_run_204 (by decide +kernel) rfl (Nat.le_of_ble_eq_true rfl) (Nat.le_of_ble_eq_true rfl) rfl
theorem fX1_run_207 : ft 13 207 = some (.lastore, 0, 0, 0, .null) := by decide +kernel
theorem gX1_run_207 {L : List (Option Value)} {p : Nat} {a : Int} {b : Int} (hp : p ≠ 0) {st : List Value} {H : HP} {Q : Option Value → HP → Prop} : Go 13 207 L (vl b :: vi a :: .ref p :: st) H Q ↔ Wr (sL' (hget H p) a b) p 13 208 L st H Q := G_last fX1_run_207 hp
theorem fX1_run_208 : ft 13 208 = some (.iinc 8 1, 0, 0, 0, .null) := by decide +kernel
theorem gX1_run_208 {l0 l1 l2 l3 l4 l5 l6 l7 : Option Value} {a : Int} {st : List Value} {H : HP} {Q : Option Value → HP → Prop} : Go 13 208 [l0, l1, l2, l3, l4, l5, l6, l7, some (vi a)] st H Q ↔ Go 13 211 [l0, l1, l2, l3, l4, l5, l6, l7, some (vi (a + 1))] st H Q := G_iinc fX1_run_208 rfl rfl
theorem fX1_run_211 : ft 13 211 = some (.goto (-32), 0, 0, 0, .null) := by decide +kernel
theorem gX1_run_211 {L : List (Option Value)} {st : List Value} {H : HP} {Q : Option Value → HP → Prop} : Go 13 211 L st H Q ↔ Go 13 179 L st H Q := G_goto fX1_run_211 (by decide)
theorem fX1_run_214 : ft 13 214 = some (.return_, 0, 0, 0, .null) := by decide +kernel
theorem gX1_run_214 {L : List (Option Value)} {H : HP} {Q : Option Value → HP → Prop} : Go 13 214 L [] H Q ↔ Q none H := G_vret fX1_run_214 (by decide +kernel)
theorem fX1_spread_0 : ft 14 0 = some (.aload_n 1, 0, 0, 0, .null) := by decide +kernel
theorem gX1_spread_0 {l0 l2 l3 l4 l5 l6 l7 l8 : Option Value} {u : Nat} {st : List Value} {H : HP} {Q : Option Value → HP → Prop} : Go 14 0 [l0, some (.ref u), l2, l3, l4, l5, l6, l7, l8] st H Q ↔ Go 14 1 [l0, some (.ref u), l2, l3, l4, l5, l6, l7, l8] (.ref u :: st) H Q := G_aload_n fX1_spread_0 rfl
theorem fX1_spread_1 : ft 14 1 = some (.iload_n 2, 0, 0, 0, .null) := by decide +kernel
theorem gX1_spread_1 {l0 l1 l3 l4 l5 l6 l7 l8 : Option Value} {u : Int32} {st : List Value} {H : HP} {Q : Option Value → HP → Prop} : Go 14 1 [l0, l1, some (.int u), l3, l4, l5, l6, l7, l8] st H Q ↔ Go 14 2 [l0, l1, some (.int u), l3, l4, l5, l6, l7, l8] (.int u :: st) H Q := G_iload_n fX1_spread_1 rfl
theorem fX1_spread_2 : ft 14 2 = some (.invokestatic 54, 16, 0, 496, .null) := by decide +kernel
theorem gX1_spread_2 {L : List (Option Value)} {a0 : Nat} {a1 : Int32}  {H : HP} {Q : Option Value → HP → Prop} : Go 14 2 L (.int a1 :: .ref a0 :: []) H Q ↔ Go 16 0 [some (.ref a0), some (.int a1), none, none, none, none] [] H (Cont 14 5 L [] Q) := G_cS (n := 2) (N := 6) (as := [.int a1, .ref a0]) (st := []) fX1_spread_2 (by decide +kernel) rfl (Nat.le_of_ble_eq_true rfl) (Nat.le_of_ble_eq_true rfl) rfl
theorem fX1_spread_5 : ft 14 5 = some (.iconst 1, 0, 0, 0, .null) := by decide +kernel
theorem gX1_spread_5 {L : List (Option Value)} {st : List Value} {H : HP} {Q : Option Value → HP → Prop} : Go 14 5 L st H Q ↔ Go 14 6 L (vi 1 :: st) H Q := G_iconst fX1_spread_5
theorem fX1_spread_6 : ft 14 6 = some (.istore 5, 0, 0, 0, .null) := by decide +kernel
theorem gX1_spread_6 {l0 l1 l2 l3 l4 l5 l6 l7 l8 : Option Value} {u : Int32} {st : List Value} {H : HP} {Q : Option Value → HP → Prop} : Go 14 6 [l0, l1, l2, l3, l4, l5, l6, l7, l8] (.int u :: st) H Q ↔ Go 14 8 [l0, l1, l2, l3, l4, some (.int u), l6, l7, l8] st H Q := G_istore fX1_spread_6 rfl
theorem fX1_spread_8 : ft 14 8 = some (.iload 5, 0, 0, 0, .null) := by decide +kernel
theorem gX1_spread_8 {l0 l1 l2 l3 l4 l6 l7 l8 : Option Value} {u : Int32} {st : List Value} {H : HP} {Q : Option Value → HP → Prop} : Go 14 8 [l0, l1, l2, l3, l4, some (.int u), l6, l7, l8] st H Q ↔ Go 14 10 [l0, l1, l2, l3, l4, some (.int u), l6, l7, l8] (.int u :: st) H Q := G_iload fX1_spread_8 rfl
theorem fX1_spread_10 : ft 14 10 = some (.iload_n 2, 0, 0, 0, .null) := by decide +kernel
theorem gX1_spread_10 {l0 l1 l3 l4 l5 l6 l7 l8 : Option Value} {u : Int32} {st : List Value} {H : HP} {Q : Option Value → HP → Prop} : Go 14 10 [l0, l1, some (.int u), l3, l4, l5, l6, l7, l8] st H Q ↔ Go 14 11 [l0, l1, some (.int u), l3, l4, l5, l6, l7, l8] (.int u :: st) H Q := G_iload_n fX1_spread_10 rfl
theorem fX1_spread_11 : ft 14 11 = some (.if_icmp .ge 61, 0, 0, 0, .null) := by decide +kernel
theorem gX1_spread_11T {L : List (Option Value)} {a b : Int} (c : (-2147483648 ≤ a ∧ a ≤ 2147483647 ∧ -2147483648 ≤ b ∧ b ≤ 2147483647) ∧ b ≤ a) {st : List Value} {H : HP} {Q : Option Value → HP → Prop} : Go 14 11 L (vi b :: vi a :: st) H Q ↔ Go 14 72 L st H Q := G_icT fX1_spread_11 (by decide) c
theorem gX1_spread_11F {L : List (Option Value)} {a b : Int} (c : (-2147483648 ≤ a ∧ a ≤ 2147483647 ∧ -2147483648 ≤ b ∧ b ≤ 2147483647) ∧ ¬ (b ≤ a)) {st : List Value} {H : HP} {Q : Option Value → HP → Prop} : Go 14 11 L (vi b :: vi a :: st) H Q ↔ Go 14 14 L st H Q := G_icF (tg := 72) fX1_spread_11 (by decide) c
theorem fX1_spread_14 : ft 14 14 = some (.aload_n 0, 0, 0, 0, .null) := by decide +kernel
theorem gX1_spread_14 {l1 l2 l3 l4 l5 l6 l7 l8 : Option Value} {u : Nat} {st : List Value} {H : HP} {Q : Option Value → HP → Prop} : Go 14 14 [some (.ref u), l1, l2, l3, l4, l5, l6, l7, l8] st H Q ↔ Go 14 15 [some (.ref u), l1, l2, l3, l4, l5, l6, l7, l8] (.ref u :: st) H Q := G_aload_n fX1_spread_14 rfl
theorem fX1_spread_15 : ft 14 15 = some (.getfield 18, 1, 0, 156, .null) := by decide +kernel
theorem gX1_spread_15 {L : List (Option Value)} {p : Nat} {st : List Value} {H : HP} {Q : Option Value → HP → Prop} : Go 14 15 L (.ref p :: st) H Q ↔ Rd (gF' 1 0 (hget H p)) 14 18 L st H Q := G_getf fX1_spread_15 ⟨rfl, rfl⟩
theorem fX1_spread_18 : ft 14 18 = some (.lload_n 3, 0, 0, 0, .null) := by decide +kernel
theorem gX1_spread_18 {l0 l1 l2 l5 l6 l7 l8 : Option Value} {u : Int64} {st : List Value} {H : HP} {Q : Option Value → HP → Prop} : Go 14 18 [l0, l1, l2, some (.long u), none, l5, l6, l7, l8] st H Q ↔ Go 14 19 [l0, l1, l2, some (.long u), none, l5, l6, l7, l8] (.long u :: st) H Q := G_lload_n fX1_spread_18 rfl
theorem fX1_spread_19 : ft 14 19 = some (.iload_n 2, 0, 0, 0, .null) := by decide +kernel
theorem gX1_spread_19 {l0 l1 l3 l4 l5 l6 l7 l8 : Option Value} {u : Int32} {st : List Value} {H : HP} {Q : Option Value → HP → Prop} : Go 14 19 [l0, l1, some (.int u), l3, l4, l5, l6, l7, l8] st H Q ↔ Go 14 20 [l0, l1, some (.int u), l3, l4, l5, l6, l7, l8] (.int u :: st) H Q := G_iload_n fX1_spread_19 rfl
theorem fX1_spread_20 : ft 14 20 = some (.iconst 2, 0, 0, 0, .null) := by decide +kernel
theorem gX1_spread_20 {L : List (Option Value)} {st : List Value} {H : HP} {Q : Option Value → HP → Prop} : Go 14 20 L st H Q ↔ Go 14 21 L (vi 2 :: st) H Q := G_iconst fX1_spread_20
theorem fX1_spread_21 : ft 14 21 = some (.iload 5, 0, 0, 0, .null) := by decide +kernel
theorem gX1_spread_21 {l0 l1 l2 l3 l4 l6 l7 l8 : Option Value} {u : Int32} {st : List Value} {H : HP} {Q : Option Value → HP → Prop} : Go 14 21 [l0, l1, l2, l3, l4, some (.int u), l6, l7, l8] st H Q ↔ Go 14 23 [l0, l1, l2, l3, l4, some (.int u), l6, l7, l8] (.int u :: st) H Q := G_iload fX1_spread_21 rfl
theorem fX1_spread_23 : ft 14 23 = some (.imul, 0, 0, 0, .null) := by decide +kernel
theorem gX1_spread_23 {L : List (Option Value)} {a b : Int} {st : List Value} {H : HP} {Q : Option Value → HP → Prop} : Go 14 23 L (vi b :: vi a :: st) H Q ↔ Go 14 24 L (vi (a * b) :: st) H Q := G_imul fX1_spread_23
theorem fX1_spread_24 : ft 14 24 = some (.idiv, 0, 0, 0, .null) := by decide +kernel
theorem gX1_spread_24 {L : List (Option Value)} {a b : Int} (c : -2147483648 ≤ a ∧ a ≤ 2147483647 ∧ -2147483648 ≤ b ∧ b ≤ 2147483647 ∧ ¬ b = 0) {st : List Value} {H : HP} {Q : Option Value → HP → Prop} : Go 14 24 L (vi b :: vi a :: st) H Q ↔ Go 14 25 L (vi (a.tdiv b) :: st) H Q := G_idiv fX1_spread_24 c
theorem fX1_spread_25 : ft 14 25 = some (.i2l, 0, 0, 0, .null) := by decide +kernel
theorem gX1_spread_25 {L : List (Option Value)} {a : Int} (c : -2147483648 ≤ a ∧ a ≤ 2147483647) {st : List Value} {H : HP} {Q : Option Value → HP → Prop} : Go 14 25 L (vi a :: st) H Q ↔ Go 14 26 L (vl a :: st) H Q := G_i2l fX1_spread_25 c
theorem fX1_spread_26 : ft 14 26 = some (.invokevirtual 58, 33, 0, 499, .null) := by decide +kernel
theorem gX1_spread_26 {L : List (Option Value)} {p : Nat} {a0 : Int64} {a1 : Int64}  {H : HP} {Q : Option Value → HP → Prop} : Go 14 26 L (.long a1 :: .long a0 :: .ref p :: []) H Q ↔ (iso 3 (hget H p) = true ∧ Go 33 0 [some (.ref p), some (.long a0), none, some (.long a1), none, none, none, none, none, none, none] [] H (Cont 14 29 L [] Q)) := G_cV (n := 2) (N := 11) (as := [.long a1, .long a0]) (st := []) fX1_spread_26 (by decide +kernel) rfl (Nat.le_of_ble_eq_true rfl) (Nat.le_of_ble_eq_true rfl) rfl
theorem fX1_spread_29 : ft 14 29 = some (.lstore 6, 0, 0, 0, .null) := by decide +kernel
theorem gX1_spread_29 {l0 l1 l2 l3 l4 l5 l6 l7 l8 : Option Value} {u : Int64} {st : List Value} {H : HP} {Q : Option Value → HP → Prop} : Go 14 29 [l0, l1, l2, l3, l4, l5, l6, l7, l8] (.long u :: st) H Q ↔ Go 14 31 [l0, l1, l2, l3, l4, l5, some (.long u), none, l8] st H Q := G_lstore fX1_spread_29 rfl
theorem fX1_spread_31 : ft 14 31 = some (.iconst 0, 0, 0, 0, .null) := by decide +kernel
theorem gX1_spread_31 {L : List (Option Value)} {st : List Value} {H : HP} {Q : Option Value → HP → Prop} : Go 14 31 L st H Q ↔ Go 14 32 L (vi 0 :: st) H Q := G_iconst fX1_spread_31
theorem fX1_spread_32 : ft 14 32 = some (.istore 8, 0, 0, 0, .null) := by decide +kernel
theorem gX1_spread_32 {l0 l1 l2 l3 l4 l5 l6 l7 l8 : Option Value} {u : Int32} {st : List Value} {H : HP} {Q : Option Value → HP → Prop} : Go 14 32 [l0, l1, l2, l3, l4, l5, l6, l7, l8] (.int u :: st) H Q ↔ Go 14 34 [l0, l1, l2, l3, l4, l5, l6, l7, some (.int u)] st H Q := G_istore fX1_spread_32 rfl
theorem fX1_spread_34 : ft 14 34 = some (.iload 8, 0, 0, 0, .null) := by decide +kernel
theorem gX1_spread_34 {l0 l1 l2 l3 l4 l5 l6 l7 : Option Value} {u : Int32} {st : List Value} {H : HP} {Q : Option Value → HP → Prop} : Go 14 34 [l0, l1, l2, l3, l4, l5, l6, l7, some (.int u)] st H Q ↔ Go 14 36 [l0, l1, l2, l3, l4, l5, l6, l7, some (.int u)] (.int u :: st) H Q := G_iload fX1_spread_34 rfl
theorem fX1_spread_36 : ft 14 36 = some (.iload_n 2, 0, 0, 0, .null) := by decide +kernel
theorem gX1_spread_36 {l0 l1 l3 l4 l5 l6 l7 l8 : Option Value} {u : Int32} {st : List Value} {H : HP} {Q : Option Value → HP → Prop} : Go 14 36 [l0, l1, some (.int u), l3, l4, l5, l6, l7, l8] st H Q ↔ Go 14 37 [l0, l1, some (.int u), l3, l4, l5, l6, l7, l8] (.int u :: st) H Q := G_iload_n fX1_spread_36 rfl
theorem fX1_spread_37 : ft 14 37 = some (.if_icmp .ge 26, 0, 0, 0, .null) := by decide +kernel
theorem gX1_spread_37T {L : List (Option Value)} {a b : Int} (c : (-2147483648 ≤ a ∧ a ≤ 2147483647 ∧ -2147483648 ≤ b ∧ b ≤ 2147483647) ∧ b ≤ a) {st : List Value} {H : HP} {Q : Option Value → HP → Prop} : Go 14 37 L (vi b :: vi a :: st) H Q ↔ Go 14 63 L st H Q := G_icT fX1_spread_37 (by decide) c
theorem gX1_spread_37F {L : List (Option Value)} {a b : Int} (c : (-2147483648 ≤ a ∧ a ≤ 2147483647 ∧ -2147483648 ≤ b ∧ b ≤ 2147483647) ∧ ¬ (b ≤ a)) {st : List Value} {H : HP} {Q : Option Value → HP → Prop} : Go 14 37 L (vi b :: vi a :: st) H Q ↔ Go 14 40 L st H Q := G_icF (tg := 63) fX1_spread_37 (by decide) c
theorem fX1_spread_40 : ft 14 40 = some (.aload_n 0, 0, 0, 0, .null) := by decide +kernel
theorem gX1_spread_40 {l1 l2 l3 l4 l5 l6 l7 l8 : Option Value} {u : Nat} {st : List Value} {H : HP} {Q : Option Value → HP → Prop} : Go 14 40 [some (.ref u), l1, l2, l3, l4, l5, l6, l7, l8] st H Q ↔ Go 14 41 [some (.ref u), l1, l2, l3, l4, l5, l6, l7, l8] (.ref u :: st) H Q := G_aload_n fX1_spread_40 rfl
theorem fX1_spread_41 : ft 14 41 = some (.aload_n 1, 0, 0, 0, .null) := by decide +kernel
theorem gX1_spread_41 {l0 l2 l3 l4 l5 l6 l7 l8 : Option Value} {u : Nat} {st : List Value} {H : HP} {Q : Option Value → HP → Prop} : Go 14 41 [l0, some (.ref u), l2, l3, l4, l5, l6, l7, l8] st H Q ↔ Go 14 42 [l0, some (.ref u), l2, l3, l4, l5, l6, l7, l8] (.ref u :: st) H Q := G_aload_n fX1_spread_41 rfl
theorem fX1_spread_42 : ft 14 42 = some (.iload 8, 0, 0, 0, .null) := by decide +kernel
theorem gX1_spread_42 {l0 l1 l2 l3 l4 l5 l6 l7 : Option Value} {u : Int32} {st : List Value} {H : HP} {Q : Option Value → HP → Prop} : Go 14 42 [l0, l1, l2, l3, l4, l5, l6, l7, some (.int u)] st H Q ↔ Go 14 44 [l0, l1, l2, l3, l4, l5, l6, l7, some (.int u)] (.int u :: st) H Q := G_iload fX1_spread_42 rfl
theorem fX1_spread_44 : ft 14 44 = some (.iload 5, 0, 0, 0, .null) := by decide +kernel
theorem gX1_spread_44 {l0 l1 l2 l3 l4 l6 l7 l8 : Option Value} {u : Int32} {st : List Value} {H : HP} {Q : Option Value → HP → Prop} : Go 14 44 [l0, l1, l2, l3, l4, some (.int u), l6, l7, l8] st H Q ↔ Go 14 46 [l0, l1, l2, l3, l4, some (.int u), l6, l7, l8] (.int u :: st) H Q := G_iload fX1_spread_44 rfl
theorem fX1_spread_46 : ft 14 46 = some (.lload 6, 0, 0, 0, .null) := by decide +kernel
theorem gX1_spread_46 {l0 l1 l2 l3 l4 l5 l8 : Option Value} {u : Int64} {st : List Value} {H : HP} {Q : Option Value → HP → Prop} : Go 14 46 [l0, l1, l2, l3, l4, l5, some (.long u), none, l8] st H Q ↔ Go 14 48 [l0, l1, l2, l3, l4, l5, some (.long u), none, l8] (.long u :: st) H Q := G_lload fX1_spread_46 rfl
theorem fX1_spread_48 : ft 14 48 = some (.invokevirtual 61, 15, 0, 500, .null) := by decide +kernel
theorem gX1_spread_48 {L : List (Option Value)} {p : Nat} {a0 : Nat} {a1 : Int32} {a2 : Int32} {a3 : Int64}  {H : HP} {Q : Option Value → HP → Prop} : Go 14 48 L (.long a3 :: .int a2 :: .int a1 :: .ref a0 :: .ref p :: []) H Q ↔ (iso 1 (hget H p) = true ∧ Go 15 0 [some (.ref p), some (.ref a0), some (.int a1), some (.int a2), some (.long a3), none, none, none, none, none, none, none, none] [] H (Cont 14 51 L [] Q)) := G_cV (n := 4) (N := 13) (as := [.long a3, .int a2, .int a1, .ref a0]) (st := []) fX1_spread_48 (by decide +kernel) rfl (Nat.le_of_ble_eq_true rfl) (Nat.le_of_ble_eq_true rfl) rfl
theorem fX1_spread_51 : ft 14 51 = some (.iload 8, 0, 0, 0, .null) := by decide +kernel
theorem gX1_spread_51 {l0 l1 l2 l3 l4 l5 l6 l7 : Option Value} {u : Int32} {st : List Value} {H : HP} {Q : Option Value → HP → Prop} : Go 14 51 [l0, l1, l2, l3, l4, l5, l6, l7, some (.int u)] st H Q ↔ Go 14 53 [l0, l1, l2, l3, l4, l5, l6, l7, some (.int u)] (.int u :: st) H Q := G_iload fX1_spread_51 rfl
theorem fX1_spread_53 : ft 14 53 = some (.iconst 2, 0, 0, 0, .null) := by decide +kernel
theorem gX1_spread_53 {L : List (Option Value)} {st : List Value} {H : HP} {Q : Option Value → HP → Prop} : Go 14 53 L st H Q ↔ Go 14 54 L (vi 2 :: st) H Q := G_iconst fX1_spread_53
theorem fX1_spread_54 : ft 14 54 = some (.iload 5, 0, 0, 0, .null) := by decide +kernel
theorem gX1_spread_54 {l0 l1 l2 l3 l4 l6 l7 l8 : Option Value} {u : Int32} {st : List Value} {H : HP} {Q : Option Value → HP → Prop} : Go 14 54 [l0, l1, l2, l3, l4, some (.int u), l6, l7, l8] st H Q ↔ Go 14 56 [l0, l1, l2, l3, l4, some (.int u), l6, l7, l8] (.int u :: st) H Q := G_iload fX1_spread_54 rfl
theorem fX1_spread_56 : ft 14 56 = some (.imul, 0, 0, 0, .null) := by decide +kernel
theorem gX1_spread_56 {L : List (Option Value)} {a b : Int} {st : List Value} {H : HP} {Q : Option Value → HP → Prop} : Go 14 56 L (vi b :: vi a :: st) H Q ↔ Go 14 57 L (vi (a * b) :: st) H Q := G_imul fX1_spread_56
theorem fX1_spread_57 : ft 14 57 = some (.iadd, 0, 0, 0, .null) := by decide +kernel
theorem gX1_spread_57 {L : List (Option Value)} {a b : Int} {st : List Value} {H : HP} {Q : Option Value → HP → Prop} : Go 14 57 L (vi b :: vi a :: st) H Q ↔ Go 14 58 L (vi (a + b) :: st) H Q := G_iadd fX1_spread_57
theorem fX1_spread_58 : ft 14 58 = some (.istore 8, 0, 0, 0, .null) := by decide +kernel
theorem gX1_spread_58 {l0 l1 l2 l3 l4 l5 l6 l7 l8 : Option Value} {u : Int32} {st : List Value} {H : HP} {Q : Option Value → HP → Prop} : Go 14 58 [l0, l1, l2, l3, l4, l5, l6, l7, l8] (.int u :: st) H Q ↔ Go 14 60 [l0, l1, l2, l3, l4, l5, l6, l7, some (.int u)] st H Q := G_istore fX1_spread_58 rfl
theorem fX1_spread_60 : ft 14 60 = some (.goto (-26), 0, 0, 0, .null) := by decide +kernel
theorem gX1_spread_60 {L : List (Option Value)} {st : List Value} {H : HP} {Q : Option Value → HP → Prop} : Go 14 60 L st H Q ↔ Go 14 34 L st H Q := G_goto fX1_spread_60 (by decide)
theorem fX1_spread_63 : ft 14 63 = some (.iload 5, 0, 0, 0, .null) := by decide +kernel
theorem gX1_spread_63 {l0 l1 l2 l3 l4 l6 l7 l8 : Option Value} {u : Int32} {st : List Value} {H : HP} {Q : Option Value → HP → Prop} : Go 14 63 [l0, l1, l2, l3, l4, some (.int u), l6, l7, l8] st H Q ↔ Go 14 65 [l0, l1, l2, l3, l4, some (.int u), l6, l7, l8] (.int u :: st) H Q := G_iload fX1_spread_63 rfl
theorem fX1_spread_65 : ft 14 65 = some (.iconst 2, 0, 0, 0, .null) := by decide +kernel
theorem gX1_spread_65 {L : List (Option Value)} {st : List Value} {H : HP} {Q : Option Value → HP → Prop} : Go 14 65 L st H Q ↔ Go 14 66 L (vi 2 :: st) H Q := G_iconst fX1_spread_65
theorem fX1_spread_66 : ft 14 66 = some (.imul, 0, 0, 0, .null) := by decide +kernel
theorem gX1_spread_66 {L : List (Option Value)} {a b : Int} {st : List Value} {H : HP} {Q : Option Value → HP → Prop} : Go 14 66 L (vi b :: vi a :: st) H Q ↔ Go 14 67 L (vi (a * b) :: st) H Q := G_imul fX1_spread_66
theorem fX1_spread_67 : ft 14 67 = some (.istore 5, 0, 0, 0, .null) := by decide +kernel
theorem gX1_spread_67 {l0 l1 l2 l3 l4 l5 l6 l7 l8 : Option Value} {u : Int32} {st : List Value} {H : HP} {Q : Option Value → HP → Prop} : Go 14 67 [l0, l1, l2, l3, l4, l5, l6, l7, l8] (.int u :: st) H Q ↔ Go 14 69 [l0, l1, l2, l3, l4, some (.int u), l6, l7, l8] st H Q := G_istore fX1_spread_67 rfl
theorem fX1_spread_69 : ft 14 69 = some (.goto (-61), 0, 0, 0, .null) := by decide +kernel
theorem gX1_spread_69 {L : List (Option Value)} {st : List Value} {H : HP} {Q : Option Value → HP → Prop} : Go 14 69 L st H Q ↔ Go 14 8 L st H Q := G_goto fX1_spread_69 (by decide)
theorem fX1_spread_72 : ft 14 72 = some (.return_, 0, 0, 0, .null) := by decide +kernel
theorem gX1_spread_72 {L : List (Option Value)} {H : HP} {Q : Option Value → HP → Prop} : Go 14 72 L [] H Q ↔ Q none H := G_vret fX1_spread_72 (by decide +kernel)
theorem fX1_joinHalves_0 : ft 15 0 = some (.lconst 1, 0, 0, 0, .null) := by decide +kernel
theorem gX1_joinHalves_0 {L : List (Option Value)} {st : List Value} {H : HP} {Q : Option Value → HP → Prop} : Go 15 0 L st H Q ↔ Go 15 1 L (vl 1 :: st) H Q := G_lconst fX1_joinHalves_0 (by decide)
theorem fX1_joinHalves_1 : ft 15 1 = some (.lstore 6, 0, 0, 0, .null) := by decide +kernel
theorem gX1_joinHalves_1 {l0 l1 l2 l3 l4 l5 l6 l7 l8 l9 l10 l11 l12 : Option Value} {u : Int64} {st : List Value} {H : HP} {Q : Option Value → HP → Prop} : Go 15 1 [l0, l1, l2, l3, l4, l5, l6, l7, l8, l9, l10, l11, l12] (.long u :: st) H Q ↔ Go 15 3 [l0, l1, l2, l3, l4, l5, some (.long u), none, l8, l9, l10, l11, l12] st H Q := G_lstore fX1_joinHalves_1 rfl
theorem fX1_joinHalves_3 : ft 15 3 = some (.iload_n 2, 0, 0, 0, .null) := by decide +kernel
theorem gX1_joinHalves_3 {l0 l1 l3 l4 l5 l6 l7 l8 l9 l10 l11 l12 : Option Value} {u : Int32} {st : List Value} {H : HP} {Q : Option Value → HP → Prop} : Go 15 3 [l0, l1, some (.int u), l3, l4, l5, l6, l7, l8, l9, l10, l11, l12] st H Q ↔ Go 15 4 [l0, l1, some (.int u), l3, l4, l5, l6, l7, l8, l9, l10, l11, l12] (.int u :: st) H Q := G_iload_n fX1_joinHalves_3 rfl
theorem fX1_joinHalves_4 : ft 15 4 = some (.istore 8, 0, 0, 0, .null) := by decide +kernel
theorem gX1_joinHalves_4 {l0 l1 l2 l3 l4 l5 l6 l7 l8 l9 l10 l11 l12 : Option Value} {u : Int32} {st : List Value} {H : HP} {Q : Option Value → HP → Prop} : Go 15 4 [l0, l1, l2, l3, l4, l5, l6, l7, l8, l9, l10, l11, l12] (.int u :: st) H Q ↔ Go 15 6 [l0, l1, l2, l3, l4, l5, l6, l7, some (.int u), l9, l10, l11, l12] st H Q := G_istore fX1_joinHalves_4 rfl
theorem fX1_joinHalves_6 : ft 15 6 = some (.iload 8, 0, 0, 0, .null) := by decide +kernel
theorem gX1_joinHalves_6 {l0 l1 l2 l3 l4 l5 l6 l7 l9 l10 l11 l12 : Option Value} {u : Int32} {st : List Value} {H : HP} {Q : Option Value → HP → Prop} : Go 15 6 [l0, l1, l2, l3, l4, l5, l6, l7, some (.int u), l9, l10, l11, l12] st H Q ↔ Go 15 8 [l0, l1, l2, l3, l4, l5, l6, l7, some (.int u), l9, l10, l11, l12] (.int u :: st) H Q := G_iload fX1_joinHalves_6 rfl
theorem fX1_joinHalves_8 : ft 15 8 = some (.iload_n 2, 0, 0, 0, .null) := by decide +kernel
theorem gX1_joinHalves_8 {l0 l1 l3 l4 l5 l6 l7 l8 l9 l10 l11 l12 : Option Value} {u : Int32} {st : List Value} {H : HP} {Q : Option Value → HP → Prop} : Go 15 8 [l0, l1, some (.int u), l3, l4, l5, l6, l7, l8, l9, l10, l11, l12] st H Q ↔ Go 15 9 [l0, l1, some (.int u), l3, l4, l5, l6, l7, l8, l9, l10, l11, l12] (.int u :: st) H Q := G_iload_n fX1_joinHalves_8 rfl
theorem fX1_joinHalves_9 : ft 15 9 = some (.iload_n 3, 0, 0, 0, .null) := by decide +kernel
theorem gX1_joinHalves_9 {l0 l1 l2 l4 l5 l6 l7 l8 l9 l10 l11 l12 : Option Value} {u : Int32} {st : List Value} {H : HP} {Q : Option Value → HP → Prop} : Go 15 9 [l0, l1, l2, some (.int u), l4, l5, l6, l7, l8, l9, l10, l11, l12] st H Q ↔ Go 15 10 [l0, l1, l2, some (.int u), l4, l5, l6, l7, l8, l9, l10, l11, l12] (.int u :: st) H Q := G_iload_n fX1_joinHalves_9 rfl
theorem fX1_joinHalves_10 : ft 15 10 = some (.iadd, 0, 0, 0, .null) := by decide +kernel
theorem gX1_joinHalves_10 {L : List (Option Value)} {a b : Int} {st : List Value} {H : HP} {Q : Option Value → HP → Prop} : Go 15 10 L (vi b :: vi a :: st) H Q ↔ Go 15 11 L (vi (a + b) :: st) H Q := G_iadd fX1_joinHalves_10
theorem fX1_joinHalves_11 : ft 15 11 = some (.if_icmp .ge 77, 0, 0, 0, .null) := by decide +kernel
theorem gX1_joinHalves_11T {L : List (Option Value)} {a b : Int} (c : (-2147483648 ≤ a ∧ a ≤ 2147483647 ∧ -2147483648 ≤ b ∧ b ≤ 2147483647) ∧ b ≤ a) {st : List Value} {H : HP} {Q : Option Value → HP → Prop} : Go 15 11 L (vi b :: vi a :: st) H Q ↔ Go 15 88 L st H Q := G_icT fX1_joinHalves_11 (by decide) c
theorem gX1_joinHalves_11F {L : List (Option Value)} {a b : Int} (c : (-2147483648 ≤ a ∧ a ≤ 2147483647 ∧ -2147483648 ≤ b ∧ b ≤ 2147483647) ∧ ¬ (b ≤ a)) {st : List Value} {H : HP} {Q : Option Value → HP → Prop} : Go 15 11 L (vi b :: vi a :: st) H Q ↔ Go 15 14 L st H Q := G_icF (tg := 88) fX1_joinHalves_11 (by decide) c
theorem fX1_joinHalves_14 : ft 15 14 = some (.aload_n 1, 0, 0, 0, .null) := by decide +kernel
theorem gX1_joinHalves_14 {l0 l2 l3 l4 l5 l6 l7 l8 l9 l10 l11 l12 : Option Value} {u : Nat} {st : List Value} {H : HP} {Q : Option Value → HP → Prop} : Go 15 14 [l0, some (.ref u), l2, l3, l4, l5, l6, l7, l8, l9, l10, l11, l12] st H Q ↔ Go 15 15 [l0, some (.ref u), l2, l3, l4, l5, l6, l7, l8, l9, l10, l11, l12] (.ref u :: st) H Q := G_aload_n fX1_joinHalves_14 rfl
theorem fX1_joinHalves_15 : ft 15 15 = some (.iload 8, 0, 0, 0, .null) := by decide +kernel
theorem gX1_joinHalves_15 {l0 l1 l2 l3 l4 l5 l6 l7 l9 l10 l11 l12 : Option Value} {u : Int32} {st : List Value} {H : HP} {Q : Option Value → HP → Prop} : Go 15 15 [l0, l1, l2, l3, l4, l5, l6, l7, some (.int u), l9, l10, l11, l12] st H Q ↔ Go 15 17 [l0, l1, l2, l3, l4, l5, l6, l7, some (.int u), l9, l10, l11, l12] (.int u :: st) H Q := G_iload fX1_joinHalves_15 rfl
theorem fX1_joinHalves_17 : ft 15 17 = some (.laload, 0, 0, 0, .null) := by decide +kernel
theorem gX1_joinHalves_17 {L : List (Option Value)} {p : Nat} {a : Int} {st : List Value} {H : HP} {Q : Option Value → HP → Prop} : Go 15 17 L (vi a :: .ref p :: st) H Q ↔ Rd (aL' (hget H p) a) 15 18 L st H Q := G_lald fX1_joinHalves_17
theorem fX1_joinHalves_18 : ft 15 18 = some (.lstore 9, 0, 0, 0, .null) := by decide +kernel
theorem gX1_joinHalves_18 {l0 l1 l2 l3 l4 l5 l6 l7 l8 l9 l10 l11 l12 : Option Value} {u : Int64} {st : List Value} {H : HP} {Q : Option Value → HP → Prop} : Go 15 18 [l0, l1, l2, l3, l4, l5, l6, l7, l8, l9, l10, l11, l12] (.long u :: st) H Q ↔ Go 15 20 [l0, l1, l2, l3, l4, l5, l6, l7, l8, some (.long u), none, l11, l12] st H Q := G_lstore fX1_joinHalves_18 rfl
theorem fX1_joinHalves_20 : ft 15 20 = some (.aload_n 0, 0, 0, 0, .null) := by decide +kernel
theorem gX1_joinHalves_20 {l1 l2 l3 l4 l5 l6 l7 l8 l9 l10 l11 l12 : Option Value} {u : Nat} {st : List Value} {H : HP} {Q : Option Value → HP → Prop} : Go 15 20 [some (.ref u), l1, l2, l3, l4, l5, l6, l7, l8, l9, l10, l11, l12] st H Q ↔ Go 15 21 [some (.ref u), l1, l2, l3, l4, l5, l6, l7, l8, l9, l10, l11, l12] (.ref u :: st) H Q := G_aload_n fX1_joinHalves_20 rfl
theorem fX1_joinHalves_21 : ft 15 21 = some (.getfield 18, 1, 0, 156, .null) := by decide +kernel
theorem gX1_joinHalves_21 {L : List (Option Value)} {p : Nat} {st : List Value} {H : HP} {Q : Option Value → HP → Prop} : Go 15 21 L (.ref p :: st) H Q ↔ Rd (gF' 1 0 (hget H p)) 15 24 L st H Q := G_getf fX1_joinHalves_21 ⟨rfl, rfl⟩
theorem fX1_joinHalves_24 : ft 15 24 = some (.aload_n 1, 0, 0, 0, .null) := by decide +kernel
theorem gX1_joinHalves_24 {l0 l2 l3 l4 l5 l6 l7 l8 l9 l10 l11 l12 : Option Value} {u : Nat} {st : List Value} {H : HP} {Q : Option Value → HP → Prop} : Go 15 24 [l0, some (.ref u), l2, l3, l4, l5, l6, l7, l8, l9, l10, l11, l12] st H Q ↔ Go 15 25 [l0, some (.ref u), l2, l3, l4, l5, l6, l7, l8, l9, l10, l11, l12] (.ref u :: st) H Q := G_aload_n fX1_joinHalves_24 rfl
theorem fX1_joinHalves_25 : ft 15 25 = some (.iload 8, 0, 0, 0, .null) := by decide +kernel
theorem gX1_joinHalves_25 {l0 l1 l2 l3 l4 l5 l6 l7 l9 l10 l11 l12 : Option Value} {u : Int32} {st : List Value} {H : HP} {Q : Option Value → HP → Prop} : Go 15 25 [l0, l1, l2, l3, l4, l5, l6, l7, some (.int u), l9, l10, l11, l12] st H Q ↔ Go 15 27 [l0, l1, l2, l3, l4, l5, l6, l7, some (.int u), l9, l10, l11, l12] (.int u :: st) H Q := G_iload fX1_joinHalves_25 rfl
theorem fX1_joinHalves_27 : ft 15 27 = some (.iload_n 3, 0, 0, 0, .null) := by decide +kernel
theorem gX1_joinHalves_27 {l0 l1 l2 l4 l5 l6 l7 l8 l9 l10 l11 l12 : Option Value} {u : Int32} {st : List Value} {H : HP} {Q : Option Value → HP → Prop} : Go 15 27 [l0, l1, l2, some (.int u), l4, l5, l6, l7, l8, l9, l10, l11, l12] st H Q ↔ Go 15 28 [l0, l1, l2, some (.int u), l4, l5, l6, l7, l8, l9, l10, l11, l12] (.int u :: st) H Q := G_iload_n fX1_joinHalves_27 rfl
theorem fX1_joinHalves_28 : ft 15 28 = some (.iadd, 0, 0, 0, .null) := by decide +kernel
theorem gX1_joinHalves_28 {L : List (Option Value)} {a b : Int} {st : List Value} {H : HP} {Q : Option Value → HP → Prop} : Go 15 28 L (vi b :: vi a :: st) H Q ↔ Go 15 29 L (vi (a + b) :: st) H Q := G_iadd fX1_joinHalves_28
theorem fX1_joinHalves_29 : ft 15 29 = some (.laload, 0, 0, 0, .null) := by decide +kernel
theorem gX1_joinHalves_29 {L : List (Option Value)} {p : Nat} {a : Int} {st : List Value} {H : HP} {Q : Option Value → HP → Prop} : Go 15 29 L (vi a :: .ref p :: st) H Q ↔ Rd (aL' (hget H p) a) 15 30 L st H Q := G_lald fX1_joinHalves_29
theorem fX1_joinHalves_30 : ft 15 30 = some (.lload 6, 0, 0, 0, .null) := by decide +kernel
theorem gX1_joinHalves_30 {l0 l1 l2 l3 l4 l5 l8 l9 l10 l11 l12 : Option Value} {u : Int64} {st : List Value} {H : HP} {Q : Option Value → HP → Prop} : Go 15 30 [l0, l1, l2, l3, l4, l5, some (.long u), none, l8, l9, l10, l11, l12] st H Q ↔ Go 15 32 [l0, l1, l2, l3, l4, l5, some (.long u), none, l8, l9, l10, l11, l12] (.long u :: st) H Q := G_lload fX1_joinHalves_30 rfl
theorem fX1_joinHalves_32 : ft 15 32 = some (.invokevirtual 46, 30, 0, 504, .null) := by decide +kernel
theorem gX1_joinHalves_32 {L : List (Option Value)} {p : Nat} {a0 : Int64} {a1 : Int64}  {H : HP} {Q : Option Value → HP → Prop} : Go 15 32 L (.long a1 :: .long a0 :: .ref p :: []) H Q ↔ (iso 3 (hget H p) = true ∧ Go 30 0 [some (.ref p), some (.long a0), none, some (.long a1), none] [] H (Cont 15 35 L [] Q)) := G_cV (n := 2) (N := 5) (as := [.long a1, .long a0]) (st := []) fX1_joinHalves_32 (by decide +kernel) rfl (Nat.le_of_ble_eq_true rfl) (Nat.le_of_ble_eq_true rfl) rfl
theorem fX1_joinHalves_35 : ft 15 35 = some (.lstore 11, 0, 0, 0, .null) := by decide +kernel
theorem gX1_joinHalves_35 {l0 l1 l2 l3 l4 l5 l6 l7 l8 l9 l10 l11 l12 : Option Value} {u : Int64} {st : List Value} {H : HP} {Q : Option Value → HP → Prop} : Go 15 35 [l0, l1, l2, l3, l4, l5, l6, l7, l8, l9, l10, l11, l12] (.long u :: st) H Q ↔ Go 15 37 [l0, l1, l2, l3, l4, l5, l6, l7, l8, l9, l10, some (.long u), none] st H Q := G_lstore fX1_joinHalves_35 rfl
theorem fX1_joinHalves_37 : ft 15 37 = some (.aload_n 1, 0, 0, 0, .null) := by decide +kernel
theorem gX1_joinHalves_37 {l0 l2 l3 l4 l5 l6 l7 l8 l9 l10 l11 l12 : Option Value} {u : Nat} {st : List Value} {H : HP} {Q : Option Value → HP → Prop} : Go 15 37 [l0, some (.ref u), l2, l3, l4, l5, l6, l7, l8, l9, l10, l11, l12] st H Q ↔ Go 15 38 [l0, some (.ref u), l2, l3, l4, l5, l6, l7, l8, l9, l10, l11, l12] (.ref u :: st) H Q := G_aload_n fX1_joinHalves_37 rfl
theorem fX1_joinHalves_38 : ft 15 38 = some (.iload 8, 0, 0, 0, .null) := by decide +kernel
theorem gX1_joinHalves_38 {l0 l1 l2 l3 l4 l5 l6 l7 l9 l10 l11 l12 : Option Value} {u : Int32} {st : List Value} {H : HP} {Q : Option Value → HP → Prop} : Go 15 38 [l0, l1, l2, l3, l4, l5, l6, l7, some (.int u), l9, l10, l11, l12] st H Q ↔ Go 15 40 [l0, l1, l2, l3, l4, l5, l6, l7, some (.int u), l9, l10, l11, l12] (.int u :: st) H Q := G_iload fX1_joinHalves_38 rfl
theorem fX1_joinHalves_40 : ft 15 40 = some (.aload_n 0, 0, 0, 0, .null) := by decide +kernel
theorem gX1_joinHalves_40 {l1 l2 l3 l4 l5 l6 l7 l8 l9 l10 l11 l12 : Option Value} {u : Nat} {st : List Value} {H : HP} {Q : Option Value → HP → Prop} : Go 15 40 [some (.ref u), l1, l2, l3, l4, l5, l6, l7, l8, l9, l10, l11, l12] st H Q ↔ Go 15 41 [some (.ref u), l1, l2, l3, l4, l5, l6, l7, l8, l9, l10, l11, l12] (.ref u :: st) H Q := G_aload_n fX1_joinHalves_40 rfl
theorem fX1_joinHalves_41 : ft 15 41 = some (.getfield 18, 1, 0, 156, .null) := by decide +kernel
theorem gX1_joinHalves_41 {L : List (Option Value)} {p : Nat} {st : List Value} {H : HP} {Q : Option Value → HP → Prop} : Go 15 41 L (.ref p :: st) H Q ↔ Rd (gF' 1 0 (hget H p)) 15 44 L st H Q := G_getf fX1_joinHalves_41 ⟨rfl, rfl⟩
theorem fX1_joinHalves_44 : ft 15 44 = some (.lload 9, 0, 0, 0, .null) := by decide +kernel
theorem gX1_joinHalves_44 {l0 l1 l2 l3 l4 l5 l6 l7 l8 l11 l12 : Option Value} {u : Int64} {st : List Value} {H : HP} {Q : Option Value → HP → Prop} : Go 15 44 [l0, l1, l2, l3, l4, l5, l6, l7, l8, some (.long u), none, l11, l12] st H Q ↔ Go 15 46 [l0, l1, l2, l3, l4, l5, l6, l7, l8, some (.long u), none, l11, l12] (.long u :: st) H Q := G_lload fX1_joinHalves_44 rfl
theorem fX1_joinHalves_46 : ft 15 46 = some (.lload 11, 0, 0, 0, .null) := by decide +kernel
theorem gX1_joinHalves_46 {l0 l1 l2 l3 l4 l5 l6 l7 l8 l9 l10 : Option Value} {u : Int64} {st : List Value} {H : HP} {Q : Option Value → HP → Prop} : Go 15 46 [l0, l1, l2, l3, l4, l5, l6, l7, l8, l9, l10, some (.long u), none] st H Q ↔ Go 15 48 [l0, l1, l2, l3, l4, l5, l6, l7, l8, l9, l10, some (.long u), none] (.long u :: st) H Q := G_lload fX1_joinHalves_46 rfl
theorem fX1_joinHalves_48 : ft 15 48 = some (.invokevirtual 65, 31, 0, 505, .null) := by decide +kernel
theorem gX1_joinHalves_48 {L : List (Option Value)} {p : Nat} {a0 : Int64} {a1 : Int64} {r0 : Int32} {r1 : Nat} {H : HP} {Q : Option Value → HP → Prop} : Go 15 48 L (.long a1 :: .long a0 :: .ref p :: [.int r0, .ref r1]) H Q ↔ (iso 3 (hget H p) = true ∧ Go 31 0 [some (.ref p), some (.long a0), none, some (.long a1), none, none, none] [] H (Cont 15 51 L [.int r0, .ref r1] Q)) := G_cV (n := 2) (N := 7) (as := [.long a1, .long a0]) (st := [.int r0, .ref r1]) fX1_joinHalves_48 (by decide +kernel) rfl (Nat.le_of_ble_eq_true rfl) (Nat.le_of_ble_eq_true rfl) rfl
theorem fX1_joinHalves_51 : ft 15 51 = some (.lastore, 0, 0, 0, .null) := by decide +kernel
theorem gX1_joinHalves_51 {L : List (Option Value)} {p : Nat} {a : Int} {b : Int} (hp : p ≠ 0) {st : List Value} {H : HP} {Q : Option Value → HP → Prop} : Go 15 51 L (vl b :: vi a :: .ref p :: st) H Q ↔ Wr (sL' (hget H p) a b) p 15 52 L st H Q := G_last fX1_joinHalves_51 hp
theorem fX1_joinHalves_52 : ft 15 52 = some (.aload_n 1, 0, 0, 0, .null) := by decide +kernel
theorem gX1_joinHalves_52 {l0 l2 l3 l4 l5 l6 l7 l8 l9 l10 l11 l12 : Option Value} {u : Nat} {st : List Value} {H : HP} {Q : Option Value → HP → Prop} : Go 15 52 [l0, some (.ref u), l2, l3, l4, l5, l6, l7, l8, l9, l10, l11, l12] st H Q ↔ Go 15 53 [l0, some (.ref u), l2, l3, l4, l5, l6, l7, l8, l9, l10, l11, l12] (.ref u :: st) H Q := G_aload_n fX1_joinHalves_52 rfl
theorem fX1_joinHalves_53 : ft 15 53 = some (.iload 8, 0, 0, 0, .null) := by decide +kernel
theorem gX1_joinHalves_53 {l0 l1 l2 l3 l4 l5 l6 l7 l9 l10 l11 l12 : Option Value} {u : Int32} {st : List Value} {H : HP} {Q : Option Value → HP → Prop} : Go 15 53 [l0, l1, l2, l3, l4, l5, l6, l7, some (.int u), l9, l10, l11, l12] st H Q ↔ Go 15 55 [l0, l1, l2, l3, l4, l5, l6, l7, some (.int u), l9, l10, l11, l12] (.int u :: st) H Q := G_iload fX1_joinHalves_53 rfl
theorem fX1_joinHalves_55 : ft 15 55 = some (.iload_n 3, 0, 0, 0, .null) := by decide +kernel
theorem gX1_joinHalves_55 {l0 l1 l2 l4 l5 l6 l7 l8 l9 l10 l11 l12 : Option Value} {u : Int32} {st : List Value} {H : HP} {Q : Option Value → HP → Prop} : Go 15 55 [l0, l1, l2, some (.int u), l4, l5, l6, l7, l8, l9, l10, l11, l12] st H Q ↔ Go 15 56 [l0, l1, l2, some (.int u), l4, l5, l6, l7, l8, l9, l10, l11, l12] (.int u :: st) H Q := G_iload_n fX1_joinHalves_55 rfl
theorem fX1_joinHalves_56 : ft 15 56 = some (.iadd, 0, 0, 0, .null) := by decide +kernel
theorem gX1_joinHalves_56 {L : List (Option Value)} {a b : Int} {st : List Value} {H : HP} {Q : Option Value → HP → Prop} : Go 15 56 L (vi b :: vi a :: st) H Q ↔ Go 15 57 L (vi (a + b) :: st) H Q := G_iadd fX1_joinHalves_56
theorem fX1_joinHalves_57 : ft 15 57 = some (.aload_n 0, 0, 0, 0, .null) := by decide +kernel
theorem gX1_joinHalves_57 {l1 l2 l3 l4 l5 l6 l7 l8 l9 l10 l11 l12 : Option Value} {u : Nat} {st : List Value} {H : HP} {Q : Option Value → HP → Prop} : Go 15 57 [some (.ref u), l1, l2, l3, l4, l5, l6, l7, l8, l9, l10, l11, l12] st H Q ↔ Go 15 58 [some (.ref u), l1, l2, l3, l4, l5, l6, l7, l8, l9, l10, l11, l12] (.ref u :: st) H Q := G_aload_n fX1_joinHalves_57 rfl
theorem fX1_joinHalves_58 : ft 15 58 = some (.getfield 18, 1, 0, 156, .null) := by decide +kernel
theorem gX1_joinHalves_58 {L : List (Option Value)} {p : Nat} {st : List Value} {H : HP} {Q : Option Value → HP → Prop} : Go 15 58 L (.ref p :: st) H Q ↔ Rd (gF' 1 0 (hget H p)) 15 61 L st H Q := G_getf fX1_joinHalves_58 ⟨rfl, rfl⟩
theorem fX1_joinHalves_61 : ft 15 61 = some (.lload 9, 0, 0, 0, .null) := by decide +kernel
theorem gX1_joinHalves_61 {l0 l1 l2 l3 l4 l5 l6 l7 l8 l11 l12 : Option Value} {u : Int64} {st : List Value} {H : HP} {Q : Option Value → HP → Prop} : Go 15 61 [l0, l1, l2, l3, l4, l5, l6, l7, l8, some (.long u), none, l11, l12] st H Q ↔ Go 15 63 [l0, l1, l2, l3, l4, l5, l6, l7, l8, some (.long u), none, l11, l12] (.long u :: st) H Q := G_lload fX1_joinHalves_61 rfl
theorem fX1_joinHalves_63 : ft 15 63 = some (.lload 11, 0, 0, 0, .null) := by decide +kernel
theorem gX1_joinHalves_63 {l0 l1 l2 l3 l4 l5 l6 l7 l8 l9 l10 : Option Value} {u : Int64} {st : List Value} {H : HP} {Q : Option Value → HP → Prop} : Go 15 63 [l0, l1, l2, l3, l4, l5, l6, l7, l8, l9, l10, some (.long u), none] st H Q ↔ Go 15 65 [l0, l1, l2, l3, l4, l5, l6, l7, l8, l9, l10, some (.long u), none] (.long u :: st) H Q := G_lload fX1_joinHalves_63 rfl
theorem fX1_joinHalves_65 : ft 15 65 = some (.invokevirtual 68, 32, 0, 506, .null) := by decide +kernel
theorem gX1_joinHalves_65 {L : List (Option Value)} {p : Nat} {a0 : Int64} {a1 : Int64} {r0 : Int32} {r1 : Nat} {H : HP} {Q : Option Value → HP → Prop} : Go 15 65 L (.long a1 :: .long a0 :: .ref p :: [.int r0, .ref r1]) H Q ↔ (iso 3 (hget H p) = true ∧ Go 32 0 [some (.ref p), some (.long a0), none, some (.long a1), none] [] H (Cont 15 68 L [.int r0, .ref r1] Q)) := G_cV (n := 2) (N := 5) (as := [.long a1, .long a0]) (st := [.int r0, .ref r1]) fX1_joinHalves_65 (by decide +kernel) rfl (Nat.le_of_ble_eq_true rfl) (Nat.le_of_ble_eq_true rfl) rfl
theorem fX1_joinHalves_68 : ft 15 68 = some (.lastore, 0, 0, 0, .null) := by decide +kernel
theorem gX1_joinHalves_68 {L : List (Option Value)} {p : Nat} {a : Int} {b : Int} (hp : p ≠ 0) {st : List Value} {H : HP} {Q : Option Value → HP → Prop} : Go 15 68 L (vl b :: vi a :: .ref p :: st) H Q ↔ Wr (sL' (hget H p) a b) p 15 69 L st H Q := G_last fX1_joinHalves_68 hp
theorem fX1_joinHalves_69 : ft 15 69 = some (.aload_n 0, 0, 0, 0, .null) := by decide +kernel
theorem gX1_joinHalves_69 {l1 l2 l3 l4 l5 l6 l7 l8 l9 l10 l11 l12 : Option Value} {u : Nat} {st : List Value} {H : HP} {Q : Option Value → HP → Prop} : Go 15 69 [some (.ref u), l1, l2, l3, l4, l5, l6, l7, l8, l9, l10, l11, l12] st H Q ↔ Go 15 70 [some (.ref u), l1, l2, l3, l4, l5, l6, l7, l8, l9, l10, l11, l12] (.ref u :: st) H Q := G_aload_n fX1_joinHalves_69 rfl
theorem fX1_joinHalves_70 : ft 15 70 = some (.getfield 18, 1, 0, 156, .null) := by decide +kernel
theorem gX1_joinHalves_70 {L : List (Option Value)} {p : Nat} {st : List Value} {H : HP} {Q : Option Value → HP → Prop} : Go 15 70 L (.ref p :: st) H Q ↔ Rd (gF' 1 0 (hget H p)) 15 73 L st H Q := G_getf fX1_joinHalves_70 ⟨rfl, rfl⟩
theorem fX1_joinHalves_73 : ft 15 73 = some (.lload 6, 0, 0, 0, .null) := by decide +kernel
theorem gX1_joinHalves_73 {l0 l1 l2 l3 l4 l5 l8 l9 l10 l11 l12 : Option Value} {u : Int64} {st : List Value} {H : HP} {Q : Option Value → HP → Prop} : Go 15 73 [l0, l1, l2, l3, l4, l5, some (.long u), none, l8, l9, l10, l11, l12] st H Q ↔ Go 15 75 [l0, l1, l2, l3, l4, l5, some (.long u), none, l8, l9, l10, l11, l12] (.long u :: st) H Q := G_lload fX1_joinHalves_73 rfl
theorem fX1_joinHalves_75 : ft 15 75 = some (.lload 4, 0, 0, 0, .null) := by decide +kernel
theorem gX1_joinHalves_75 {l0 l1 l2 l3 l6 l7 l8 l9 l10 l11 l12 : Option Value} {u : Int64} {st : List Value} {H : HP} {Q : Option Value → HP → Prop} : Go 15 75 [l0, l1, l2, l3, some (.long u), none, l6, l7, l8, l9, l10, l11, l12] st H Q ↔ Go 15 77 [l0, l1, l2, l3, some (.long u), none, l6, l7, l8, l9, l10, l11, l12] (.long u :: st) H Q := G_lload fX1_joinHalves_75 rfl
theorem fX1_joinHalves_77 : ft 15 77 = some (.invokevirtual 46, 30, 0, 504, .null) := by decide +kernel
theorem gX1_joinHalves_77 {L : List (Option Value)} {p : Nat} {a0 : Int64} {a1 : Int64}  {H : HP} {Q : Option Value → HP → Prop} : Go 15 77 L (.long a1 :: .long a0 :: .ref p :: []) H Q ↔ (iso 3 (hget H p) = true ∧ Go 30 0 [some (.ref p), some (.long a0), none, some (.long a1), none] [] H (Cont 15 80 L [] Q)) := G_cV (n := 2) (N := 5) (as := [.long a1, .long a0]) (st := []) fX1_joinHalves_77 (by decide +kernel) rfl (Nat.le_of_ble_eq_true rfl) (Nat.le_of_ble_eq_true rfl) rfl
theorem fX1_joinHalves_80 : ft 15 80 = some (.lstore 6, 0, 0, 0, .null) := by decide +kernel
theorem gX1_joinHalves_80 {l0 l1 l2 l3 l4 l5 l6 l7 l8 l9 l10 l11 l12 : Option Value} {u : Int64} {st : List Value} {H : HP} {Q : Option Value → HP → Prop} : Go 15 80 [l0, l1, l2, l3, l4, l5, l6, l7, l8, l9, l10, l11, l12] (.long u :: st) H Q ↔ Go 15 82 [l0, l1, l2, l3, l4, l5, some (.long u), none, l8, l9, l10, l11, l12] st H Q := G_lstore fX1_joinHalves_80 rfl
theorem fX1_joinHalves_82 : ft 15 82 = some (.iinc 8 1, 0, 0, 0, .null) := by decide +kernel
theorem gX1_joinHalves_82 {l0 l1 l2 l3 l4 l5 l6 l7 l9 l10 l11 l12 : Option Value} {a : Int} {st : List Value} {H : HP} {Q : Option Value → HP → Prop} : Go 15 82 [l0, l1, l2, l3, l4, l5, l6, l7, some (vi a), l9, l10, l11, l12] st H Q ↔ Go 15 85 [l0, l1, l2, l3, l4, l5, l6, l7, some (vi (a + 1)), l9, l10, l11, l12] st H Q := G_iinc fX1_joinHalves_82 rfl rfl
theorem fX1_joinHalves_85 : ft 15 85 = some (.goto (-79), 0, 0, 0, .null) := by decide +kernel
theorem gX1_joinHalves_85 {L : List (Option Value)} {st : List Value} {H : HP} {Q : Option Value → HP → Prop} : Go 15 85 L st H Q ↔ Go 15 6 L st H Q := G_goto fX1_joinHalves_85 (by decide)
theorem fX1_joinHalves_88 : ft 15 88 = some (.return_, 0, 0, 0, .null) := by decide +kernel
theorem gX1_joinHalves_88 {L : List (Option Value)} {H : HP} {Q : Option Value → HP → Prop} : Go 15 88 L [] H Q ↔ Q none H := G_vret fX1_joinHalves_88 (by decide +kernel)
theorem fX1_swapByBits_0 : ft 16 0 = some (.iconst 0, 0, 0, 0, .null) := by decide +kernel
theorem gX1_swapByBits_0 {L : List (Option Value)} {st : List Value} {H : HP} {Q : Option Value → HP → Prop} : Go 16 0 L st H Q ↔ Go 16 1 L (vi 0 :: st) H Q := G_iconst fX1_swapByBits_0
theorem fX1_swapByBits_1 : ft 16 1 = some (.istore_n 2, 0, 0, 0, .null) := by decide +kernel
theorem gX1_swapByBits_1 {l0 l1 l2 l3 l4 l5 : Option Value} {u : Int32} {st : List Value} {H : HP} {Q : Option Value → HP → Prop} : Go 16 1 [l0, l1, l2, l3, l4, l5] (.int u :: st) H Q ↔ Go 16 2 [l0, l1, some (.int u), l3, l4, l5] st H Q := G_istore_n fX1_swapByBits_1 rfl
theorem fX1_swapByBits_2 : ft 16 2 = some (.iconst 0, 0, 0, 0, .null) := by decide +kernel
theorem gX1_swapByBits_2 {L : List (Option Value)} {st : List Value} {H : HP} {Q : Option Value → HP → Prop} : Go 16 2 L st H Q ↔ Go 16 3 L (vi 0 :: st) H Q := G_iconst fX1_swapByBits_2
theorem fX1_swapByBits_3 : ft 16 3 = some (.istore_n 3, 0, 0, 0, .null) := by decide +kernel
theorem gX1_swapByBits_3 {l0 l1 l2 l3 l4 l5 : Option Value} {u : Int32} {st : List Value} {H : HP} {Q : Option Value → HP → Prop} : Go 16 3 [l0, l1, l2, l3, l4, l5] (.int u :: st) H Q ↔ Go 16 4 [l0, l1, l2, some (.int u), l4, l5] st H Q := G_istore_n fX1_swapByBits_3 rfl
theorem fX1_swapByBits_4 : ft 16 4 = some (.iload_n 3, 0, 0, 0, .null) := by decide +kernel
theorem gX1_swapByBits_4 {l0 l1 l2 l4 l5 : Option Value} {u : Int32} {st : List Value} {H : HP} {Q : Option Value → HP → Prop} : Go 16 4 [l0, l1, l2, some (.int u), l4, l5] st H Q ↔ Go 16 5 [l0, l1, l2, some (.int u), l4, l5] (.int u :: st) H Q := G_iload_n fX1_swapByBits_4 rfl
theorem fX1_swapByBits_5 : ft 16 5 = some (.iload_n 1, 0, 0, 0, .null) := by decide +kernel
theorem gX1_swapByBits_5 {l0 l2 l3 l4 l5 : Option Value} {u : Int32} {st : List Value} {H : HP} {Q : Option Value → HP → Prop} : Go 16 5 [l0, some (.int u), l2, l3, l4, l5] st H Q ↔ Go 16 6 [l0, some (.int u), l2, l3, l4, l5] (.int u :: st) H Q := G_iload_n fX1_swapByBits_5 rfl
theorem fX1_swapByBits_6 : ft 16 6 = some (.if_icmp .ge 66, 0, 0, 0, .null) := by decide +kernel
theorem gX1_swapByBits_6T {L : List (Option Value)} {a b : Int} (c : (-2147483648 ≤ a ∧ a ≤ 2147483647 ∧ -2147483648 ≤ b ∧ b ≤ 2147483647) ∧ b ≤ a) {st : List Value} {H : HP} {Q : Option Value → HP → Prop} : Go 16 6 L (vi b :: vi a :: st) H Q ↔ Go 16 72 L st H Q := G_icT fX1_swapByBits_6 (by decide) c
theorem gX1_swapByBits_6F {L : List (Option Value)} {a b : Int} (c : (-2147483648 ≤ a ∧ a ≤ 2147483647 ∧ -2147483648 ≤ b ∧ b ≤ 2147483647) ∧ ¬ (b ≤ a)) {st : List Value} {H : HP} {Q : Option Value → HP → Prop} : Go 16 6 L (vi b :: vi a :: st) H Q ↔ Go 16 9 L st H Q := G_icF (tg := 72) fX1_swapByBits_6 (by decide) c
theorem fX1_swapByBits_9 : ft 16 9 = some (.iload_n 3, 0, 0, 0, .null) := by decide +kernel
theorem gX1_swapByBits_9 {l0 l1 l2 l4 l5 : Option Value} {u : Int32} {st : List Value} {H : HP} {Q : Option Value → HP → Prop} : Go 16 9 [l0, l1, l2, some (.int u), l4, l5] st H Q ↔ Go 16 10 [l0, l1, l2, some (.int u), l4, l5] (.int u :: st) H Q := G_iload_n fX1_swapByBits_9 rfl
theorem fX1_swapByBits_10 : ft 16 10 = some (.iload_n 2, 0, 0, 0, .null) := by decide +kernel
theorem gX1_swapByBits_10 {l0 l1 l3 l4 l5 : Option Value} {u : Int32} {st : List Value} {H : HP} {Q : Option Value → HP → Prop} : Go 16 10 [l0, l1, some (.int u), l3, l4, l5] st H Q ↔ Go 16 11 [l0, l1, some (.int u), l3, l4, l5] (.int u :: st) H Q := G_iload_n fX1_swapByBits_10 rfl
theorem fX1_swapByBits_11 : ft 16 11 = some (.if_icmp .ge 19, 0, 0, 0, .null) := by decide +kernel
theorem gX1_swapByBits_11T {L : List (Option Value)} {a b : Int} (c : (-2147483648 ≤ a ∧ a ≤ 2147483647 ∧ -2147483648 ≤ b ∧ b ≤ 2147483647) ∧ b ≤ a) {st : List Value} {H : HP} {Q : Option Value → HP → Prop} : Go 16 11 L (vi b :: vi a :: st) H Q ↔ Go 16 30 L st H Q := G_icT fX1_swapByBits_11 (by decide) c
theorem gX1_swapByBits_11F {L : List (Option Value)} {a b : Int} (c : (-2147483648 ≤ a ∧ a ≤ 2147483647 ∧ -2147483648 ≤ b ∧ b ≤ 2147483647) ∧ ¬ (b ≤ a)) {st : List Value} {H : HP} {Q : Option Value → HP → Prop} : Go 16 11 L (vi b :: vi a :: st) H Q ↔ Go 16 14 L st H Q := G_icF (tg := 30) fX1_swapByBits_11 (by decide) c
theorem fX1_swapByBits_14 : ft 16 14 = some (.aload_n 0, 0, 0, 0, .null) := by decide +kernel
theorem gX1_swapByBits_14 {l1 l2 l3 l4 l5 : Option Value} {u : Nat} {st : List Value} {H : HP} {Q : Option Value → HP → Prop} : Go 16 14 [some (.ref u), l1, l2, l3, l4, l5] st H Q ↔ Go 16 15 [some (.ref u), l1, l2, l3, l4, l5] (.ref u :: st) H Q := G_aload_n fX1_swapByBits_14 rfl
theorem fX1_swapByBits_15 : ft 16 15 = some (.iload_n 3, 0, 0, 0, .null) := by decide +kernel
theorem gX1_swapByBits_15 {l0 l1 l2 l4 l5 : Option Value} {u : Int32} {st : List Value} {H : HP} {Q : Option Value → HP → Prop} : Go 16 15 [l0, l1, l2, some (.int u), l4, l5] st H Q ↔ Go 16 16 [l0, l1, l2, some (.int u), l4, l5] (.int u :: st) H Q := G_iload_n fX1_swapByBits_15 rfl
theorem fX1_swapByBits_16 : ft 16 16 = some (.laload, 0, 0, 0, .null) := by decide +kernel
theorem gX1_swapByBits_16 {L : List (Option Value)} {p : Nat} {a : Int} {st : List Value} {H : HP} {Q : Option Value → HP → Prop} : Go 16 16 L (vi a :: .ref p :: st) H Q ↔ Rd (aL' (hget H p) a) 16 17 L st H Q := G_lald fX1_swapByBits_16
theorem fX1_swapByBits_17 : ft 16 17 = some (.lstore 4, 0, 0, 0, .null) := by decide +kernel
theorem gX1_swapByBits_17 {l0 l1 l2 l3 l4 l5 : Option Value} {u : Int64} {st : List Value} {H : HP} {Q : Option Value → HP → Prop} : Go 16 17 [l0, l1, l2, l3, l4, l5] (.long u :: st) H Q ↔ Go 16 19 [l0, l1, l2, l3, some (.long u), none] st H Q := G_lstore fX1_swapByBits_17 rfl
theorem fX1_swapByBits_19 : ft 16 19 = some (.aload_n 0, 0, 0, 0, .null) := by decide +kernel
theorem gX1_swapByBits_19 {l1 l2 l3 l4 l5 : Option Value} {u : Nat} {st : List Value} {H : HP} {Q : Option Value → HP → Prop} : Go 16 19 [some (.ref u), l1, l2, l3, l4, l5] st H Q ↔ Go 16 20 [some (.ref u), l1, l2, l3, l4, l5] (.ref u :: st) H Q := G_aload_n fX1_swapByBits_19 rfl
theorem fX1_swapByBits_20 : ft 16 20 = some (.iload_n 3, 0, 0, 0, .null) := by decide +kernel
theorem gX1_swapByBits_20 {l0 l1 l2 l4 l5 : Option Value} {u : Int32} {st : List Value} {H : HP} {Q : Option Value → HP → Prop} : Go 16 20 [l0, l1, l2, some (.int u), l4, l5] st H Q ↔ Go 16 21 [l0, l1, l2, some (.int u), l4, l5] (.int u :: st) H Q := G_iload_n fX1_swapByBits_20 rfl
theorem fX1_swapByBits_21 : ft 16 21 = some (.aload_n 0, 0, 0, 0, .null) := by decide +kernel
theorem gX1_swapByBits_21 {l1 l2 l3 l4 l5 : Option Value} {u : Nat} {st : List Value} {H : HP} {Q : Option Value → HP → Prop} : Go 16 21 [some (.ref u), l1, l2, l3, l4, l5] st H Q ↔ Go 16 22 [some (.ref u), l1, l2, l3, l4, l5] (.ref u :: st) H Q := G_aload_n fX1_swapByBits_21 rfl
theorem fX1_swapByBits_22 : ft 16 22 = some (.iload_n 2, 0, 0, 0, .null) := by decide +kernel
theorem gX1_swapByBits_22 {l0 l1 l3 l4 l5 : Option Value} {u : Int32} {st : List Value} {H : HP} {Q : Option Value → HP → Prop} : Go 16 22 [l0, l1, some (.int u), l3, l4, l5] st H Q ↔ Go 16 23 [l0, l1, some (.int u), l3, l4, l5] (.int u :: st) H Q := G_iload_n fX1_swapByBits_22 rfl
theorem fX1_swapByBits_23 : ft 16 23 = some (.laload, 0, 0, 0, .null) := by decide +kernel
theorem gX1_swapByBits_23 {L : List (Option Value)} {p : Nat} {a : Int} {st : List Value} {H : HP} {Q : Option Value → HP → Prop} : Go 16 23 L (vi a :: .ref p :: st) H Q ↔ Rd (aL' (hget H p) a) 16 24 L st H Q := G_lald fX1_swapByBits_23
theorem fX1_swapByBits_24 : ft 16 24 = some (.lastore, 0, 0, 0, .null) := by decide +kernel
theorem gX1_swapByBits_24 {L : List (Option Value)} {p : Nat} {a : Int} {b : Int} (hp : p ≠ 0) {st : List Value} {H : HP} {Q : Option Value → HP → Prop} : Go 16 24 L (vl b :: vi a :: .ref p :: st) H Q ↔ Wr (sL' (hget H p) a b) p 16 25 L st H Q := G_last fX1_swapByBits_24 hp
theorem fX1_swapByBits_25 : ft 16 25 = some (.aload_n 0, 0, 0, 0, .null) := by decide +kernel
theorem gX1_swapByBits_25 {l1 l2 l3 l4 l5 : Option Value} {u : Nat} {st : List Value} {H : HP} {Q : Option Value → HP → Prop} : Go 16 25 [some (.ref u), l1, l2, l3, l4, l5] st H Q ↔ Go 16 26 [some (.ref u), l1, l2, l3, l4, l5] (.ref u :: st) H Q := G_aload_n fX1_swapByBits_25 rfl
theorem fX1_swapByBits_26 : ft 16 26 = some (.iload_n 2, 0, 0, 0, .null) := by decide +kernel
theorem gX1_swapByBits_26 {l0 l1 l3 l4 l5 : Option Value} {u : Int32} {st : List Value} {H : HP} {Q : Option Value → HP → Prop} : Go 16 26 [l0, l1, some (.int u), l3, l4, l5] st H Q ↔ Go 16 27 [l0, l1, some (.int u), l3, l4, l5] (.int u :: st) H Q := G_iload_n fX1_swapByBits_26 rfl
theorem fX1_swapByBits_27 : ft 16 27 = some (.lload 4, 0, 0, 0, .null) := by decide +kernel
theorem gX1_swapByBits_27 {l0 l1 l2 l3 : Option Value} {u : Int64} {st : List Value} {H : HP} {Q : Option Value → HP → Prop} : Go 16 27 [l0, l1, l2, l3, some (.long u), none] st H Q ↔ Go 16 29 [l0, l1, l2, l3, some (.long u), none] (.long u :: st) H Q := G_lload fX1_swapByBits_27 rfl
theorem fX1_swapByBits_29 : ft 16 29 = some (.lastore, 0, 0, 0, .null) := by decide +kernel
theorem gX1_swapByBits_29 {L : List (Option Value)} {p : Nat} {a : Int} {b : Int} (hp : p ≠ 0) {st : List Value} {H : HP} {Q : Option Value → HP → Prop} : Go 16 29 L (vl b :: vi a :: .ref p :: st) H Q ↔ Wr (sL' (hget H p) a b) p 16 30 L st H Q := G_last fX1_swapByBits_29 hp
theorem fX1_swapByBits_30 : ft 16 30 = some (.iload_n 1, 0, 0, 0, .null) := by decide +kernel
theorem gX1_swapByBits_30 {l0 l2 l3 l4 l5 : Option Value} {u : Int32} {st : List Value} {H : HP} {Q : Option Value → HP → Prop} : Go 16 30 [l0, some (.int u), l2, l3, l4, l5] st H Q ↔ Go 16 31 [l0, some (.int u), l2, l3, l4, l5] (.int u :: st) H Q := G_iload_n fX1_swapByBits_30 rfl
theorem fX1_swapByBits_31 : ft 16 31 = some (.iconst 1, 0, 0, 0, .null) := by decide +kernel
theorem gX1_swapByBits_31 {L : List (Option Value)} {st : List Value} {H : HP} {Q : Option Value → HP → Prop} : Go 16 31 L st H Q ↔ Go 16 32 L (vi 1 :: st) H Q := G_iconst fX1_swapByBits_31
theorem fX1_swapByBits_32 : ft 16 32 = some (.ishr, 0, 0, 0, .null) := by decide +kernel
theorem gX1_swapByBits_32 {L : List (Option Value)} {a b : Int} {st : List Value} {H : HP} {Q : Option Value → HP → Prop} : Go 16 32 L (vi b :: vi a :: st) H Q ↔ Go 16 33 L (vi (jShr a b) :: st) H Q := G_ishr fX1_swapByBits_32
theorem fX1_swapByBits_33 : ft 16 33 = some (.istore 4, 0, 0, 0, .null) := by decide +kernel
theorem gX1_swapByBits_33 {l0 l1 l2 l3 l4 l5 : Option Value} {u : Int32} {st : List Value} {H : HP} {Q : Option Value → HP → Prop} : Go 16 33 [l0, l1, l2, l3, l4, l5] (.int u :: st) H Q ↔ Go 16 35 [l0, l1, l2, l3, some (.int u), l5] st H Q := G_istore fX1_swapByBits_33 rfl
theorem fX1_swapByBits_35 : ft 16 35 = some (.iload 4, 0, 0, 0, .null) := by decide +kernel
theorem gX1_swapByBits_35 {l0 l1 l2 l3 l5 : Option Value} {u : Int32} {st : List Value} {H : HP} {Q : Option Value → HP → Prop} : Go 16 35 [l0, l1, l2, l3, some (.int u), l5] st H Q ↔ Go 16 37 [l0, l1, l2, l3, some (.int u), l5] (.int u :: st) H Q := G_iload fX1_swapByBits_35 rfl
theorem fX1_swapByBits_37 : ft 16 37 = some (.ifCond .le 24, 0, 0, 0, .null) := by decide +kernel
theorem gX1_swapByBits_37T {L : List (Option Value)} {a : Int} (c : (-2147483648 ≤ a ∧ a ≤ 2147483647) ∧ a ≤ 0) {st : List Value} {H : HP} {Q : Option Value → HP → Prop} : Go 16 37 L (vi a :: st) H Q ↔ Go 16 61 L st H Q := G_ifT fX1_swapByBits_37 (by decide) c
theorem gX1_swapByBits_37F {L : List (Option Value)} {a : Int} (c : (-2147483648 ≤ a ∧ a ≤ 2147483647) ∧ ¬ (a ≤ 0)) {st : List Value} {H : HP} {Q : Option Value → HP → Prop} : Go 16 37 L (vi a :: st) H Q ↔ Go 16 40 L st H Q := G_ifF (tg := 61) fX1_swapByBits_37 (by decide) c
theorem fX1_swapByBits_40 : ft 16 40 = some (.iload_n 2, 0, 0, 0, .null) := by decide +kernel
theorem gX1_swapByBits_40 {l0 l1 l3 l4 l5 : Option Value} {u : Int32} {st : List Value} {H : HP} {Q : Option Value → HP → Prop} : Go 16 40 [l0, l1, some (.int u), l3, l4, l5] st H Q ↔ Go 16 41 [l0, l1, some (.int u), l3, l4, l5] (.int u :: st) H Q := G_iload_n fX1_swapByBits_40 rfl
theorem fX1_swapByBits_41 : ft 16 41 = some (.iload 4, 0, 0, 0, .null) := by decide +kernel
theorem gX1_swapByBits_41 {l0 l1 l2 l3 l5 : Option Value} {u : Int32} {st : List Value} {H : HP} {Q : Option Value → HP → Prop} : Go 16 41 [l0, l1, l2, l3, some (.int u), l5] st H Q ↔ Go 16 43 [l0, l1, l2, l3, some (.int u), l5] (.int u :: st) H Q := G_iload fX1_swapByBits_41 rfl
theorem fX1_swapByBits_43 : ft 16 43 = some (.iand, 0, 0, 0, .null) := by decide +kernel
theorem gX1_swapByBits_43 {L : List (Option Value)} {a b : Int} {st : List Value} {H : HP} {Q : Option Value → HP → Prop} : Go 16 43 L (vi b :: vi a :: st) H Q ↔ Go 16 44 L (vi (jAnd a b) :: st) H Q := G_iand fX1_swapByBits_43
theorem fX1_swapByBits_44 : ft 16 44 = some (.ifCond .eq 17, 0, 0, 0, .null) := by decide +kernel
theorem gX1_swapByBits_44T {L : List (Option Value)} {a : Int} (c : (-2147483648 ≤ a ∧ a ≤ 2147483647) ∧ a = 0) {st : List Value} {H : HP} {Q : Option Value → HP → Prop} : Go 16 44 L (vi a :: st) H Q ↔ Go 16 61 L st H Q := G_ifT fX1_swapByBits_44 (by decide) c
theorem gX1_swapByBits_44F {L : List (Option Value)} {a : Int} (c : (-2147483648 ≤ a ∧ a ≤ 2147483647) ∧ ¬ (a = 0)) {st : List Value} {H : HP} {Q : Option Value → HP → Prop} : Go 16 44 L (vi a :: st) H Q ↔ Go 16 47 L st H Q := G_ifF (tg := 61) fX1_swapByBits_44 (by decide) c
theorem fX1_swapByBits_47 : ft 16 47 = some (.iload_n 2, 0, 0, 0, .null) := by decide +kernel
theorem gX1_swapByBits_47 {l0 l1 l3 l4 l5 : Option Value} {u : Int32} {st : List Value} {H : HP} {Q : Option Value → HP → Prop} : Go 16 47 [l0, l1, some (.int u), l3, l4, l5] st H Q ↔ Go 16 48 [l0, l1, some (.int u), l3, l4, l5] (.int u :: st) H Q := G_iload_n fX1_swapByBits_47 rfl
theorem fX1_swapByBits_48 : ft 16 48 = some (.iload 4, 0, 0, 0, .null) := by decide +kernel
theorem gX1_swapByBits_48 {l0 l1 l2 l3 l5 : Option Value} {u : Int32} {st : List Value} {H : HP} {Q : Option Value → HP → Prop} : Go 16 48 [l0, l1, l2, l3, some (.int u), l5] st H Q ↔ Go 16 50 [l0, l1, l2, l3, some (.int u), l5] (.int u :: st) H Q := G_iload fX1_swapByBits_48 rfl
theorem fX1_swapByBits_50 : ft 16 50 = some (.isub, 0, 0, 0, .null) := by decide +kernel
theorem gX1_swapByBits_50 {L : List (Option Value)} {a b : Int} {st : List Value} {H : HP} {Q : Option Value → HP → Prop} : Go 16 50 L (vi b :: vi a :: st) H Q ↔ Go 16 51 L (vi (a - b) :: st) H Q := G_isub fX1_swapByBits_50
theorem fX1_swapByBits_51 : ft 16 51 = some (.istore_n 2, 0, 0, 0, .null) := by decide +kernel
theorem gX1_swapByBits_51 {l0 l1 l2 l3 l4 l5 : Option Value} {u : Int32} {st : List Value} {H : HP} {Q : Option Value → HP → Prop} : Go 16 51 [l0, l1, l2, l3, l4, l5] (.int u :: st) H Q ↔ Go 16 52 [l0, l1, some (.int u), l3, l4, l5] st H Q := G_istore_n fX1_swapByBits_51 rfl
theorem fX1_swapByBits_52 : ft 16 52 = some (.iload 4, 0, 0, 0, .null) := by decide +kernel
theorem gX1_swapByBits_52 {l0 l1 l2 l3 l5 : Option Value} {u : Int32} {st : List Value} {H : HP} {Q : Option Value → HP → Prop} : Go 16 52 [l0, l1, l2, l3, some (.int u), l5] st H Q ↔ Go 16 54 [l0, l1, l2, l3, some (.int u), l5] (.int u :: st) H Q := G_iload fX1_swapByBits_52 rfl
theorem fX1_swapByBits_54 : ft 16 54 = some (.iconst 1, 0, 0, 0, .null) := by decide +kernel
theorem gX1_swapByBits_54 {L : List (Option Value)} {st : List Value} {H : HP} {Q : Option Value → HP → Prop} : Go 16 54 L st H Q ↔ Go 16 55 L (vi 1 :: st) H Q := G_iconst fX1_swapByBits_54
theorem fX1_swapByBits_55 : ft 16 55 = some (.ishr, 0, 0, 0, .null) := by decide +kernel
theorem gX1_swapByBits_55 {L : List (Option Value)} {a b : Int} {st : List Value} {H : HP} {Q : Option Value → HP → Prop} : Go 16 55 L (vi b :: vi a :: st) H Q ↔ Go 16 56 L (vi (jShr a b) :: st) H Q := G_ishr fX1_swapByBits_55
theorem fX1_swapByBits_56 : ft 16 56 = some (.istore 4, 0, 0, 0, .null) := by decide +kernel
theorem gX1_swapByBits_56 {l0 l1 l2 l3 l4 l5 : Option Value} {u : Int32} {st : List Value} {H : HP} {Q : Option Value → HP → Prop} : Go 16 56 [l0, l1, l2, l3, l4, l5] (.int u :: st) H Q ↔ Go 16 58 [l0, l1, l2, l3, some (.int u), l5] st H Q := G_istore fX1_swapByBits_56 rfl
theorem fX1_swapByBits_58 : ft 16 58 = some (.goto (-23), 0, 0, 0, .null) := by decide +kernel
theorem gX1_swapByBits_58 {L : List (Option Value)} {st : List Value} {H : HP} {Q : Option Value → HP → Prop} : Go 16 58 L st H Q ↔ Go 16 35 L st H Q := G_goto fX1_swapByBits_58 (by decide)
theorem fX1_swapByBits_61 : ft 16 61 = some (.iload_n 2, 0, 0, 0, .null) := by decide +kernel
theorem gX1_swapByBits_61 {l0 l1 l3 l4 l5 : Option Value} {u : Int32} {st : List Value} {H : HP} {Q : Option Value → HP → Prop} : Go 16 61 [l0, l1, some (.int u), l3, l4, l5] st H Q ↔ Go 16 62 [l0, l1, some (.int u), l3, l4, l5] (.int u :: st) H Q := G_iload_n fX1_swapByBits_61 rfl
theorem fX1_swapByBits_62 : ft 16 62 = some (.iload 4, 0, 0, 0, .null) := by decide +kernel
theorem gX1_swapByBits_62 {l0 l1 l2 l3 l5 : Option Value} {u : Int32} {st : List Value} {H : HP} {Q : Option Value → HP → Prop} : Go 16 62 [l0, l1, l2, l3, some (.int u), l5] st H Q ↔ Go 16 64 [l0, l1, l2, l3, some (.int u), l5] (.int u :: st) H Q := G_iload fX1_swapByBits_62 rfl
theorem fX1_swapByBits_64 : ft 16 64 = some (.iadd, 0, 0, 0, .null) := by decide +kernel
theorem gX1_swapByBits_64 {L : List (Option Value)} {a b : Int} {st : List Value} {H : HP} {Q : Option Value → HP → Prop} : Go 16 64 L (vi b :: vi a :: st) H Q ↔ Go 16 65 L (vi (a + b) :: st) H Q := G_iadd fX1_swapByBits_64
theorem fX1_swapByBits_65 : ft 16 65 = some (.istore_n 2, 0, 0, 0, .null) := by decide +kernel
theorem gX1_swapByBits_65 {l0 l1 l2 l3 l4 l5 : Option Value} {u : Int32} {st : List Value} {H : HP} {Q : Option Value → HP → Prop} : Go 16 65 [l0, l1, l2, l3, l4, l5] (.int u :: st) H Q ↔ Go 16 66 [l0, l1, some (.int u), l3, l4, l5] st H Q := G_istore_n fX1_swapByBits_65 rfl
theorem fX1_swapByBits_66 : ft 16 66 = some (.iinc 3 1, 0, 0, 0, .null) := by decide +kernel
theorem gX1_swapByBits_66 {l0 l1 l2 l4 l5 : Option Value} {a : Int} {st : List Value} {H : HP} {Q : Option Value → HP → Prop} : Go 16 66 [l0, l1, l2, some (vi a), l4, l5] st H Q ↔ Go 16 69 [l0, l1, l2, some (vi (a + 1)), l4, l5] st H Q := G_iinc fX1_swapByBits_66 rfl rfl
theorem fX1_swapByBits_69 : ft 16 69 = some (.goto (-65), 0, 0, 0, .null) := by decide +kernel
theorem gX1_swapByBits_69 {L : List (Option Value)} {st : List Value} {H : HP} {Q : Option Value → HP → Prop} : Go 16 69 L st H Q ↔ Go 16 4 L st H Q := G_goto fX1_swapByBits_69 (by decide)
theorem fX1_swapByBits_72 : ft 16 72 = some (.return_, 0, 0, 0, .null) := by decide +kernel
theorem gX1_swapByBits_72 {L : List (Option Value)} {H : HP} {Q : Option Value → HP → Prop} : Go 16 72 L [] H Q ↔ Q none H := G_vret fX1_swapByBits_72 (by decide +kernel)

theorem fX3_init_0 : ft 28 0 = some (.aload_n 0, 0, 0, 0, .null) := by decide +kernel
theorem gX3_init_0 {l1 l2 : Option Value} {u : Nat} {st : List Value} {H : HP} {Q : Option Value → HP → Prop} : Go 28 0 [some (.ref u), l1, l2] st H Q ↔ Go 28 1 [some (.ref u), l1, l2] (.ref u :: st) H Q := G_aload_n fX3_init_0 rfl
theorem fX3_init_1 : ft 28 1 = some (.invokespecial 1, 1000, 0, 122, .null) := by decide +kernel
theorem gX3_init_1 {L : List (Option Value)} {p : Nat}  {H : HP} {Q : Option Value → HP → Prop} : Go 28 1 L (.ref p :: []) H Q ↔ Go 28 4 L [] H Q := G_obj fX3_init_1 rfl ⟨by decide +kernel, Nat.le_trans (m := 20) (Nat.le_of_ble_eq_true rfl) (by decide +kernel)⟩
theorem fX3_init_4 : ft 28 4 = some (.aload_n 0, 0, 0, 0, .null) := by decide +kernel
theorem gX3_init_4 {l1 l2 : Option Value} {u : Nat} {st : List Value} {H : HP} {Q : Option Value → HP → Prop} : Go 28 4 [some (.ref u), l1, l2] st H Q ↔ Go 28 5 [some (.ref u), l1, l2] (.ref u :: st) H Q := G_aload_n fX3_init_4 rfl
theorem fX3_init_5 : ft 28 5 = some (.lload_n 1, 0, 0, 0, .null) := by decide +kernel
theorem gX3_init_5 {l0 : Option Value} {u : Int64} {st : List Value} {H : HP} {Q : Option Value → HP → Prop} : Go 28 5 [l0, some (.long u), none] st H Q ↔ Go 28 6 [l0, some (.long u), none] (.long u :: st) H Q := G_lload_n fX3_init_5 rfl
theorem fX3_init_6 : ft 28 6 = some (.putfield 7, 3, 0, 123, .null) := by decide +kernel
theorem gX3_init_6 {L : List (Option Value)} {p : Nat} {u : Int64} (hp : p ≠ 0) {st : List Value} {H : HP} {Q : Option Value → HP → Prop} : Go 28 6 L (.long u :: .ref p :: st) H Q ↔ Wr (pF' 3 0 (hget H p) (.long u)) p 28 9 L st H Q := G_putf fX3_init_6 ⟨⟨rfl, rfl⟩, rfl, Or.inr (by decide +kernel)⟩ hp
theorem fX3_init_9 : ft 28 9 = some (.return_, 0, 0, 0, .null) := by decide +kernel
theorem gX3_init_9 {L : List (Option Value)} {H : HP} {Q : Option Value → HP → Prop} : Go 28 9 L [] H Q ↔ Q none H := G_vret fX3_init_9 (by decide +kernel)
theorem fX3_reduced_0 : ft 29 0 = some (.lload_n 1, 0, 0, 0, .null) := by decide +kernel
theorem gX3_reduced_0 {l0 : Option Value} {u : Int64} {st : List Value} {H : HP} {Q : Option Value → HP → Prop} : Go 29 0 [l0, some (.long u), none] st H Q ↔ Go 29 1 [l0, some (.long u), none] (.long u :: st) H Q := G_lload_n fX3_reduced_0 rfl
theorem fX3_reduced_1 : ft 29 1 = some (.aload_n 0, 0, 0, 0, .null) := by decide +kernel
theorem gX3_reduced_1 {l1 l2 : Option Value} {u : Nat} {st : List Value} {H : HP} {Q : Option Value → HP → Prop} : Go 29 1 [some (.ref u), l1, l2] st H Q ↔ Go 29 2 [some (.ref u), l1, l2] (.ref u :: st) H Q := G_aload_n fX3_reduced_1 rfl
theorem fX3_reduced_2 : ft 29 2 = some (.getfield 7, 3, 0, 123, .null) := by decide +kernel
theorem gX3_reduced_2 {L : List (Option Value)} {p : Nat} {st : List Value} {H : HP} {Q : Option Value → HP → Prop} : Go 29 2 L (.ref p :: st) H Q ↔ Rd (gF' 3 0 (hget H p)) 29 5 L st H Q := G_getf fX3_reduced_2 ⟨rfl, rfl⟩
theorem fX3_reduced_5 : ft 29 5 = some (.invokestatic 13, 184, 0, 173, .null) := by decide +kernel
theorem gX3_reduced_5 {L : List (Option Value)} {a0 : Int64} {a1 : Int64}  {H : HP} {Q : Option Value → HP → Prop} : Go 29 5 L (.long a1 :: .long a0 :: []) H Q ↔ Go 184 0 [some (.long a0), none, some (.long a1), none, none, none] [] H (Cont 29 8 L [] Q) := G_cS (n := 2) (N := 6) (as := [.long a1, .long a0]) (st := []) fX3_reduced_5 (by decide +kernel) rfl (Nat.le_of_ble_eq_true rfl) (Nat.le_of_ble_eq_true rfl) rfl
theorem fX3_reduced_8 : ft 29 8 = some (.lreturn, 0, 0, 0, .null) := by decide +kernel
theorem gX3_reduced_8 {L : List (Option Value)} {u : Int64} {H : HP} {Q : Option Value → HP → Prop} : Go 29 8 L [.long u] H Q ↔ Q (some (.long u)) H := G_lret fX3_reduced_8 (by decide +kernel)
theorem fX3_product_0 : ft 30 0 = some (.lload_n 1, 0, 0, 0, .null) := by decide +kernel
theorem gX3_product_0 {l0 l3 l4 : Option Value} {u : Int64} {st : List Value} {H : HP} {Q : Option Value → HP → Prop} : Go 30 0 [l0, some (.long u), none, l3, l4] st H Q ↔ Go 30 1 [l0, some (.long u), none, l3, l4] (.long u :: st) H Q := G_lload_n fX3_product_0 rfl
theorem fX3_product_1 : ft 30 1 = some (.lload_n 3, 0, 0, 0, .null) := by decide +kernel
theorem gX3_product_1 {l0 l1 l2 : Option Value} {u : Int64} {st : List Value} {H : HP} {Q : Option Value → HP → Prop} : Go 30 1 [l0, l1, l2, some (.long u), none] st H Q ↔ Go 30 2 [l0, l1, l2, some (.long u), none] (.long u :: st) H Q := G_lload_n fX3_product_1 rfl
theorem fX3_product_2 : ft 30 2 = some (.lmul, 0, 0, 0, .null) := by decide +kernel
theorem gX3_product_2 {L : List (Option Value)} {a b : Int} {st : List Value} {H : HP} {Q : Option Value → HP → Prop} : Go 30 2 L (vl b :: vl a :: st) H Q ↔ Go 30 3 L (vl (a * b) :: st) H Q := G_lmul fX3_product_2
theorem fX3_product_3 : ft 30 3 = some (.aload_n 0, 0, 0, 0, .null) := by decide +kernel
theorem gX3_product_3 {l1 l2 l3 l4 : Option Value} {u : Nat} {st : List Value} {H : HP} {Q : Option Value → HP → Prop} : Go 30 3 [some (.ref u), l1, l2, l3, l4] st H Q ↔ Go 30 4 [some (.ref u), l1, l2, l3, l4] (.ref u :: st) H Q := G_aload_n fX3_product_3 rfl
theorem fX3_product_4 : ft 30 4 = some (.getfield 7, 3, 0, 123, .null) := by decide +kernel
theorem gX3_product_4 {L : List (Option Value)} {p : Nat} {st : List Value} {H : HP} {Q : Option Value → HP → Prop} : Go 30 4 L (.ref p :: st) H Q ↔ Rd (gF' 3 0 (hget H p)) 30 7 L st H Q := G_getf fX3_product_4 ⟨rfl, rfl⟩
theorem fX3_product_7 : ft 30 7 = some (.lrem, 0, 0, 0, .null) := by decide +kernel
theorem gX3_product_7 {L : List (Option Value)} {a b : Int} (c : -9223372036854775808 ≤ a ∧ a ≤ 9223372036854775807 ∧ -9223372036854775808 ≤ b ∧ b ≤ 9223372036854775807 ∧ ¬ b = 0) {st : List Value} {H : HP} {Q : Option Value → HP → Prop} : Go 30 7 L (vl b :: vl a :: st) H Q ↔ Go 30 8 L (vl (a.tmod b) :: st) H Q := G_lrem fX3_product_7 c
theorem fX3_product_8 : ft 30 8 = some (.lreturn, 0, 0, 0, .null) := by decide +kernel
theorem gX3_product_8 {L : List (Option Value)} {u : Int64} {H : HP} {Q : Option Value → HP → Prop} : Go 30 8 L [.long u] H Q ↔ Q (some (.long u)) H := G_lret fX3_product_8 (by decide +kernel)
theorem fX3_sum_0 : ft 31 0 = some (.lload_n 1, 0, 0, 0, .null) := by decide +kernel
theorem gX3_sum_0 {l0 l3 l4 l5 l6 : Option Value} {u : Int64} {st : List Value} {H : HP} {Q : Option Value → HP → Prop} : Go 31 0 [l0, some (.long u), none, l3, l4, l5, l6] st H Q ↔ Go 31 1 [l0, some (.long u), none, l3, l4, l5, l6] (.long u :: st) H Q := G_lload_n fX3_sum_0 rfl
theorem fX3_sum_1 : ft 31 1 = some (.lload_n 3, 0, 0, 0, .null) := by decide +kernel
theorem gX3_sum_1 {l0 l1 l2 l5 l6 : Option Value} {u : Int64} {st : List Value} {H : HP} {Q : Option Value → HP → Prop} : Go 31 1 [l0, l1, l2, some (.long u), none, l5, l6] st H Q ↔ Go 31 2 [l0, l1, l2, some (.long u), none, l5, l6] (.long u :: st) H Q := G_lload_n fX3_sum_1 rfl
theorem fX3_sum_2 : ft 31 2 = some (.ladd, 0, 0, 0, .null) := by decide +kernel
theorem gX3_sum_2 {L : List (Option Value)} {a b : Int} {st : List Value} {H : HP} {Q : Option Value → HP → Prop} : Go 31 2 L (vl b :: vl a :: st) H Q ↔ Go 31 3 L (vl (a + b) :: st) H Q := G_ladd fX3_sum_2
theorem fX3_sum_3 : ft 31 3 = some (.lstore 5, 0, 0, 0, .null) := by decide +kernel
theorem gX3_sum_3 {l0 l1 l2 l3 l4 l5 l6 : Option Value} {u : Int64} {st : List Value} {H : HP} {Q : Option Value → HP → Prop} : Go 31 3 [l0, l1, l2, l3, l4, l5, l6] (.long u :: st) H Q ↔ Go 31 5 [l0, l1, l2, l3, l4, some (.long u), none] st H Q := G_lstore fX3_sum_3 rfl
theorem fX3_sum_5 : ft 31 5 = some (.lload 5, 0, 0, 0, .null) := by decide +kernel
theorem gX3_sum_5 {l0 l1 l2 l3 l4 : Option Value} {u : Int64} {st : List Value} {H : HP} {Q : Option Value → HP → Prop} : Go 31 5 [l0, l1, l2, l3, l4, some (.long u), none] st H Q ↔ Go 31 7 [l0, l1, l2, l3, l4, some (.long u), none] (.long u :: st) H Q := G_lload fX3_sum_5 rfl
theorem fX3_sum_7 : ft 31 7 = some (.aload_n 0, 0, 0, 0, .null) := by decide +kernel
theorem gX3_sum_7 {l1 l2 l3 l4 l5 l6 : Option Value} {u : Nat} {st : List Value} {H : HP} {Q : Option Value → HP → Prop} : Go 31 7 [some (.ref u), l1, l2, l3, l4, l5, l6] st H Q ↔ Go 31 8 [some (.ref u), l1, l2, l3, l4, l5, l6] (.ref u :: st) H Q := G_aload_n fX3_sum_7 rfl
theorem fX3_sum_8 : ft 31 8 = some (.getfield 7, 3, 0, 123, .null) := by decide +kernel
theorem gX3_sum_8 {L : List (Option Value)} {p : Nat} {st : List Value} {H : HP} {Q : Option Value → HP → Prop} : Go 31 8 L (.ref p :: st) H Q ↔ Rd (gF' 3 0 (hget H p)) 31 11 L st H Q := G_getf fX3_sum_8 ⟨rfl, rfl⟩
theorem fX3_sum_11 : ft 31 11 = some (.lcmp, 0, 0, 0, .null) := by decide +kernel
theorem fX3_sum_11' : ft 31 12 = some (.ifCond .lt 13, 0, 0, 0, .null) := by decide +kernel
theorem gX3_sum_11T {L : List (Option Value)} {a b : Int} (c : (-9223372036854775808 ≤ a ∧ a ≤ 9223372036854775807 ∧ -9223372036854775808 ≤ b ∧ b ≤ 9223372036854775807) ∧ a < b) {st : List Value} {H : HP} {Q : Option Value → HP → Prop} : Go 31 11 L (vl b :: vl a :: st) H Q ↔ Go 31 25 L st H Q := G_lcT fX3_sum_11 fX3_sum_11' (by decide) c
theorem gX3_sum_11F {L : List (Option Value)} {a b : Int} (c : (-9223372036854775808 ≤ a ∧ a ≤ 9223372036854775807 ∧ -9223372036854775808 ≤ b ∧ b ≤ 9223372036854775807) ∧ ¬ (a < b)) {st : List Value} {H : HP} {Q : Option Value → HP → Prop} : Go 31 11 L (vl b :: vl a :: st) H Q ↔ Go 31 15 L st H Q := G_lcF (tg := 25) fX3_sum_11 fX3_sum_11' (by decide) c
theorem fX3_sum_12 : ft 31 12 = some (.ifCond .lt 13, 0, 0, 0, .null) := by decide +kernel
theorem gX3_sum_12T {L : List (Option Value)} {a : Int} (c : (-2147483648 ≤ a ∧ a ≤ 2147483647) ∧ a < 0) {st : List Value} {H : HP} {Q : Option Value → HP → Prop} : Go 31 12 L (vi a :: st) H Q ↔ Go 31 25 L st H Q := G_ifT fX3_sum_12 (by decide) c
theorem gX3_sum_12F {L : List (Option Value)} {a : Int} (c : (-2147483648 ≤ a ∧ a ≤ 2147483647) ∧ ¬ (a < 0)) {st : List Value} {H : HP} {Q : Option Value → HP → Prop} : Go 31 12 L (vi a :: st) H Q ↔ Go 31 15 L st H Q := G_ifF (tg := 25) fX3_sum_12 (by decide) c
theorem fX3_sum_15 : ft 31 15 = some (.lload 5, 0, 0, 0, .null) := by decide +kernel
theorem gX3_sum_15 {l0 l1 l2 l3 l4 : Option Value} {u : Int64} {st : List Value} {H : HP} {Q : Option Value → HP → Prop} : Go 31 15 [l0, l1, l2, l3, l4, some (.long u), none] st H Q ↔ Go 31 17 [l0, l1, l2, l3, l4, some (.long u), none] (.long u :: st) H Q := G_lload fX3_sum_15 rfl
theorem fX3_sum_17 : ft 31 17 = some (.aload_n 0, 0, 0, 0, .null) := by decide +kernel
theorem gX3_sum_17 {l1 l2 l3 l4 l5 l6 : Option Value} {u : Nat} {st : List Value} {H : HP} {Q : Option Value → HP → Prop} : Go 31 17 [some (.ref u), l1, l2, l3, l4, l5, l6] st H Q ↔ Go 31 18 [some (.ref u), l1, l2, l3, l4, l5, l6] (.ref u :: st) H Q := G_aload_n fX3_sum_17 rfl
theorem fX3_sum_18 : ft 31 18 = some (.getfield 7, 3, 0, 123, .null) := by decide +kernel
theorem gX3_sum_18 {L : List (Option Value)} {p : Nat} {st : List Value} {H : HP} {Q : Option Value → HP → Prop} : Go 31 18 L (.ref p :: st) H Q ↔ Rd (gF' 3 0 (hget H p)) 31 21 L st H Q := G_getf fX3_sum_18 ⟨rfl, rfl⟩
theorem fX3_sum_21 : ft 31 21 = some (.lsub, 0, 0, 0, .null) := by decide +kernel
theorem gX3_sum_21 {L : List (Option Value)} {a b : Int} {st : List Value} {H : HP} {Q : Option Value → HP → Prop} : Go 31 21 L (vl b :: vl a :: st) H Q ↔ Go 31 22 L (vl (a - b) :: st) H Q := G_lsub fX3_sum_21
theorem fX3_sum_22 : ft 31 22 = some (.goto 5, 0, 0, 0, .null) := by decide +kernel
theorem gX3_sum_22 {L : List (Option Value)} {st : List Value} {H : HP} {Q : Option Value → HP → Prop} : Go 31 22 L st H Q ↔ Go 31 27 L st H Q := G_goto fX3_sum_22 (by decide)
theorem fX3_sum_25 : ft 31 25 = some (.lload 5, 0, 0, 0, .null) := by decide +kernel
theorem gX3_sum_25 {l0 l1 l2 l3 l4 : Option Value} {u : Int64} {st : List Value} {H : HP} {Q : Option Value → HP → Prop} : Go 31 25 [l0, l1, l2, l3, l4, some (.long u), none] st H Q ↔ Go 31 27 [l0, l1, l2, l3, l4, some (.long u), none] (.long u :: st) H Q := G_lload fX3_sum_25 rfl
theorem fX3_sum_27 : ft 31 27 = some (.lreturn, 0, 0, 0, .null) := by decide +kernel
theorem gX3_sum_27 {L : List (Option Value)} {u : Int64} {H : HP} {Q : Option Value → HP → Prop} : Go 31 27 L [.long u] H Q ↔ Q (some (.long u)) H := G_lret fX3_sum_27 (by decide +kernel)
theorem fX3_difference_0 : ft 32 0 = some (.lload_n 1, 0, 0, 0, .null) := by decide +kernel
theorem gX3_difference_0 {l0 l3 l4 : Option Value} {u : Int64} {st : List Value} {H : HP} {Q : Option Value → HP → Prop} : Go 32 0 [l0, some (.long u), none, l3, l4] st H Q ↔ Go 32 1 [l0, some (.long u), none, l3, l4] (.long u :: st) H Q := G_lload_n fX3_difference_0 rfl
theorem fX3_difference_1 : ft 32 1 = some (.lload_n 3, 0, 0, 0, .null) := by decide +kernel
theorem gX3_difference_1 {l0 l1 l2 : Option Value} {u : Int64} {st : List Value} {H : HP} {Q : Option Value → HP → Prop} : Go 32 1 [l0, l1, l2, some (.long u), none] st H Q ↔ Go 32 2 [l0, l1, l2, some (.long u), none] (.long u :: st) H Q := G_lload_n fX3_difference_1 rfl
theorem fX3_difference_2 : ft 32 2 = some (.lcmp, 0, 0, 0, .null) := by decide +kernel
theorem fX3_difference_2' : ft 32 3 = some (.ifCond .lt 9, 0, 0, 0, .null) := by decide +kernel
theorem gX3_difference_2T {L : List (Option Value)} {a b : Int} (c : (-9223372036854775808 ≤ a ∧ a ≤ 9223372036854775807 ∧ -9223372036854775808 ≤ b ∧ b ≤ 9223372036854775807) ∧ a < b) {st : List Value} {H : HP} {Q : Option Value → HP → Prop} : Go 32 2 L (vl b :: vl a :: st) H Q ↔ Go 32 12 L st H Q := G_lcT fX3_difference_2 fX3_difference_2' (by decide) c
theorem gX3_difference_2F {L : List (Option Value)} {a b : Int} (c : (-9223372036854775808 ≤ a ∧ a ≤ 9223372036854775807 ∧ -9223372036854775808 ≤ b ∧ b ≤ 9223372036854775807) ∧ ¬ (a < b)) {st : List Value} {H : HP} {Q : Option Value → HP → Prop} : Go 32 2 L (vl b :: vl a :: st) H Q ↔ Go 32 6 L st H Q := G_lcF (tg := 12) fX3_difference_2 fX3_difference_2' (by decide) c
theorem fX3_difference_3 : ft 32 3 = some (.ifCond .lt 9, 0, 0, 0, .null) := by decide +kernel
theorem gX3_difference_3T {L : List (Option Value)} {a : Int} (c : (-2147483648 ≤ a ∧ a ≤ 2147483647) ∧ a < 0) {st : List Value} {H : HP} {Q : Option Value → HP → Prop} : Go 32 3 L (vi a :: st) H Q ↔ Go 32 12 L st H Q := G_ifT fX3_difference_3 (by decide) c
theorem gX3_difference_3F {L : List (Option Value)} {a : Int} (c : (-2147483648 ≤ a ∧ a ≤ 2147483647) ∧ ¬ (a < 0)) {st : List Value} {H : HP} {Q : Option Value → HP → Prop} : Go 32 3 L (vi a :: st) H Q ↔ Go 32 6 L st H Q := G_ifF (tg := 12) fX3_difference_3 (by decide) c
theorem fX3_difference_6 : ft 32 6 = some (.lload_n 1, 0, 0, 0, .null) := by decide +kernel
theorem gX3_difference_6 {l0 l3 l4 : Option Value} {u : Int64} {st : List Value} {H : HP} {Q : Option Value → HP → Prop} : Go 32 6 [l0, some (.long u), none, l3, l4] st H Q ↔ Go 32 7 [l0, some (.long u), none, l3, l4] (.long u :: st) H Q := G_lload_n fX3_difference_6 rfl
theorem fX3_difference_7 : ft 32 7 = some (.lload_n 3, 0, 0, 0, .null) := by decide +kernel
theorem gX3_difference_7 {l0 l1 l2 : Option Value} {u : Int64} {st : List Value} {H : HP} {Q : Option Value → HP → Prop} : Go 32 7 [l0, l1, l2, some (.long u), none] st H Q ↔ Go 32 8 [l0, l1, l2, some (.long u), none] (.long u :: st) H Q := G_lload_n fX3_difference_7 rfl
theorem fX3_difference_8 : ft 32 8 = some (.lsub, 0, 0, 0, .null) := by decide +kernel
theorem gX3_difference_8 {L : List (Option Value)} {a b : Int} {st : List Value} {H : HP} {Q : Option Value → HP → Prop} : Go 32 8 L (vl b :: vl a :: st) H Q ↔ Go 32 9 L (vl (a - b) :: st) H Q := G_lsub fX3_difference_8
theorem fX3_difference_9 : ft 32 9 = some (.goto 11, 0, 0, 0, .null) := by decide +kernel
theorem gX3_difference_9 {L : List (Option Value)} {st : List Value} {H : HP} {Q : Option Value → HP → Prop} : Go 32 9 L st H Q ↔ Go 32 20 L st H Q := G_goto fX3_difference_9 (by decide)
theorem fX3_difference_12 : ft 32 12 = some (.lload_n 1, 0, 0, 0, .null) := by decide +kernel
theorem gX3_difference_12 {l0 l3 l4 : Option Value} {u : Int64} {st : List Value} {H : HP} {Q : Option Value → HP → Prop} : Go 32 12 [l0, some (.long u), none, l3, l4] st H Q ↔ Go 32 13 [l0, some (.long u), none, l3, l4] (.long u :: st) H Q := G_lload_n fX3_difference_12 rfl
theorem fX3_difference_13 : ft 32 13 = some (.lload_n 3, 0, 0, 0, .null) := by decide +kernel
theorem gX3_difference_13 {l0 l1 l2 : Option Value} {u : Int64} {st : List Value} {H : HP} {Q : Option Value → HP → Prop} : Go 32 13 [l0, l1, l2, some (.long u), none] st H Q ↔ Go 32 14 [l0, l1, l2, some (.long u), none] (.long u :: st) H Q := G_lload_n fX3_difference_13 rfl
theorem fX3_difference_14 : ft 32 14 = some (.lsub, 0, 0, 0, .null) := by decide +kernel
theorem gX3_difference_14 {L : List (Option Value)} {a b : Int} {st : List Value} {H : HP} {Q : Option Value → HP → Prop} : Go 32 14 L (vl b :: vl a :: st) H Q ↔ Go 32 15 L (vl (a - b) :: st) H Q := G_lsub fX3_difference_14
theorem fX3_difference_15 : ft 32 15 = some (.aload_n 0, 0, 0, 0, .null) := by decide +kernel
theorem gX3_difference_15 {l1 l2 l3 l4 : Option Value} {u : Nat} {st : List Value} {H : HP} {Q : Option Value → HP → Prop} : Go 32 15 [some (.ref u), l1, l2, l3, l4] st H Q ↔ Go 32 16 [some (.ref u), l1, l2, l3, l4] (.ref u :: st) H Q := G_aload_n fX3_difference_15 rfl
theorem fX3_difference_16 : ft 32 16 = some (.getfield 7, 3, 0, 123, .null) := by decide +kernel
theorem gX3_difference_16 {L : List (Option Value)} {p : Nat} {st : List Value} {H : HP} {Q : Option Value → HP → Prop} : Go 32 16 L (.ref p :: st) H Q ↔ Rd (gF' 3 0 (hget H p)) 32 19 L st H Q := G_getf fX3_difference_16 ⟨rfl, rfl⟩
theorem fX3_difference_19 : ft 32 19 = some (.ladd, 0, 0, 0, .null) := by decide +kernel
theorem gX3_difference_19 {L : List (Option Value)} {a b : Int} {st : List Value} {H : HP} {Q : Option Value → HP → Prop} : Go 32 19 L (vl b :: vl a :: st) H Q ↔ Go 32 20 L (vl (a + b) :: st) H Q := G_ladd fX3_difference_19
theorem fX3_difference_20 : ft 32 20 = some (.lreturn, 0, 0, 0, .null) := by decide +kernel
theorem gX3_difference_20 {L : List (Option Value)} {u : Int64} {H : HP} {Q : Option Value → HP → Prop} : Go 32 20 L [.long u] H Q ↔ Q (some (.long u)) H := G_lret fX3_difference_20 (by decide +kernel)
theorem fX3_raised_0 : ft 33 0 = some (.lconst 1, 0, 0, 0, .null) := by decide +kernel
theorem gX3_raised_0 {L : List (Option Value)} {st : List Value} {H : HP} {Q : Option Value → HP → Prop} : Go 33 0 L st H Q ↔ Go 33 1 L (vl 1 :: st) H Q := G_lconst fX3_raised_0 (by decide)
theorem fX3_raised_1 : ft 33 1 = some (.lstore 5, 0, 0, 0, .null) := by decide +kernel
theorem gX3_raised_1 {l0 l1 l2 l3 l4 l5 l6 l7 l8 l9 l10 : Option Value} {u : Int64} {st : List Value} {H : HP} {Q : Option Value → HP → Prop} : Go 33 1 [l0, l1, l2, l3, l4, l5, l6, l7, l8, l9, l10] (.long u :: st) H Q ↔ Go 33 3 [l0, l1, l2, l3, l4, some (.long u), none, l7, l8, l9, l10] st H Q := G_lstore fX3_raised_1 rfl
theorem fX3_raised_3 : ft 33 3 = some (.lload_n 1, 0, 0, 0, .null) := by decide +kernel
theorem gX3_raised_3 {l0 l3 l4 l5 l6 l7 l8 l9 l10 : Option Value} {u : Int64} {st : List Value} {H : HP} {Q : Option Value → HP → Prop} : Go 33 3 [l0, some (.long u), none, l3, l4, l5, l6, l7, l8, l9, l10] st H Q ↔ Go 33 4 [l0, some (.long u), none, l3, l4, l5, l6, l7, l8, l9, l10] (.long u :: st) H Q := G_lload_n fX3_raised_3 rfl
theorem fX3_raised_4 : ft 33 4 = some (.lstore 7, 0, 0, 0, .null) := by decide +kernel
theorem gX3_raised_4 {l0 l1 l2 l3 l4 l5 l6 l7 l8 l9 l10 : Option Value} {u : Int64} {st : List Value} {H : HP} {Q : Option Value → HP → Prop} : Go 33 4 [l0, l1, l2, l3, l4, l5, l6, l7, l8, l9, l10] (.long u :: st) H Q ↔ Go 33 6 [l0, l1, l2, l3, l4, l5, l6, some (.long u), none, l9, l10] st H Q := G_lstore fX3_raised_4 rfl
theorem fX3_raised_6 : ft 33 6 = some (.lload_n 3, 0, 0, 0, .null) := by decide +kernel
theorem gX3_raised_6 {l0 l1 l2 l5 l6 l7 l8 l9 l10 : Option Value} {u : Int64} {st : List Value} {H : HP} {Q : Option Value → HP → Prop} : Go 33 6 [l0, l1, l2, some (.long u), none, l5, l6, l7, l8, l9, l10] st H Q ↔ Go 33 7 [l0, l1, l2, some (.long u), none, l5, l6, l7, l8, l9, l10] (.long u :: st) H Q := G_lload_n fX3_raised_6 rfl
theorem fX3_raised_7 : ft 33 7 = some (.lstore 9, 0, 0, 0, .null) := by decide +kernel
theorem gX3_raised_7 {l0 l1 l2 l3 l4 l5 l6 l7 l8 l9 l10 : Option Value} {u : Int64} {st : List Value} {H : HP} {Q : Option Value → HP → Prop} : Go 33 7 [l0, l1, l2, l3, l4, l5, l6, l7, l8, l9, l10] (.long u :: st) H Q ↔ Go 33 9 [l0, l1, l2, l3, l4, l5, l6, l7, l8, some (.long u), none] st H Q := G_lstore fX3_raised_7 rfl
theorem fX3_raised_9 : ft 33 9 = some (.lload 9, 0, 0, 0, .null) := by decide +kernel
theorem gX3_raised_9 {l0 l1 l2 l3 l4 l5 l6 l7 l8 : Option Value} {u : Int64} {st : List Value} {H : HP} {Q : Option Value → HP → Prop} : Go 33 9 [l0, l1, l2, l3, l4, l5, l6, l7, l8, some (.long u), none] st H Q ↔ Go 33 11 [l0, l1, l2, l3, l4, l5, l6, l7, l8, some (.long u), none] (.long u :: st) H Q := G_lload fX3_raised_9 rfl
theorem fX3_raised_11 : ft 33 11 = some (.lconst 0, 0, 0, 0, .null) := by decide +kernel
theorem gX3_raised_11 {L : List (Option Value)} {st : List Value} {H : HP} {Q : Option Value → HP → Prop} : Go 33 11 L st H Q ↔ Go 33 12 L (vl 0 :: st) H Q := G_lconst fX3_raised_11 (by decide)
theorem fX3_raised_12 : ft 33 12 = some (.lcmp, 0, 0, 0, .null) := by decide +kernel
theorem fX3_raised_12' : ft 33 13 = some (.ifCond .le 41, 0, 0, 0, .null) := by decide +kernel
theorem gX3_raised_12T {L : List (Option Value)} {a b : Int} (c : (-9223372036854775808 ≤ a ∧ a ≤ 9223372036854775807 ∧ -9223372036854775808 ≤ b ∧ b ≤ 9223372036854775807) ∧ a ≤ b) {st : List Value} {H : HP} {Q : Option Value → HP → Prop} : Go 33 12 L (vl b :: vl a :: st) H Q ↔ Go 33 54 L st H Q := G_lcT fX3_raised_12 fX3_raised_12' (by decide) c
theorem gX3_raised_12F {L : List (Option Value)} {a b : Int} (c : (-9223372036854775808 ≤ a ∧ a ≤ 9223372036854775807 ∧ -9223372036854775808 ≤ b ∧ b ≤ 9223372036854775807) ∧ ¬ (a ≤ b)) {st : List Value} {H : HP} {Q : Option Value → HP → Prop} : Go 33 12 L (vl b :: vl a :: st) H Q ↔ Go 33 16 L st H Q := G_lcF (tg := 54) fX3_raised_12 fX3_raised_12' (by decide) c
theorem fX3_raised_13 : ft 33 13 = some (.ifCond .le 41, 0, 0, 0, .null) := by decide +kernel
theorem gX3_raised_13T {L : List (Option Value)} {a : Int} (c : (-2147483648 ≤ a ∧ a ≤ 2147483647) ∧ a ≤ 0) {st : List Value} {H : HP} {Q : Option Value → HP → Prop} : Go 33 13 L (vi a :: st) H Q ↔ Go 33 54 L st H Q := G_ifT fX3_raised_13 (by decide) c
theorem gX3_raised_13F {L : List (Option Value)} {a : Int} (c : (-2147483648 ≤ a ∧ a ≤ 2147483647) ∧ ¬ (a ≤ 0)) {st : List Value} {H : HP} {Q : Option Value → HP → Prop} : Go 33 13 L (vi a :: st) H Q ↔ Go 33 16 L st H Q := G_ifF (tg := 54) fX3_raised_13 (by decide) c
theorem fX3_raised_16 : ft 33 16 = some (.lload 9, 0, 0, 0, .null) := by decide +kernel
theorem gX3_raised_16 {l0 l1 l2 l3 l4 l5 l6 l7 l8 : Option Value} {u : Int64} {st : List Value} {H : HP} {Q : Option Value → HP → Prop} : Go 33 16 [l0, l1, l2, l3, l4, l5, l6, l7, l8, some (.long u), none] st H Q ↔ Go 33 18 [l0, l1, l2, l3, l4, l5, l6, l7, l8, some (.long u), none] (.long u :: st) H Q := G_lload fX3_raised_16 rfl
theorem fX3_raised_18 : ft 33 18 = some (.lconst 1, 0, 0, 0, .null) := by decide +kernel
theorem gX3_raised_18 {L : List (Option Value)} {st : List Value} {H : HP} {Q : Option Value → HP → Prop} : Go 33 18 L st H Q ↔ Go 33 19 L (vl 1 :: st) H Q := G_lconst fX3_raised_18 (by decide)
theorem fX3_raised_19 : ft 33 19 = some (.land, 0, 0, 0, .null) := by decide +kernel
theorem gX3_raised_19 {L : List (Option Value)} {a b : Int} {st : List Value} {H : HP} {Q : Option Value → HP → Prop} : Go 33 19 L (vl b :: vl a :: st) H Q ↔ Go 33 20 L (vl (bAnd a b) :: st) H Q := G_land fX3_raised_19
theorem fX3_raised_20 : ft 33 20 = some (.lconst 0, 0, 0, 0, .null) := by decide +kernel
theorem gX3_raised_20 {L : List (Option Value)} {st : List Value} {H : HP} {Q : Option Value → HP → Prop} : Go 33 20 L st H Q ↔ Go 33 21 L (vl 0 :: st) H Q := G_lconst fX3_raised_20 (by decide)
theorem fX3_raised_21 : ft 33 21 = some (.lcmp, 0, 0, 0, .null) := by decide +kernel
theorem fX3_raised_21' : ft 33 22 = some (.ifCond .eq 13, 0, 0, 0, .null) := by decide +kernel
theorem gX3_raised_21T {L : List (Option Value)} {a b : Int} (c : (-9223372036854775808 ≤ a ∧ a ≤ 9223372036854775807 ∧ -9223372036854775808 ≤ b ∧ b ≤ 9223372036854775807) ∧ a = b) {st : List Value} {H : HP} {Q : Option Value → HP → Prop} : Go 33 21 L (vl b :: vl a :: st) H Q ↔ Go 33 35 L st H Q := G_lcT fX3_raised_21 fX3_raised_21' (by decide) c
theorem gX3_raised_21F {L : List (Option Value)} {a b : Int} (c : (-9223372036854775808 ≤ a ∧ a ≤ 9223372036854775807 ∧ -9223372036854775808 ≤ b ∧ b ≤ 9223372036854775807) ∧ ¬ (a = b)) {st : List Value} {H : HP} {Q : Option Value → HP → Prop} : Go 33 21 L (vl b :: vl a :: st) H Q ↔ Go 33 25 L st H Q := G_lcF (tg := 35) fX3_raised_21 fX3_raised_21' (by decide) c
theorem fX3_raised_22 : ft 33 22 = some (.ifCond .eq 13, 0, 0, 0, .null) := by decide +kernel
theorem gX3_raised_22T {L : List (Option Value)} {a : Int} (c : (-2147483648 ≤ a ∧ a ≤ 2147483647) ∧ a = 0) {st : List Value} {H : HP} {Q : Option Value → HP → Prop} : Go 33 22 L (vi a :: st) H Q ↔ Go 33 35 L st H Q := G_ifT fX3_raised_22 (by decide) c
theorem gX3_raised_22F {L : List (Option Value)} {a : Int} (c : (-2147483648 ≤ a ∧ a ≤ 2147483647) ∧ ¬ (a = 0)) {st : List Value} {H : HP} {Q : Option Value → HP → Prop} : Go 33 22 L (vi a :: st) H Q ↔ Go 33 25 L st H Q := G_ifF (tg := 35) fX3_raised_22 (by decide) c
theorem fX3_raised_25 : ft 33 25 = some (.aload_n 0, 0, 0, 0, .null) := by decide +kernel
theorem gX3_raised_25 {l1 l2 l3 l4 l5 l6 l7 l8 l9 l10 : Option Value} {u : Nat} {st : List Value} {H : HP} {Q : Option Value → HP → Prop} : Go 33 25 [some (.ref u), l1, l2, l3, l4, l5, l6, l7, l8, l9, l10] st H Q ↔ Go 33 26 [some (.ref u), l1, l2, l3, l4, l5, l6, l7, l8, l9, l10] (.ref u :: st) H Q := G_aload_n fX3_raised_25 rfl
theorem fX3_raised_26 : ft 33 26 = some (.lload 5, 0, 0, 0, .null) := by decide +kernel
theorem gX3_raised_26 {l0 l1 l2 l3 l4 l7 l8 l9 l10 : Option Value} {u : Int64} {st : List Value} {H : HP} {Q : Option Value → HP → Prop} : Go 33 26 [l0, l1, l2, l3, l4, some (.long u), none, l7, l8, l9, l10] st H Q ↔ Go 33 28 [l0, l1, l2, l3, l4, some (.long u), none, l7, l8, l9, l10] (.long u :: st) H Q := G_lload fX3_raised_26 rfl
theorem fX3_raised_28 : ft 33 28 = some (.lload 7, 0, 0, 0, .null) := by decide +kernel
theorem gX3_raised_28 {l0 l1 l2 l3 l4 l5 l6 l9 l10 : Option Value} {u : Int64} {st : List Value} {H : HP} {Q : Option Value → HP → Prop} : Go 33 28 [l0, l1, l2, l3, l4, l5, l6, some (.long u), none, l9, l10] st H Q ↔ Go 33 30 [l0, l1, l2, l3, l4, l5, l6, some (.long u), none, l9, l10] (.long u :: st) H Q := G_lload fX3_raised_28 rfl
theorem fX3_raised_30 : ft 33 30 = some (.invokevirtual 19, 30, 0, 185, .null) := by decide +kernel
theorem gX3_raised_30 {L : List (Option Value)} {p : Nat} {a0 : Int64} {a1 : Int64}  {H : HP} {Q : Option Value → HP → Prop} : Go 33 30 L (.long a1 :: .long a0 :: .ref p :: []) H Q ↔ (iso 3 (hget H p) = true ∧ Go 30 0 [some (.ref p), some (.long a0), none, some (.long a1), none] [] H (Cont 33 33 L [] Q)) := G_cV (n := 2) (N := 5) (as := [.long a1, .long a0]) (st := []) fX3_raised_30 (by decide +kernel) rfl (Nat.le_of_ble_eq_true rfl) (Nat.le_of_ble_eq_true rfl) rfl
theorem fX3_raised_33 : ft 33 33 = some (.lstore 5, 0, 0, 0, .null) := by decide +kernel
theorem gX3_raised_33 {l0 l1 l2 l3 l4 l5 l6 l7 l8 l9 l10 : Option Value} {u : Int64} {st : List Value} {H : HP} {Q : Option Value → HP → Prop} : Go 33 33 [l0, l1, l2, l3, l4, l5, l6, l7, l8, l9, l10] (.long u :: st) H Q ↔ Go 33 35 [l0, l1, l2, l3, l4, some (.long u), none, l7, l8, l9, l10] st H Q := G_lstore fX3_raised_33 rfl
theorem fX3_raised_35 : ft 33 35 = some (.aload_n 0, 0, 0, 0, .null) := by decide +kernel
theorem gX3_raised_35 {l1 l2 l3 l4 l5 l6 l7 l8 l9 l10 : Option Value} {u : Nat} {st : List Value} {H : HP} {Q : Option Value → HP → Prop} : Go 33 35 [some (.ref u), l1, l2, l3, l4, l5, l6, l7, l8, l9, l10] st H Q ↔ Go 33 36 [some (.ref u), l1, l2, l3, l4, l5, l6, l7, l8, l9, l10] (.ref u :: st) H Q := G_aload_n fX3_raised_35 rfl
theorem fX3_raised_36 : ft 33 36 = some (.lload 7, 0, 0, 0, .null) := by decide +kernel
theorem gX3_raised_36 {l0 l1 l2 l3 l4 l5 l6 l9 l10 : Option Value} {u : Int64} {st : List Value} {H : HP} {Q : Option Value → HP → Prop} : Go 33 36 [l0, l1, l2, l3, l4, l5, l6, some (.long u), none, l9, l10] st H Q ↔ Go 33 38 [l0, l1, l2, l3, l4, l5, l6, some (.long u), none, l9, l10] (.long u :: st) H Q := G_lload fX3_raised_36 rfl
theorem fX3_raised_38 : ft 33 38 = some (.lload 7, 0, 0, 0, .null) := by decide +kernel
theorem gX3_raised_38 {l0 l1 l2 l3 l4 l5 l6 l9 l10 : Option Value} {u : Int64} {st : List Value} {H : HP} {Q : Option Value → HP → Prop} : Go 33 38 [l0, l1, l2, l3, l4, l5, l6, some (.long u), none, l9, l10] st H Q ↔ Go 33 40 [l0, l1, l2, l3, l4, l5, l6, some (.long u), none, l9, l10] (.long u :: st) H Q := G_lload fX3_raised_38 rfl
theorem fX3_raised_40 : ft 33 40 = some (.invokevirtual 19, 30, 0, 185, .null) := by decide +kernel
theorem gX3_raised_40 {L : List (Option Value)} {p : Nat} {a0 : Int64} {a1 : Int64}  {H : HP} {Q : Option Value → HP → Prop} : Go 33 40 L (.long a1 :: .long a0 :: .ref p :: []) H Q ↔ (iso 3 (hget H p) = true ∧ Go 30 0 [some (.ref p), some (.long a0), none, some (.long a1), none] [] H (Cont 33 43 L [] Q)) := G_cV (n := 2) (N := 5) (as := [.long a1, .long a0]) (st := []) fX3_raised_40 (by decide +kernel) rfl (Nat.le_of_ble_eq_true rfl) (Nat.le_of_ble_eq_true rfl) rfl
theorem fX3_raised_43 : ft 33 43 = some (.lstore 7, 0, 0, 0, .null) := by decide +kernel
theorem gX3_raised_43 {l0 l1 l2 l3 l4 l5 l6 l7 l8 l9 l10 : Option Value} {u : Int64} {st : List Value} {H : HP} {Q : Option Value → HP → Prop} : Go 33 43 [l0, l1, l2, l3, l4, l5, l6, l7, l8, l9, l10] (.long u :: st) H Q ↔ Go 33 45 [l0, l1, l2, l3, l4, l5, l6, some (.long u), none, l9, l10] st H Q := G_lstore fX3_raised_43 rfl
theorem fX3_raised_45 : ft 33 45 = some (.lload 9, 0, 0, 0, .null) := by decide +kernel
theorem gX3_raised_45 {l0 l1 l2 l3 l4 l5 l6 l7 l8 : Option Value} {u : Int64} {st : List Value} {H : HP} {Q : Option Value → HP → Prop} : Go 33 45 [l0, l1, l2, l3, l4, l5, l6, l7, l8, some (.long u), none] st H Q ↔ Go 33 47 [l0, l1, l2, l3, l4, l5, l6, l7, l8, some (.long u), none] (.long u :: st) H Q := G_lload fX3_raised_45 rfl
theorem fX3_raised_47 : ft 33 47 = some (.iconst 1, 0, 0, 0, .null) := by decide +kernel
theorem gX3_raised_47 {L : List (Option Value)} {st : List Value} {H : HP} {Q : Option Value → HP → Prop} : Go 33 47 L st H Q ↔ Go 33 48 L (vi 1 :: st) H Q := G_iconst fX3_raised_47
theorem fX3_raised_48 : ft 33 48 = some (.lshr, 0, 0, 0, .null) := by decide +kernel
theorem gX3_raised_48 {L : List (Option Value)} {a b : Int} {st : List Value} {H : HP} {Q : Option Value → HP → Prop} : Go 33 48 L (vi b :: vl a :: st) H Q ↔ Go 33 49 L (vl (bShr a b) :: st) H Q := G_lshr fX3_raised_48
theorem fX3_raised_49 : ft 33 49 = some (.lstore 9, 0, 0, 0, .null) := by decide +kernel
theorem gX3_raised_49 {l0 l1 l2 l3 l4 l5 l6 l7 l8 l9 l10 : Option Value} {u : Int64} {st : List Value} {H : HP} {Q : Option Value → HP → Prop} : Go 33 49 [l0, l1, l2, l3, l4, l5, l6, l7, l8, l9, l10] (.long u :: st) H Q ↔ Go 33 51 [l0, l1, l2, l3, l4, l5, l6, l7, l8, some (.long u), none] st H Q := G_lstore fX3_raised_49 rfl
theorem fX3_raised_51 : ft 33 51 = some (.goto (-42), 0, 0, 0, .null) := by decide +kernel
theorem gX3_raised_51 {L : List (Option Value)} {st : List Value} {H : HP} {Q : Option Value → HP → Prop} : Go 33 51 L st H Q ↔ Go 33 9 L st H Q := G_goto fX3_raised_51 (by decide)
theorem fX3_raised_54 : ft 33 54 = some (.lload 5, 0, 0, 0, .null) := by decide +kernel
theorem gX3_raised_54 {l0 l1 l2 l3 l4 l7 l8 l9 l10 : Option Value} {u : Int64} {st : List Value} {H : HP} {Q : Option Value → HP → Prop} : Go 33 54 [l0, l1, l2, l3, l4, some (.long u), none, l7, l8, l9, l10] st H Q ↔ Go 33 56 [l0, l1, l2, l3, l4, some (.long u), none, l7, l8, l9, l10] (.long u :: st) H Q := G_lload fX3_raised_54 rfl
theorem fX3_raised_56 : ft 33 56 = some (.lreturn, 0, 0, 0, .null) := by decide +kernel
theorem gX3_raised_56 {L : List (Option Value)} {u : Int64} {H : HP} {Q : Option Value → HP → Prop} : Go 33 56 L [.long u] H Q ↔ Q (some (.long u)) H := G_lret fX3_raised_56 (by decide +kernel)
theorem fX3_reciprocal_0 : ft 34 0 = some (.aload_n 0, 0, 0, 0, .null) := by decide +kernel
theorem gX3_reciprocal_0 {l1 l2 : Option Value} {u : Nat} {st : List Value} {H : HP} {Q : Option Value → HP → Prop} : Go 34 0 [some (.ref u), l1, l2] st H Q ↔ Go 34 1 [some (.ref u), l1, l2] (.ref u :: st) H Q := G_aload_n fX3_reciprocal_0 rfl
theorem fX3_reciprocal_1 : ft 34 1 = some (.lload_n 1, 0, 0, 0, .null) := by decide +kernel
theorem gX3_reciprocal_1 {l0 : Option Value} {u : Int64} {st : List Value} {H : HP} {Q : Option Value → HP → Prop} : Go 34 1 [l0, some (.long u), none] st H Q ↔ Go 34 2 [l0, some (.long u), none] (.long u :: st) H Q := G_lload_n fX3_reciprocal_1 rfl
theorem fX3_reciprocal_2 : ft 34 2 = some (.aload_n 0, 0, 0, 0, .null) := by decide +kernel
theorem gX3_reciprocal_2 {l1 l2 : Option Value} {u : Nat} {st : List Value} {H : HP} {Q : Option Value → HP → Prop} : Go 34 2 [some (.ref u), l1, l2] st H Q ↔ Go 34 3 [some (.ref u), l1, l2] (.ref u :: st) H Q := G_aload_n fX3_reciprocal_2 rfl
theorem fX3_reciprocal_3 : ft 34 3 = some (.getfield 7, 3, 0, 123, .null) := by decide +kernel
theorem gX3_reciprocal_3 {L : List (Option Value)} {p : Nat} {st : List Value} {H : HP} {Q : Option Value → HP → Prop} : Go 34 3 L (.ref p :: st) H Q ↔ Rd (gF' 3 0 (hget H p)) 34 6 L st H Q := G_getf fX3_reciprocal_3 ⟨rfl, rfl⟩
theorem fX3_reciprocal_6 : ft 34 6 = some (.ldc2_w 22, 0, 0, 180, .long (2)) := by decide +kernel
theorem gX3_reciprocal_6 {L : List (Option Value)} {st : List Value} {H : HP} {Q : Option Value → HP → Prop} : Go 34 6 L st H Q ↔ Go 34 9 L (vl (2) :: st) H Q := G_ldcl fX3_reciprocal_6 (by decide +kernel)
theorem fX3_reciprocal_9 : ft 34 9 = some (.lsub, 0, 0, 0, .null) := by decide +kernel
theorem gX3_reciprocal_9 {L : List (Option Value)} {a b : Int} {st : List Value} {H : HP} {Q : Option Value → HP → Prop} : Go 34 9 L (vl b :: vl a :: st) H Q ↔ Go 34 10 L (vl (a - b) :: st) H Q := G_lsub fX3_reciprocal_9
theorem fX3_reciprocal_10 : ft 34 10 = some (.invokevirtual 24, 33, 0, 181, .null) := by decide +kernel
theorem gX3_reciprocal_10 {L : List (Option Value)} {p : Nat} {a0 : Int64} {a1 : Int64}  {H : HP} {Q : Option Value → HP → Prop} : Go 34 10 L (.long a1 :: .long a0 :: .ref p :: []) H Q ↔ (iso 3 (hget H p) = true ∧ Go 33 0 [some (.ref p), some (.long a0), none, some (.long a1), none, none, none, none, none, none, none] [] H (Cont 34 13 L [] Q)) := G_cV (n := 2) (N := 11) (as := [.long a1, .long a0]) (st := []) fX3_reciprocal_10 (by decide +kernel) rfl (Nat.le_of_ble_eq_true rfl) (Nat.le_of_ble_eq_true rfl) rfl
theorem fX3_reciprocal_13 : ft 34 13 = some (.lreturn, 0, 0, 0, .null) := by decide +kernel
theorem gX3_reciprocal_13 {L : List (Option Value)} {u : Int64} {H : HP} {Q : Option Value → HP → Prop} : Go 34 13 L [.long u] H Q ↔ Q (some (.long u)) H := G_lret fX3_reciprocal_13 (by decide +kernel)
theorem fX3_hasRoot_0 : ft 35 0 = some (.iload_n 1, 0, 0, 0, .null) := by decide +kernel
theorem gX3_hasRoot_0 {l0 : Option Value} {u : Int32} {st : List Value} {H : HP} {Q : Option Value → HP → Prop} : Go 35 0 [l0, some (.int u)] st H Q ↔ Go 35 1 [l0, some (.int u)] (.int u :: st) H Q := G_iload_n fX3_hasRoot_0 rfl
theorem fX3_hasRoot_1 : ft 35 1 = some (.ifCond .le 21, 0, 0, 0, .null) := by decide +kernel
theorem gX3_hasRoot_1T {L : List (Option Value)} {a : Int} (c : (-2147483648 ≤ a ∧ a ≤ 2147483647) ∧ a ≤ 0) {st : List Value} {H : HP} {Q : Option Value → HP → Prop} : Go 35 1 L (vi a :: st) H Q ↔ Go 35 22 L st H Q := G_ifT fX3_hasRoot_1 (by decide) c
theorem gX3_hasRoot_1F {L : List (Option Value)} {a : Int} (c : (-2147483648 ≤ a ∧ a ≤ 2147483647) ∧ ¬ (a ≤ 0)) {st : List Value} {H : HP} {Q : Option Value → HP → Prop} : Go 35 1 L (vi a :: st) H Q ↔ Go 35 4 L st H Q := G_ifF (tg := 22) fX3_hasRoot_1 (by decide) c
theorem fX3_hasRoot_4 : ft 35 4 = some (.aload_n 0, 0, 0, 0, .null) := by decide +kernel
theorem gX3_hasRoot_4 {l1 : Option Value} {u : Nat} {st : List Value} {H : HP} {Q : Option Value → HP → Prop} : Go 35 4 [some (.ref u), l1] st H Q ↔ Go 35 5 [some (.ref u), l1] (.ref u :: st) H Q := G_aload_n fX3_hasRoot_4 rfl
theorem fX3_hasRoot_5 : ft 35 5 = some (.getfield 7, 3, 0, 123, .null) := by decide +kernel
theorem gX3_hasRoot_5 {L : List (Option Value)} {p : Nat} {st : List Value} {H : HP} {Q : Option Value → HP → Prop} : Go 35 5 L (.ref p :: st) H Q ↔ Rd (gF' 3 0 (hget H p)) 35 8 L st H Q := G_getf fX3_hasRoot_5 ⟨rfl, rfl⟩
theorem fX3_hasRoot_8 : ft 35 8 = some (.lconst 1, 0, 0, 0, .null) := by decide +kernel
theorem gX3_hasRoot_8 {L : List (Option Value)} {st : List Value} {H : HP} {Q : Option Value → HP → Prop} : Go 35 8 L st H Q ↔ Go 35 9 L (vl 1 :: st) H Q := G_lconst fX3_hasRoot_8 (by decide)
theorem fX3_hasRoot_9 : ft 35 9 = some (.lsub, 0, 0, 0, .null) := by decide +kernel
theorem gX3_hasRoot_9 {L : List (Option Value)} {a b : Int} {st : List Value} {H : HP} {Q : Option Value → HP → Prop} : Go 35 9 L (vl b :: vl a :: st) H Q ↔ Go 35 10 L (vl (a - b) :: st) H Q := G_lsub fX3_hasRoot_9
theorem fX3_hasRoot_10 : ft 35 10 = some (.iload_n 1, 0, 0, 0, .null) := by decide +kernel
theorem gX3_hasRoot_10 {l0 : Option Value} {u : Int32} {st : List Value} {H : HP} {Q : Option Value → HP → Prop} : Go 35 10 [l0, some (.int u)] st H Q ↔ Go 35 11 [l0, some (.int u)] (.int u :: st) H Q := G_iload_n fX3_hasRoot_10 rfl
theorem fX3_hasRoot_11 : ft 35 11 = some (.i2l, 0, 0, 0, .null) := by decide +kernel
theorem gX3_hasRoot_11 {L : List (Option Value)} {a : Int} (c : -2147483648 ≤ a ∧ a ≤ 2147483647) {st : List Value} {H : HP} {Q : Option Value → HP → Prop} : Go 35 11 L (vi a :: st) H Q ↔ Go 35 12 L (vl a :: st) H Q := G_i2l fX3_hasRoot_11 c
theorem fX3_hasRoot_12 : ft 35 12 = some (.lrem, 0, 0, 0, .null) := by decide +kernel
theorem gX3_hasRoot_12 {L : List (Option Value)} {a b : Int} (c : -9223372036854775808 ≤ a ∧ a ≤ 9223372036854775807 ∧ -9223372036854775808 ≤ b ∧ b ≤ 9223372036854775807 ∧ ¬ b = 0) {st : List Value} {H : HP} {Q : Option Value → HP → Prop} : Go 35 12 L (vl b :: vl a :: st) H Q ↔ Go 35 13 L (vl (a.tmod b) :: st) H Q := G_lrem fX3_hasRoot_12 c
theorem fX3_hasRoot_13 : ft 35 13 = some (.lconst 0, 0, 0, 0, .null) := by decide +kernel
theorem gX3_hasRoot_13 {L : List (Option Value)} {st : List Value} {H : HP} {Q : Option Value → HP → Prop} : Go 35 13 L st H Q ↔ Go 35 14 L (vl 0 :: st) H Q := G_lconst fX3_hasRoot_13 (by decide)
theorem fX3_hasRoot_14 : ft 35 14 = some (.lcmp, 0, 0, 0, .null) := by decide +kernel
theorem fX3_hasRoot_14' : ft 35 15 = some (.ifCond .ne 7, 0, 0, 0, .null) := by decide +kernel
theorem gX3_hasRoot_14T {L : List (Option Value)} {a b : Int} (c : (-9223372036854775808 ≤ a ∧ a ≤ 9223372036854775807 ∧ -9223372036854775808 ≤ b ∧ b ≤ 9223372036854775807) ∧ ¬ a = b) {st : List Value} {H : HP} {Q : Option Value → HP → Prop} : Go 35 14 L (vl b :: vl a :: st) H Q ↔ Go 35 22 L st H Q := G_lcT fX3_hasRoot_14 fX3_hasRoot_14' (by decide) c
theorem gX3_hasRoot_14F {L : List (Option Value)} {a b : Int} (c : (-9223372036854775808 ≤ a ∧ a ≤ 9223372036854775807 ∧ -9223372036854775808 ≤ b ∧ b ≤ 9223372036854775807) ∧ ¬ (¬ a = b)) {st : List Value} {H : HP} {Q : Option Value → HP → Prop} : Go 35 14 L (vl b :: vl a :: st) H Q ↔ Go 35 18 L st H Q := G_lcF (tg := 22) fX3_hasRoot_14 fX3_hasRoot_14' (by decide) c
theorem fX3_hasRoot_15 : ft 35 15 = some (.ifCond .ne 7, 0, 0, 0, .null) := by decide +kernel
theorem gX3_hasRoot_15T {L : List (Option Value)} {a : Int} (c : (-2147483648 ≤ a ∧ a ≤ 2147483647) ∧ ¬ a = 0) {st : List Value} {H : HP} {Q : Option Value → HP → Prop} : Go 35 15 L (vi a :: st) H Q ↔ Go 35 22 L st H Q := G_ifT fX3_hasRoot_15 (by decide) c
theorem gX3_hasRoot_15F {L : List (Option Value)} {a : Int} (c : (-2147483648 ≤ a ∧ a ≤ 2147483647) ∧ ¬ (¬ a = 0)) {st : List Value} {H : HP} {Q : Option Value → HP → Prop} : Go 35 15 L (vi a :: st) H Q ↔ Go 35 18 L st H Q := G_ifF (tg := 22) fX3_hasRoot_15 (by decide) c
theorem fX3_hasRoot_18 : ft 35 18 = some (.iconst 1, 0, 0, 0, .null) := by decide +kernel
theorem gX3_hasRoot_18 {L : List (Option Value)} {st : List Value} {H : HP} {Q : Option Value → HP → Prop} : Go 35 18 L st H Q ↔ Go 35 19 L (vi 1 :: st) H Q := G_iconst fX3_hasRoot_18
theorem fX3_hasRoot_19 : ft 35 19 = some (.goto 4, 0, 0, 0, .null) := by decide +kernel
theorem gX3_hasRoot_19 {L : List (Option Value)} {st : List Value} {H : HP} {Q : Option Value → HP → Prop} : Go 35 19 L st H Q ↔ Go 35 23 L st H Q := G_goto fX3_hasRoot_19 (by decide)
theorem fX3_hasRoot_22 : ft 35 22 = some (.iconst 0, 0, 0, 0, .null) := by decide +kernel
theorem gX3_hasRoot_22 {L : List (Option Value)} {st : List Value} {H : HP} {Q : Option Value → HP → Prop} : Go 35 22 L st H Q ↔ Go 35 23 L (vi 0 :: st) H Q := G_iconst fX3_hasRoot_22
theorem fX3_hasRoot_23 : ft 35 23 = some (.ireturn, 0, 0, 0, .null) := by decide +kernel
theorem gX3_hasRoot_23 {L : List (Option Value)} {a : Int} (c : a = 0 ∨ a = 1) {H : HP} {Q : Option Value → HP → Prop} : Go 35 23 L [vi a] H Q ↔ Q (some (vi a)) H := G_zret fX3_hasRoot_23 (by decide +kernel) c
theorem fX3_rootFor_0 : ft 36 0 = some (.iload_n 1, 0, 0, 0, .null) := by decide +kernel
theorem gX3_rootFor_0 {l0 : Option Value} {u : Int32} {st : List Value} {H : HP} {Q : Option Value → HP → Prop} : Go 36 0 [l0, some (.int u)] st H Q ↔ Go 36 1 [l0, some (.int u)] (.int u :: st) H Q := G_iload_n fX3_rootFor_0 rfl
theorem fX3_rootFor_1 : ft 36 1 = some (.ifCond .le 22, 0, 0, 0, .null) := by decide +kernel
theorem gX3_rootFor_1T {L : List (Option Value)} {a : Int} (c : (-2147483648 ≤ a ∧ a ≤ 2147483647) ∧ a ≤ 0) {st : List Value} {H : HP} {Q : Option Value → HP → Prop} : Go 36 1 L (vi a :: st) H Q ↔ Go 36 23 L st H Q := G_ifT fX3_rootFor_1 (by decide) c
theorem gX3_rootFor_1F {L : List (Option Value)} {a : Int} (c : (-2147483648 ≤ a ∧ a ≤ 2147483647) ∧ ¬ (a ≤ 0)) {st : List Value} {H : HP} {Q : Option Value → HP → Prop} : Go 36 1 L (vi a :: st) H Q ↔ Go 36 4 L st H Q := G_ifF (tg := 23) fX3_rootFor_1 (by decide) c
theorem fX3_rootFor_4 : ft 36 4 = some (.aload_n 0, 0, 0, 0, .null) := by decide +kernel
theorem gX3_rootFor_4 {l1 : Option Value} {u : Nat} {st : List Value} {H : HP} {Q : Option Value → HP → Prop} : Go 36 4 [some (.ref u), l1] st H Q ↔ Go 36 5 [some (.ref u), l1] (.ref u :: st) H Q := G_aload_n fX3_rootFor_4 rfl
theorem fX3_rootFor_5 : ft 36 5 = some (.ldc2_w 27, 0, 0, 384, .long (3)) := by decide +kernel
theorem gX3_rootFor_5 {L : List (Option Value)} {st : List Value} {H : HP} {Q : Option Value → HP → Prop} : Go 36 5 L st H Q ↔ Go 36 8 L (vl (3) :: st) H Q := G_ldcl fX3_rootFor_5 (by decide +kernel)
theorem fX3_rootFor_8 : ft 36 8 = some (.aload_n 0, 0, 0, 0, .null) := by decide +kernel
theorem gX3_rootFor_8 {l1 : Option Value} {u : Nat} {st : List Value} {H : HP} {Q : Option Value → HP → Prop} : Go 36 8 [some (.ref u), l1] st H Q ↔ Go 36 9 [some (.ref u), l1] (.ref u :: st) H Q := G_aload_n fX3_rootFor_8 rfl
theorem fX3_rootFor_9 : ft 36 9 = some (.getfield 7, 3, 0, 123, .null) := by decide +kernel
theorem gX3_rootFor_9 {L : List (Option Value)} {p : Nat} {st : List Value} {H : HP} {Q : Option Value → HP → Prop} : Go 36 9 L (.ref p :: st) H Q ↔ Rd (gF' 3 0 (hget H p)) 36 12 L st H Q := G_getf fX3_rootFor_9 ⟨rfl, rfl⟩
theorem fX3_rootFor_12 : ft 36 12 = some (.lconst 1, 0, 0, 0, .null) := by decide +kernel
theorem gX3_rootFor_12 {L : List (Option Value)} {st : List Value} {H : HP} {Q : Option Value → HP → Prop} : Go 36 12 L st H Q ↔ Go 36 13 L (vl 1 :: st) H Q := G_lconst fX3_rootFor_12 (by decide)
theorem fX3_rootFor_13 : ft 36 13 = some (.lsub, 0, 0, 0, .null) := by decide +kernel
theorem gX3_rootFor_13 {L : List (Option Value)} {a b : Int} {st : List Value} {H : HP} {Q : Option Value → HP → Prop} : Go 36 13 L (vl b :: vl a :: st) H Q ↔ Go 36 14 L (vl (a - b) :: st) H Q := G_lsub fX3_rootFor_13
theorem fX3_rootFor_14 : ft 36 14 = some (.iload_n 1, 0, 0, 0, .null) := by decide +kernel
theorem gX3_rootFor_14 {l0 : Option Value} {u : Int32} {st : List Value} {H : HP} {Q : Option Value → HP → Prop} : Go 36 14 [l0, some (.int u)] st H Q ↔ Go 36 15 [l0, some (.int u)] (.int u :: st) H Q := G_iload_n fX3_rootFor_14 rfl
theorem fX3_rootFor_15 : ft 36 15 = some (.i2l, 0, 0, 0, .null) := by decide +kernel
theorem gX3_rootFor_15 {L : List (Option Value)} {a : Int} (c : -2147483648 ≤ a ∧ a ≤ 2147483647) {st : List Value} {H : HP} {Q : Option Value → HP → Prop} : Go 36 15 L (vi a :: st) H Q ↔ Go 36 16 L (vl a :: st) H Q := G_i2l fX3_rootFor_15 c
theorem fX3_rootFor_16 : ft 36 16 = some (.ldiv, 0, 0, 0, .null) := by decide +kernel
theorem gX3_rootFor_16 {L : List (Option Value)} {a b : Int} (c : -9223372036854775808 ≤ a ∧ a ≤ 9223372036854775807 ∧ -9223372036854775808 ≤ b ∧ b ≤ 9223372036854775807 ∧ ¬ b = 0) {st : List Value} {H : HP} {Q : Option Value → HP → Prop} : Go 36 16 L (vl b :: vl a :: st) H Q ↔ Go 36 17 L (vl (a.tdiv b) :: st) H Q := G_ldiv fX3_rootFor_16 c
theorem fX3_rootFor_17 : ft 36 17 = some (.invokevirtual 24, 33, 0, 181, .null) := by decide +kernel
theorem gX3_rootFor_17 {L : List (Option Value)} {p : Nat} {a0 : Int64} {a1 : Int64}  {H : HP} {Q : Option Value → HP → Prop} : Go 36 17 L (.long a1 :: .long a0 :: .ref p :: []) H Q ↔ (iso 3 (hget H p) = true ∧ Go 33 0 [some (.ref p), some (.long a0), none, some (.long a1), none, none, none, none, none, none, none] [] H (Cont 36 20 L [] Q)) := G_cV (n := 2) (N := 11) (as := [.long a1, .long a0]) (st := []) fX3_rootFor_17 (by decide +kernel) rfl (Nat.le_of_ble_eq_true rfl) (Nat.le_of_ble_eq_true rfl) rfl
theorem fX3_rootFor_20 : ft 36 20 = some (.goto 4, 0, 0, 0, .null) := by decide +kernel
theorem gX3_rootFor_20 {L : List (Option Value)} {st : List Value} {H : HP} {Q : Option Value → HP → Prop} : Go 36 20 L st H Q ↔ Go 36 24 L st H Q := G_goto fX3_rootFor_20 (by decide)
theorem fX3_rootFor_23 : ft 36 23 = some (.lconst 1, 0, 0, 0, .null) := by decide +kernel
theorem gX3_rootFor_23 {L : List (Option Value)} {st : List Value} {H : HP} {Q : Option Value → HP → Prop} : Go 36 23 L st H Q ↔ Go 36 24 L (vl 1 :: st) H Q := G_lconst fX3_rootFor_23 (by decide)
theorem fX3_rootFor_24 : ft 36 24 = some (.lreturn, 0, 0, 0, .null) := by decide +kernel
theorem gX3_rootFor_24 {L : List (Option Value)} {u : Int64} {H : HP} {Q : Option Value → HP → Prop} : Go 36 24 L [.long u] H Q ↔ Q (some (.long u)) H := G_lret fX3_rootFor_24 (by decide +kernel)
theorem fX3_load_0 : ft 37 0 = some (.iconst 0, 0, 0, 0, .null) := by decide +kernel
theorem gX3_load_0 {L : List (Option Value)} {st : List Value} {H : HP} {Q : Option Value → HP → Prop} : Go 37 0 L st H Q ↔ Go 37 1 L (vi 0 :: st) H Q := G_iconst fX3_load_0
theorem fX3_load_1 : ft 37 1 = some (.istore_n 3, 0, 0, 0, .null) := by decide +kernel
theorem gX3_load_1 {l0 l1 l2 l3 : Option Value} {u : Int32} {st : List Value} {H : HP} {Q : Option Value → HP → Prop} : Go 37 1 [l0, l1, l2, l3] (.int u :: st) H Q ↔ Go 37 2 [l0, l1, l2, some (.int u)] st H Q := G_istore_n fX3_load_1 rfl
theorem fX3_load_2 : ft 37 2 = some (.iload_n 3, 0, 0, 0, .null) := by decide +kernel
theorem gX3_load_2 {l0 l1 l2 : Option Value} {u : Int32} {st : List Value} {H : HP} {Q : Option Value → HP → Prop} : Go 37 2 [l0, l1, l2, some (.int u)] st H Q ↔ Go 37 3 [l0, l1, l2, some (.int u)] (.int u :: st) H Q := G_iload_n fX3_load_2 rfl
theorem fX3_load_3 : ft 37 3 = some (.aload_n 1, 0, 0, 0, .null) := by decide +kernel
theorem gX3_load_3 {l0 l2 l3 : Option Value} {u : Nat} {st : List Value} {H : HP} {Q : Option Value → HP → Prop} : Go 37 3 [l0, some (.ref u), l2, l3] st H Q ↔ Go 37 4 [l0, some (.ref u), l2, l3] (.ref u :: st) H Q := G_aload_n fX3_load_3 rfl
theorem fX3_load_4 : ft 37 4 = some (.invokevirtual 29, 55, 0, 397, .null) := by decide +kernel
theorem gX3_load_4 {L : List (Option Value)} {p : Nat}  {r0 : Int32} {H : HP} {Q : Option Value → HP → Prop} : Go 37 4 L (.ref p :: [.int r0]) H Q ↔ (iso 5 (hget H p) = true ∧ Go 55 0 [some (.ref p)] [] H (Cont 37 7 L [.int r0] Q)) := G_cV (n := 0) (N := 1) (as := []) (st := [.int r0]) fX3_load_4 (by decide +kernel) rfl (Nat.le_of_ble_eq_true rfl) (Nat.le_of_ble_eq_true rfl) rfl
theorem fX3_load_7 : ft 37 7 = some (.if_icmp .ge 28, 0, 0, 0, .null) := by decide +kernel
theorem gX3_load_7T {L : List (Option Value)} {a b : Int} (c : (-2147483648 ≤ a ∧ a ≤ 2147483647 ∧ -2147483648 ≤ b ∧ b ≤ 2147483647) ∧ b ≤ a) {st : List Value} {H : HP} {Q : Option Value → HP → Prop} : Go 37 7 L (vi b :: vi a :: st) H Q ↔ Go 37 35 L st H Q := G_icT fX3_load_7 (by decide) c
theorem gX3_load_7F {L : List (Option Value)} {a b : Int} (c : (-2147483648 ≤ a ∧ a ≤ 2147483647 ∧ -2147483648 ≤ b ∧ b ≤ 2147483647) ∧ ¬ (b ≤ a)) {st : List Value} {H : HP} {Q : Option Value → HP → Prop} : Go 37 7 L (vi b :: vi a :: st) H Q ↔ Go 37 10 L st H Q := G_icF (tg := 35) fX3_load_7 (by decide) c
theorem fX3_load_10 : ft 37 10 = some (.iload_n 3, 0, 0, 0, .null) := by decide +kernel
theorem gX3_load_10 {l0 l1 l2 : Option Value} {u : Int32} {st : List Value} {H : HP} {Q : Option Value → HP → Prop} : Go 37 10 [l0, l1, l2, some (.int u)] st H Q ↔ Go 37 11 [l0, l1, l2, some (.int u)] (.int u :: st) H Q := G_iload_n fX3_load_10 rfl
theorem fX3_load_11 : ft 37 11 = some (.aload_n 2, 0, 0, 0, .null) := by decide +kernel
theorem gX3_load_11 {l0 l1 l3 : Option Value} {u : Nat} {st : List Value} {H : HP} {Q : Option Value → HP → Prop} : Go 37 11 [l0, l1, some (.ref u), l3] st H Q ↔ Go 37 12 [l0, l1, some (.ref u), l3] (.ref u :: st) H Q := G_aload_n fX3_load_11 rfl
theorem fX3_load_12 : ft 37 12 = some (.arraylength, 0, 0, 0, .null) := by decide +kernel
theorem gX3_load_12 {L : List (Option Value)} {p : Nat} {st : List Value} {H : HP} {Q : Option Value → HP → Prop} : Go 37 12 L (.ref p :: st) H Q ↔ Rd (aN' (hget H p)) 37 13 L st H Q := G_alen fX3_load_12
theorem fX3_load_13 : ft 37 13 = some (.if_icmp .ge 22, 0, 0, 0, .null) := by decide +kernel
theorem gX3_load_13T {L : List (Option Value)} {a b : Int} (c : (-2147483648 ≤ a ∧ a ≤ 2147483647 ∧ -2147483648 ≤ b ∧ b ≤ 2147483647) ∧ b ≤ a) {st : List Value} {H : HP} {Q : Option Value → HP → Prop} : Go 37 13 L (vi b :: vi a :: st) H Q ↔ Go 37 35 L st H Q := G_icT fX3_load_13 (by decide) c
theorem gX3_load_13F {L : List (Option Value)} {a b : Int} (c : (-2147483648 ≤ a ∧ a ≤ 2147483647 ∧ -2147483648 ≤ b ∧ b ≤ 2147483647) ∧ ¬ (b ≤ a)) {st : List Value} {H : HP} {Q : Option Value → HP → Prop} : Go 37 13 L (vi b :: vi a :: st) H Q ↔ Go 37 16 L st H Q := G_icF (tg := 35) fX3_load_13 (by decide) c
theorem fX3_load_16 : ft 37 16 = some (.aload_n 2, 0, 0, 0, .null) := by decide +kernel
theorem gX3_load_16 {l0 l1 l3 : Option Value} {u : Nat} {st : List Value} {H : HP} {Q : Option Value → HP → Prop} : Go 37 16 [l0, l1, some (.ref u), l3] st H Q ↔ Go 37 17 [l0, l1, some (.ref u), l3] (.ref u :: st) H Q := G_aload_n fX3_load_16 rfl
theorem fX3_load_17 : ft 37 17 = some (.iload_n 3, 0, 0, 0, .null) := by decide +kernel
theorem gX3_load_17 {l0 l1 l2 : Option Value} {u : Int32} {st : List Value} {H : HP} {Q : Option Value → HP → Prop} : Go 37 17 [l0, l1, l2, some (.int u)] st H Q ↔ Go 37 18 [l0, l1, l2, some (.int u)] (.int u :: st) H Q := G_iload_n fX3_load_17 rfl
theorem fX3_load_18 : ft 37 18 = some (.aload_n 0, 0, 0, 0, .null) := by decide +kernel
theorem gX3_load_18 {l1 l2 l3 : Option Value} {u : Nat} {st : List Value} {H : HP} {Q : Option Value → HP → Prop} : Go 37 18 [some (.ref u), l1, l2, l3] st H Q ↔ Go 37 19 [some (.ref u), l1, l2, l3] (.ref u :: st) H Q := G_aload_n fX3_load_18 rfl
theorem fX3_load_19 : ft 37 19 = some (.aload_n 1, 0, 0, 0, .null) := by decide +kernel
theorem gX3_load_19 {l0 l2 l3 : Option Value} {u : Nat} {st : List Value} {H : HP} {Q : Option Value → HP → Prop} : Go 37 19 [l0, some (.ref u), l2, l3] st H Q ↔ Go 37 20 [l0, some (.ref u), l2, l3] (.ref u :: st) H Q := G_aload_n fX3_load_19 rfl
theorem fX3_load_20 : ft 37 20 = some (.getfield 35, 5, 1, 288, .null) := by decide +kernel
theorem gX3_load_20 {L : List (Option Value)} {p : Nat} {st : List Value} {H : HP} {Q : Option Value → HP → Prop} : Go 37 20 L (.ref p :: st) H Q ↔ Rd (gF' 5 1 (hget H p)) 37 23 L st H Q := G_getf fX3_load_20 ⟨rfl, rfl⟩
theorem fX3_load_23 : ft 37 23 = some (.iload_n 3, 0, 0, 0, .null) := by decide +kernel
theorem gX3_load_23 {l0 l1 l2 : Option Value} {u : Int32} {st : List Value} {H : HP} {Q : Option Value → HP → Prop} : Go 37 23 [l0, l1, l2, some (.int u)] st H Q ↔ Go 37 24 [l0, l1, l2, some (.int u)] (.int u :: st) H Q := G_iload_n fX3_load_23 rfl
theorem fX3_load_24 : ft 37 24 = some (.laload, 0, 0, 0, .null) := by decide +kernel
theorem gX3_load_24 {L : List (Option Value)} {p : Nat} {a : Int} {st : List Value} {H : HP} {Q : Option Value → HP → Prop} : Go 37 24 L (vi a :: .ref p :: st) H Q ↔ Rd (aL' (hget H p) a) 37 25 L st H Q := G_lald fX3_load_24
theorem fX3_load_25 : ft 37 25 = some (.invokevirtual 39, 29, 0, 398, .null) := by decide +kernel
theorem gX3_load_25 {L : List (Option Value)} {p : Nat} {a0 : Int64} {r0 : Int32} {r1 : Nat} {H : HP} {Q : Option Value → HP → Prop} : Go 37 25 L (.long a0 :: .ref p :: [.int r0, .ref r1]) H Q ↔ (iso 3 (hget H p) = true ∧ Go 29 0 [some (.ref p), some (.long a0), none] [] H (Cont 37 28 L [.int r0, .ref r1] Q)) := G_cV (n := 1) (N := 3) (as := [.long a0]) (st := [.int r0, .ref r1]) fX3_load_25 (by decide +kernel) rfl (Nat.le_of_ble_eq_true rfl) (Nat.le_of_ble_eq_true rfl) rfl
theorem fX3_load_28 : ft 37 28 = some (.lastore, 0, 0, 0, .null) := by decide +kernel
theorem gX3_load_28 {L : List (Option Value)} {p : Nat} {a : Int} {b : Int} (hp : p ≠ 0) {st : List Value} {H : HP} {Q : Option Value → HP → Prop} : Go 37 28 L (vl b :: vi a :: .ref p :: st) H Q ↔ Wr (sL' (hget H p) a b) p 37 29 L st H Q := G_last fX3_load_28 hp
theorem fX3_load_29 : ft 37 29 = some (.iinc 3 1, 0, 0, 0, .null) := by decide +kernel
theorem gX3_load_29 {l0 l1 l2 : Option Value} {a : Int} {st : List Value} {H : HP} {Q : Option Value → HP → Prop} : Go 37 29 [l0, l1, l2, some (vi a)] st H Q ↔ Go 37 32 [l0, l1, l2, some (vi (a + 1))] st H Q := G_iinc fX3_load_29 rfl rfl
theorem fX3_load_32 : ft 37 32 = some (.goto (-30), 0, 0, 0, .null) := by decide +kernel
theorem gX3_load_32 {L : List (Option Value)} {st : List Value} {H : HP} {Q : Option Value → HP → Prop} : Go 37 32 L st H Q ↔ Go 37 2 L st H Q := G_goto fX3_load_32 (by decide)
theorem fX3_load_35 : ft 37 35 = some (.return_, 0, 0, 0, .null) := by decide +kernel
theorem gX3_load_35 {L : List (Option Value)} {H : HP} {Q : Option Value → HP → Prop} : Go 37 35 L [] H Q ↔ Q none H := G_vret fX3_load_35 (by decide +kernel)
theorem fX3_valueAt_0 : ft 38 0 = some (.lconst 0, 0, 0, 0, .null) := by decide +kernel
theorem gX3_valueAt_0 {L : List (Option Value)} {st : List Value} {H : HP} {Q : Option Value → HP → Prop} : Go 38 0 L st H Q ↔ Go 38 1 L (vl 0 :: st) H Q := G_lconst fX3_valueAt_0 (by decide)
theorem fX3_valueAt_1 : ft 38 1 = some (.lstore 5, 0, 0, 0, .null) := by decide +kernel
theorem gX3_valueAt_1 {l0 l1 l2 l3 l4 l5 l6 l7 : Option Value} {u : Int64} {st : List Value} {H : HP} {Q : Option Value → HP → Prop} : Go 38 1 [l0, l1, l2, l3, l4, l5, l6, l7] (.long u :: st) H Q ↔ Go 38 3 [l0, l1, l2, l3, l4, some (.long u), none, l7] st H Q := G_lstore fX3_valueAt_1 rfl
theorem fX3_valueAt_3 : ft 38 3 = some (.iload_n 2, 0, 0, 0, .null) := by decide +kernel
theorem gX3_valueAt_3 {l0 l1 l3 l4 l5 l6 l7 : Option Value} {u : Int32} {st : List Value} {H : HP} {Q : Option Value → HP → Prop} : Go 38 3 [l0, l1, some (.int u), l3, l4, l5, l6, l7] st H Q ↔ Go 38 4 [l0, l1, some (.int u), l3, l4, l5, l6, l7] (.int u :: st) H Q := G_iload_n fX3_valueAt_3 rfl
theorem fX3_valueAt_4 : ft 38 4 = some (.aload_n 1, 0, 0, 0, .null) := by decide +kernel
theorem gX3_valueAt_4 {l0 l2 l3 l4 l5 l6 l7 : Option Value} {u : Nat} {st : List Value} {H : HP} {Q : Option Value → HP → Prop} : Go 38 4 [l0, some (.ref u), l2, l3, l4, l5, l6, l7] st H Q ↔ Go 38 5 [l0, some (.ref u), l2, l3, l4, l5, l6, l7] (.ref u :: st) H Q := G_aload_n fX3_valueAt_4 rfl
theorem fX3_valueAt_5 : ft 38 5 = some (.arraylength, 0, 0, 0, .null) := by decide +kernel
theorem gX3_valueAt_5 {L : List (Option Value)} {p : Nat} {st : List Value} {H : HP} {Q : Option Value → HP → Prop} : Go 38 5 L (.ref p :: st) H Q ↔ Rd (aN' (hget H p)) 38 6 L st H Q := G_alen fX3_valueAt_5
theorem fX3_valueAt_6 : ft 38 6 = some (.invokestatic 43, 189, 0, 405, .null) := by decide +kernel
theorem gX3_valueAt_6 {L : List (Option Value)} {a0 : Int32} {a1 : Int32}  {H : HP} {Q : Option Value → HP → Prop} : Go 38 6 L (.int a1 :: .int a0 :: []) H Q ↔ Go 189 0 [some (.int a0), some (.int a1)] [] H (Cont 38 9 L [] Q) := G_cS (n := 2) (N := 2) (as := [.int a1, .int a0]) (st := []) fX3_valueAt_6 (by decide +kernel) rfl (Nat.le_of_ble_eq_true rfl) (Nat.le_of_ble_eq_true rfl) rfl
theorem fX3_valueAt_9 : ft 38 9 = some (.iconst 1, 0, 0, 0, .null) := by decide +kernel
theorem gX3_valueAt_9 {L : List (Option Value)} {st : List Value} {H : HP} {Q : Option Value → HP → Prop} : Go 38 9 L st H Q ↔ Go 38 10 L (vi 1 :: st) H Q := G_iconst fX3_valueAt_9
theorem fX3_valueAt_10 : ft 38 10 = some (.isub, 0, 0, 0, .null) := by decide +kernel
theorem gX3_valueAt_10 {L : List (Option Value)} {a b : Int} {st : List Value} {H : HP} {Q : Option Value → HP → Prop} : Go 38 10 L (vi b :: vi a :: st) H Q ↔ Go 38 11 L (vi (a - b) :: st) H Q := G_isub fX3_valueAt_10
theorem fX3_valueAt_11 : ft 38 11 = some (.istore 7, 0, 0, 0, .null) := by decide +kernel
theorem gX3_valueAt_11 {l0 l1 l2 l3 l4 l5 l6 l7 : Option Value} {u : Int32} {st : List Value} {H : HP} {Q : Option Value → HP → Prop} : Go 38 11 [l0, l1, l2, l3, l4, l5, l6, l7] (.int u :: st) H Q ↔ Go 38 13 [l0, l1, l2, l3, l4, l5, l6, some (.int u)] st H Q := G_istore fX3_valueAt_11 rfl
theorem fX3_valueAt_13 : ft 38 13 = some (.iload 7, 0, 0, 0, .null) := by decide +kernel
theorem gX3_valueAt_13 {l0 l1 l2 l3 l4 l5 l6 : Option Value} {u : Int32} {st : List Value} {H : HP} {Q : Option Value → HP → Prop} : Go 38 13 [l0, l1, l2, l3, l4, l5, l6, some (.int u)] st H Q ↔ Go 38 15 [l0, l1, l2, l3, l4, l5, l6, some (.int u)] (.int u :: st) H Q := G_iload fX3_valueAt_13 rfl
theorem fX3_valueAt_15 : ft 38 15 = some (.ifCond .lt 26, 0, 0, 0, .null) := by decide +kernel
theorem gX3_valueAt_15T {L : List (Option Value)} {a : Int} (c : (-2147483648 ≤ a ∧ a ≤ 2147483647) ∧ a < 0) {st : List Value} {H : HP} {Q : Option Value → HP → Prop} : Go 38 15 L (vi a :: st) H Q ↔ Go 38 41 L st H Q := G_ifT fX3_valueAt_15 (by decide) c
theorem gX3_valueAt_15F {L : List (Option Value)} {a : Int} (c : (-2147483648 ≤ a ∧ a ≤ 2147483647) ∧ ¬ (a < 0)) {st : List Value} {H : HP} {Q : Option Value → HP → Prop} : Go 38 15 L (vi a :: st) H Q ↔ Go 38 18 L st H Q := G_ifF (tg := 41) fX3_valueAt_15 (by decide) c
theorem fX3_valueAt_18 : ft 38 18 = some (.aload_n 0, 0, 0, 0, .null) := by decide +kernel
theorem gX3_valueAt_18 {l1 l2 l3 l4 l5 l6 l7 : Option Value} {u : Nat} {st : List Value} {H : HP} {Q : Option Value → HP → Prop} : Go 38 18 [some (.ref u), l1, l2, l3, l4, l5, l6, l7] st H Q ↔ Go 38 19 [some (.ref u), l1, l2, l3, l4, l5, l6, l7] (.ref u :: st) H Q := G_aload_n fX3_valueAt_18 rfl
theorem fX3_valueAt_19 : ft 38 19 = some (.aload_n 0, 0, 0, 0, .null) := by decide +kernel
theorem gX3_valueAt_19 {l1 l2 l3 l4 l5 l6 l7 : Option Value} {u : Nat} {st : List Value} {H : HP} {Q : Option Value → HP → Prop} : Go 38 19 [some (.ref u), l1, l2, l3, l4, l5, l6, l7] st H Q ↔ Go 38 20 [some (.ref u), l1, l2, l3, l4, l5, l6, l7] (.ref u :: st) H Q := G_aload_n fX3_valueAt_19 rfl
theorem fX3_valueAt_20 : ft 38 20 = some (.lload 5, 0, 0, 0, .null) := by decide +kernel
theorem gX3_valueAt_20 {l0 l1 l2 l3 l4 l7 : Option Value} {u : Int64} {st : List Value} {H : HP} {Q : Option Value → HP → Prop} : Go 38 20 [l0, l1, l2, l3, l4, some (.long u), none, l7] st H Q ↔ Go 38 22 [l0, l1, l2, l3, l4, some (.long u), none, l7] (.long u :: st) H Q := G_lload fX3_valueAt_20 rfl
theorem fX3_valueAt_22 : ft 38 22 = some (.lload_n 3, 0, 0, 0, .null) := by decide +kernel
theorem gX3_valueAt_22 {l0 l1 l2 l5 l6 l7 : Option Value} {u : Int64} {st : List Value} {H : HP} {Q : Option Value → HP → Prop} : Go 38 22 [l0, l1, l2, some (.long u), none, l5, l6, l7] st H Q ↔ Go 38 23 [l0, l1, l2, some (.long u), none, l5, l6, l7] (.long u :: st) H Q := G_lload_n fX3_valueAt_22 rfl
theorem fX3_valueAt_23 : ft 38 23 = some (.invokevirtual 19, 30, 0, 185, .null) := by decide +kernel
theorem gX3_valueAt_23 {L : List (Option Value)} {p : Nat} {a0 : Int64} {a1 : Int64} {r0 : Nat} {H : HP} {Q : Option Value → HP → Prop} : Go 38 23 L (.long a1 :: .long a0 :: .ref p :: [.ref r0]) H Q ↔ (iso 3 (hget H p) = true ∧ Go 30 0 [some (.ref p), some (.long a0), none, some (.long a1), none] [] H (Cont 38 26 L [.ref r0] Q)) := G_cV (n := 2) (N := 5) (as := [.long a1, .long a0]) (st := [.ref r0]) fX3_valueAt_23 (by decide +kernel) rfl (Nat.le_of_ble_eq_true rfl) (Nat.le_of_ble_eq_true rfl) rfl
theorem fX3_valueAt_26 : ft 38 26 = some (.aload_n 1, 0, 0, 0, .null) := by decide +kernel
theorem gX3_valueAt_26 {l0 l2 l3 l4 l5 l6 l7 : Option Value} {u : Nat} {st : List Value} {H : HP} {Q : Option Value → HP → Prop} : Go 38 26 [l0, some (.ref u), l2, l3, l4, l5, l6, l7] st H Q ↔ Go 38 27 [l0, some (.ref u), l2, l3, l4, l5, l6, l7] (.ref u :: st) H Q := G_aload_n fX3_valueAt_26 rfl
theorem fX3_valueAt_27 : ft 38 27 = some (.iload 7, 0, 0, 0, .null) := by decide +kernel
theorem gX3_valueAt_27 {l0 l1 l2 l3 l4 l5 l6 : Option Value} {u : Int32} {st : List Value} {H : HP} {Q : Option Value → HP → Prop} : Go 38 27 [l0, l1, l2, l3, l4, l5, l6, some (.int u)] st H Q ↔ Go 38 29 [l0, l1, l2, l3, l4, l5, l6, some (.int u)] (.int u :: st) H Q := G_iload fX3_valueAt_27 rfl
theorem fX3_valueAt_29 : ft 38 29 = some (.laload, 0, 0, 0, .null) := by decide +kernel
theorem gX3_valueAt_29 {L : List (Option Value)} {p : Nat} {a : Int} {st : List Value} {H : HP} {Q : Option Value → HP → Prop} : Go 38 29 L (vi a :: .ref p :: st) H Q ↔ Rd (aL' (hget H p) a) 38 30 L st H Q := G_lald fX3_valueAt_29
theorem fX3_valueAt_30 : ft 38 30 = some (.invokevirtual 47, 31, 0, 406, .null) := by decide +kernel
theorem gX3_valueAt_30 {L : List (Option Value)} {p : Nat} {a0 : Int64} {a1 : Int64}  {H : HP} {Q : Option Value → HP → Prop} : Go 38 30 L (.long a1 :: .long a0 :: .ref p :: []) H Q ↔ (iso 3 (hget H p) = true ∧ Go 31 0 [some (.ref p), some (.long a0), none, some (.long a1), none, none, none] [] H (Cont 38 33 L [] Q)) := G_cV (n := 2) (N := 7) (as := [.long a1, .long a0]) (st := []) fX3_valueAt_30 (by decide +kernel) rfl (Nat.le_of_ble_eq_true rfl) (Nat.le_of_ble_eq_true rfl) rfl
theorem fX3_valueAt_33 : ft 38 33 = some (.lstore 5, 0, 0, 0, .null) := by decide +kernel
theorem gX3_valueAt_33 {l0 l1 l2 l3 l4 l5 l6 l7 : Option Value} {u : Int64} {st : List Value} {H : HP} {Q : Option Value → HP → Prop} : Go 38 33 [l0, l1, l2, l3, l4, l5, l6, l7] (.long u :: st) H Q ↔ Go 38 35 [l0, l1, l2, l3, l4, some (.long u), none, l7] st H Q := G_lstore fX3_valueAt_33 rfl
theorem fX3_valueAt_35 : ft 38 35 = some (.iinc 7 (-1), 0, 0, 0, .null) := by decide +kernel
theorem gX3_valueAt_35 {l0 l1 l2 l3 l4 l5 l6 : Option Value} {a : Int} {st : List Value} {H : HP} {Q : Option Value → HP → Prop} : Go 38 35 [l0, l1, l2, l3, l4, l5, l6, some (vi a)] st H Q ↔ Go 38 38 [l0, l1, l2, l3, l4, l5, l6, some (vi (a + (-1)))] st H Q := G_iinc fX3_valueAt_35 rfl rfl
theorem fX3_valueAt_38 : ft 38 38 = some (.goto (-25), 0, 0, 0, .null) := by decide +kernel
theorem gX3_valueAt_38 {L : List (Option Value)} {st : List Value} {H : HP} {Q : Option Value → HP → Prop} : Go 38 38 L st H Q ↔ Go 38 13 L st H Q := G_goto fX3_valueAt_38 (by decide)
theorem fX3_valueAt_41 : ft 38 41 = some (.lload 5, 0, 0, 0, .null) := by decide +kernel
theorem gX3_valueAt_41 {l0 l1 l2 l3 l4 l7 : Option Value} {u : Int64} {st : List Value} {H : HP} {Q : Option Value → HP → Prop} : Go 38 41 [l0, l1, l2, l3, l4, some (.long u), none, l7] st H Q ↔ Go 38 43 [l0, l1, l2, l3, l4, some (.long u), none, l7] (.long u :: st) H Q := G_lload fX3_valueAt_41 rfl
theorem fX3_valueAt_43 : ft 38 43 = some (.lreturn, 0, 0, 0, .null) := by decide +kernel
theorem gX3_valueAt_43 {L : List (Option Value)} {u : Int64} {H : HP} {Q : Option Value → HP → Prop} : Go 38 43 L [.long u] H Q ↔ Q (some (.long u)) H := G_lret fX3_valueAt_43 (by decide +kernel)
theorem fX3_degreeOf_0 : ft 39 0 = some (.aload_n 1, 0, 0, 0, .null) := by decide +kernel
theorem gX3_degreeOf_0 {l0 l2 : Option Value} {u : Nat} {st : List Value} {H : HP} {Q : Option Value → HP → Prop} : Go 39 0 [l0, some (.ref u), l2] st H Q ↔ Go 39 1 [l0, some (.ref u), l2] (.ref u :: st) H Q := G_aload_n fX3_degreeOf_0 rfl
theorem fX3_degreeOf_1 : ft 39 1 = some (.invokevirtual 29, 55, 0, 397, .null) := by decide +kernel
theorem gX3_degreeOf_1 {L : List (Option Value)} {p : Nat}   {H : HP} {Q : Option Value → HP → Prop} : Go 39 1 L (.ref p :: []) H Q ↔ (iso 5 (hget H p) = true ∧ Go 55 0 [some (.ref p)] [] H (Cont 39 4 L [] Q)) := G_cV (n := 0) (N := 1) (as := []) (st := []) fX3_degreeOf_1 (by decide +kernel) rfl (Nat.le_of_ble_eq_true rfl) (Nat.le_of_ble_eq_true rfl) rfl
theorem fX3_degreeOf_4 : ft 39 4 = some (.iconst 1, 0, 0, 0, .null) := by decide +kernel
theorem gX3_degreeOf_4 {L : List (Option Value)} {st : List Value} {H : HP} {Q : Option Value → HP → Prop} : Go 39 4 L st H Q ↔ Go 39 5 L (vi 1 :: st) H Q := G_iconst fX3_degreeOf_4
theorem fX3_degreeOf_5 : ft 39 5 = some (.isub, 0, 0, 0, .null) := by decide +kernel
theorem gX3_degreeOf_5 {L : List (Option Value)} {a b : Int} {st : List Value} {H : HP} {Q : Option Value → HP → Prop} : Go 39 5 L (vi b :: vi a :: st) H Q ↔ Go 39 6 L (vi (a - b) :: st) H Q := G_isub fX3_degreeOf_5
theorem fX3_degreeOf_6 : ft 39 6 = some (.istore_n 2, 0, 0, 0, .null) := by decide +kernel
theorem gX3_degreeOf_6 {l0 l1 l2 : Option Value} {u : Int32} {st : List Value} {H : HP} {Q : Option Value → HP → Prop} : Go 39 6 [l0, l1, l2] (.int u :: st) H Q ↔ Go 39 7 [l0, l1, some (.int u)] st H Q := G_istore_n fX3_degreeOf_6 rfl
theorem fX3_degreeOf_7 : ft 39 7 = some (.iload_n 2, 0, 0, 0, .null) := by decide +kernel
theorem gX3_degreeOf_7 {l0 l1 : Option Value} {u : Int32} {st : List Value} {H : HP} {Q : Option Value → HP → Prop} : Go 39 7 [l0, l1, some (.int u)] st H Q ↔ Go 39 8 [l0, l1, some (.int u)] (.int u :: st) H Q := G_iload_n fX3_degreeOf_7 rfl
theorem fX3_degreeOf_8 : ft 39 8 = some (.ifCond .lt 24, 0, 0, 0, .null) := by decide +kernel
theorem gX3_degreeOf_8T {L : List (Option Value)} {a : Int} (c : (-2147483648 ≤ a ∧ a ≤ 2147483647) ∧ a < 0) {st : List Value} {H : HP} {Q : Option Value → HP → Prop} : Go 39 8 L (vi a :: st) H Q ↔ Go 39 32 L st H Q := G_ifT fX3_degreeOf_8 (by decide) c
theorem gX3_degreeOf_8F {L : List (Option Value)} {a : Int} (c : (-2147483648 ≤ a ∧ a ≤ 2147483647) ∧ ¬ (a < 0)) {st : List Value} {H : HP} {Q : Option Value → HP → Prop} : Go 39 8 L (vi a :: st) H Q ↔ Go 39 11 L st H Q := G_ifF (tg := 32) fX3_degreeOf_8 (by decide) c
theorem fX3_degreeOf_11 : ft 39 11 = some (.aload_n 0, 0, 0, 0, .null) := by decide +kernel
theorem gX3_degreeOf_11 {l1 l2 : Option Value} {u : Nat} {st : List Value} {H : HP} {Q : Option Value → HP → Prop} : Go 39 11 [some (.ref u), l1, l2] st H Q ↔ Go 39 12 [some (.ref u), l1, l2] (.ref u :: st) H Q := G_aload_n fX3_degreeOf_11 rfl
theorem fX3_degreeOf_12 : ft 39 12 = some (.aload_n 1, 0, 0, 0, .null) := by decide +kernel
theorem gX3_degreeOf_12 {l0 l2 : Option Value} {u : Nat} {st : List Value} {H : HP} {Q : Option Value → HP → Prop} : Go 39 12 [l0, some (.ref u), l2] st H Q ↔ Go 39 13 [l0, some (.ref u), l2] (.ref u :: st) H Q := G_aload_n fX3_degreeOf_12 rfl
theorem fX3_degreeOf_13 : ft 39 13 = some (.getfield 35, 5, 1, 288, .null) := by decide +kernel
theorem gX3_degreeOf_13 {L : List (Option Value)} {p : Nat} {st : List Value} {H : HP} {Q : Option Value → HP → Prop} : Go 39 13 L (.ref p :: st) H Q ↔ Rd (gF' 5 1 (hget H p)) 39 16 L st H Q := G_getf fX3_degreeOf_13 ⟨rfl, rfl⟩
theorem fX3_degreeOf_16 : ft 39 16 = some (.iload_n 2, 0, 0, 0, .null) := by decide +kernel
theorem gX3_degreeOf_16 {l0 l1 : Option Value} {u : Int32} {st : List Value} {H : HP} {Q : Option Value → HP → Prop} : Go 39 16 [l0, l1, some (.int u)] st H Q ↔ Go 39 17 [l0, l1, some (.int u)] (.int u :: st) H Q := G_iload_n fX3_degreeOf_16 rfl
theorem fX3_degreeOf_17 : ft 39 17 = some (.laload, 0, 0, 0, .null) := by decide +kernel
theorem gX3_degreeOf_17 {L : List (Option Value)} {p : Nat} {a : Int} {st : List Value} {H : HP} {Q : Option Value → HP → Prop} : Go 39 17 L (vi a :: .ref p :: st) H Q ↔ Rd (aL' (hget H p) a) 39 18 L st H Q := G_lald fX3_degreeOf_17
theorem fX3_degreeOf_18 : ft 39 18 = some (.invokevirtual 39, 29, 0, 398, .null) := by decide +kernel
theorem gX3_degreeOf_18 {L : List (Option Value)} {p : Nat} {a0 : Int64}  {H : HP} {Q : Option Value → HP → Prop} : Go 39 18 L (.long a0 :: .ref p :: []) H Q ↔ (iso 3 (hget H p) = true ∧ Go 29 0 [some (.ref p), some (.long a0), none] [] H (Cont 39 21 L [] Q)) := G_cV (n := 1) (N := 3) (as := [.long a0]) (st := []) fX3_degreeOf_18 (by decide +kernel) rfl (Nat.le_of_ble_eq_true rfl) (Nat.le_of_ble_eq_true rfl) rfl
theorem fX3_degreeOf_21 : ft 39 21 = some (.lconst 0, 0, 0, 0, .null) := by decide +kernel
theorem gX3_degreeOf_21 {L : List (Option Value)} {st : List Value} {H : HP} {Q : Option Value → HP → Prop} : Go 39 21 L st H Q ↔ Go 39 22 L (vl 0 :: st) H Q := G_lconst fX3_degreeOf_21 (by decide)
theorem fX3_degreeOf_22 : ft 39 22 = some (.lcmp, 0, 0, 0, .null) := by decide +kernel
theorem fX3_degreeOf_22' : ft 39 23 = some (.ifCond .ne 9, 0, 0, 0, .null) := by decide +kernel
theorem gX3_degreeOf_22T {L : List (Option Value)} {a b : Int} (c : (-9223372036854775808 ≤ a ∧ a ≤ 9223372036854775807 ∧ -9223372036854775808 ≤ b ∧ b ≤ 9223372036854775807) ∧ ¬ a = b) {st : List Value} {H : HP} {Q : Option Value → HP → Prop} : Go 39 22 L (vl b :: vl a :: st) H Q ↔ Go 39 32 L st H Q := G_lcT fX3_degreeOf_22 fX3_degreeOf_22' (by decide) c
theorem gX3_degreeOf_22F {L : List (Option Value)} {a b : Int} (c : (-9223372036854775808 ≤ a ∧ a ≤ 9223372036854775807 ∧ -9223372036854775808 ≤ b ∧ b ≤ 9223372036854775807) ∧ ¬ (¬ a = b)) {st : List Value} {H : HP} {Q : Option Value → HP → Prop} : Go 39 22 L (vl b :: vl a :: st) H Q ↔ Go 39 26 L st H Q := G_lcF (tg := 32) fX3_degreeOf_22 fX3_degreeOf_22' (by decide) c
theorem fX3_degreeOf_23 : ft 39 23 = some (.ifCond .ne 9, 0, 0, 0, .null) := by decide +kernel
theorem gX3_degreeOf_23T {L : List (Option Value)} {a : Int} (c : (-2147483648 ≤ a ∧ a ≤ 2147483647) ∧ ¬ a = 0) {st : List Value} {H : HP} {Q : Option Value → HP → Prop} : Go 39 23 L (vi a :: st) H Q ↔ Go 39 32 L st H Q := G_ifT fX3_degreeOf_23 (by decide) c
theorem gX3_degreeOf_23F {L : List (Option Value)} {a : Int} (c : (-2147483648 ≤ a ∧ a ≤ 2147483647) ∧ ¬ (¬ a = 0)) {st : List Value} {H : HP} {Q : Option Value → HP → Prop} : Go 39 23 L (vi a :: st) H Q ↔ Go 39 26 L st H Q := G_ifF (tg := 32) fX3_degreeOf_23 (by decide) c
theorem fX3_degreeOf_26 : ft 39 26 = some (.iinc 2 (-1), 0, 0, 0, .null) := by decide +kernel
theorem gX3_degreeOf_26 {l0 l1 : Option Value} {a : Int} {st : List Value} {H : HP} {Q : Option Value → HP → Prop} : Go 39 26 [l0, l1, some (vi a)] st H Q ↔ Go 39 29 [l0, l1, some (vi (a + (-1)))] st H Q := G_iinc fX3_degreeOf_26 rfl rfl
theorem fX3_degreeOf_29 : ft 39 29 = some (.goto (-22), 0, 0, 0, .null) := by decide +kernel
theorem gX3_degreeOf_29 {L : List (Option Value)} {st : List Value} {H : HP} {Q : Option Value → HP → Prop} : Go 39 29 L st H Q ↔ Go 39 7 L st H Q := G_goto fX3_degreeOf_29 (by decide)
theorem fX3_degreeOf_32 : ft 39 32 = some (.iload_n 2, 0, 0, 0, .null) := by decide +kernel
theorem gX3_degreeOf_32 {l0 l1 : Option Value} {u : Int32} {st : List Value} {H : HP} {Q : Option Value → HP → Prop} : Go 39 32 [l0, l1, some (.int u)] st H Q ↔ Go 39 33 [l0, l1, some (.int u)] (.int u :: st) H Q := G_iload_n fX3_degreeOf_32 rfl
theorem fX3_degreeOf_33 : ft 39 33 = some (.ireturn, 0, 0, 0, .null) := by decide +kernel
theorem gX3_degreeOf_33 {L : List (Option Value)} {u : Int32} {H : HP} {Q : Option Value → HP → Prop} : Go 39 33 L [.int u] H Q ↔ Q (some (.int u)) H := G_iret fX3_degreeOf_33 (by decide +kernel)
theorem fX3_anyAlike_0 : ft 40 0 = some (.iconst 0, 0, 0, 0, .null) := by decide +kernel
theorem gX3_anyAlike_0 {L : List (Option Value)} {st : List Value} {H : HP} {Q : Option Value → HP → Prop} : Go 40 0 L st H Q ↔ Go 40 1 L (vi 0 :: st) H Q := G_iconst fX3_anyAlike_0
theorem fX3_anyAlike_1 : ft 40 1 = some (.istore_n 2, 0, 0, 0, .null) := by decide +kernel
theorem gX3_anyAlike_1 {l0 l1 l2 l3 l4 l5 : Option Value} {u : Int32} {st : List Value} {H : HP} {Q : Option Value → HP → Prop} : Go 40 1 [l0, l1, l2, l3, l4, l5] (.int u :: st) H Q ↔ Go 40 2 [l0, l1, some (.int u), l3, l4, l5] st H Q := G_istore_n fX3_anyAlike_1 rfl
theorem fX3_anyAlike_2 : ft 40 2 = some (.iload_n 2, 0, 0, 0, .null) := by decide +kernel
theorem gX3_anyAlike_2 {l0 l1 l3 l4 l5 : Option Value} {u : Int32} {st : List Value} {H : HP} {Q : Option Value → HP → Prop} : Go 40 2 [l0, l1, some (.int u), l3, l4, l5] st H Q ↔ Go 40 3 [l0, l1, some (.int u), l3, l4, l5] (.int u :: st) H Q := G_iload_n fX3_anyAlike_2 rfl
theorem fX3_anyAlike_3 : ft 40 3 = some (.aload_n 1, 0, 0, 0, .null) := by decide +kernel
theorem gX3_anyAlike_3 {l0 l2 l3 l4 l5 : Option Value} {u : Nat} {st : List Value} {H : HP} {Q : Option Value → HP → Prop} : Go 40 3 [l0, some (.ref u), l2, l3, l4, l5] st H Q ↔ Go 40 4 [l0, some (.ref u), l2, l3, l4, l5] (.ref u :: st) H Q := G_aload_n fX3_anyAlike_3 rfl
theorem fX3_anyAlike_4 : ft 40 4 = some (.invokevirtual 29, 55, 0, 397, .null) := by decide +kernel
theorem gX3_anyAlike_4 {L : List (Option Value)} {p : Nat}  {r0 : Int32} {H : HP} {Q : Option Value → HP → Prop} : Go 40 4 L (.ref p :: [.int r0]) H Q ↔ (iso 5 (hget H p) = true ∧ Go 55 0 [some (.ref p)] [] H (Cont 40 7 L [.int r0] Q)) := G_cV (n := 0) (N := 1) (as := []) (st := [.int r0]) fX3_anyAlike_4 (by decide +kernel) rfl (Nat.le_of_ble_eq_true rfl) (Nat.le_of_ble_eq_true rfl) rfl
theorem fX3_anyAlike_7 : ft 40 7 = some (.if_icmp .ge 53, 0, 0, 0, .null) := by decide +kernel
theorem gX3_anyAlike_7T {L : List (Option Value)} {a b : Int} (c : (-2147483648 ≤ a ∧ a ≤ 2147483647 ∧ -2147483648 ≤ b ∧ b ≤ 2147483647) ∧ b ≤ a) {st : List Value} {H : HP} {Q : Option Value → HP → Prop} : Go 40 7 L (vi b :: vi a :: st) H Q ↔ Go 40 60 L st H Q := G_icT fX3_anyAlike_7 (by decide) c
theorem gX3_anyAlike_7F {L : List (Option Value)} {a b : Int} (c : (-2147483648 ≤ a ∧ a ≤ 2147483647 ∧ -2147483648 ≤ b ∧ b ≤ 2147483647) ∧ ¬ (b ≤ a)) {st : List Value} {H : HP} {Q : Option Value → HP → Prop} : Go 40 7 L (vi b :: vi a :: st) H Q ↔ Go 40 10 L st H Q := G_icF (tg := 60) fX3_anyAlike_7 (by decide) c
theorem fX3_anyAlike_10 : ft 40 10 = some (.aload_n 0, 0, 0, 0, .null) := by decide +kernel
theorem gX3_anyAlike_10 {l1 l2 l3 l4 l5 : Option Value} {u : Nat} {st : List Value} {H : HP} {Q : Option Value → HP → Prop} : Go 40 10 [some (.ref u), l1, l2, l3, l4, l5] st H Q ↔ Go 40 11 [some (.ref u), l1, l2, l3, l4, l5] (.ref u :: st) H Q := G_aload_n fX3_anyAlike_10 rfl
theorem fX3_anyAlike_11 : ft 40 11 = some (.aload_n 1, 0, 0, 0, .null) := by decide +kernel
theorem gX3_anyAlike_11 {l0 l2 l3 l4 l5 : Option Value} {u : Nat} {st : List Value} {H : HP} {Q : Option Value → HP → Prop} : Go 40 11 [l0, some (.ref u), l2, l3, l4, l5] st H Q ↔ Go 40 12 [l0, some (.ref u), l2, l3, l4, l5] (.ref u :: st) H Q := G_aload_n fX3_anyAlike_11 rfl
theorem fX3_anyAlike_12 : ft 40 12 = some (.getfield 35, 5, 1, 288, .null) := by decide +kernel
theorem gX3_anyAlike_12 {L : List (Option Value)} {p : Nat} {st : List Value} {H : HP} {Q : Option Value → HP → Prop} : Go 40 12 L (.ref p :: st) H Q ↔ Rd (gF' 5 1 (hget H p)) 40 15 L st H Q := G_getf fX3_anyAlike_12 ⟨rfl, rfl⟩
theorem fX3_anyAlike_15 : ft 40 15 = some (.iload_n 2, 0, 0, 0, .null) := by decide +kernel
theorem gX3_anyAlike_15 {l0 l1 l3 l4 l5 : Option Value} {u : Int32} {st : List Value} {H : HP} {Q : Option Value → HP → Prop} : Go 40 15 [l0, l1, some (.int u), l3, l4, l5] st H Q ↔ Go 40 16 [l0, l1, some (.int u), l3, l4, l5] (.int u :: st) H Q := G_iload_n fX3_anyAlike_15 rfl
theorem fX3_anyAlike_16 : ft 40 16 = some (.laload, 0, 0, 0, .null) := by decide +kernel
theorem gX3_anyAlike_16 {L : List (Option Value)} {p : Nat} {a : Int} {st : List Value} {H : HP} {Q : Option Value → HP → Prop} : Go 40 16 L (vi a :: .ref p :: st) H Q ↔ Rd (aL' (hget H p) a) 40 17 L st H Q := G_lald fX3_anyAlike_16
theorem fX3_anyAlike_17 : ft 40 17 = some (.invokevirtual 39, 29, 0, 398, .null) := by decide +kernel
theorem gX3_anyAlike_17 {L : List (Option Value)} {p : Nat} {a0 : Int64}  {H : HP} {Q : Option Value → HP → Prop} : Go 40 17 L (.long a0 :: .ref p :: []) H Q ↔ (iso 3 (hget H p) = true ∧ Go 29 0 [some (.ref p), some (.long a0), none] [] H (Cont 40 20 L [] Q)) := G_cV (n := 1) (N := 3) (as := [.long a0]) (st := []) fX3_anyAlike_17 (by decide +kernel) rfl (Nat.le_of_ble_eq_true rfl) (Nat.le_of_ble_eq_true rfl) rfl
theorem fX3_anyAlike_20 : ft 40 20 = some (.lstore_n 3, 0, 0, 0, .null) := by decide +kernel
theorem gX3_anyAlike_20 {l0 l1 l2 l3 l4 l5 : Option Value} {u : Int64} {st : List Value} {H : HP} {Q : Option Value → HP → Prop} : Go 40 20 [l0, l1, l2, l3, l4, l5] (.long u :: st) H Q ↔ Go 40 21 [l0, l1, l2, some (.long u), none, l5] st H Q := G_lstore_n fX3_anyAlike_20 rfl
theorem fX3_anyAlike_21 : ft 40 21 = some (.iconst 0, 0, 0, 0, .null) := by decide +kernel
theorem gX3_anyAlike_21 {L : List (Option Value)} {st : List Value} {H : HP} {Q : Option Value → HP → Prop} : Go 40 21 L st H Q ↔ Go 40 22 L (vi 0 :: st) H Q := G_iconst fX3_anyAlike_21
theorem fX3_anyAlike_22 : ft 40 22 = some (.istore 5, 0, 0, 0, .null) := by decide +kernel
theorem gX3_anyAlike_22 {l0 l1 l2 l3 l4 l5 : Option Value} {u : Int32} {st : List Value} {H : HP} {Q : Option Value → HP → Prop} : Go 40 22 [l0, l1, l2, l3, l4, l5] (.int u :: st) H Q ↔ Go 40 24 [l0, l1, l2, l3, l4, some (.int u)] st H Q := G_istore fX3_anyAlike_22 rfl
theorem fX3_anyAlike_24 : ft 40 24 = some (.iload 5, 0, 0, 0, .null) := by decide +kernel
theorem gX3_anyAlike_24 {l0 l1 l2 l3 l4 : Option Value} {u : Int32} {st : List Value} {H : HP} {Q : Option Value → HP → Prop} : Go 40 24 [l0, l1, l2, l3, l4, some (.int u)] st H Q ↔ Go 40 26 [l0, l1, l2, l3, l4, some (.int u)] (.int u :: st) H Q := G_iload fX3_anyAlike_24 rfl
theorem fX3_anyAlike_26 : ft 40 26 = some (.iload_n 2, 0, 0, 0, .null) := by decide +kernel
theorem gX3_anyAlike_26 {l0 l1 l3 l4 l5 : Option Value} {u : Int32} {st : List Value} {H : HP} {Q : Option Value → HP → Prop} : Go 40 26 [l0, l1, some (.int u), l3, l4, l5] st H Q ↔ Go 40 27 [l0, l1, some (.int u), l3, l4, l5] (.int u :: st) H Q := G_iload_n fX3_anyAlike_26 rfl
theorem fX3_anyAlike_27 : ft 40 27 = some (.if_icmp .ge 27, 0, 0, 0, .null) := by decide +kernel
theorem gX3_anyAlike_27T {L : List (Option Value)} {a b : Int} (c : (-2147483648 ≤ a ∧ a ≤ 2147483647 ∧ -2147483648 ≤ b ∧ b ≤ 2147483647) ∧ b ≤ a) {st : List Value} {H : HP} {Q : Option Value → HP → Prop} : Go 40 27 L (vi b :: vi a :: st) H Q ↔ Go 40 54 L st H Q := G_icT fX3_anyAlike_27 (by decide) c
theorem gX3_anyAlike_27F {L : List (Option Value)} {a b : Int} (c : (-2147483648 ≤ a ∧ a ≤ 2147483647 ∧ -2147483648 ≤ b ∧ b ≤ 2147483647) ∧ ¬ (b ≤ a)) {st : List Value} {H : HP} {Q : Option Value → HP → Prop} : Go 40 27 L (vi b :: vi a :: st) H Q ↔ Go 40 30 L st H Q := G_icF (tg := 54) fX3_anyAlike_27 (by decide) c
theorem fX3_anyAlike_30 : ft 40 30 = some (.aload_n 0, 0, 0, 0, .null) := by decide +kernel
theorem gX3_anyAlike_30 {l1 l2 l3 l4 l5 : Option Value} {u : Nat} {st : List Value} {H : HP} {Q : Option Value → HP → Prop} : Go 40 30 [some (.ref u), l1, l2, l3, l4, l5] st H Q ↔ Go 40 31 [some (.ref u), l1, l2, l3, l4, l5] (.ref u :: st) H Q := G_aload_n fX3_anyAlike_30 rfl
theorem fX3_anyAlike_31 : ft 40 31 = some (.aload_n 1, 0, 0, 0, .null) := by decide +kernel
theorem gX3_anyAlike_31 {l0 l2 l3 l4 l5 : Option Value} {u : Nat} {st : List Value} {H : HP} {Q : Option Value → HP → Prop} : Go 40 31 [l0, some (.ref u), l2, l3, l4, l5] st H Q ↔ Go 40 32 [l0, some (.ref u), l2, l3, l4, l5] (.ref u :: st) H Q := G_aload_n fX3_anyAlike_31 rfl
theorem fX3_anyAlike_32 : ft 40 32 = some (.getfield 35, 5, 1, 288, .null) := by decide +kernel
theorem gX3_anyAlike_32 {L : List (Option Value)} {p : Nat} {st : List Value} {H : HP} {Q : Option Value → HP → Prop} : Go 40 32 L (.ref p :: st) H Q ↔ Rd (gF' 5 1 (hget H p)) 40 35 L st H Q := G_getf fX3_anyAlike_32 ⟨rfl, rfl⟩
theorem fX3_anyAlike_35 : ft 40 35 = some (.iload 5, 0, 0, 0, .null) := by decide +kernel
theorem gX3_anyAlike_35 {l0 l1 l2 l3 l4 : Option Value} {u : Int32} {st : List Value} {H : HP} {Q : Option Value → HP → Prop} : Go 40 35 [l0, l1, l2, l3, l4, some (.int u)] st H Q ↔ Go 40 37 [l0, l1, l2, l3, l4, some (.int u)] (.int u :: st) H Q := G_iload fX3_anyAlike_35 rfl
theorem fX3_anyAlike_37 : ft 40 37 = some (.laload, 0, 0, 0, .null) := by decide +kernel
theorem gX3_anyAlike_37 {L : List (Option Value)} {p : Nat} {a : Int} {st : List Value} {H : HP} {Q : Option Value → HP → Prop} : Go 40 37 L (vi a :: .ref p :: st) H Q ↔ Rd (aL' (hget H p) a) 40 38 L st H Q := G_lald fX3_anyAlike_37
theorem fX3_anyAlike_38 : ft 40 38 = some (.invokevirtual 39, 29, 0, 398, .null) := by decide +kernel
theorem gX3_anyAlike_38 {L : List (Option Value)} {p : Nat} {a0 : Int64}  {H : HP} {Q : Option Value → HP → Prop} : Go 40 38 L (.long a0 :: .ref p :: []) H Q ↔ (iso 3 (hget H p) = true ∧ Go 29 0 [some (.ref p), some (.long a0), none] [] H (Cont 40 41 L [] Q)) := G_cV (n := 1) (N := 3) (as := [.long a0]) (st := []) fX3_anyAlike_38 (by decide +kernel) rfl (Nat.le_of_ble_eq_true rfl) (Nat.le_of_ble_eq_true rfl) rfl
theorem fX3_anyAlike_41 : ft 40 41 = some (.lload_n 3, 0, 0, 0, .null) := by decide +kernel
theorem gX3_anyAlike_41 {l0 l1 l2 l5 : Option Value} {u : Int64} {st : List Value} {H : HP} {Q : Option Value → HP → Prop} : Go 40 41 [l0, l1, l2, some (.long u), none, l5] st H Q ↔ Go 40 42 [l0, l1, l2, some (.long u), none, l5] (.long u :: st) H Q := G_lload_n fX3_anyAlike_41 rfl
theorem fX3_anyAlike_42 : ft 40 42 = some (.lcmp, 0, 0, 0, .null) := by decide +kernel
theorem fX3_anyAlike_42' : ft 40 43 = some (.ifCond .ne 5, 0, 0, 0, .null) := by decide +kernel
theorem gX3_anyAlike_42T {L : List (Option Value)} {a b : Int} (c : (-9223372036854775808 ≤ a ∧ a ≤ 9223372036854775807 ∧ -9223372036854775808 ≤ b ∧ b ≤ 9223372036854775807) ∧ ¬ a = b) {st : List Value} {H : HP} {Q : Option Value → HP → Prop} : Go 40 42 L (vl b :: vl a :: st) H Q ↔ Go 40 48 L st H Q := G_lcT fX3_anyAlike_42 fX3_anyAlike_42' (by decide) c
theorem gX3_anyAlike_42F {L : List (Option Value)} {a b : Int} (c : (-9223372036854775808 ≤ a ∧ a ≤ 9223372036854775807 ∧ -9223372036854775808 ≤ b ∧ b ≤ 9223372036854775807) ∧ ¬ (¬ a = b)) {st : List Value} {H : HP} {Q : Option Value → HP → Prop} : Go 40 42 L (vl b :: vl a :: st) H Q ↔ Go 40 46 L st H Q := G_lcF (tg := 48) fX3_anyAlike_42 fX3_anyAlike_42' (by decide) c
theorem fX3_anyAlike_43 : ft 40 43 = some (.ifCond .ne 5, 0, 0, 0, .null) := by decide +kernel
theorem gX3_anyAlike_43T {L : List (Option Value)} {a : Int} (c : (-2147483648 ≤ a ∧ a ≤ 2147483647) ∧ ¬ a = 0) {st : List Value} {H : HP} {Q : Option Value → HP → Prop} : Go 40 43 L (vi a :: st) H Q ↔ Go 40 48 L st H Q := G_ifT fX3_anyAlike_43 (by decide) c
theorem gX3_anyAlike_43F {L : List (Option Value)} {a : Int} (c : (-2147483648 ≤ a ∧ a ≤ 2147483647) ∧ ¬ (¬ a = 0)) {st : List Value} {H : HP} {Q : Option Value → HP → Prop} : Go 40 43 L (vi a :: st) H Q ↔ Go 40 46 L st H Q := G_ifF (tg := 48) fX3_anyAlike_43 (by decide) c
theorem fX3_anyAlike_46 : ft 40 46 = some (.iconst 1, 0, 0, 0, .null) := by decide +kernel
theorem gX3_anyAlike_46 {L : List (Option Value)} {st : List Value} {H : HP} {Q : Option Value → HP → Prop} : Go 40 46 L st H Q ↔ Go 40 47 L (vi 1 :: st) H Q := G_iconst fX3_anyAlike_46
theorem fX3_anyAlike_47 : ft 40 47 = some (.ireturn, 0, 0, 0, .null) := by decide +kernel
theorem gX3_anyAlike_47 {L : List (Option Value)} {a : Int} (c : a = 0 ∨ a = 1) {H : HP} {Q : Option Value → HP → Prop} : Go 40 47 L [vi a] H Q ↔ Q (some (vi a)) H := G_zret fX3_anyAlike_47 (by decide +kernel) c
theorem fX3_anyAlike_48 : ft 40 48 = some (.iinc 5 1, 0, 0, 0, .null) := by decide +kernel
theorem gX3_anyAlike_48 {l0 l1 l2 l3 l4 : Option Value} {a : Int} {st : List Value} {H : HP} {Q : Option Value → HP → Prop} : Go 40 48 [l0, l1, l2, l3, l4, some (vi a)] st H Q ↔ Go 40 51 [l0, l1, l2, l3, l4, some (vi (a + 1))] st H Q := G_iinc fX3_anyAlike_48 rfl rfl
theorem fX3_anyAlike_51 : ft 40 51 = some (.goto (-27), 0, 0, 0, .null) := by decide +kernel
theorem gX3_anyAlike_51 {L : List (Option Value)} {st : List Value} {H : HP} {Q : Option Value → HP → Prop} : Go 40 51 L st H Q ↔ Go 40 24 L st H Q := G_goto fX3_anyAlike_51 (by decide)
theorem fX3_anyAlike_54 : ft 40 54 = some (.iinc 2 1, 0, 0, 0, .null) := by decide +kernel
theorem gX3_anyAlike_54 {l0 l1 l3 l4 l5 : Option Value} {a : Int} {st : List Value} {H : HP} {Q : Option Value → HP → Prop} : Go 40 54 [l0, l1, some (vi a), l3, l4, l5] st H Q ↔ Go 40 57 [l0, l1, some (vi (a + 1)), l3, l4, l5] st H Q := G_iinc fX3_anyAlike_54 rfl rfl
theorem fX3_anyAlike_57 : ft 40 57 = some (.goto (-55), 0, 0, 0, .null) := by decide +kernel
theorem gX3_anyAlike_57 {L : List (Option Value)} {st : List Value} {H : HP} {Q : Option Value → HP → Prop} : Go 40 57 L st H Q ↔ Go 40 2 L st H Q := G_goto fX3_anyAlike_57 (by decide)
theorem fX3_anyAlike_60 : ft 40 60 = some (.iconst 0, 0, 0, 0, .null) := by decide +kernel
theorem gX3_anyAlike_60 {L : List (Option Value)} {st : List Value} {H : HP} {Q : Option Value → HP → Prop} : Go 40 60 L st H Q ↔ Go 40 61 L (vi 0 :: st) H Q := G_iconst fX3_anyAlike_60
theorem fX3_anyAlike_61 : ft 40 61 = some (.ireturn, 0, 0, 0, .null) := by decide +kernel
theorem gX3_anyAlike_61 {L : List (Option Value)} {a : Int} (c : a = 0 ∨ a = 1) {H : HP} {Q : Option Value → HP → Prop} : Go 40 61 L [vi a] H Q ↔ Q (some (vi a)) H := G_zret fX3_anyAlike_61 (by decide +kernel) c

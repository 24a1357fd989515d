theorem fX6_init_0 : ft 61 0 = some (.aload_n 0, 0, 0, 0, .null) := by decide +kernel
theorem gX6_init_0 {l1 : Option Value} {u : Nat} {st : List Value} {H : HP} {Q : Option Value → HP → Prop} : Go 61 0 [some (.ref u), l1] st H Q ↔ Go 61 1 [some (.ref u), l1] (.ref u :: st) H Q := G_aload_n fX6_init_0 rfl
theorem fX6_init_1 : ft 61 1 = some (.invokespecial 1, 1000, 0, 103, .null) := by decide +kernel
theorem gX6_init_1 {L : List (Option Value)} {p : Nat}  {H : HP} {Q : Option Value → HP → Prop} : Go 61 1 L (.ref p :: []) H Q ↔ Go 61 4 L [] H Q := G_obj fX6_init_1 rfl ⟨by decide +kernel, Nat.le_trans (m := 20) (Nat.le_of_ble_eq_true rfl) (by decide +kernel)⟩
theorem fX6_init_4 : ft 61 4 = some (.aload_n 0, 0, 0, 0, .null) := by decide +kernel
theorem gX6_init_4 {l1 : Option Value} {u : Nat} {st : List Value} {H : HP} {Q : Option Value → HP → Prop} : Go 61 4 [some (.ref u), l1] st H Q ↔ Go 61 5 [some (.ref u), l1] (.ref u :: st) H Q := G_aload_n fX6_init_4 rfl
theorem fX6_init_5 : ft 61 5 = some (.iconst 0, 0, 0, 0, .null) := by decide +kernel
theorem gX6_init_5 {L : List (Option Value)} {st : List Value} {H : HP} {Q : Option Value → HP → Prop} : Go 61 5 L st H Q ↔ Go 61 6 L (vi 0 :: st) H Q := G_iconst fX6_init_5
theorem fX6_init_6 : ft 61 6 = some (.putfield 7, 6, 1, 108, .null) := by decide +kernel
theorem gX6_init_6 {L : List (Option Value)} {p : Nat} {u : Int32} (hp : p ≠ 0) {st : List Value} {H : HP} {Q : Option Value → HP → Prop} : Go 61 6 L (.int u :: .ref p :: st) H Q ↔ Wr (pF' 6 1 (hget H p) (.int u)) p 61 9 L st H Q := G_putf fX6_init_6 ⟨⟨rfl, rfl⟩, rfl, Or.inl rfl⟩ hp
theorem fX6_init_9 : ft 61 9 = some (.aload_n 0, 0, 0, 0, .null) := by decide +kernel
theorem gX6_init_9 {l1 : Option Value} {u : Nat} {st : List Value} {H : HP} {Q : Option Value → HP → Prop} : Go 61 9 [some (.ref u), l1] st H Q ↔ Go 61 10 [some (.ref u), l1] (.ref u :: st) H Q := G_aload_n fX6_init_9 rfl
theorem fX6_init_10 : ft 61 10 = some (.iload_n 1, 0, 0, 0, .null) := by decide +kernel
theorem gX6_init_10 {l0 : Option Value} {u : Int32} {st : List Value} {H : HP} {Q : Option Value → HP → Prop} : Go 61 10 [l0, some (.int u)] st H Q ↔ Go 61 11 [l0, some (.int u)] (.int u :: st) H Q := G_iload_n fX6_init_10 rfl
theorem fX6_init_11 : ft 61 11 = some (.newarray .long, 0, 0, 0, .null) := by decide +kernel
theorem gX6_init_11 {L : List (Option Value)} {a : Int} (c : 0 ≤ a ∧ a ≤ 1000000) {st : List Value} {H : HP} {Q : Option Value → HP → Prop} : Go 61 11 L (vi a :: st) H Q ↔ Go 61 13 L (.ref H.1 :: st) (hnew H (cL a fun _ => 0) a.toNat) Q := G_newL fX6_init_11 c
theorem fX6_init_13 : ft 61 13 = some (.putfield 13, 6, 0, 104, .null) := by decide +kernel
theorem gX6_init_13 {L : List (Option Value)} {p : Nat} {u : Nat} (hp : p ≠ 0) {st : List Value} {H : HP} {Q : Option Value → HP → Prop} : Go 61 13 L (.ref u :: .ref p :: st) H Q ↔ Wr (pF' 6 0 (hget H p) (.ref u)) p 61 16 L st H Q := G_putf fX6_init_13 ⟨⟨rfl, rfl⟩, rfl, Or.inr (by decide +kernel)⟩ hp
theorem fX6_init_16 : ft 61 16 = some (.return_, 0, 0, 0, .null) := by decide +kernel
theorem gX6_init_16 {L : List (Option Value)} {H : HP} {Q : Option Value → HP → Prop} : Go 61 16 L [] H Q ↔ Q none H := G_vret fX6_init_16 (by decide +kernel)
theorem fX6_get_0 : ft 62 0 = some (.iload_n 1, 0, 0, 0, .null) := by decide +kernel
theorem gX6_get_0 {l0 l2 l3 : Option Value} {u : Int32} {st : List Value} {H : HP} {Q : Option Value → HP → Prop} : Go 62 0 [l0, some (.int u), l2, l3] st H Q ↔ Go 62 1 [l0, some (.int u), l2, l3] (.int u :: st) H Q := G_iload_n fX6_get_0 rfl
theorem fX6_get_1 : ft 62 1 = some (.ifCond .lt 20, 0, 0, 0, .null) := by decide +kernel
theorem gX6_get_1T {L : List (Option Value)} {a : Int} (c : (-2147483648 ≤ a ∧ a ≤ 2147483647) ∧ a < 0) {st : List Value} {H : HP} {Q : Option Value → HP → Prop} : Go 62 1 L (vi a :: st) H Q ↔ Go 62 21 L st H Q := G_ifT fX6_get_1 (by decide) c
theorem gX6_get_1F {L : List (Option Value)} {a : Int} (c : (-2147483648 ≤ a ∧ a ≤ 2147483647) ∧ ¬ (a < 0)) {st : List Value} {H : HP} {Q : Option Value → HP → Prop} : Go 62 1 L (vi a :: st) H Q ↔ Go 62 4 L st H Q := G_ifF (tg := 21) fX6_get_1 (by decide) c
theorem fX6_get_4 : ft 62 4 = some (.iload_n 1, 0, 0, 0, .null) := by decide +kernel
theorem gX6_get_4 {l0 l2 l3 : Option Value} {u : Int32} {st : List Value} {H : HP} {Q : Option Value → HP → Prop} : Go 62 4 [l0, some (.int u), l2, l3] st H Q ↔ Go 62 5 [l0, some (.int u), l2, l3] (.int u :: st) H Q := G_iload_n fX6_get_4 rfl
theorem fX6_get_5 : ft 62 5 = some (.aload_n 0, 0, 0, 0, .null) := by decide +kernel
theorem gX6_get_5 {l1 l2 l3 : Option Value} {u : Nat} {st : List Value} {H : HP} {Q : Option Value → HP → Prop} : Go 62 5 [some (.ref u), l1, l2, l3] st H Q ↔ Go 62 6 [some (.ref u), l1, l2, l3] (.ref u :: st) H Q := G_aload_n fX6_get_5 rfl
theorem fX6_get_6 : ft 62 6 = some (.getfield 7, 6, 1, 108, .null) := by decide +kernel
theorem gX6_get_6 {L : List (Option Value)} {p : Nat} {st : List Value} {H : HP} {Q : Option Value → HP → Prop} : Go 62 6 L (.ref p :: st) H Q ↔ Rd (gF' 6 1 (hget H p)) 62 9 L st H Q := G_getf fX6_get_6 ⟨rfl, rfl⟩
theorem fX6_get_9 : ft 62 9 = some (.if_icmp .ge 12, 0, 0, 0, .null) := by decide +kernel
theorem gX6_get_9T {L : List (Option Value)} {a b : Int} (c : (-2147483648 ≤ a ∧ a ≤ 2147483647 ∧ -2147483648 ≤ b ∧ b ≤ 2147483647) ∧ b ≤ a) {st : List Value} {H : HP} {Q : Option Value → HP → Prop} : Go 62 9 L (vi b :: vi a :: st) H Q ↔ Go 62 21 L st H Q := G_icT fX6_get_9 (by decide) c
theorem gX6_get_9F {L : List (Option Value)} {a b : Int} (c : (-2147483648 ≤ a ∧ a ≤ 2147483647 ∧ -2147483648 ≤ b ∧ b ≤ 2147483647) ∧ ¬ (b ≤ a)) {st : List Value} {H : HP} {Q : Option Value → HP → Prop} : Go 62 9 L (vi b :: vi a :: st) H Q ↔ Go 62 12 L st H Q := G_icF (tg := 21) fX6_get_9 (by decide) c
theorem fX6_get_12 : ft 62 12 = some (.aload_n 0, 0, 0, 0, .null) := by decide +kernel
theorem gX6_get_12 {l1 l2 l3 : Option Value} {u : Nat} {st : List Value} {H : HP} {Q : Option Value → HP → Prop} : Go 62 12 [some (.ref u), l1, l2, l3] st H Q ↔ Go 62 13 [some (.ref u), l1, l2, l3] (.ref u :: st) H Q := G_aload_n fX6_get_12 rfl
theorem fX6_get_13 : ft 62 13 = some (.getfield 13, 6, 0, 104, .null) := by decide +kernel
theorem gX6_get_13 {L : List (Option Value)} {p : Nat} {st : List Value} {H : HP} {Q : Option Value → HP → Prop} : Go 62 13 L (.ref p :: st) H Q ↔ Rd (gF' 6 0 (hget H p)) 62 16 L st H Q := G_getf fX6_get_13 ⟨rfl, rfl⟩
theorem fX6_get_16 : ft 62 16 = some (.iload_n 1, 0, 0, 0, .null) := by decide +kernel
theorem gX6_get_16 {l0 l2 l3 : Option Value} {u : Int32} {st : List Value} {H : HP} {Q : Option Value → HP → Prop} : Go 62 16 [l0, some (.int u), l2, l3] st H Q ↔ Go 62 17 [l0, some (.int u), l2, l3] (.int u :: st) H Q := G_iload_n fX6_get_16 rfl
theorem fX6_get_17 : ft 62 17 = some (.laload, 0, 0, 0, .null) := by decide +kernel
theorem gX6_get_17 {L : List (Option Value)} {p : Nat} {a : Int} {st : List Value} {H : HP} {Q : Option Value → HP → Prop} : Go 62 17 L (vi a :: .ref p :: st) H Q ↔ Rd (aL' (hget H p) a) 62 18 L st H Q := G_lald fX6_get_17
theorem fX6_get_18 : ft 62 18 = some (.goto 4, 0, 0, 0, .null) := by decide +kernel
theorem gX6_get_18 {L : List (Option Value)} {st : List Value} {H : HP} {Q : Option Value → HP → Prop} : Go 62 18 L st H Q ↔ Go 62 22 L st H Q := G_goto fX6_get_18 (by decide)
theorem fX6_get_21 : ft 62 21 = some (.lload_n 2, 0, 0, 0, .null) := by decide +kernel
theorem gX6_get_21 {l0 l1 : Option Value} {u : Int64} {st : List Value} {H : HP} {Q : Option Value → HP → Prop} : Go 62 21 [l0, l1, some (.long u), none] st H Q ↔ Go 62 22 [l0, l1, some (.long u), none] (.long u :: st) H Q := G_lload_n fX6_get_21 rfl
theorem fX6_get_22 : ft 62 22 = some (.lreturn, 0, 0, 0, .null) := by decide +kernel
theorem gX6_get_22 {L : List (Option Value)} {u : Int64} {H : HP} {Q : Option Value → HP → Prop} : Go 62 22 L [.long u] H Q ↔ Q (some (.long u)) H := G_lret fX6_get_22 (by decide +kernel)
